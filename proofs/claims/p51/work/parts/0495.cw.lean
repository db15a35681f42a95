section
/-- the words of the code of each method, by their places -/
def cwd (Z : Nat) : Cond := if hhY Z = [] then .code (tb_y Z) (tb_b Z) (tb_m Z) (tb_r Z) else .codeWith (tb_y Z) (tb_b Z) (tb_m Z) (tb_r Z) (hhY Z)
theorem in_t {w : Cond} (h : w ∈ tables_1) : w ∈ lw_tbl := List.mem_append_right _ h
theorem in_t1 {w : Cond} (h : w ∈ tables_1_1) : w ∈ lw_tbl := in_t (List.mem_append_left _ h)
theorem in_t2 {w : Cond} (h : w ∈ tables_1_2) : w ∈ lw_tbl := in_t (List.mem_append_right _ (List.mem_append_left _ h))
theorem in_t3 {w : Cond} (h : w ∈ tables_1_3) : w ∈ lw_tbl := in_t (List.mem_append_right _ (List.mem_append_right _ (List.mem_append_left _ h)))
theorem in_t4 {w : Cond} (h : w ∈ tables_1_4) : w ∈ lw_tbl := in_t (List.mem_append_right _ (List.mem_append_right _ (List.mem_append_right _ (List.mem_append_left _ h))))
theorem in_t5 {w : Cond} (h : w ∈ tables_1_5) : w ∈ lw_tbl := in_t (List.mem_append_right _ (List.mem_append_right _ (List.mem_append_right _ (List.mem_append_right _ (List.mem_append_left _ h)))))
theorem in_t6 {w : Cond} (h : w ∈ tables_1_6) : w ∈ lw_tbl := in_t (List.mem_append_right _ (List.mem_append_right _ (List.mem_append_right _ (List.mem_append_right _ (List.mem_append_right _ (List.mem_append_left _ h))))))
theorem in_t7 {w : Cond} (h : w ∈ tables_1_7) : w ∈ lw_tbl := in_t (List.mem_append_right _ (List.mem_append_right _ (List.mem_append_right _ (List.mem_append_right _ (List.mem_append_right _ (List.mem_append_right _ (List.mem_append_left _ h)))))))
theorem in_t8 {w : Cond} (h : w ∈ tables_1_8) : w ∈ lw_tbl := in_t (List.mem_append_right _ (List.mem_append_right _ (List.mem_append_right _ (List.mem_append_right _ (List.mem_append_right _ (List.mem_append_right _ (List.mem_append_right _ (h))))))))
set_option maxRecDepth 100000 in
theorem cw_min : Cond.code Lib.Math.min.name Lib.Math.min.code 2 (some .int) ∈ lw_tbl := in_t1 (List.mem_of_getElem? (i := 108) rfl)
set_option maxRecDepth 100000 in
theorem cw_max : Cond.code Lib.Math.max.name Lib.Math.max.code 2 (some .int) ∈ lw_tbl := in_t2 (List.mem_of_getElem? (i := 135) rfl)
set_option maxRecDepth 100000 in
theorem cw_abs : Cond.code Lib.Math.abs.name Lib.Math.abs.code 1 (some .int) ∈ lw_tbl := in_t4 (List.mem_of_getElem? (i := 1) rfl)
set_option maxRecDepth 100000 in
theorem cw_0 : cwd 0 ∈ lw_tbl := in_t1 (List.mem_of_getElem? (i := 141) rfl)
set_option maxRecDepth 100000 in
theorem cw_1 : cwd 1 ∈ lw_tbl := in_t2 (List.mem_of_getElem? (i := 41) rfl)
set_option maxRecDepth 100000 in
theorem cw_2 : cwd 2 ∈ lw_tbl := in_t2 (List.mem_of_getElem? (i := 77) rfl)
set_option maxRecDepth 100000 in
theorem cw_3 : cwd 3 ∈ lw_tbl := in_t4 (List.mem_of_getElem? (i := 26) rfl)
set_option maxRecDepth 100000 in
theorem cw_4 : cwd 4 ∈ lw_tbl := in_t5 (List.mem_of_getElem? (i := 1) rfl)
set_option maxRecDepth 100000 in
theorem cw_5 : cwd 5 ∈ lw_tbl := in_t1 (List.mem_of_getElem? (i := 53) rfl)
set_option maxRecDepth 100000 in
theorem cw_6 : cwd 6 ∈ lw_tbl := in_t1 (List.mem_of_getElem? (i := 100) rfl)
set_option maxRecDepth 100000 in
theorem cw_7 : cwd 7 ∈ lw_tbl := in_t2 (List.mem_of_getElem? (i := 37) rfl)
set_option maxRecDepth 100000 in
theorem cw_8 : cwd 8 ∈ lw_tbl := in_t4 (List.mem_of_getElem? (i := 68) rfl)
set_option maxRecDepth 100000 in
theorem cw_9 : cwd 9 ∈ lw_tbl := in_t4 (List.mem_of_getElem? (i := 64) rfl)
set_option maxRecDepth 100000 in
theorem cw_10 : cwd 10 ∈ lw_tbl := in_t4 (List.mem_of_getElem? (i := 72) rfl)
set_option maxRecDepth 100000 in
theorem cw_11 : cwd 11 ∈ lw_tbl := in_t4 (List.mem_of_getElem? (i := 55) rfl)
set_option maxRecDepth 100000 in
theorem cw_12 : cwd 12 ∈ lw_tbl := in_t4 (List.mem_of_getElem? (i := 60) rfl)
set_option maxRecDepth 100000 in
theorem cw_13 : cwd 13 ∈ lw_tbl := in_t5 (List.mem_of_getElem? (i := 90) rfl)
set_option maxRecDepth 100000 in
theorem cw_14 : cwd 14 ∈ lw_tbl := in_t5 (List.mem_of_getElem? (i := 106) rfl)
set_option maxRecDepth 100000 in
theorem cw_15 : cwd 15 ∈ lw_tbl := in_t5 (List.mem_of_getElem? (i := 141) rfl)
set_option maxRecDepth 100000 in
theorem cw_16 : cwd 16 ∈ lw_tbl := in_t5 (List.mem_of_getElem? (i := 154) rfl)
set_option maxRecDepth 100000 in
theorem cw_17 : cwd 17 ∈ lw_tbl := in_t5 (List.mem_of_getElem? (i := 166) rfl)
set_option maxRecDepth 100000 in
theorem cw_18 : cwd 18 ∈ lw_tbl := in_t4 (List.mem_of_getElem? (i := 196) rfl)
set_option maxRecDepth 100000 in
theorem cw_19 : cwd 19 ∈ lw_tbl := in_t5 (List.mem_of_getElem? (i := 129) rfl)
set_option maxRecDepth 100000 in
theorem cw_20 : cwd 20 ∈ lw_tbl := in_t1 (List.mem_of_getElem? (i := 236) rfl)
set_option maxRecDepth 100000 in
theorem cw_21 : cwd 21 ∈ lw_tbl := in_t4 (List.mem_of_getElem? (i := 200) rfl)
set_option maxRecDepth 100000 in
theorem cw_22 : cwd 22 ∈ lw_tbl := in_t2 (List.mem_of_getElem? (i := 29) rfl)
set_option maxRecDepth 100000 in
theorem cw_23 : cwd 23 ∈ lw_tbl := in_t2 (List.mem_of_getElem? (i := 33) rfl)
set_option maxRecDepth 100000 in
theorem cw_24 : cwd 24 ∈ lw_tbl := in_t4 (List.mem_of_getElem? (i := 46) rfl)
set_option maxRecDepth 100000 in
theorem cw_25 : cwd 25 ∈ lw_tbl := in_t4 (List.mem_of_getElem? (i := 80) rfl)
set_option maxRecDepth 100000 in
theorem cw_26 : cwd 26 ∈ lw_tbl := in_t4 (List.mem_of_getElem? (i := 51) rfl)
set_option maxRecDepth 100000 in
theorem cw_27 : cwd 27 ∈ lw_tbl := in_t4 (List.mem_of_getElem? (i := 76) rfl)
set_option maxRecDepth 100000 in
theorem cw_28 : cwd 28 ∈ lw_tbl := in_t1 (List.mem_of_getElem? (i := 42) rfl)
set_option maxRecDepth 100000 in
theorem cw_29 : cwd 29 ∈ lw_tbl := in_t2 (List.mem_of_getElem? (i := 13) rfl)
set_option maxRecDepth 100000 in
theorem cw_30 : cwd 30 ∈ lw_tbl := in_t2 (List.mem_of_getElem? (i := 21) rfl)
set_option maxRecDepth 100000 in
theorem cw_31 : cwd 31 ∈ lw_tbl := in_t1 (List.mem_of_getElem? (i := 59) rfl)
set_option maxRecDepth 100000 in
theorem cw_32 : cwd 32 ∈ lw_tbl := in_t2 (List.mem_of_getElem? (i := 5) rfl)
set_option maxRecDepth 100000 in
theorem cw_33 : cwd 33 ∈ lw_tbl := in_t2 (List.mem_of_getElem? (i := 73) rfl)
set_option maxRecDepth 100000 in
theorem cw_34 : cwd 34 ∈ lw_tbl := in_t2 (List.mem_of_getElem? (i := 9) rfl)
set_option maxRecDepth 100000 in
theorem cw_35 : cwd 35 ∈ lw_tbl := in_t2 (List.mem_of_getElem? (i := 17) rfl)
set_option maxRecDepth 100000 in
theorem cw_36 : cwd 36 ∈ lw_tbl := in_t4 (List.mem_of_getElem? (i := 14) rfl)
set_option maxRecDepth 100000 in
theorem cw_37 : cwd 37 ∈ lw_tbl := in_t5 (List.mem_of_getElem? (i := 94) rfl)
set_option maxRecDepth 100000 in
theorem cw_38 : cwd 38 ∈ lw_tbl := in_t1 (List.mem_of_getElem? (i := 133) rfl)
set_option maxRecDepth 100000 in
theorem cw_39 : cwd 39 ∈ lw_tbl := in_t1 (List.mem_of_getElem? (i := 105) rfl)
set_option maxRecDepth 100000 in
theorem cw_40 : cwd 40 ∈ lw_tbl := in_t2 (List.mem_of_getElem? (i := 65) rfl)
set_option maxRecDepth 100000 in
theorem cw_41 : cwd 41 ∈ lw_tbl := in_t2 (List.mem_of_getElem? (i := 82) rfl)
set_option maxRecDepth 100000 in
theorem cw_42 : cwd 42 ∈ lw_tbl := in_t5 (List.mem_of_getElem? (i := 170) rfl)
set_option maxRecDepth 100000 in
theorem cw_43 : cwd 43 ∈ lw_tbl := in_t1 (List.mem_of_getElem? (i := 64) rfl)
set_option maxRecDepth 100000 in
theorem cw_44 : cwd 44 ∈ lw_tbl := in_t2 (List.mem_of_getElem? (i := 50) rfl)
set_option maxRecDepth 100000 in
theorem cw_45 : cwd 45 ∈ lw_tbl := in_t2 (List.mem_of_getElem? (i := 25) rfl)
set_option maxRecDepth 100000 in
theorem cw_46 : cwd 46 ∈ lw_tbl := in_t2 (List.mem_of_getElem? (i := 1) rfl)
set_option maxRecDepth 100000 in
theorem cw_47 : cwd 47 ∈ lw_tbl := in_t6 (List.mem_of_getElem? (i := 86) rfl)
set_option maxRecDepth 100000 in
theorem cw_48 : cwd 48 ∈ lw_tbl := in_t6 (List.mem_of_getElem? (i := 92) rfl)
set_option maxRecDepth 100000 in
theorem cw_49 : cwd 49 ∈ lw_tbl := in_t4 (List.mem_of_getElem? (i := 38) rfl)
set_option maxRecDepth 100000 in
theorem cw_50 : cwd 50 ∈ lw_tbl := in_t4 (List.mem_of_getElem? (i := 84) rfl)
set_option maxRecDepth 100000 in
theorem cw_51 : cwd 51 ∈ lw_tbl := in_t1 (List.mem_of_getElem? (i := 152) rfl)
set_option maxRecDepth 100000 in
theorem cw_52 : cwd 52 ∈ lw_tbl := in_t2 (List.mem_of_getElem? (i := 95) rfl)
set_option maxRecDepth 100000 in
theorem cw_53 : cwd 53 ∈ lw_tbl := in_t3 (List.mem_of_getElem? (i := 210) rfl)
set_option maxRecDepth 100000 in
theorem cw_54 : cwd 54 ∈ lw_tbl := in_t4 (List.mem_of_getElem? (i := 205) rfl)
set_option maxRecDepth 100000 in
theorem cw_55 : cwd 55 ∈ lw_tbl := in_t4 (List.mem_of_getElem? (i := 5) rfl)
set_option maxRecDepth 100000 in
theorem cw_56 : cwd 56 ∈ lw_tbl := in_t3 (List.mem_of_getElem? (i := 237) rfl)
set_option maxRecDepth 100000 in
theorem cw_57 : cwd 57 ∈ lw_tbl := in_t1 (List.mem_of_getElem? (i := 34) rfl)
set_option maxRecDepth 100000 in
theorem cw_58 : cwd 58 ∈ lw_tbl := in_t5 (List.mem_of_getElem? (i := 23) rfl)
set_option maxRecDepth 100000 in
theorem cw_59 : cwd 59 ∈ lw_tbl := in_t5 (List.mem_of_getElem? (i := 44) rfl)
set_option maxRecDepth 100000 in
theorem cw_60 : cwd 60 ∈ lw_tbl := in_t4 (List.mem_of_getElem? (i := 126) rfl)
set_option maxRecDepth 100000 in
theorem cw_61 : cwd 61 ∈ lw_tbl := in_t4 (List.mem_of_getElem? (i := 153) rfl)
set_option maxRecDepth 100000 in
theorem cw_62 : cwd 62 ∈ lw_tbl := in_t5 (List.mem_of_getElem? (i := 67) rfl)
set_option maxRecDepth 100000 in
theorem cw_63 : cwd 63 ∈ lw_tbl := in_t5 (List.mem_of_getElem? (i := 74) rfl)
set_option maxRecDepth 100000 in
theorem cw_64 : cwd 64 ∈ lw_tbl := in_t5 (List.mem_of_getElem? (i := 85) rfl)
set_option maxRecDepth 100000 in
theorem cw_65 : cwd 65 ∈ lw_tbl := in_t5 (List.mem_of_getElem? (i := 101) rfl)
set_option maxRecDepth 100000 in
theorem cw_66 : cwd 66 ∈ lw_tbl := in_t5 (List.mem_of_getElem? (i := 114) rfl)
set_option maxRecDepth 100000 in
theorem cw_67 : cwd 67 ∈ lw_tbl := in_t5 (List.mem_of_getElem? (i := 125) rfl)
set_option maxRecDepth 100000 in
theorem cw_68 : cwd 68 ∈ lw_tbl := in_t5 (List.mem_of_getElem? (i := 137) rfl)
set_option maxRecDepth 100000 in
theorem cw_69 : cwd 69 ∈ lw_tbl := in_t5 (List.mem_of_getElem? (i := 149) rfl)
set_option maxRecDepth 100000 in
theorem cw_70 : cwd 70 ∈ lw_tbl := in_t5 (List.mem_of_getElem? (i := 162) rfl)
set_option maxRecDepth 100000 in
theorem cw_71 : cwd 71 ∈ lw_tbl := in_t1 (List.mem_of_getElem? (i := 232) rfl)
set_option maxRecDepth 100000 in
theorem cw_72 : cwd 72 ∈ lw_tbl := in_t5 (List.mem_of_getElem? (i := 177) rfl)
set_option maxRecDepth 100000 in
theorem cw_73 : cwd 73 ∈ lw_tbl := in_t5 (List.mem_of_getElem? (i := 185) rfl)
set_option maxRecDepth 100000 in
theorem cw_74 : cwd 74 ∈ lw_tbl := in_t5 (List.mem_of_getElem? (i := 193) rfl)
set_option maxRecDepth 100000 in
theorem cw_75 : cwd 75 ∈ lw_tbl := in_t4 (List.mem_of_getElem? (i := 164) rfl)
set_option maxRecDepth 100000 in
theorem cw_76 : cwd 76 ∈ lw_tbl := in_t4 (List.mem_of_getElem? (i := 177) rfl)
set_option maxRecDepth 100000 in
theorem cw_77 : cwd 77 ∈ lw_tbl := in_t5 (List.mem_of_getElem? (i := 208) rfl)
set_option maxRecDepth 100000 in
theorem cw_78 : cwd 78 ∈ lw_tbl := in_t5 (List.mem_of_getElem? (i := 215) rfl)
set_option maxRecDepth 100000 in
theorem cw_79 : cwd 79 ∈ lw_tbl := in_t4 (List.mem_of_getElem? (i := 182) rfl)
set_option maxRecDepth 100000 in
theorem cw_80 : cwd 80 ∈ lw_tbl := in_t5 (List.mem_of_getElem? (i := 226) rfl)
set_option maxRecDepth 100000 in
theorem cw_81 : cwd 81 ∈ lw_tbl := in_t5 (List.mem_of_getElem? (i := 234) rfl)
set_option maxRecDepth 100000 in
theorem cw_82 : cwd 82 ∈ lw_tbl := in_t6 (List.mem_of_getElem? (i := 22) rfl)
set_option maxRecDepth 100000 in
theorem cw_83 : cwd 83 ∈ lw_tbl := in_t6 (List.mem_of_getElem? (i := 30) rfl)
set_option maxRecDepth 100000 in
theorem cw_84 : cwd 84 ∈ lw_tbl := in_t6 (List.mem_of_getElem? (i := 42) rfl)
set_option maxRecDepth 100000 in
theorem cw_85 : cwd 85 ∈ lw_tbl := in_t2 (List.mem_of_getElem? (i := 45) rfl)
set_option maxRecDepth 100000 in
theorem cw_86 : cwd 86 ∈ lw_tbl := in_t2 (List.mem_of_getElem? (i := 56) rfl)
set_option maxRecDepth 100000 in
theorem cw_87 : cwd 87 ∈ lw_tbl := in_t2 (List.mem_of_getElem? (i := 61) rfl)
set_option maxRecDepth 100000 in
theorem cw_88 : cwd 88 ∈ lw_tbl := in_t2 (List.mem_of_getElem? (i := 69) rfl)
set_option maxRecDepth 100000 in
theorem cw_89 : cwd 89 ∈ lw_tbl := in_t4 (List.mem_of_getElem? (i := 217) rfl)
set_option maxRecDepth 100000 in
theorem cw_90 : cwd 90 ∈ lw_tbl := in_t2 (List.mem_of_getElem? (i := 87) rfl)
set_option maxRecDepth 100000 in
theorem cw_91 : cwd 91 ∈ lw_tbl := in_t6 (List.mem_of_getElem? (i := 53) rfl)
set_option maxRecDepth 100000 in
theorem cw_92 : cwd 92 ∈ lw_tbl := in_t6 (List.mem_of_getElem? (i := 60) rfl)
set_option maxRecDepth 100000 in
theorem cw_93 : cwd 93 ∈ lw_tbl := in_t6 (List.mem_of_getElem? (i := 67) rfl)
set_option maxRecDepth 100000 in
theorem cw_94 : cwd 94 ∈ lw_tbl := in_t6 (List.mem_of_getElem? (i := 78) rfl)
set_option maxRecDepth 100000 in
theorem cw_95 : cwd 95 ∈ lw_tbl := in_t6 (List.mem_of_getElem? (i := 103) rfl)
set_option maxRecDepth 100000 in
theorem cw_96 : cwd 96 ∈ lw_tbl := in_t4 (List.mem_of_getElem? (i := 225) rfl)
set_option maxRecDepth 100000 in
theorem cw_97 : cwd 97 ∈ lw_tbl := in_t6 (List.mem_of_getElem? (i := 114) rfl)
set_option maxRecDepth 100000 in
theorem cw_98 : cwd 98 ∈ lw_tbl := in_t6 (List.mem_of_getElem? (i := 121) rfl)
set_option maxRecDepth 100000 in
theorem cw_99 : cwd 99 ∈ lw_tbl := in_t4 (List.mem_of_getElem? (i := 10) rfl)
set_option maxRecDepth 100000 in
theorem cw_100 : cwd 100 ∈ lw_tbl := in_t4 (List.mem_of_getElem? (i := 18) rfl)
set_option maxRecDepth 100000 in
theorem cw_101 : cwd 101 ∈ lw_tbl := in_t6 (List.mem_of_getElem? (i := 128) rfl)
set_option maxRecDepth 100000 in
theorem cw_102 : cwd 102 ∈ lw_tbl := in_t6 (List.mem_of_getElem? (i := 135) rfl)
set_option maxRecDepth 100000 in
theorem cw_103 : cwd 103 ∈ lw_tbl := in_t6 (List.mem_of_getElem? (i := 143) rfl)
set_option maxRecDepth 100000 in
theorem cw_104 : cwd 104 ∈ lw_tbl := in_t4 (List.mem_of_getElem? (i := 237) rfl)
set_option maxRecDepth 100000 in
theorem cw_105 : cwd 105 ∈ lw_tbl := in_t4 (List.mem_of_getElem? (i := 22) rfl)
set_option maxRecDepth 100000 in
theorem cw_106 : cwd 106 ∈ lw_tbl := in_t4 (List.mem_of_getElem? (i := 30) rfl)
set_option maxRecDepth 100000 in
theorem cw_107 : cwd 107 ∈ lw_tbl := in_t4 (List.mem_of_getElem? (i := 117) rfl)
set_option maxRecDepth 100000 in
theorem cw_108 : cwd 108 ∈ lw_tbl := in_t4 (List.mem_of_getElem? (i := 129) rfl)
set_option maxRecDepth 100000 in
theorem cw_109 : cwd 109 ∈ lw_tbl := in_t4 (List.mem_of_getElem? (i := 171) rfl)
set_option maxRecDepth 100000 in
theorem cw_110 : cwd 110 ∈ lw_tbl := in_t4 (List.mem_of_getElem? (i := 232) rfl)
set_option maxRecDepth 100000 in
theorem cw_111 : cwd 111 ∈ lw_tbl := in_t5 (List.mem_of_getElem? (i := 47) rfl)
set_option maxRecDepth 100000 in
theorem cw_112 : cwd 112 ∈ lw_tbl := in_t5 (List.mem_of_getElem? (i := 51) rfl)
set_option maxRecDepth 100000 in
theorem cw_113 : cwd 113 ∈ lw_tbl := in_t5 (List.mem_of_getElem? (i := 117) rfl)
set_option maxRecDepth 100000 in
theorem cw_114 : cwd 114 ∈ lw_tbl := in_t4 (List.mem_of_getElem? (i := 185) rfl)
set_option maxRecDepth 100000 in
theorem cw_115 : cwd 115 ∈ lw_tbl := in_t5 (List.mem_of_getElem? (i := 238) rfl)
set_option maxRecDepth 100000 in
theorem cw_116 : cwd 116 ∈ lw_tbl := in_t6 (List.mem_of_getElem? (i := 34) rfl)
set_option maxRecDepth 100000 in
theorem cw_117 : cwd 117 ∈ lw_tbl := in_t4 (List.mem_of_getElem? (i := 168) rfl)
set_option maxRecDepth 100000 in
theorem cw_118 : cwd 118 ∈ lw_tbl := in_t4 (List.mem_of_getElem? (i := 229) rfl)
set_option maxRecDepth 100000 in
theorem cw_119 : cwd 119 ∈ lw_tbl := in_t5 (List.mem_of_getElem? (i := 26) rfl)
set_option maxRecDepth 100000 in
theorem cw_120 : cwd 120 ∈ lw_tbl := in_t4 (List.mem_of_getElem? (i := 145) rfl)
set_option maxRecDepth 100000 in
theorem cw_121 : cwd 121 ∈ lw_tbl := in_t4 (List.mem_of_getElem? (i := 156) rfl)
set_option maxRecDepth 100000 in
theorem cw_122 : cwd 122 ∈ lw_tbl := in_t4 (List.mem_of_getElem? (i := 104) rfl)
set_option maxRecDepth 100000 in
theorem cw_123 : cwd 123 ∈ lw_tbl := in_t4 (List.mem_of_getElem? (i := 99) rfl)
set_option maxRecDepth 100000 in
theorem cw_124 : cwd 124 ∈ lw_tbl := in_t4 (List.mem_of_getElem? (i := 96) rfl)
set_option maxRecDepth 100000 in
theorem cw_125 : cwd 125 ∈ lw_tbl := in_t4 (List.mem_of_getElem? (i := 92) rfl)
set_option maxRecDepth 100000 in
theorem cw_126 : cwd 126 ∈ lw_tbl := in_t5 (List.mem_of_getElem? (i := 35) rfl)
set_option maxRecDepth 100000 in
theorem cw_127 : cwd 127 ∈ lw_tbl := in_t5 (List.mem_of_getElem? (i := 31) rfl)
set_option maxRecDepth 100000 in
theorem cw_128 : cwd 128 ∈ lw_tbl := in_t5 (List.mem_of_getElem? (i := 78) rfl)
set_option maxRecDepth 100000 in
theorem cw_129 : cwd 129 ∈ lw_tbl := in_t4 (List.mem_of_getElem? (i := 192) rfl)
set_option maxRecDepth 100000 in
theorem cw_130 : cwd 130 ∈ lw_tbl := in_t2 (List.mem_of_getElem? (i := 91) rfl)
set_option maxRecDepth 100000 in
theorem cw_131 : cwd 131 ∈ lw_tbl := in_t3 (List.mem_of_getElem? (i := 205) rfl)
set_option maxRecDepth 100000 in
theorem cw_132 : cwd 132 ∈ lw_tbl := in_t3 (List.mem_of_getElem? (i := 201) rfl)
set_option maxRecDepth 100000 in
theorem cw_133 : cwd 133 ∈ lw_tbl := in_t1 (List.mem_of_getElem? (i := 128) rfl)
set_option maxRecDepth 100000 in
theorem cw_134 : cwd 134 ∈ lw_tbl := in_t1 (List.mem_of_getElem? (i := 136) rfl)
set_option maxRecDepth 100000 in
theorem cw_135 : cwd 135 ∈ lw_tbl := in_t6 (List.mem_of_getElem? (i := 70) rfl)
set_option maxRecDepth 100000 in
theorem cw_136 : cwd 136 ∈ lw_tbl := in_t6 (List.mem_of_getElem? (i := 82) rfl)
set_option maxRecDepth 100000 in
theorem cw_137 : cwd 137 ∈ lw_tbl := in_t6 (List.mem_of_getElem? (i := 96) rfl)
set_option maxRecDepth 100000 in
theorem cw_138 : cwd 138 ∈ lw_tbl := in_t4 (List.mem_of_getElem? (i := 34) rfl)
set_option maxRecDepth 100000 in
theorem cw_139 : cwd 139 ∈ lw_tbl := in_t4 (List.mem_of_getElem? (i := 42) rfl)
set_option maxRecDepth 100000 in
theorem cw_140 : cwd 140 ∈ lw_tbl := in_t4 (List.mem_of_getElem? (i := 88) rfl)
set_option maxRecDepth 100000 in
theorem cw_141 : cwd 141 ∈ lw_tbl := in_t4 (List.mem_of_getElem? (i := 108) rfl)
set_option maxRecDepth 100000 in
theorem cw_142 : cwd 142 ∈ lw_tbl := in_t4 (List.mem_of_getElem? (i := 113) rfl)
set_option maxRecDepth 100000 in
theorem cw_143 : cwd 143 ∈ lw_tbl := in_t4 (List.mem_of_getElem? (i := 148) rfl)
set_option maxRecDepth 100000 in
theorem cw_144 : cwd 144 ∈ lw_tbl := in_t4 (List.mem_of_getElem? (i := 122) rfl)
set_option maxRecDepth 100000 in
theorem cw_145 : cwd 145 ∈ lw_tbl := in_t4 (List.mem_of_getElem? (i := 160) rfl)
set_option maxRecDepth 100000 in
theorem cw_146 : cwd 146 ∈ lw_tbl := in_t4 (List.mem_of_getElem? (i := 209) rfl)
set_option maxRecDepth 100000 in
theorem cw_147 : cwd 147 ∈ lw_tbl := in_t4 (List.mem_of_getElem? (i := 213) rfl)
set_option maxRecDepth 100000 in
theorem cw_148 : cwd 148 ∈ lw_tbl := in_t4 (List.mem_of_getElem? (i := 221) rfl)
set_option maxRecDepth 100000 in
theorem cw_149 : cwd 149 ∈ lw_tbl := in_t5 (List.mem_of_getElem? (i := 7) rfl)
set_option maxRecDepth 100000 in
theorem cw_150 : cwd 150 ∈ lw_tbl := in_t6 (List.mem_of_getElem? (i := 160) rfl)
set_option maxRecDepth 100000 in
theorem cw_151 : cwd 151 ∈ lw_tbl := in_t7 (List.mem_of_getElem? (i := 99) rfl)
set_option maxRecDepth 100000 in
theorem cw_152 : cwd 152 ∈ lw_tbl := in_t8 (List.mem_of_getElem? (i := 50) rfl)
set_option maxRecDepth 100000 in
theorem cw_153 : cwd 153 ∈ lw_tbl := in_t7 (List.mem_of_getElem? (i := 120) rfl)
set_option maxRecDepth 100000 in
theorem cw_154 : cwd 154 ∈ lw_tbl := in_t7 (List.mem_of_getElem? (i := 116) rfl)
set_option maxRecDepth 100000 in
theorem cw_155 : cwd 155 ∈ lw_tbl := in_t8 (List.mem_of_getElem? (i := 10) rfl)
set_option maxRecDepth 100000 in
theorem cw_156 : cwd 156 ∈ lw_tbl := in_t8 (List.mem_of_getElem? (i := 5) rfl)
set_option maxRecDepth 100000 in
theorem cw_157 : cwd 157 ∈ lw_tbl := in_t8 (List.mem_of_getElem? (i := 132) rfl)
set_option maxRecDepth 100000 in
theorem cw_158 : cwd 158 ∈ lw_tbl := in_t6 (List.mem_of_getElem? (i := 153) rfl)
set_option maxRecDepth 100000 in
theorem cw_159 : cwd 159 ∈ lw_tbl := in_t6 (List.mem_of_getElem? (i := 191) rfl)
set_option maxRecDepth 100000 in
theorem cw_160 : cwd 160 ∈ lw_tbl := in_t6 (List.mem_of_getElem? (i := 195) rfl)
set_option maxRecDepth 100000 in
theorem cw_161 : cwd 161 ∈ lw_tbl := in_t7 (List.mem_of_getElem? (i := 1) rfl)
set_option maxRecDepth 100000 in
theorem cw_162 : cwd 162 ∈ lw_tbl := in_t7 (List.mem_of_getElem? (i := 34) rfl)
set_option maxRecDepth 100000 in
theorem cw_163 : cwd 163 ∈ lw_tbl := in_t6 (List.mem_of_getElem? (i := 237) rfl)
set_option maxRecDepth 100000 in
theorem cw_164 : cwd 164 ∈ lw_tbl := in_t7 (List.mem_of_getElem? (i := 19) rfl)
set_option maxRecDepth 100000 in
theorem cw_165 : cwd 165 ∈ lw_tbl := in_t7 (List.mem_of_getElem? (i := 103) rfl)
set_option maxRecDepth 100000 in
theorem cw_166 : cwd 166 ∈ lw_tbl := in_t6 (List.mem_of_getElem? (i := 233) rfl)
set_option maxRecDepth 100000 in
theorem cw_167 : cwd 167 ∈ lw_tbl := in_t7 (List.mem_of_getElem? (i := 26) rfl)
set_option maxRecDepth 100000 in
theorem cw_168 : cwd 168 ∈ lw_tbl := in_t7 (List.mem_of_getElem? (i := 29) rfl)
set_option maxRecDepth 100000 in
theorem cw_169 : cwd 169 ∈ lw_tbl := in_t7 (List.mem_of_getElem? (i := 95) rfl)
set_option maxRecDepth 100000 in
theorem cw_170 : cwd 170 ∈ lw_tbl := in_t8 (List.mem_of_getElem? (i := 46) rfl)
set_option maxRecDepth 100000 in
theorem cw_171 : cwd 171 ∈ lw_tbl := in_t7 (List.mem_of_getElem? (i := 9) rfl)
set_option maxRecDepth 100000 in
theorem cw_172 : cwd 172 ∈ lw_tbl := in_t7 (List.mem_of_getElem? (i := 42) rfl)
set_option maxRecDepth 100000 in
theorem cw_173 : cwd 173 ∈ lw_tbl := in_t7 (List.mem_of_getElem? (i := 15) rfl)
set_option maxRecDepth 100000 in
theorem cw_174 : cwd 174 ∈ lw_tbl := in_t7 (List.mem_of_getElem? (i := 6) rfl)
set_option maxRecDepth 100000 in
theorem cw_175 : cwd 175 ∈ lw_tbl := in_t6 (List.mem_of_getElem? (i := 230) rfl)
set_option maxRecDepth 100000 in
theorem cw_176 : cwd 176 ∈ lw_tbl := in_t7 (List.mem_of_getElem? (i := 23) rfl)
set_option maxRecDepth 100000 in
theorem cw_177 : cwd 177 ∈ lw_tbl := in_t7 (List.mem_of_getElem? (i := 38) rfl)
set_option maxRecDepth 100000 in
theorem cw_178 : cwd 178 ∈ lw_tbl := in_t7 (List.mem_of_getElem? (i := 48) rfl)
set_option maxRecDepth 100000 in
theorem cw_179 : cwd 179 ∈ lw_tbl := in_t7 (List.mem_of_getElem? (i := 52) rfl)
set_option maxRecDepth 100000 in
theorem cw_180 : cwd 180 ∈ lw_tbl := in_t7 (List.mem_of_getElem? (i := 56) rfl)
set_option maxRecDepth 100000 in
theorem cw_181 : cwd 181 ∈ lw_tbl := in_t7 (List.mem_of_getElem? (i := 124) rfl)
set_option maxRecDepth 100000 in
theorem cw_182 : cwd 182 ∈ lw_tbl := in_t7 (List.mem_of_getElem? (i := 112) rfl)
set_option maxRecDepth 100000 in
theorem cw_183 : cwd 183 ∈ lw_tbl := in_t7 (List.mem_of_getElem? (i := 108) rfl)
set_option maxRecDepth 100000 in
theorem cw_184 : cwd 184 ∈ lw_tbl := in_t7 (List.mem_of_getElem? (i := 136) rfl)
set_option maxRecDepth 100000 in
theorem cw_185 : cwd 185 ∈ lw_tbl := in_t7 (List.mem_of_getElem? (i := 128) rfl)
set_option maxRecDepth 100000 in
theorem cw_186 : cwd 186 ∈ lw_tbl := in_t7 (List.mem_of_getElem? (i := 144) rfl)
set_option maxRecDepth 100000 in
theorem cw_187 : cwd 187 ∈ lw_tbl := in_t7 (List.mem_of_getElem? (i := 92) rfl)
set_option maxRecDepth 100000 in
theorem cw_188 : cwd 188 ∈ lw_tbl := in_t7 (List.mem_of_getElem? (i := 132) rfl)
set_option maxRecDepth 100000 in
theorem cw_189 : cwd 189 ∈ lw_tbl := in_t7 (List.mem_of_getElem? (i := 140) rfl)
set_option maxRecDepth 100000 in
theorem cw_190 : cwd 190 ∈ lw_tbl := in_t7 (List.mem_of_getElem? (i := 148) rfl)
set_option maxRecDepth 100000 in
theorem cw_191 : cwd 191 ∈ lw_tbl := in_t7 (List.mem_of_getElem? (i := 152) rfl)
set_option maxRecDepth 100000 in
theorem cw_192 : cwd 192 ∈ lw_tbl := in_t7 (List.mem_of_getElem? (i := 156) rfl)
set_option maxRecDepth 100000 in
theorem cw_193 : cwd 193 ∈ lw_tbl := in_t7 (List.mem_of_getElem? (i := 160) rfl)
set_option maxRecDepth 100000 in
theorem cw_194 : cwd 194 ∈ lw_tbl := in_t7 (List.mem_of_getElem? (i := 164) rfl)
set_option maxRecDepth 100000 in
theorem cw_195 : cwd 195 ∈ lw_tbl := in_t7 (List.mem_of_getElem? (i := 168) rfl)
set_option maxRecDepth 100000 in
theorem cw_196 : cwd 196 ∈ lw_tbl := in_t7 (List.mem_of_getElem? (i := 172) rfl)
set_option maxRecDepth 100000 in
theorem cw_197 : cwd 197 ∈ lw_tbl := in_t7 (List.mem_of_getElem? (i := 176) rfl)
set_option maxRecDepth 100000 in
theorem cw_198 : cwd 198 ∈ lw_tbl := in_t7 (List.mem_of_getElem? (i := 180) rfl)
set_option maxRecDepth 100000 in
theorem cw_199 : cwd 199 ∈ lw_tbl := in_t7 (List.mem_of_getElem? (i := 188) rfl)
set_option maxRecDepth 100000 in
theorem cw_200 : cwd 200 ∈ lw_tbl := in_t7 (List.mem_of_getElem? (i := 184) rfl)
set_option maxRecDepth 100000 in
theorem cw_201 : cwd 201 ∈ lw_tbl := in_t7 (List.mem_of_getElem? (i := 192) rfl)
set_option maxRecDepth 100000 in
theorem cw_202 : cwd 202 ∈ lw_tbl := in_t7 (List.mem_of_getElem? (i := 196) rfl)
set_option maxRecDepth 100000 in
theorem cw_203 : cwd 203 ∈ lw_tbl := in_t7 (List.mem_of_getElem? (i := 200) rfl)
set_option maxRecDepth 100000 in
theorem cw_204 : cwd 204 ∈ lw_tbl := in_t7 (List.mem_of_getElem? (i := 208) rfl)
set_option maxRecDepth 100000 in
theorem cw_205 : cwd 205 ∈ lw_tbl := in_t7 (List.mem_of_getElem? (i := 204) rfl)
set_option maxRecDepth 100000 in
theorem cw_206 : cwd 206 ∈ lw_tbl := in_t7 (List.mem_of_getElem? (i := 217) rfl)
set_option maxRecDepth 100000 in
theorem cw_207 : cwd 207 ∈ lw_tbl := in_t7 (List.mem_of_getElem? (i := 229) rfl)
set_option maxRecDepth 100000 in
theorem cw_208 : cwd 208 ∈ lw_tbl := in_t7 (List.mem_of_getElem? (i := 213) rfl)
set_option maxRecDepth 100000 in
theorem cw_209 : cwd 209 ∈ lw_tbl := in_t7 (List.mem_of_getElem? (i := 221) rfl)
set_option maxRecDepth 100000 in
theorem cw_210 : cwd 210 ∈ lw_tbl := in_t7 (List.mem_of_getElem? (i := 225) rfl)
set_option maxRecDepth 100000 in
theorem cw_211 : cwd 211 ∈ lw_tbl := in_t7 (List.mem_of_getElem? (i := 233) rfl)
set_option maxRecDepth 100000 in
theorem cw_212 : cwd 212 ∈ lw_tbl := in_t8 (List.mem_of_getElem? (i := 1) rfl)
set_option maxRecDepth 100000 in
theorem cw_213 : cwd 213 ∈ lw_tbl := in_t7 (List.mem_of_getElem? (i := 237) rfl)
set_option maxRecDepth 100000 in
theorem cw_214 : cwd 214 ∈ lw_tbl := in_t8 (List.mem_of_getElem? (i := 14) rfl)
set_option maxRecDepth 100000 in
theorem cw_215 : cwd 215 ∈ lw_tbl := in_t8 (List.mem_of_getElem? (i := 18) rfl)
set_option maxRecDepth 100000 in
theorem cw_216 : cwd 216 ∈ lw_tbl := in_t8 (List.mem_of_getElem? (i := 22) rfl)
set_option maxRecDepth 100000 in
theorem cw_217 : cwd 217 ∈ lw_tbl := in_t8 (List.mem_of_getElem? (i := 30) rfl)
set_option maxRecDepth 100000 in
theorem cw_218 : cwd 218 ∈ lw_tbl := in_t8 (List.mem_of_getElem? (i := 26) rfl)
set_option maxRecDepth 100000 in
theorem cw_219 : cwd 219 ∈ lw_tbl := in_t8 (List.mem_of_getElem? (i := 38) rfl)
set_option maxRecDepth 100000 in
theorem cw_220 : cwd 220 ∈ lw_tbl := in_t8 (List.mem_of_getElem? (i := 34) rfl)
set_option maxRecDepth 100000 in
theorem cw_221 : cwd 221 ∈ lw_tbl := in_t8 (List.mem_of_getElem? (i := 43) rfl)
set_option maxRecDepth 100000 in
theorem cw_222 : cwd 222 ∈ lw_tbl := in_t8 (List.mem_of_getElem? (i := 54) rfl)
set_option maxRecDepth 100000 in
theorem cw_223 : cwd 223 ∈ lw_tbl := in_t8 (List.mem_of_getElem? (i := 58) rfl)
set_option maxRecDepth 100000 in
theorem cw_224 : cwd 224 ∈ lw_tbl := in_t8 (List.mem_of_getElem? (i := 65) rfl)
set_option maxRecDepth 100000 in
theorem cw_225 : cwd 225 ∈ lw_tbl := in_t8 (List.mem_of_getElem? (i := 62) rfl)
set_option maxRecDepth 100000 in
theorem cw_226 : cwd 226 ∈ lw_tbl := in_t8 (List.mem_of_getElem? (i := 69) rfl)
set_option maxRecDepth 100000 in
theorem cw_227 : cwd 227 ∈ lw_tbl := in_t8 (List.mem_of_getElem? (i := 77) rfl)
set_option maxRecDepth 100000 in
theorem cw_228 : cwd 228 ∈ lw_tbl := in_t8 (List.mem_of_getElem? (i := 73) rfl)
set_option maxRecDepth 100000 in
theorem cw_229 : cwd 229 ∈ lw_tbl := in_t8 (List.mem_of_getElem? (i := 85) rfl)
set_option maxRecDepth 100000 in
theorem cw_230 : cwd 230 ∈ lw_tbl := in_t8 (List.mem_of_getElem? (i := 81) rfl)
set_option maxRecDepth 100000 in
theorem cw_231 : cwd 231 ∈ lw_tbl := in_t8 (List.mem_of_getElem? (i := 92) rfl)
set_option maxRecDepth 100000 in
theorem cw_232 : cwd 232 ∈ lw_tbl := in_t8 (List.mem_of_getElem? (i := 89) rfl)
set_option maxRecDepth 100000 in
theorem cw_233 : cwd 233 ∈ lw_tbl := in_t8 (List.mem_of_getElem? (i := 96) rfl)
set_option maxRecDepth 100000 in
theorem cw_234 : cwd 234 ∈ lw_tbl := in_t8 (List.mem_of_getElem? (i := 100) rfl)
set_option maxRecDepth 100000 in
theorem cw_235 : cwd 235 ∈ lw_tbl := in_t8 (List.mem_of_getElem? (i := 104) rfl)
set_option maxRecDepth 100000 in
theorem cw_236 : cwd 236 ∈ lw_tbl := in_t8 (List.mem_of_getElem? (i := 108) rfl)
set_option maxRecDepth 100000 in
theorem cw_237 : cwd 237 ∈ lw_tbl := in_t8 (List.mem_of_getElem? (i := 112) rfl)
set_option maxRecDepth 100000 in
theorem cw_238 : cwd 238 ∈ lw_tbl := in_t8 (List.mem_of_getElem? (i := 116) rfl)
set_option maxRecDepth 100000 in
theorem cw_239 : cwd 239 ∈ lw_tbl := in_t8 (List.mem_of_getElem? (i := 120) rfl)
set_option maxRecDepth 100000 in
theorem cw_240 : cwd 240 ∈ lw_tbl := in_t8 (List.mem_of_getElem? (i := 136) rfl)
set_option maxRecDepth 100000 in
theorem cw_241 : cwd 241 ∈ lw_tbl := in_t8 (List.mem_of_getElem? (i := 128) rfl)
set_option maxRecDepth 100000 in
theorem cw_242 : cwd 242 ∈ lw_tbl := in_t8 (List.mem_of_getElem? (i := 124) rfl)
set_option maxRecDepth 100000 in
theorem cw_243 : cwd 243 ∈ lw_tbl := in_t8 (List.mem_of_getElem? (i := 140) rfl)
set_option maxRecDepth 100000 in
theorem cw_244 : cwd 244 ∈ lw_tbl := in_t1 (List.mem_of_getElem? (i := 161) rfl)
set_option maxRecDepth 100000 in
theorem cw_245 : cwd 245 ∈ lw_tbl := in_t3 (List.mem_of_getElem? (i := 39) rfl)
set_option maxRecDepth 100000 in
theorem cw_246 : cwd 246 ∈ lw_tbl := in_t2 (List.mem_of_getElem? (i := 125) rfl)
set_option maxRecDepth 100000 in
theorem cw_247 : cwd 247 ∈ lw_tbl := in_t2 (List.mem_of_getElem? (i := 129) rfl)
set_option maxRecDepth 100000 in
theorem cw_248 : cwd 248 ∈ lw_tbl := in_t2 (List.mem_of_getElem? (i := 102) rfl)
set_option maxRecDepth 100000 in
theorem cw_249 : cwd 249 ∈ lw_tbl := in_t2 (List.mem_of_getElem? (i := 117) rfl)
set_option maxRecDepth 100000 in
theorem cw_250 : cwd 250 ∈ lw_tbl := in_t3 (List.mem_of_getElem? (i := 218) rfl)
set_option maxRecDepth 100000 in
theorem cw_251 : cwd 251 ∈ lw_tbl := in_t2 (List.mem_of_getElem? (i := 235) rfl)
set_option maxRecDepth 100000 in
theorem cw_252 : cwd 252 ∈ lw_tbl := in_t7 (List.mem_of_getElem? (i := 67) rfl)
set_option maxRecDepth 100000 in
theorem cw_253 : cwd 253 ∈ lw_tbl := in_t3 (List.mem_of_getElem? (i := 31) rfl)
set_option maxRecDepth 100000 in
theorem cw_254 : cwd 254 ∈ lw_tbl := in_t2 (List.mem_of_getElem? (i := 159) rfl)
set_option maxRecDepth 100000 in
theorem cw_255 : cwd 255 ∈ lw_tbl := in_t2 (List.mem_of_getElem? (i := 202) rfl)
set_option maxRecDepth 100000 in
theorem cw_256 : cwd 256 ∈ lw_tbl := in_t2 (List.mem_of_getElem? (i := 198) rfl)
set_option maxRecDepth 100000 in
theorem cw_257 : cwd 257 ∈ lw_tbl := in_t3 (List.mem_of_getElem? (i := 1) rfl)
set_option maxRecDepth 100000 in
theorem cw_258 : cwd 258 ∈ lw_tbl := in_t2 (List.mem_of_getElem? (i := 238) rfl)
set_option maxRecDepth 100000 in
theorem cw_259 : cwd 259 ∈ lw_tbl := in_t7 (List.mem_of_getElem? (i := 75) rfl)
set_option maxRecDepth 100000 in
theorem cw_260 : cwd 260 ∈ lw_tbl := in_t7 (List.mem_of_getElem? (i := 70) rfl)
set_option maxRecDepth 100000 in
theorem cw_261 : cwd 261 ∈ lw_tbl := in_t3 (List.mem_of_getElem? (i := 22) rfl)
set_option maxRecDepth 100000 in
theorem cw_262 : cwd 262 ∈ lw_tbl := in_t2 (List.mem_of_getElem? (i := 189) rfl)
set_option maxRecDepth 100000 in
theorem cw_263 : cwd 263 ∈ lw_tbl := in_t2 (List.mem_of_getElem? (i := 226) rfl)
set_option maxRecDepth 100000 in
theorem cw_264 : cwd 264 ∈ lw_tbl := in_t3 (List.mem_of_getElem? (i := 25) rfl)
set_option maxRecDepth 100000 in
theorem cw_265 : cwd 265 ∈ lw_tbl := in_t2 (List.mem_of_getElem? (i := 193) rfl)
set_option maxRecDepth 100000 in
theorem cw_266 : cwd 266 ∈ lw_tbl := in_t3 (List.mem_of_getElem? (i := 230) rfl)
set_option maxRecDepth 100000 in
theorem cw_267 : cwd 267 ∈ lw_tbl := in_t2 (List.mem_of_getElem? (i := 219) rfl)
set_option maxRecDepth 100000 in
theorem cw_268 : cwd 268 ∈ lw_tbl := in_t2 (List.mem_of_getElem? (i := 171) rfl)
set_option maxRecDepth 100000 in
theorem cw_269 : cwd 269 ∈ lw_tbl := in_t1 (List.mem_of_getElem? (i := 158) rfl)
set_option maxRecDepth 100000 in
theorem cw_270 : cwd 270 ∈ lw_tbl := in_t2 (List.mem_of_getElem? (i := 114) rfl)
set_option maxRecDepth 100000 in
theorem cw_271 : cwd 271 ∈ lw_tbl := in_t3 (List.mem_of_getElem? (i := 215) rfl)
set_option maxRecDepth 100000 in
theorem cw_272 : cwd 272 ∈ lw_tbl := in_t2 (List.mem_of_getElem? (i := 232) rfl)
set_option maxRecDepth 100000 in
theorem cw_273 : cwd 273 ∈ lw_tbl := in_t7 (List.mem_of_getElem? (i := 64) rfl)
set_option maxRecDepth 100000 in
theorem cw_274 : cwd 274 ∈ lw_tbl := in_t3 (List.mem_of_getElem? (i := 17) rfl)
set_option maxRecDepth 100000 in
theorem cw_275 : cwd 275 ∈ lw_tbl := in_t2 (List.mem_of_getElem? (i := 99) rfl)
set_option maxRecDepth 100000 in
theorem cw_276 : cwd 276 ∈ lw_tbl := in_t3 (List.mem_of_getElem? (i := 37) rfl)
set_option maxRecDepth 100000 in
theorem cw_277 : cwd 277 ∈ lw_tbl := in_t3 (List.mem_of_getElem? (i := 221) rfl)
set_option maxRecDepth 100000 in
theorem cw_278 : cwd 278 ∈ lw_tbl := in_t3 (List.mem_of_getElem? (i := 161) rfl)
set_option maxRecDepth 100000 in
theorem cw_279 : cwd 279 ∈ lw_tbl := in_t3 (List.mem_of_getElem? (i := 167) rfl)
set_option maxRecDepth 100000 in
theorem cw_280 : cwd 280 ∈ lw_tbl := in_t3 (List.mem_of_getElem? (i := 164) rfl)
set_option maxRecDepth 100000 in
theorem cw_281 : cwd 281 ∈ lw_tbl := in_t2 (List.mem_of_getElem? (i := 143) rfl)
set_option maxRecDepth 100000 in
theorem cw_282 : cwd 282 ∈ lw_tbl := in_t3 (List.mem_of_getElem? (i := 49) rfl)
set_option maxRecDepth 100000 in
theorem cw_283 : cwd 283 ∈ lw_tbl := in_t3 (List.mem_of_getElem? (i := 43) rfl)
set_option maxRecDepth 100000 in
theorem cw_284 : cwd 284 ∈ lw_tbl := in_t3 (List.mem_of_getElem? (i := 46) rfl)
set_option maxRecDepth 100000 in
theorem cw_285 : cwd 285 ∈ lw_tbl := in_t2 (List.mem_of_getElem? (i := 132) rfl)
set_option maxRecDepth 100000 in
theorem cw_286 : cwd 286 ∈ lw_tbl := in_t3 (List.mem_of_getElem? (i := 233) rfl)
set_option maxRecDepth 100000 in
theorem cw_287 : cwd 287 ∈ lw_tbl := in_t2 (List.mem_of_getElem? (i := 176) rfl)
set_option maxRecDepth 100000 in
theorem cw_288 : cwd 288 ∈ lw_tbl := in_t2 (List.mem_of_getElem? (i := 222) rfl)
set_option maxRecDepth 100000 in
theorem cw_289 : cwd 289 ∈ lw_tbl := in_t5 (List.mem_of_getElem? (i := 18) rfl)
set_option maxRecDepth 100000 in
theorem cw_290 : cwd 290 ∈ lw_tbl := in_t5 (List.mem_of_getElem? (i := 39) rfl)
set_option maxRecDepth 100000 in
theorem cw_291 : cwd 291 ∈ lw_tbl := in_t5 (List.mem_of_getElem? (i := 55) rfl)
set_option maxRecDepth 100000 in
theorem cw_292 : cwd 292 ∈ lw_tbl := in_t5 (List.mem_of_getElem? (i := 59) rfl)
set_option maxRecDepth 100000 in
theorem cw_293 : cwd 293 ∈ lw_tbl := in_t5 (List.mem_of_getElem? (i := 63) rfl)
set_option maxRecDepth 100000 in
theorem cw_294 : cwd 294 ∈ lw_tbl := in_t5 (List.mem_of_getElem? (i := 70) rfl)
set_option maxRecDepth 100000 in
theorem cw_295 : cwd 295 ∈ lw_tbl := in_t5 (List.mem_of_getElem? (i := 81) rfl)
set_option maxRecDepth 100000 in
theorem cw_296 : cwd 296 ∈ lw_tbl := in_t5 (List.mem_of_getElem? (i := 97) rfl)
set_option maxRecDepth 100000 in
theorem cw_297 : cwd 297 ∈ lw_tbl := in_t5 (List.mem_of_getElem? (i := 110) rfl)
set_option maxRecDepth 100000 in
theorem cw_298 : cwd 298 ∈ lw_tbl := in_t5 (List.mem_of_getElem? (i := 121) rfl)
set_option maxRecDepth 100000 in
theorem cw_299 : cwd 299 ∈ lw_tbl := in_t5 (List.mem_of_getElem? (i := 133) rfl)
set_option maxRecDepth 100000 in
theorem cw_300 : cwd 300 ∈ lw_tbl := in_t5 (List.mem_of_getElem? (i := 145) rfl)
set_option maxRecDepth 100000 in
theorem cw_301 : cwd 301 ∈ lw_tbl := in_t5 (List.mem_of_getElem? (i := 158) rfl)
set_option maxRecDepth 100000 in
theorem cw_302 : cwd 302 ∈ lw_tbl := in_t5 (List.mem_of_getElem? (i := 173) rfl)
set_option maxRecDepth 100000 in
theorem cw_303 : cwd 303 ∈ lw_tbl := in_t5 (List.mem_of_getElem? (i := 181) rfl)
set_option maxRecDepth 100000 in
theorem cw_304 : cwd 304 ∈ lw_tbl := in_t5 (List.mem_of_getElem? (i := 189) rfl)
set_option maxRecDepth 100000 in
theorem cw_305 : cwd 305 ∈ lw_tbl := in_t5 (List.mem_of_getElem? (i := 196) rfl)
set_option maxRecDepth 100000 in
theorem cw_306 : cwd 306 ∈ lw_tbl := in_t5 (List.mem_of_getElem? (i := 200) rfl)
set_option maxRecDepth 100000 in
theorem cw_307 : cwd 307 ∈ lw_tbl := in_t5 (List.mem_of_getElem? (i := 204) rfl)
set_option maxRecDepth 100000 in
theorem cw_308 : cwd 308 ∈ lw_tbl := in_t5 (List.mem_of_getElem? (i := 211) rfl)
set_option maxRecDepth 100000 in
theorem cw_309 : cwd 309 ∈ lw_tbl := in_t5 (List.mem_of_getElem? (i := 218) rfl)
set_option maxRecDepth 100000 in
theorem cw_310 : cwd 310 ∈ lw_tbl := in_t5 (List.mem_of_getElem? (i := 222) rfl)
set_option maxRecDepth 100000 in
theorem cw_311 : cwd 311 ∈ lw_tbl := in_t5 (List.mem_of_getElem? (i := 229) rfl)
set_option maxRecDepth 100000 in
theorem cw_312 : cwd 312 ∈ lw_tbl := in_t6 (List.mem_of_getElem? (i := 18) rfl)
set_option maxRecDepth 100000 in
theorem cw_313 : cwd 313 ∈ lw_tbl := in_t6 (List.mem_of_getElem? (i := 26) rfl)
set_option maxRecDepth 100000 in
theorem cw_314 : cwd 314 ∈ lw_tbl := in_t6 (List.mem_of_getElem? (i := 38) rfl)
set_option maxRecDepth 100000 in
theorem cw_315 : cwd 315 ∈ lw_tbl := in_t6 (List.mem_of_getElem? (i := 45) rfl)
set_option maxRecDepth 100000 in
theorem cw_316 : cwd 316 ∈ lw_tbl := in_t6 (List.mem_of_getElem? (i := 49) rfl)
set_option maxRecDepth 100000 in
theorem cw_317 : cwd 317 ∈ lw_tbl := in_t6 (List.mem_of_getElem? (i := 56) rfl)
set_option maxRecDepth 100000 in
theorem cw_318 : cwd 318 ∈ lw_tbl := in_t6 (List.mem_of_getElem? (i := 63) rfl)
set_option maxRecDepth 100000 in
theorem cw_319 : cwd 319 ∈ lw_tbl := in_t6 (List.mem_of_getElem? (i := 74) rfl)
set_option maxRecDepth 100000 in
theorem cw_320 : cwd 320 ∈ lw_tbl := in_t6 (List.mem_of_getElem? (i := 99) rfl)
set_option maxRecDepth 100000 in
theorem cw_321 : cwd 321 ∈ lw_tbl := in_t6 (List.mem_of_getElem? (i := 106) rfl)
set_option maxRecDepth 100000 in
theorem cw_322 : cwd 322 ∈ lw_tbl := in_t6 (List.mem_of_getElem? (i := 110) rfl)
set_option maxRecDepth 100000 in
theorem cw_323 : cwd 323 ∈ lw_tbl := in_t6 (List.mem_of_getElem? (i := 117) rfl)
set_option maxRecDepth 100000 in
theorem cw_324 : cwd 324 ∈ lw_tbl := in_t6 (List.mem_of_getElem? (i := 124) rfl)
set_option maxRecDepth 100000 in
theorem cw_325 : cwd 325 ∈ lw_tbl := in_t6 (List.mem_of_getElem? (i := 131) rfl)
set_option maxRecDepth 100000 in
theorem cw_326 : cwd 326 ∈ lw_tbl := in_t6 (List.mem_of_getElem? (i := 139) rfl)
set_option maxRecDepth 100000 in
theorem cw_327 : cwd 327 ∈ lw_tbl := in_t6 (List.mem_of_getElem? (i := 147) rfl)
theorem cwa_0 : ∀ Z ∈ [0, 1, 2, 3, 4, 5, 6, 7, 8, 9, 10, 11, 12, 13, 14, 15, 16, 17, 18, 19, 20, 21, 22, 23, 24, 25, 26, 27, 28, 29], cwd Z ∈ lw_tbl := List.forall_mem_cons.mpr ⟨cw_0, List.forall_mem_cons.mpr ⟨cw_1, List.forall_mem_cons.mpr ⟨cw_2, List.forall_mem_cons.mpr ⟨cw_3, List.forall_mem_cons.mpr ⟨cw_4, List.forall_mem_cons.mpr ⟨cw_5, List.forall_mem_cons.mpr ⟨cw_6, List.forall_mem_cons.mpr ⟨cw_7, List.forall_mem_cons.mpr ⟨cw_8, List.forall_mem_cons.mpr ⟨cw_9, List.forall_mem_cons.mpr ⟨cw_10, List.forall_mem_cons.mpr ⟨cw_11, List.forall_mem_cons.mpr ⟨cw_12, List.forall_mem_cons.mpr ⟨cw_13, List.forall_mem_cons.mpr ⟨cw_14, List.forall_mem_cons.mpr ⟨cw_15, List.forall_mem_cons.mpr ⟨cw_16, List.forall_mem_cons.mpr ⟨cw_17, List.forall_mem_cons.mpr ⟨cw_18, List.forall_mem_cons.mpr ⟨cw_19, List.forall_mem_cons.mpr ⟨cw_20, List.forall_mem_cons.mpr ⟨cw_21, List.forall_mem_cons.mpr ⟨cw_22, List.forall_mem_cons.mpr ⟨cw_23, List.forall_mem_cons.mpr ⟨cw_24, List.forall_mem_cons.mpr ⟨cw_25, List.forall_mem_cons.mpr ⟨cw_26, List.forall_mem_cons.mpr ⟨cw_27, List.forall_mem_cons.mpr ⟨cw_28, List.forall_mem_cons.mpr ⟨cw_29, fun _ h => absurd h List.not_mem_nil⟩⟩⟩⟩⟩⟩⟩⟩⟩⟩⟩⟩⟩⟩⟩⟩⟩⟩⟩⟩⟩⟩⟩⟩⟩⟩⟩⟩⟩⟩
theorem cwa_1 : ∀ Z ∈ [30, 31, 32, 33, 34, 35, 36, 37, 38, 39, 40, 41, 42, 43, 44, 45, 46, 47, 48, 49, 50, 51, 52, 53, 54, 55, 56, 57, 58, 59], cwd Z ∈ lw_tbl := List.forall_mem_cons.mpr ⟨cw_30, List.forall_mem_cons.mpr ⟨cw_31, List.forall_mem_cons.mpr ⟨cw_32, List.forall_mem_cons.mpr ⟨cw_33, List.forall_mem_cons.mpr ⟨cw_34, List.forall_mem_cons.mpr ⟨cw_35, List.forall_mem_cons.mpr ⟨cw_36, List.forall_mem_cons.mpr ⟨cw_37, List.forall_mem_cons.mpr ⟨cw_38, List.forall_mem_cons.mpr ⟨cw_39, List.forall_mem_cons.mpr ⟨cw_40, List.forall_mem_cons.mpr ⟨cw_41, List.forall_mem_cons.mpr ⟨cw_42, List.forall_mem_cons.mpr ⟨cw_43, List.forall_mem_cons.mpr ⟨cw_44, List.forall_mem_cons.mpr ⟨cw_45, List.forall_mem_cons.mpr ⟨cw_46, List.forall_mem_cons.mpr ⟨cw_47, List.forall_mem_cons.mpr ⟨cw_48, List.forall_mem_cons.mpr ⟨cw_49, List.forall_mem_cons.mpr ⟨cw_50, List.forall_mem_cons.mpr ⟨cw_51, List.forall_mem_cons.mpr ⟨cw_52, List.forall_mem_cons.mpr ⟨cw_53, List.forall_mem_cons.mpr ⟨cw_54, List.forall_mem_cons.mpr ⟨cw_55, List.forall_mem_cons.mpr ⟨cw_56, List.forall_mem_cons.mpr ⟨cw_57, List.forall_mem_cons.mpr ⟨cw_58, List.forall_mem_cons.mpr ⟨cw_59, fun _ h => absurd h List.not_mem_nil⟩⟩⟩⟩⟩⟩⟩⟩⟩⟩⟩⟩⟩⟩⟩⟩⟩⟩⟩⟩⟩⟩⟩⟩⟩⟩⟩⟩⟩⟩
theorem cwa_2 : ∀ Z ∈ [60, 61, 62, 63, 64, 65, 66, 67, 68, 69, 70, 71, 72, 73, 74, 75, 76, 77, 78, 79, 80, 81, 82, 83, 84, 85, 86, 87, 88, 89], cwd Z ∈ lw_tbl := List.forall_mem_cons.mpr ⟨cw_60, List.forall_mem_cons.mpr ⟨cw_61, List.forall_mem_cons.mpr ⟨cw_62, List.forall_mem_cons.mpr ⟨cw_63, List.forall_mem_cons.mpr ⟨cw_64, List.forall_mem_cons.mpr ⟨cw_65, List.forall_mem_cons.mpr ⟨cw_66, List.forall_mem_cons.mpr ⟨cw_67, List.forall_mem_cons.mpr ⟨cw_68, List.forall_mem_cons.mpr ⟨cw_69, List.forall_mem_cons.mpr ⟨cw_70, List.forall_mem_cons.mpr ⟨cw_71, List.forall_mem_cons.mpr ⟨cw_72, List.forall_mem_cons.mpr ⟨cw_73, List.forall_mem_cons.mpr ⟨cw_74, List.forall_mem_cons.mpr ⟨cw_75, List.forall_mem_cons.mpr ⟨cw_76, List.forall_mem_cons.mpr ⟨cw_77, List.forall_mem_cons.mpr ⟨cw_78, List.forall_mem_cons.mpr ⟨cw_79, List.forall_mem_cons.mpr ⟨cw_80, List.forall_mem_cons.mpr ⟨cw_81, List.forall_mem_cons.mpr ⟨cw_82, List.forall_mem_cons.mpr ⟨cw_83, List.forall_mem_cons.mpr ⟨cw_84, List.forall_mem_cons.mpr ⟨cw_85, List.forall_mem_cons.mpr ⟨cw_86, List.forall_mem_cons.mpr ⟨cw_87, List.forall_mem_cons.mpr ⟨cw_88, List.forall_mem_cons.mpr ⟨cw_89, fun _ h => absurd h List.not_mem_nil⟩⟩⟩⟩⟩⟩⟩⟩⟩⟩⟩⟩⟩⟩⟩⟩⟩⟩⟩⟩⟩⟩⟩⟩⟩⟩⟩⟩⟩⟩
theorem cwa_3 : ∀ Z ∈ [90, 91, 92, 93, 94, 95, 96, 97, 98, 99, 100, 101, 102, 103, 104, 105, 106, 107, 108, 109, 110, 111, 112, 113, 114, 115, 116, 117, 118, 119], cwd Z ∈ lw_tbl := List.forall_mem_cons.mpr ⟨cw_90, List.forall_mem_cons.mpr ⟨cw_91, List.forall_mem_cons.mpr ⟨cw_92, List.forall_mem_cons.mpr ⟨cw_93, List.forall_mem_cons.mpr ⟨cw_94, List.forall_mem_cons.mpr ⟨cw_95, List.forall_mem_cons.mpr ⟨cw_96, List.forall_mem_cons.mpr ⟨cw_97, List.forall_mem_cons.mpr ⟨cw_98, List.forall_mem_cons.mpr ⟨cw_99, List.forall_mem_cons.mpr ⟨cw_100, List.forall_mem_cons.mpr ⟨cw_101, List.forall_mem_cons.mpr ⟨cw_102, List.forall_mem_cons.mpr ⟨cw_103, List.forall_mem_cons.mpr ⟨cw_104, List.forall_mem_cons.mpr ⟨cw_105, List.forall_mem_cons.mpr ⟨cw_106, List.forall_mem_cons.mpr ⟨cw_107, List.forall_mem_cons.mpr ⟨cw_108, List.forall_mem_cons.mpr ⟨cw_109, List.forall_mem_cons.mpr ⟨cw_110, List.forall_mem_cons.mpr ⟨cw_111, List.forall_mem_cons.mpr ⟨cw_112, List.forall_mem_cons.mpr ⟨cw_113, List.forall_mem_cons.mpr ⟨cw_114, List.forall_mem_cons.mpr ⟨cw_115, List.forall_mem_cons.mpr ⟨cw_116, List.forall_mem_cons.mpr ⟨cw_117, List.forall_mem_cons.mpr ⟨cw_118, List.forall_mem_cons.mpr ⟨cw_119, fun _ h => absurd h List.not_mem_nil⟩⟩⟩⟩⟩⟩⟩⟩⟩⟩⟩⟩⟩⟩⟩⟩⟩⟩⟩⟩⟩⟩⟩⟩⟩⟩⟩⟩⟩⟩
theorem cwa_4 : ∀ Z ∈ [120, 121, 122, 123, 124, 125, 126, 127, 128, 129, 130, 131, 132, 133, 134, 135, 136, 137, 138, 139, 140, 141, 142, 143, 144, 145, 146, 147, 148, 149], cwd Z ∈ lw_tbl := List.forall_mem_cons.mpr ⟨cw_120, List.forall_mem_cons.mpr ⟨cw_121, List.forall_mem_cons.mpr ⟨cw_122, List.forall_mem_cons.mpr ⟨cw_123, List.forall_mem_cons.mpr ⟨cw_124, List.forall_mem_cons.mpr ⟨cw_125, List.forall_mem_cons.mpr ⟨cw_126, List.forall_mem_cons.mpr ⟨cw_127, List.forall_mem_cons.mpr ⟨cw_128, List.forall_mem_cons.mpr ⟨cw_129, List.forall_mem_cons.mpr ⟨cw_130, List.forall_mem_cons.mpr ⟨cw_131, List.forall_mem_cons.mpr ⟨cw_132, List.forall_mem_cons.mpr ⟨cw_133, List.forall_mem_cons.mpr ⟨cw_134, List.forall_mem_cons.mpr ⟨cw_135, List.forall_mem_cons.mpr ⟨cw_136, List.forall_mem_cons.mpr ⟨cw_137, List.forall_mem_cons.mpr ⟨cw_138, List.forall_mem_cons.mpr ⟨cw_139, List.forall_mem_cons.mpr ⟨cw_140, List.forall_mem_cons.mpr ⟨cw_141, List.forall_mem_cons.mpr ⟨cw_142, List.forall_mem_cons.mpr ⟨cw_143, List.forall_mem_cons.mpr ⟨cw_144, List.forall_mem_cons.mpr ⟨cw_145, List.forall_mem_cons.mpr ⟨cw_146, List.forall_mem_cons.mpr ⟨cw_147, List.forall_mem_cons.mpr ⟨cw_148, List.forall_mem_cons.mpr ⟨cw_149, fun _ h => absurd h List.not_mem_nil⟩⟩⟩⟩⟩⟩⟩⟩⟩⟩⟩⟩⟩⟩⟩⟩⟩⟩⟩⟩⟩⟩⟩⟩⟩⟩⟩⟩⟩⟩
theorem cwa_5 : ∀ Z ∈ [150, 151, 152, 153, 154, 155, 156, 157, 158, 159, 160, 161, 162, 163, 164, 165, 166, 167, 168, 169, 170, 171, 172, 173, 174, 175, 176, 177, 178, 179], cwd Z ∈ lw_tbl := List.forall_mem_cons.mpr ⟨cw_150, List.forall_mem_cons.mpr ⟨cw_151, List.forall_mem_cons.mpr ⟨cw_152, List.forall_mem_cons.mpr ⟨cw_153, List.forall_mem_cons.mpr ⟨cw_154, List.forall_mem_cons.mpr ⟨cw_155, List.forall_mem_cons.mpr ⟨cw_156, List.forall_mem_cons.mpr ⟨cw_157, List.forall_mem_cons.mpr ⟨cw_158, List.forall_mem_cons.mpr ⟨cw_159, List.forall_mem_cons.mpr ⟨cw_160, List.forall_mem_cons.mpr ⟨cw_161, List.forall_mem_cons.mpr ⟨cw_162, List.forall_mem_cons.mpr ⟨cw_163, List.forall_mem_cons.mpr ⟨cw_164, List.forall_mem_cons.mpr ⟨cw_165, List.forall_mem_cons.mpr ⟨cw_166, List.forall_mem_cons.mpr ⟨cw_167, List.forall_mem_cons.mpr ⟨cw_168, List.forall_mem_cons.mpr ⟨cw_169, List.forall_mem_cons.mpr ⟨cw_170, List.forall_mem_cons.mpr ⟨cw_171, List.forall_mem_cons.mpr ⟨cw_172, List.forall_mem_cons.mpr ⟨cw_173, List.forall_mem_cons.mpr ⟨cw_174, List.forall_mem_cons.mpr ⟨cw_175, List.forall_mem_cons.mpr ⟨cw_176, List.forall_mem_cons.mpr ⟨cw_177, List.forall_mem_cons.mpr ⟨cw_178, List.forall_mem_cons.mpr ⟨cw_179, fun _ h => absurd h List.not_mem_nil⟩⟩⟩⟩⟩⟩⟩⟩⟩⟩⟩⟩⟩⟩⟩⟩⟩⟩⟩⟩⟩⟩⟩⟩⟩⟩⟩⟩⟩⟩
theorem cwa_6 : ∀ Z ∈ [180, 181, 182, 183, 184, 185, 186, 187, 188, 189, 190, 191, 192, 193, 194, 195, 196, 197, 198, 199, 200, 201, 202, 203, 204, 205, 206, 207, 208, 209], cwd Z ∈ lw_tbl := List.forall_mem_cons.mpr ⟨cw_180, List.forall_mem_cons.mpr ⟨cw_181, List.forall_mem_cons.mpr ⟨cw_182, List.forall_mem_cons.mpr ⟨cw_183, List.forall_mem_cons.mpr ⟨cw_184, List.forall_mem_cons.mpr ⟨cw_185, List.forall_mem_cons.mpr ⟨cw_186, List.forall_mem_cons.mpr ⟨cw_187, List.forall_mem_cons.mpr ⟨cw_188, List.forall_mem_cons.mpr ⟨cw_189, List.forall_mem_cons.mpr ⟨cw_190, List.forall_mem_cons.mpr ⟨cw_191, List.forall_mem_cons.mpr ⟨cw_192, List.forall_mem_cons.mpr ⟨cw_193, List.forall_mem_cons.mpr ⟨cw_194, List.forall_mem_cons.mpr ⟨cw_195, List.forall_mem_cons.mpr ⟨cw_196, List.forall_mem_cons.mpr ⟨cw_197, List.forall_mem_cons.mpr ⟨cw_198, List.forall_mem_cons.mpr ⟨cw_199, List.forall_mem_cons.mpr ⟨cw_200, List.forall_mem_cons.mpr ⟨cw_201, List.forall_mem_cons.mpr ⟨cw_202, List.forall_mem_cons.mpr ⟨cw_203, List.forall_mem_cons.mpr ⟨cw_204, List.forall_mem_cons.mpr ⟨cw_205, List.forall_mem_cons.mpr ⟨cw_206, List.forall_mem_cons.mpr ⟨cw_207, List.forall_mem_cons.mpr ⟨cw_208, List.forall_mem_cons.mpr ⟨cw_209, fun _ h => absurd h List.not_mem_nil⟩⟩⟩⟩⟩⟩⟩⟩⟩⟩⟩⟩⟩⟩⟩⟩⟩⟩⟩⟩⟩⟩⟩⟩⟩⟩⟩⟩⟩⟩
theorem cwa_7 : ∀ Z ∈ [210, 211, 212, 213, 214, 215, 216, 217, 218, 219, 220, 221, 222, 223, 224, 225, 226, 227, 228, 229, 230, 231, 232, 233, 234, 235, 236, 237, 238, 239], cwd Z ∈ lw_tbl := List.forall_mem_cons.mpr ⟨cw_210, List.forall_mem_cons.mpr ⟨cw_211, List.forall_mem_cons.mpr ⟨cw_212, List.forall_mem_cons.mpr ⟨cw_213, List.forall_mem_cons.mpr ⟨cw_214, List.forall_mem_cons.mpr ⟨cw_215, List.forall_mem_cons.mpr ⟨cw_216, List.forall_mem_cons.mpr ⟨cw_217, List.forall_mem_cons.mpr ⟨cw_218, List.forall_mem_cons.mpr ⟨cw_219, List.forall_mem_cons.mpr ⟨cw_220, List.forall_mem_cons.mpr ⟨cw_221, List.forall_mem_cons.mpr ⟨cw_222, List.forall_mem_cons.mpr ⟨cw_223, List.forall_mem_cons.mpr ⟨cw_224, List.forall_mem_cons.mpr ⟨cw_225, List.forall_mem_cons.mpr ⟨cw_226, List.forall_mem_cons.mpr ⟨cw_227, List.forall_mem_cons.mpr ⟨cw_228, List.forall_mem_cons.mpr ⟨cw_229, List.forall_mem_cons.mpr ⟨cw_230, List.forall_mem_cons.mpr ⟨cw_231, List.forall_mem_cons.mpr ⟨cw_232, List.forall_mem_cons.mpr ⟨cw_233, List.forall_mem_cons.mpr ⟨cw_234, List.forall_mem_cons.mpr ⟨cw_235, List.forall_mem_cons.mpr ⟨cw_236, List.forall_mem_cons.mpr ⟨cw_237, List.forall_mem_cons.mpr ⟨cw_238, List.forall_mem_cons.mpr ⟨cw_239, fun _ h => absurd h List.not_mem_nil⟩⟩⟩⟩⟩⟩⟩⟩⟩⟩⟩⟩⟩⟩⟩⟩⟩⟩⟩⟩⟩⟩⟩⟩⟩⟩⟩⟩⟩⟩
theorem cwa_8 : ∀ Z ∈ [240, 241, 242, 243, 244, 245, 246, 247, 248, 249, 250, 251, 252, 253, 254, 255, 256, 257, 258, 259, 260, 261, 262, 263, 264, 265, 266, 267, 268, 269], cwd Z ∈ lw_tbl := List.forall_mem_cons.mpr ⟨cw_240, List.forall_mem_cons.mpr ⟨cw_241, List.forall_mem_cons.mpr ⟨cw_242, List.forall_mem_cons.mpr ⟨cw_243, List.forall_mem_cons.mpr ⟨cw_244, List.forall_mem_cons.mpr ⟨cw_245, List.forall_mem_cons.mpr ⟨cw_246, List.forall_mem_cons.mpr ⟨cw_247, List.forall_mem_cons.mpr ⟨cw_248, List.forall_mem_cons.mpr ⟨cw_249, List.forall_mem_cons.mpr ⟨cw_250, List.forall_mem_cons.mpr ⟨cw_251, List.forall_mem_cons.mpr ⟨cw_252, List.forall_mem_cons.mpr ⟨cw_253, List.forall_mem_cons.mpr ⟨cw_254, List.forall_mem_cons.mpr ⟨cw_255, List.forall_mem_cons.mpr ⟨cw_256, List.forall_mem_cons.mpr ⟨cw_257, List.forall_mem_cons.mpr ⟨cw_258, List.forall_mem_cons.mpr ⟨cw_259, List.forall_mem_cons.mpr ⟨cw_260, List.forall_mem_cons.mpr ⟨cw_261, List.forall_mem_cons.mpr ⟨cw_262, List.forall_mem_cons.mpr ⟨cw_263, List.forall_mem_cons.mpr ⟨cw_264, List.forall_mem_cons.mpr ⟨cw_265, List.forall_mem_cons.mpr ⟨cw_266, List.forall_mem_cons.mpr ⟨cw_267, List.forall_mem_cons.mpr ⟨cw_268, List.forall_mem_cons.mpr ⟨cw_269, fun _ h => absurd h List.not_mem_nil⟩⟩⟩⟩⟩⟩⟩⟩⟩⟩⟩⟩⟩⟩⟩⟩⟩⟩⟩⟩⟩⟩⟩⟩⟩⟩⟩⟩⟩⟩
theorem cwa_9 : ∀ Z ∈ [270, 271, 272, 273, 274, 275, 276, 277, 278, 279, 280, 281, 282, 283, 284, 285, 286, 287, 288, 289, 290, 291, 292, 293, 294, 295, 296, 297, 298, 299], cwd Z ∈ lw_tbl := List.forall_mem_cons.mpr ⟨cw_270, List.forall_mem_cons.mpr ⟨cw_271, List.forall_mem_cons.mpr ⟨cw_272, List.forall_mem_cons.mpr ⟨cw_273, List.forall_mem_cons.mpr ⟨cw_274, List.forall_mem_cons.mpr ⟨cw_275, List.forall_mem_cons.mpr ⟨cw_276, List.forall_mem_cons.mpr ⟨cw_277, List.forall_mem_cons.mpr ⟨cw_278, List.forall_mem_cons.mpr ⟨cw_279, List.forall_mem_cons.mpr ⟨cw_280, List.forall_mem_cons.mpr ⟨cw_281, List.forall_mem_cons.mpr ⟨cw_282, List.forall_mem_cons.mpr ⟨cw_283, List.forall_mem_cons.mpr ⟨cw_284, List.forall_mem_cons.mpr ⟨cw_285, List.forall_mem_cons.mpr ⟨cw_286, List.forall_mem_cons.mpr ⟨cw_287, List.forall_mem_cons.mpr ⟨cw_288, List.forall_mem_cons.mpr ⟨cw_289, List.forall_mem_cons.mpr ⟨cw_290, List.forall_mem_cons.mpr ⟨cw_291, List.forall_mem_cons.mpr ⟨cw_292, List.forall_mem_cons.mpr ⟨cw_293, List.forall_mem_cons.mpr ⟨cw_294, List.forall_mem_cons.mpr ⟨cw_295, List.forall_mem_cons.mpr ⟨cw_296, List.forall_mem_cons.mpr ⟨cw_297, List.forall_mem_cons.mpr ⟨cw_298, List.forall_mem_cons.mpr ⟨cw_299, fun _ h => absurd h List.not_mem_nil⟩⟩⟩⟩⟩⟩⟩⟩⟩⟩⟩⟩⟩⟩⟩⟩⟩⟩⟩⟩⟩⟩⟩⟩⟩⟩⟩⟩⟩⟩
theorem cwa_10 : ∀ Z ∈ [300, 301, 302, 303, 304, 305, 306, 307, 308, 309, 310, 311, 312, 313, 314, 315, 316, 317, 318, 319, 320, 321, 322, 323, 324, 325, 326, 327], cwd Z ∈ lw_tbl := List.forall_mem_cons.mpr ⟨cw_300, List.forall_mem_cons.mpr ⟨cw_301, List.forall_mem_cons.mpr ⟨cw_302, List.forall_mem_cons.mpr ⟨cw_303, List.forall_mem_cons.mpr ⟨cw_304, List.forall_mem_cons.mpr ⟨cw_305, List.forall_mem_cons.mpr ⟨cw_306, List.forall_mem_cons.mpr ⟨cw_307, List.forall_mem_cons.mpr ⟨cw_308, List.forall_mem_cons.mpr ⟨cw_309, List.forall_mem_cons.mpr ⟨cw_310, List.forall_mem_cons.mpr ⟨cw_311, List.forall_mem_cons.mpr ⟨cw_312, List.forall_mem_cons.mpr ⟨cw_313, List.forall_mem_cons.mpr ⟨cw_314, List.forall_mem_cons.mpr ⟨cw_315, List.forall_mem_cons.mpr ⟨cw_316, List.forall_mem_cons.mpr ⟨cw_317, List.forall_mem_cons.mpr ⟨cw_318, List.forall_mem_cons.mpr ⟨cw_319, List.forall_mem_cons.mpr ⟨cw_320, List.forall_mem_cons.mpr ⟨cw_321, List.forall_mem_cons.mpr ⟨cw_322, List.forall_mem_cons.mpr ⟨cw_323, List.forall_mem_cons.mpr ⟨cw_324, List.forall_mem_cons.mpr ⟨cw_325, List.forall_mem_cons.mpr ⟨cw_326, List.forall_mem_cons.mpr ⟨cw_327, fun _ h => absurd h List.not_mem_nil⟩⟩⟩⟩⟩⟩⟩⟩⟩⟩⟩⟩⟩⟩⟩⟩⟩⟩⟩⟩⟩⟩⟩⟩⟩⟩⟩⟩
theorem cw_all : ∀ Z ∈ [0, 1, 2, 3, 4, 5, 6, 7, 8, 9, 10, 11, 12, 13, 14, 15, 16, 17, 18, 19, 20, 21, 22, 23, 24, 25, 26, 27, 28, 29] ++ ([30, 31, 32, 33, 34, 35, 36, 37, 38, 39, 40, 41, 42, 43, 44, 45, 46, 47, 48, 49, 50, 51, 52, 53, 54, 55, 56, 57, 58, 59] ++ ([60, 61, 62, 63, 64, 65, 66, 67, 68, 69, 70, 71, 72, 73, 74, 75, 76, 77, 78, 79, 80, 81, 82, 83, 84, 85, 86, 87, 88, 89] ++ ([90, 91, 92, 93, 94, 95, 96, 97, 98, 99, 100, 101, 102, 103, 104, 105, 106, 107, 108, 109, 110, 111, 112, 113, 114, 115, 116, 117, 118, 119] ++ ([120, 121, 122, 123, 124, 125, 126, 127, 128, 129, 130, 131, 132, 133, 134, 135, 136, 137, 138, 139, 140, 141, 142, 143, 144, 145, 146, 147, 148, 149] ++ ([150, 151, 152, 153, 154, 155, 156, 157, 158, 159, 160, 161, 162, 163, 164, 165, 166, 167, 168, 169, 170, 171, 172, 173, 174, 175, 176, 177, 178, 179] ++ ([180, 181, 182, 183, 184, 185, 186, 187, 188, 189, 190, 191, 192, 193, 194, 195, 196, 197, 198, 199, 200, 201, 202, 203, 204, 205, 206, 207, 208, 209] ++ ([210, 211, 212, 213, 214, 215, 216, 217, 218, 219, 220, 221, 222, 223, 224, 225, 226, 227, 228, 229, 230, 231, 232, 233, 234, 235, 236, 237, 238, 239] ++ ([240, 241, 242, 243, 244, 245, 246, 247, 248, 249, 250, 251, 252, 253, 254, 255, 256, 257, 258, 259, 260, 261, 262, 263, 264, 265, 266, 267, 268, 269] ++ ([270, 271, 272, 273, 274, 275, 276, 277, 278, 279, 280, 281, 282, 283, 284, 285, 286, 287, 288, 289, 290, 291, 292, 293, 294, 295, 296, 297, 298, 299] ++ ([300, 301, 302, 303, 304, 305, 306, 307, 308, 309, 310, 311, 312, 313, 314, 315, 316, 317, 318, 319, 320, 321, 322, 323, 324, 325, 326, 327])))))))))), cwd Z ∈ lw_tbl := List.forall_mem_append.mpr ⟨cwa_0, List.forall_mem_append.mpr ⟨cwa_1, List.forall_mem_append.mpr ⟨cwa_2, List.forall_mem_append.mpr ⟨cwa_3, List.forall_mem_append.mpr ⟨cwa_4, List.forall_mem_append.mpr ⟨cwa_5, List.forall_mem_append.mpr ⟨cwa_6, List.forall_mem_append.mpr ⟨cwa_7, List.forall_mem_append.mpr ⟨cwa_8, List.forall_mem_append.mpr ⟨cwa_9, cwa_10⟩⟩⟩⟩⟩⟩⟩⟩⟩⟩
theorem cw_of {Z : Nat} (h1 : Z < NM) (h2 : Z ≠ LAW) : cwd Z ∈ lw_tbl := cw_all Z (by
  have h : (List.range NM).all (fun Z => decide (Z = LAW) || decide (Z ∈ [0, 1, 2, 3, 4, 5, 6, 7, 8, 9, 10, 11, 12, 13, 14, 15, 16, 17, 18, 19, 20, 21, 22, 23, 24, 25, 26, 27, 28, 29] ++ ([30, 31, 32, 33, 34, 35, 36, 37, 38, 39, 40, 41, 42, 43, 44, 45, 46, 47, 48, 49, 50, 51, 52, 53, 54, 55, 56, 57, 58, 59] ++ ([60, 61, 62, 63, 64, 65, 66, 67, 68, 69, 70, 71, 72, 73, 74, 75, 76, 77, 78, 79, 80, 81, 82, 83, 84, 85, 86, 87, 88, 89] ++ ([90, 91, 92, 93, 94, 95, 96, 97, 98, 99, 100, 101, 102, 103, 104, 105, 106, 107, 108, 109, 110, 111, 112, 113, 114, 115, 116, 117, 118, 119] ++ ([120, 121, 122, 123, 124, 125, 126, 127, 128, 129, 130, 131, 132, 133, 134, 135, 136, 137, 138, 139, 140, 141, 142, 143, 144, 145, 146, 147, 148, 149] ++ ([150, 151, 152, 153, 154, 155, 156, 157, 158, 159, 160, 161, 162, 163, 164, 165, 166, 167, 168, 169, 170, 171, 172, 173, 174, 175, 176, 177, 178, 179] ++ ([180, 181, 182, 183, 184, 185, 186, 187, 188, 189, 190, 191, 192, 193, 194, 195, 196, 197, 198, 199, 200, 201, 202, 203, 204, 205, 206, 207, 208, 209] ++ ([210, 211, 212, 213, 214, 215, 216, 217, 218, 219, 220, 221, 222, 223, 224, 225, 226, 227, 228, 229, 230, 231, 232, 233, 234, 235, 236, 237, 238, 239] ++ ([240, 241, 242, 243, 244, 245, 246, 247, 248, 249, 250, 251, 252, 253, 254, 255, 256, 257, 258, 259, 260, 261, 262, 263, 264, 265, 266, 267, 268, 269] ++ ([270, 271, 272, 273, 274, 275, 276, 277, 278, 279, 280, 281, 282, 283, 284, 285, 286, 287, 288, 289, 290, 291, 292, 293, 294, 295, 296, 297, 298, 299] ++ ([300, 301, 302, 303, 304, 305, 306, 307, 308, 309, 310, 311, 312, 313, 314, 315, 316, 317, 318, 319, 320, 321, 322, 323, 324, 325, 326, 327])))))))))))) = true := by decide +kernel
  have h3 := List.all_eq_true.mp h Z (List.mem_range.mpr h1)
  simp only [Bool.or_eq_true, decide_eq_true_eq] at h3
  exact h3.resolve_left h2)
end

section
section SXE
variable {p : Program} {l : Launch} {e : Env} {R : Room} {s : State} {m : MethodId} {args : Array Value} {below : List Frame} {meth : Method} {c : Code} {H : Heap} {locs : List Loc} {cells slots : Nat} {Q : State → Prop}
variable {cc : ByteArray} {pc : Nat} {ls : Array Slot} {rest : List Value} {a : Nat}
/-- System.arraycopy of bytes, the heap behind it told (after the kit's vk_copyt) -/
theorem cp_raw (hexec : p.tables.exec = Jvm.exec) (hb : c.code = cc) (hml : c.maxLocals = ls.size) {own : String} {index : Nat} (hown : s.vm.findClass own = some m.cls) (hlink : (Cond.methodLink own index arraycopyName).before args s = true) (hnat : (Cond.native arraycopyName).before args s = true) (hstat : (Cond.static arraycopyName).before args s = true) (hini : (Cond.initialized "java/lang/System").before args s = true)
    {b0 n0 : Nat} {f : Nat → Int32} {scr : Cell} (hc0 : H[b0]? = some scr) (hs2 : s.isArrayOf scr .byte) (hs3 : scr.vm ≠ .unknown) (hs4 : n0 ≤ scr.slots.size) (hs5 : ∀ j : Nat, j < n0 → scr.slots[j]? = some (.int (f j)))
    {c1 : ClassId} {n1 : Nat} {g : Nat → Int32} (hc1 : H[a]? = some (vp_cell c1 (n1, .inl g))) (hA : ArrOfT s c1 .byte)
    {sp dp n : Int32} (h1 : ¬ sp < 0) (h2 : ¬ dp < 0) (h3 : ¬ n < 0) (h4 : sp.toNatClampNeg + n.toNatClampNeg ≤ n0) (h5 : dp.toNatClampNeg + n.toNatClampNeg ≤ n1) (hfit : ∀ i : Nat, fits .byte (.int (f i)) = true)
    (hframes : 1 ≤ R.frames) (hlocals : (rest.map fun v => v.category).sum + (nativeFrameWords "java/lang/System" "arraycopy" 5 + 11) ≤ R.locals) (hdg : decode cc pc = .ok (.invokestatic index, 3))
    (kk : ∀ (H1 : Heap) (L : List Loc), H1[a]? = some (vp_cell c1 (n1, .inl (va_cpy f g sp.toNatClampNeg dp.toNatClampNeg n.toNatClampNeg))) → H1.size = H.size → (∀ q, q ≠ a → H1[q]? = H[q]?) → (∀ q ∈ L, q.base = a) → W p l e R s m args below meth c H1 (locs ++ L) cells slots Q (F0 m (pc + 3) ls rest)) : W p l e R s m args below meth c H locs cells slots Q (F0 m pc ls (.int n :: .int dp :: .ref a :: .int sp :: .ref b0 :: rest)) := by
  have nn : ∀ z : Int32, ¬ z < 0 → z.toInt = (z.toNatClampNeg : Int) := by
    intro z hz
    have hz0 : (0 : Int) ≤ z.toInt := by
      have := Int32.not_lt.mp hz
      simpa using Int32.le_iff_toInt_le.mp this
    show z.toInt = ((z.toInt.toNat : Nat) : Int)
    omega
  intro T hT X
  obtain ⟨hs6, k0, hk0, cm0, hkk0⟩ := hs2
  obtain ⟨-, k1, hk1, cm1, hkk1⟩ := hA n1 (fun j => .int (g j))
  obtain ⟨vm', X', step⟩ := X.arraycopy hexec hown hlink hnat hstat hini (src := b0) (dst := a) (cs := scr) (cd := vp_cell c1 (n1, .inl g)) (srcPos := sp) (destPos := dp) (n := n) (by rw [hT]; exact hc0) (by rw [hT]; exact hc1)
    hs6 (fun _ h => by cases h) hs3 (fun h => by cases h) hk0 hk1 hkk0 hkk1 (by simp [refKind]) h1 h2 h3
    (by rw [nn sp h1, nn n h3]; omega)
    (by rw [nn dp h2, nn n h3]; show ¬ _ > ((arrV c1 n1 (fun j => .int (g j))).slots.size : Int); rw [arrV_size]; omega)
    (fun vm₁ _ i hi => by
      have e : scr.slots.getD (sp.toNatClampNeg + i) .null = .int (f (sp.toNatClampNeg + i)) := by
        rw [Array.getD_eq_getD_getElem?, hs5 _ (by omega)]
        rfl
      refine ⟨?_, ?_⟩
      · rw [e]
        exact hfit _
      · rw [e]
        exact trivial)
    (g := F0 m pc ls (.int n :: .int dp :: .ref a :: .int sp :: .ref b0 :: rest)) rfl (by rw [hml]) (rest := rest) rfl (by rw [hb]; exact hdg) hframes (by show 2 * 0 + _ + _ ≤ _; omega)
  have e1 : copied scr (vp_cell c1 (n1, .inl g)) sp dp n = vp_cell c1 (n1, .inl (va_cpy f g sp.toNatClampNeg dp.toNatClampNeg n.toNatClampNeg)) := va_copiedX (fun z => .int z) scr c1 f g hs5 h4
  rw [e1] at X' step
  have hl : a < H.size := (Array.getElem?_eq_some_iff.mp hc1).1
  have hheap : ((T.setVm vm').setCell a (vp_cell c1 (n1, .inl (va_cpy f g sp.toNatClampNeg dp.toNatClampNeg n.toNatClampNeg)))).heap = H.setIfInBounds a (vp_cell c1 (n1, .inl (va_cpy f g sp.toNatClampNeg dp.toNatClampNeg n.toNatClampNeg))) := by rw [← hT]; rfl
  have oq : ∀ q : Nat, q ≠ a → (H.setIfInBounds a (vp_cell c1 (n1, .inl (va_cpy f g sp.toNatClampNeg dp.toNatClampNeg n.toNatClampNeg))))[q]? = H[q]? := fun q hq => by simp [Array.getElem?_setIfInBounds, Ne.symm hq]
  obtain ⟨t, a1, b1⟩ := kk _ _ (show (H.setIfInBounds a _)[a]? = some _ by simp [Array.getElem?_setIfInBounds, hl]) (by simp) oq (fun q h => by
      obtain ⟨z, -, hz⟩ := List.mem_map.mp h
      rw [← hz]) _ hheap X'
  exact ⟨t, step t a1, b1⟩
/-- clone of a row of bytes (after the kit's va_clone) -/
theorem cl_raw (hexec : p.tables.exec = Jvm.exec) (hb : c.code = cc) (hml : c.maxLocals = ls.size) {own ad : String} {index : Nat} (hown : s.vm.findClass own = some m.cls)
    (hlink : (Cond.methodLink own index ⟨ad, "clone", "()Ljava/lang/Object;"⟩).before args s = true) (hsame : (Cond.sameMethod ad "java/lang/Object" "clone" "()Ljava/lang/Object;").before args s = true)
    (hnat : (Cond.native ⟨"java/lang/Object", "clone", "()Ljava/lang/Object;"⟩).before args s = true) (hinst : (Cond.instanceMethod ⟨"java/lang/Object", "clone", "()Ljava/lang/Object;"⟩).before args s = true)
    (hsel : (Cond.selects ad ⟨ad, "clone", "()Ljava/lang/Object;"⟩ ⟨"java/lang/Object", "clone", "()Ljava/lang/Object;"⟩).before args s = true) (hcl : va_Nw (.castable ad "java/lang/Cloneable") s)
    {cA : ClassId} {x : vp_A} {ty : FieldType} (hc : H[a]? = some (vp_cell cA x)) (hA : ArrOfT s cA ty)
    (hnm : s.vm.findClass ad = some cA) (hfit : ∀ (i : Nat) (v : Value), (vp_cell cA x).slots[i]? = some v → fits ty v = true)
    (hframes : 1 ≤ R.frames) (hlocals : (rest.map fun v => v.category).sum + 14 ≤ R.locals) (hcells : cells + 1 ≤ R.cells) (hslots : slots + x.1 ≤ R.slots) (hdg : decode cc pc = .ok (.invokevirtual index, 3))
    (kk : ∀ (H1 : Heap), H1[H.size]? = some (vp_cell cA x) → H1.size = H.size + 1 → (∀ q, q < H.size → H1[q]? = H[q]?) →
      W p l e R s m args below meth c H1 locs (cells + 1) (slots + x.1) Q (F0 m (pc + 3) ls (.ref H.size :: rest))) : W p l e R s m args below meth c H locs cells slots Q (F0 m pc ls (.ref a :: rest)) := by
  have hsz : (vp_cell cA x).slots.size = x.1 := by
    obtain ⟨n, f | f | f | f | f⟩ := x <;> exact arrV_size _ _ _
  have hvm0 : (vp_cell cA x).vm = .none := by
    obtain ⟨n, f | f | f | f | f⟩ := x <;> rfl
  have hcl0 : (vp_cell cA x).cls = cA := by
    obtain ⟨n, f | f | f | f | f⟩ := x <;> rfl
  have hcellE : ({ cls := (vp_cell cA x).cls, slots := (vp_cell cA x).slots } : Cell) = vp_cell cA x := by
    obtain ⟨n, f | f | f | f | f⟩ := x <;> rfl
  obtain ⟨c0, t0', f1, f2, f3⟩ := Cond.castable_spec (va_Nw.use (A := args) rfl hcl)
  cases hnm.symm.trans f1
  intro T hT X
  have hcellT : T.heap[a]? = some (vp_cell cA x) := by rw [hT]; exact hc
  obtain ⟨-, kA, hkA, comp, hkind⟩ := State.isArrayOf_alike X.warmed.alike (hA 0 (fun _ => .null))
  obtain ⟨-, kS, hkS, compS, hkindS⟩ := hA 0 (fun _ => .null)
  obtain ⟨vm', X', st⟩ := X.cloneArray hexec hown hlink hsame hnat hinst hsel (a := a) (cell := vp_cell cA x) hcellT (fun k h => by rw [hvm0] at h; cases h) (by rw [hvm0]; exact fun h => by cases h) (by rw [hcl0]; exact hnm) f2 (by rw [hcl0]; exact f3)
    (fun i v hv => by
      rw [hcl0]
      have hk' : T.vm.classes[cA]? = some kA := hkA
      simpa [State.fitsSlot, State.slotType?, hk', hkind] using hfit i v hv)
    (g := F0 m pc ls (.ref a :: rest)) rfl (by rw [hml]) rfl (by rw [hb]; exact hdg) hframes (by show 2 * 0 + _ + 14 ≤ _; omega) hcells (by rw [hsz]; exact hslots) (hloader := by rw [hcl0]; exact Vm.clonesLoader_of_array hkS hkindS)
  rw [hcellE, hsz] at X'
  generalize hH1 : H.push (vp_cell cA x) = H1
  have z1 : H1.size = H.size + 1 := by rw [← hH1, Array.size_push]
  have e1 : H1[H.size]? = some (vp_cell cA x) := by rw [← hH1, Array.getElem?_push_size]
  have o1 : ∀ q : Nat, q < H.size → H1[q]? = H[q]? := fun q hq => by rw [← hH1, Array.getElem?_push, if_neg (Nat.ne_of_lt hq)]
  obtain ⟨t, b1, b2⟩ := kk H1 e1 z1 o1 ((T.setVm vm').pushCell (vp_cell cA x)) (by rw [← hH1, ← hT]; rfl) X'
  refine ⟨t, st t ?_, b2⟩
  rw [hcellE, hT]
  exact b1
end SXE
end

section
/-! one-step calls, constants -/
def atW (i : Nat) (w : Cond) : Bool := decide (lw_at i = some w) && goodWord w
theorem atW_in {i : Nat} {w : Cond} (h : atW i w = true) : w ∈ Wd := by
  simp only [atW, Bool.and_eq_true, decide_eq_true_eq] at h
  exact Wd_at i h.1 h.2
def okG (e : Nat × (Int32 ⊕ Nat) × (String × String × String × Nat)) : Bool := atW e.2.2.2.2.2 (.fieldLink (cn (e.1 / 65536)) (e.1 % 65536) e.2.2.1 e.2.2.2.1 e.2.2.2.2.1)
theorem okG_all : tG_l.all okG = true := by decide +kernel
def okV (e : Nat × (Value ⊕ Nat) × Nat) : Bool := match e.2.1 with
  | .inl (.int v) => atW e.2.2 (.constant (cn (e.1 / 65536)) (e.1 % 65536) v)
  | .inl (.long v) => atW e.2.2 (.constantLong (cn (e.1 / 65536)) (e.1 % 65536) v)
  | .inl _ => false
  | .inr j => tS_l.any (fun x => decide (x.1 = cn (e.1 / 65536) ∧ x.2.1 = e.1 % 65536 ∧ x.2.2.2 = j))
theorem okV_all : tV_l.all okV = true := by decide +kernel
def okI6 (e : Nat × (Nat × Nat × Nat × Nat) × List Nat) : Bool := if e.2.1.2.1 = 6 then (match e.2.2 with
  | [a, b, c] => atW a (.methodLink (cn (e.1 / 65536)) (e.1 % 65536) Lib.objectInit) && (atW b (.instanceMethod Lib.objectInit) && atW c (.code Lib.objectInit ⟨#[0xb1]⟩ 1 none))
  | _ => false) else true
theorem okI6_all : tI_l.all okI6 = true := by decide +kernel
def okM7 (e : Nat × (Nat × Nat × Nat × Nat) × List Nat) : Bool := if e.2.1.2.1 = 7 then (match e.2.2 with
  | [a, b, c, d] => atW a (.methodLink (cn (e.1 / 65536)) (e.1 % 65536) arraycopyName) && (atW b (.native arraycopyName) && (atW c (.static arraycopyName) && atW d (.initialized "java/lang/System")))
  | _ => false) else if e.2.1.2.1 = 8 then (match e.2.2 with
  | [a, b, c, d, f, g] => atW a (.methodLink (cn (e.1 / 65536)) (e.1 % 65536) ⟨"[B", "clone", "()Ljava/lang/Object;"⟩) && (atW b (.sameMethod "[B" "java/lang/Object" "clone" "()Ljava/lang/Object;") && (atW c (.native ⟨"java/lang/Object", "clone", "()Ljava/lang/Object;"⟩) && (atW d (.instanceMethod ⟨"java/lang/Object", "clone", "()Ljava/lang/Object;"⟩) && (atW f (.selects "[B" ⟨"[B", "clone", "()Ljava/lang/Object;"⟩ ⟨"java/lang/Object", "clone", "()Ljava/lang/Object;"⟩) && decide (lw_tbl[g]? = some (.castable "[B" "java/lang/Cloneable"))))))
  | _ => false) else if e.2.1.2.1 = 9 then (match e.2.2 with
  | [a, b, c] => atW a (.methodLink (cn (e.1 / 65536)) (e.1 % 65536) Lib.Math.min.name) && (atW b (.static Lib.Math.min.name) && atW c (.initialized "java/lang/Math"))
  | _ => false) else if e.2.1.2.1 = 10 then (match e.2.2 with
  | [a, b, c] => atW a (.methodLink (cn (e.1 / 65536)) (e.1 % 65536) Lib.Math.max.name) && (atW b (.static Lib.Math.max.name) && atW c (.initialized "java/lang/Math"))
  | _ => false) else if e.2.1.2.1 = 11 then (match e.2.2 with
  | [a, b, c] => atW a (.methodLink (cn (e.1 / 65536)) (e.1 % 65536) Lib.Math.abs.name) && (atW b (.static Lib.Math.abs.name) && atW c (.initialized "java/lang/Math"))
  | _ => false) else true
theorem okM7_all : tM_l.all okM7 = true := by decide +kernel
def okX (e : Nat × Nat) : Bool := atW e.2 (.classLink (cn (e.1 / 65536)) (e.1 % 65536) "[B")
theorem okX_all : tX_l.all okX = true := by decide +kernel
theorem find_mem {β : Type} {l : List (Nat × β)} {q : Nat} {v : Nat × β} (h : l.find? (fun e => e.1 == q) = some v) : v ∈ l ∧ v.1 = q := ⟨List.mem_of_find?_eq_some h, by have := List.find?_some h; simpa using this⟩
theorem key_div {o idx : Nat} (h : idx < 65536) : (o * 65536 + idx) / 65536 = o := by omega
theorem key_mod {o idx : Nat} (h : idx < 65536) : (o * 65536 + idx) % 65536 = idx := by omega
section SXF
variable {l : Launch} {base : Nat} {D : va_G} {cA : Nat → ClassId} {h0 : MH}
variable {Y pc idx : Nat} {loc stk : List Value} {h h' : MH} {bc bs : Nat} {Q : MR → MH → Prop}
theorem sx_gets {v : Int32 ⊕ Nat} (hd : decode (tb_b Y) pc = .ok (.getstatic idx, 3)) (hf : tG (tb_o Y * 65536 + idx) = some v) (hidx : idx < 65536) (k : SX l base D cA h0 Y (pc + 3) loc (gsv h v :: stk) h bc bs Q) : SX l base D cA h0 Y pc loc stk h bc bs Q := by
  intro p e R s m args below meth c H locs cells slots mc ms ls S h1 h2 hl hr hs
  have KK := k p e R s m args below meth c H locs cells slots mc ms ls S h1 h2 hl hr hs
  obtain ⟨⟨hx, hb⟩, ⟨hml, hrt, hown, hts⟩, ⟨hlk, hin0, hsf, hbs, hst⟩, -, -⟩ := S
  unfold tG at hf
  rw [Option.map_eq_some_iff] at hf
  obtain ⟨w, hw, rfl⟩ := hf
  obtain ⟨m1, m2⟩ := find_mem hw
  have hok := List.all_eq_true.mp okG_all _ m1
  unfold okG at hok
  rw [m2, key_div hidx, key_mod hidx] at hok
  have hz := hsf.2.2.1 _ m1
  have ev : gsv h0 w.2.1 = gsv h w.2.1 := by
    cases w.2.1 with
    | inl v => rfl
    | inr j => simp only [gsv, hr.2.2.2.2.1 j]
  rw [ev] at hz
  exact va_gets hx hb hz hs hown (hts _ (atW_in hok)) (fun _ z => z) hd KK
theorem tV_of {v : Value ⊕ Nat} {q : Nat} (hf : tV q = some v) : ∃ wi, (q, v, wi) ∈ tV_l := by
  unfold tV at hf
  rw [Option.map_eq_some_iff] at hf
  obtain ⟨w, hw, rfl⟩ := hf
  obtain ⟨m1, m2⟩ := find_mem hw
  obtain ⟨w1, w2, w3⟩ := w
  simp only at m2
  subst m2
  exact ⟨w3, m1⟩
theorem sx_ldcI {v : Int32} (hd : decode (tb_b Y) pc = .ok (.ldc idx, 2)) (hf : tV (tb_o Y * 65536 + idx) = some (.inl (.int v))) (hidx : idx < 65536) (k : SX l base D cA h0 Y (pc + 2) loc (.int v :: stk) h bc bs Q) : SX l base D cA h0 Y pc loc stk h bc bs Q := by
  intro p e R s m args below meth c H locs cells slots mc ms ls S h1 h2 hl hr hs
  have KK := k p e R s m args below meth c H locs cells slots mc ms ls S h1 h2 hl hr hs
  obtain ⟨⟨hx, hb⟩, ⟨hml, hrt, hown, hts⟩, -, -, -⟩ := S
  obtain ⟨wi, hw⟩ := tV_of hf
  have hok := List.all_eq_true.mp okV_all _ hw
  simp only [okV, key_div hidx, key_mod hidx] at hok
  exact lv_ldc hx hb hown (hts _ (atW_in hok)) hd KK
theorem sx_ldcwI {v : Int32} (hd : decode (tb_b Y) pc = .ok (.ldc_w idx, 3)) (hf : tV (tb_o Y * 65536 + idx) = some (.inl (.int v))) (hidx : idx < 65536) (k : SX l base D cA h0 Y (pc + 3) loc (.int v :: stk) h bc bs Q) : SX l base D cA h0 Y pc loc stk h bc bs Q := by
  intro p e R s m args below meth c H locs cells slots mc ms ls S h1 h2 hl hr hs
  have KK := k p e R s m args below meth c H locs cells slots mc ms ls S h1 h2 hl hr hs
  obtain ⟨⟨hx, hb⟩, ⟨hml, hrt, hown, hts⟩, -, -, -⟩ := S
  obtain ⟨wi, hw⟩ := tV_of hf
  have hok := List.all_eq_true.mp okV_all _ hw
  simp only [okV, key_div hidx, key_mod hidx] at hok
  exact lv_ldcw hx hb hown (hts _ (atW_in hok)) hd KK
theorem sx_ldc2 {v : Int64} (hd : decode (tb_b Y) pc = .ok (.ldc2_w idx, 3)) (hf : tV (tb_o Y * 65536 + idx) = some (.inl (.long v))) (hidx : idx < 65536) (k : SX l base D cA h0 Y (pc + 3) loc (.long v :: stk) h bc bs Q) : SX l base D cA h0 Y pc loc stk h bc bs Q := by
  intro p e R s m args below meth c H locs cells slots mc ms ls S h1 h2 hl hr hs
  have KK := k p e R s m args below meth c H locs cells slots mc ms ls S h1 h2 hl hr hs
  obtain ⟨⟨hx, hb⟩, ⟨hml, hrt, hown, hts⟩, -, -, -⟩ := S
  obtain ⟨wi, hw⟩ := tV_of hf
  have hok := List.all_eq_true.mp okV_all _ hw
  simp only [okV, key_div hidx, key_mod hidx] at hok
  exact lv_ldc2 hx hb hown (hts _ (atW_in hok)) hd KK
theorem sx_ldcS {j : Nat} (hd : decode (tb_b Y) pc = .ok (.ldc idx, 2)) (hf : tV (tb_o Y * 65536 + idx) = some (.inr j)) (hidx : idx < 65536) (k : SX l base D cA h0 Y (pc + 2) loc (.ref (g_a h j) :: stk) h bc bs Q) : SX l base D cA h0 Y pc loc stk h bc bs Q := by
  intro p e R s m args below meth c H locs cells slots mc ms ls S h1 h2 hl hr hs
  have KK := k p e R s m args below meth c H locs cells slots mc ms ls S h1 h2 hl hr hs
  obtain ⟨⟨hx, hb⟩, ⟨hml, hrt, hown, hts⟩, ⟨hlk, hin0, hsf, hbs, hst⟩, -, -⟩ := S
  obtain ⟨wi, hw⟩ := tV_of hf
  have hok := List.all_eq_true.mp okV_all _ hw
  simp only [okV, key_div hidx, key_mod hidx] at hok
  obtain ⟨x, x1, x2⟩ := List.any_eq_true.mp hok
  simp only [decide_eq_true_eq] at x2
  have hz := hsf.2.2.2.1 x x1
  rw [x2.1, x2.2.1, x2.2.2, ← hr.2.2.2.2.1 j] at hz
  exact va_ldcS hx hb hown hz hd KK
theorem tI_of {v : Nat × Nat × Nat × Nat} {q : Nat} (hf : tI q = some v) : ∃ ws, (q, v, ws) ∈ tI_l := by
  unfold tI at hf
  rw [Option.map_eq_some_iff] at hf
  obtain ⟨w, hw, rfl⟩ := hf
  obtain ⟨m1, m2⟩ := find_mem hw
  obtain ⟨w1, w2, w3⟩ := w
  simp only at m2
  subst m2
  exact ⟨w3, m1⟩
theorem tM_of {v : Nat × Nat × Nat × Nat} {q : Nat} (hf : tM q = some v) : ∃ ws, (q, v, ws) ∈ tM_l := by
  unfold tM at hf
  rw [Option.map_eq_some_iff] at hf
  obtain ⟨w, hw, rfl⟩ := hf
  obtain ⟨m1, m2⟩ := find_mem hw
  obtain ⟨w1, w2, w3⟩ := w
  simp only at m2
  subst m2
  exact ⟨w3, m1⟩
theorem sx_obj {Z n tag a : Nat} (hd : decode (tb_b Y) pc = .ok (.invokespecial idx, 3)) (hf : tI (tb_o Y * 65536 + idx) = some (Z, 6, n, tag)) (hidx : idx < 65536) (hrk : 2 ≤ tb_d Y) (hcs : (stk.map (fun v => v.category)).sum ≤ 8) (k : SX l base D cA h0 Y (pc + 3) loc stk h bc bs Q) : SX l base D cA h0 Y pc loc (.ref a :: stk) h bc bs Q := by
  intro p e R s m args below meth c H locs cells slots mc ms ls S h1 h2 hl hr hs
  have KK := k p e R s m args below meth c H locs cells slots mc ms ls S h1 h2 hl hr hs
  obtain ⟨⟨hx, hb⟩, ⟨hml, hrt, hown, hts⟩, ⟨hlk, hin0, hsf, hbs, hst⟩, ⟨hR1, hR2, hR3, hR4⟩, -⟩ := S
  obtain ⟨ws, hw⟩ := tI_of hf
  have hok := List.all_eq_true.mp okI6_all _ hw
  simp only [okI6, key_div hidx, key_mod hidx, if_pos] at hok
  match ws, hok with
  | [a, b, d], hok =>
    simp only [Bool.and_eq_true] at hok
    exact W.objInit hx hb hown (hts _ (atW_in hok.1)) (hts _ (atW_in hok.2.1)) (hts _ (atW_in hok.2.2)) rfl (by rw [hml]; exact hl.2.1) rfl hd (by omega) (by show 2 * 0 + _ + 12 ≤ _; omega) KK
theorem sx_copy {Z n9 tag a d : Nat} {n sp dp : Int32} (hd : decode (tb_b Y) pc = .ok (.invokestatic idx, 3)) (hf : tM (tb_o Y * 65536 + idx) = some (Z, 7, n9, tag)) (hidx : idx < 65536) (hrk : 3 ≤ tb_d Y) (hcs : (stk.map (fun v => v.category)).sum ≤ 8)
    (hca : g_c h a = 103) (hcd : g_c h d = 103) (hz : g_z h ≤ d) (g1 : ¬ sp < 0) (g2 : ¬ dp < 0) (g3 : ¬ n < 0) (g4 : sp.toNatClampNeg + n.toNatClampNeg ≤ g_n h a) (g5 : dp.toNatClampNeg + n.toNatClampNeg ≤ g_n h d)
    (k : SX l base D cA h0 Y (pc + 3) loc stk (p_C h d (va_cpy (g_i h a) (g_i h d) sp.toNatClampNeg dp.toNatClampNeg n.toNatClampNeg)) bc bs Q) : SX l base D cA h0 Y pc loc (.int n :: .int dp :: .ref d :: .int sp :: .ref a :: stk) h bc bs Q := by
  intro p e R s m args below meth c H locs cells slots mc ms ls S h1 h2 hl hr hs
  have S0 := S
  obtain ⟨⟨hx, hb⟩, ⟨hml, hrt, hown, hts⟩, ⟨hlk, hin0, hsf, hbs, hst⟩, ⟨hR1, hR2, hR3, hR4⟩, -⟩ := S
  obtain ⟨ws, hw⟩ := tM_of hf
  have hok := List.all_eq_true.mp okM7_all _ hw
  simp only [okM7, key_div hidx, key_mod hidx, if_pos] at hok
  have hdb : base ≤ d := by rw [← hr.2.1]; exact hz
  have hA := (hsf.1.2 2 _ rfl).1
  have hcell := hr.arr hdb hcd (by decide)
  have hfd := (hr.2.2.2.2.2.2 d hdb (by omega)).2.2 hcd
  have fin : ∀ (scr : Cell), H[a]? = some scr → s.isArrayOf scr .byte → scr.vm ≠ .unknown → g_n h a ≤ scr.slots.size → (∀ j : Nat, j < g_n h a → scr.slots[j]? = some (.int (g_i h a j))) → (∀ j, fits .byte (.int (g_i h a j)) = true) → W p l e R s m args below meth c H locs cells slots (vx_MQ below (QcO base D cA h0 Q) (XcO base D cA h0 Q) args s mc ms (Ab base)) (F0 m pc ls (.int n :: .int dp :: .ref d :: .int sp :: .ref a :: stk)) := by
    intro scr a1 a2 a3 a4 a5 a6
    match ws, hok with
    | [w1, w2, w3, w4], hok =>
      simp only [Bool.and_eq_true] at hok
      refine cp_raw hx hb (by rw [hml]; exact hl.2.1.symm) hown (hts _ (atW_in hok.1)) (hts _ (atW_in hok.2.1)) (hts _ (atW_in hok.2.2.1)) (hts _ (atW_in hok.2.2.2)) a1 a2 a3 a4 a5 (n1 := g_n h d) (g := g_i h d) hcell hA g1 g2 g3 g4 g5 a6 (by omega) (by
        have : nativeFrameWords "java/lang/System" "arraycopy" 5 + 11 ≤ 60 := by decide
        omega) hd fun H1 L e z oq hL => ?_
      refine k _ _ _ _ _ _ _ _ _ H1 _ _ _ _ _ _ S0 h1 h2 hl (hr.put hdb z oq sameB_C (cellR_arr (t := 103) hcd (by decide) (by decide) ?_ ?_)) ⟨by rw [z]; exact hs.1, fun q q1 q2 => (oq q (fun e => q2 (by rw [e]; exact hdb))).trans (hs.2.1 q q1 q2), fun q hq => ?_⟩
      · rw [e]
        have e2 : g_i (p_C h d (va_cpy (g_i h a) (g_i h d) sp.toNatClampNeg dp.toNatClampNeg n.toNatClampNeg)) d = va_cpy (g_i h a) (g_i h d) sp.toNatClampNeg dp.toNatClampNeg n.toNatClampNeg := by
          funext j
          rw [i_pC, if_pos rfl]
        unfold arO
        rw [e2]
        rfl
      · intro _ j
        rw [i_pC, if_pos rfl]
        unfold va_cpy
        split
        · exact a6 _
        · exact hfd j
      · rcases List.mem_append.mp hq with z9 | z9
        · exact hs.2.2 q z9
        · rw [hL q z9]; exact hdb
  by_cases hab : base ≤ a
  · have hca' := hr.arr hab hca (by decide)
    exact fin _ hca' (hA (g_n h a) (fun j => .int (g_i h a j))) (fun z => by cases z) (by show _ ≤ (arrV _ _ _).slots.size; rw [arrV_size]; exact Nat.le_refl _) (fun j hj => arrV_read _ _ hj) ((hr.2.2.2.2.2.2 a hab (by omega)).2.2 hca)
  · obtain ⟨b1, b2, b3, -⟩ := hr.2.2.2.2.2.1 a (by omega)
    rcases hsf.2.1 a (by omega) (by rw [← b1]; omega) with z | ⟨z1, ⟨scr, t1, t2, t3, t4, t5, t6, t7⟩, z3⟩ | z
    · have := z.1
      omega
    · exact fin scr (by rw [hs.2.1 a (Array.getElem?_eq_some_iff.mp t1).1 t7]; exact t1) t2 t3 (by rw [b2]; exact t4) (fun j hj => by rw [b3]; exact t6 j (by rw [← b2]; exact hj)) (fun j => by rw [b3]; exact z3 j)
    · have := z.1
      omega
theorem sx_clone {Z n9 tag a : Nat} (hd : decode (tb_b Y) pc = .ok (.invokevirtual idx, 3)) (hf : tM (tb_o Y * 65536 + idx) = some (Z, 8, n9, tag)) (hidx : idx < 65536) (hrk : 3 ≤ tb_d Y) (hcs : (stk.map (fun v => v.category)).sum ≤ 8)
    (hca : g_c h a = 103) (hz : g_z h ≤ a) (hbc : 1 ≤ bc) (hbn : g_n h a ≤ bs)
    (k : SX l base D cA h0 Y (pc + 3) loc (.ref (g_t h) :: stk) (p_C (p_N h 103 (g_n h a)) (g_t h) (g_i h a)) (bc - 1) (bs - g_n h a) Q) : SX l base D cA h0 Y pc loc (.ref a :: stk) h bc bs Q := by
  intro p e R s m args below meth c H locs cells slots mc ms ls S h1 h2 hl hr hs
  have S0 := S
  obtain ⟨⟨hx, hb⟩, ⟨hml, hrt, hown, hts⟩, ⟨hlk, hin0, hsf, hbs, hst⟩, ⟨hR1, hR2, hR3, hR4⟩, -⟩ := S
  obtain ⟨ws, hw⟩ := tM_of hf
  have hok := List.all_eq_true.mp okM7_all _ hw
  simp only [okM7, key_div hidx, key_mod hidx, if_pos, show ¬ (8 : Nat) = 7 by decide, if_false] at hok
  have hab : base ≤ a := by rw [← hr.2.1]; exact hz
  have hA := (hsf.1.2 2 _ rfl).1
  have hcell := hr.arr hab hca (by decide)
  have hfa := (hr.2.2.2.2.2.2 a hab (by omega)).2.2 hca
  match ws, hok with
  | [w1, w2, w3, w4, w5, w6], hok =>
    simp only [Bool.and_eq_true, decide_eq_true_eq] at hok
    refine cl_raw hx hb (by rw [hml]; exact hl.2.1.symm) hown (hts _ (atW_in hok.1)) (hts _ (atW_in hok.2.1)) (hts _ (atW_in hok.2.2.1)) (hts _ (atW_in hok.2.2.2.1)) (hts _ (atW_in hok.2.2.2.2.1)) (hsf.2.2.2.2.2.2.1 _ (List.mem_of_getElem? hok.2.2.2.2.2) rfl) hcell hA (hsf.1.2 2 _ rfl).2 (fun i v hv => ?_) (by omega) (by omega) (by omega) (by show slots + g_n h a ≤ _; omega) hd fun H1 e z oq => ?_
    · have hv' : (arrV (cA 103) (g_n h a) (fun j => .int (g_i h a j))).slots[i]? = some v := hv
      have hi : i < g_n h a := by
        have := (Array.getElem?_eq_some_iff.mp hv').1
        rwa [arrV_size] at this
      rw [arrV_read _ _ hi] at hv'
      cases hv'
      exact hfa i
    · rw [← hr.1]
      refine k _ _ _ _ _ _ _ _ _ H1 _ _ _ _ _ _ S0 (by omega) (by show slots + g_n h a + _ ≤ _; omega) hl ?_ (S_new hs z oq)
      have hn1 : Rel base D cA h0 (p_C (p_N h 103 (g_n h a)) (g_t h) (g_i h a)) H1 := by
        have hlt := fun b hb hc => Rel.lt (a := b) hr hb hc
        obtain ⟨r1, r2, r3, r4, r5, r6, r7⟩ := hr
        refine ⟨by show g_t h + 1 = _; rw [z, r1], r2, by omega, r4, r5, fun b hb => ?_, fun b hb hcb => ?_⟩
        · have hne : ¬ b = g_t h := by omega
          obtain ⟨u1, u2, u3, u4⟩ := r6 b hb
          exact ⟨by rw [c_pC, c_pN, if_neg hne]; exact u1, by rw [n_pC, n_pN, if_neg hne]; exact u2, fun k => by rw [i_pC, if_neg hne, i_pN, if_neg hne]; exact u3 k, fun k => by rw [r_pC, r_pN, if_neg hne]; exact u4 k⟩
        · by_cases hne : b = g_t h
          · subst hne
            refine cellR_arr (t := 103) (by rw [c_pC, c_pN, if_pos rfl]) (by decide) (by decide) ?_ ?_
            · rw [r1, e, ← r1]
              have e2 : g_i (p_C (p_N h 103 (g_n h a)) (g_t h) (g_i h a)) (g_t h) = g_i h a := by funext j; rw [i_pC, if_pos rfl]
              have e3 : g_n (p_C (p_N h 103 (g_n h a)) (g_t h) (g_i h a)) (g_t h) = g_n h a := by rw [n_pC, n_pN, if_pos rfl]
              unfold arO
              rw [e2, e3]
              rfl
            · intro _ j
              rw [i_pC, if_pos rfl]
              exact hfa j
          · rw [c_pC, c_pN, if_neg hne] at hcb
            exact cellR.kept (by rw [c_pC, c_pN, if_neg hne]) (by rw [n_pC, n_pN, if_neg hne]) (fun k => by rw [i_pC, if_neg hne, i_pN, if_neg hne]) (fun k => by rw [l_pC, l_pN, if_neg hne]) (fun k => by rw [r_pC, r_pN, if_neg hne]) (oq b (hlt b hb hcb)) (r7 b hb hcb)
      exact hn1
theorem sx_ckc {a : Nat} (hd : decode (tb_b Y) pc = .ok (.checkcast idx, 3)) (hf : tX (tb_o Y * 65536 + idx) = true) (hidx : idx < 65536) (hca : g_c h a = 103) (hz : g_z h ≤ a) (k : SX l base D cA h0 Y (pc + 3) loc (.ref a :: stk) h bc bs Q) : SX l base D cA h0 Y pc loc (.ref a :: stk) h bc bs Q := by
  intro p e R s m args below meth c H locs cells slots mc ms ls S h1 h2 hl hr hs
  have KK := k p e R s m args below meth c H locs cells slots mc ms ls S h1 h2 hl hr hs
  obtain ⟨⟨hx, hb⟩, ⟨hml, hrt, hown, hts⟩, ⟨hlk, hin0, hsf, hbs, hst⟩, -, -⟩ := S
  unfold tX at hf
  obtain ⟨w, w1, w2⟩ := List.any_eq_true.mp hf
  have hok := List.all_eq_true.mp okX_all _ w1
  simp only [beq_iff_eq] at w2
  simp only [okX, w2, key_div hidx, key_mod hidx] at hok
  have hP := P1 (D := D) (e := .inl (cA 103, arO h a 103)) (hr.arr (by rw [← hr.2.1]; exact hz) hca (by decide))
  exact va_castA hx hb hown (hts _ (atW_in hok)) hP 0 rfl (hsf.1.2 2 _ rfl).2 hd KK
theorem sx_min {Z n9 tag : Nat} {x y : Int32} (hd : decode (tb_b Y) pc = .ok (.invokestatic idx, 3)) (hf : tM (tb_o Y * 65536 + idx) = some (Z, 9, n9, tag)) (hidx : idx < 65536) (hrk : 2 ≤ tb_d Y) (hcs : (stk.map (fun v => v.category)).sum ≤ 8) (k : SX l base D cA h0 Y (pc + 3) loc (.int (if y < x then y else x) :: stk) h bc bs Q) : SX l base D cA h0 Y pc loc (.int y :: .int x :: stk) h bc bs Q := by
  intro p e R s m args below meth c H locs cells slots mc ms ls S h1 h2 hl hr hs
  have KK := k p e R s m args below meth c H locs cells slots mc ms ls S h1 h2 hl hr hs
  obtain ⟨⟨hx, hb⟩, ⟨hml, hrt, hown, hts⟩, ⟨hlk, hin0, hsf, hbs, hst⟩, ⟨hR1, hR2, hR3, hR4⟩, -⟩ := S
  obtain ⟨ws, hw⟩ := tM_of hf
  have hok := List.all_eq_true.mp okM7_all _ hw
  simp only [okM7, key_div hidx, key_mod hidx, if_pos, show ¬ (9 : Nat) = 7 by decide, show ¬ (9 : Nat) = 8 by decide, if_false] at hok
  match ws, hok with
  | [a, b, d], hok =>
    simp only [Bool.and_eq_true] at hok
    exact va_mmin hx hb (by rw [hml]; exact hl.2.1.symm) hown (hts _ (atW_in hok.1)) (hts _ (atW_in hok.2.1)) (hts _ (atW_in hok.2.2)) (hts _ (Wd_mem cw_min rfl)) (by omega) (by omega) (by omega) (by omega) hd KK
theorem sx_max {Z n9 tag : Nat} {x y : Int32} (hd : decode (tb_b Y) pc = .ok (.invokestatic idx, 3)) (hf : tM (tb_o Y * 65536 + idx) = some (Z, 10, n9, tag)) (hidx : idx < 65536) (hrk : 2 ≤ tb_d Y) (hcs : (stk.map (fun v => v.category)).sum ≤ 8) (k : SX l base D cA h0 Y (pc + 3) loc (.int (if x < y then y else x) :: stk) h bc bs Q) : SX l base D cA h0 Y pc loc (.int y :: .int x :: stk) h bc bs Q := by
  intro p e R s m args below meth c H locs cells slots mc ms ls S h1 h2 hl hr hs
  have KK := k p e R s m args below meth c H locs cells slots mc ms ls S h1 h2 hl hr hs
  obtain ⟨⟨hx, hb⟩, ⟨hml, hrt, hown, hts⟩, ⟨hlk, hin0, hsf, hbs, hst⟩, ⟨hR1, hR2, hR3, hR4⟩, -⟩ := S
  obtain ⟨ws, hw⟩ := tM_of hf
  have hok := List.all_eq_true.mp okM7_all _ hw
  simp only [okM7, key_div hidx, key_mod hidx, if_pos, show ¬ (10 : Nat) = 7 by decide, show ¬ (10 : Nat) = 8 by decide, show ¬ (10 : Nat) = 9 by decide, if_false] at hok
  match ws, hok with
  | [a, b, d], hok =>
    simp only [Bool.and_eq_true] at hok
    exact va_mmax hx hb (by rw [hml]; exact hl.2.1.symm) hown (hts _ (atW_in hok.1)) (hts _ (atW_in hok.2.1)) (hts _ (atW_in hok.2.2)) (hts _ (Wd_mem cw_max rfl)) (by omega) (by omega) (by omega) (by omega) hd KK
theorem sx_abs {Z n9 tag : Nat} {x : Int32} (hd : decode (tb_b Y) pc = .ok (.invokestatic idx, 3)) (hf : tM (tb_o Y * 65536 + idx) = some (Z, 11, n9, tag)) (hidx : idx < 65536) (hrk : 2 ≤ tb_d Y) (hcs : (stk.map (fun v => v.category)).sum ≤ 8) (k : SX l base D cA h0 Y (pc + 3) loc (.int (if 0 ≤ x then x else 0 - x) :: stk) h bc bs Q) : SX l base D cA h0 Y pc loc (.int x :: stk) h bc bs Q := by
  intro p e R s m args below meth c H locs cells slots mc ms ls S h1 h2 hl hr hs
  have KK := k p e R s m args below meth c H locs cells slots mc ms ls S h1 h2 hl hr hs
  obtain ⟨⟨hx, hb⟩, ⟨hml, hrt, hown, hts⟩, ⟨hlk, hin0, hsf, hbs, hst⟩, ⟨hR1, hR2, hR3, hR4⟩, -⟩ := S
  obtain ⟨ws, hw⟩ := tM_of hf
  have hok := List.all_eq_true.mp okM7_all _ hw
  simp only [okM7, key_div hidx, key_mod hidx, if_pos, show ¬ (11 : Nat) = 7 by decide, show ¬ (11 : Nat) = 8 by decide, show ¬ (11 : Nat) = 9 by decide, show ¬ (11 : Nat) = 10 by decide, if_false] at hok
  match ws, hok with
  | [a, b, d], hok =>
    simp only [Bool.and_eq_true] at hok
    exact va_mabs hx hb (by rw [hml]; exact hl.2.1.symm) hown (hts _ (atW_in hok.1)) (hts _ (atW_in hok.2.1)) (hts _ (atW_in hok.2.2)) (hts _ (Wd_mem cw_abs rfl)) (by omega) (by omega) (by omega) (by omega) hd KK
end SXF
end

section
/-! contracts out of the small machine; calls -/
def okZ (Z : Nat) : Bool := decide (Z < NM ∧ Z ≠ LAW ∧ (tb_y Z).cls = cn (tb_o Z) ∧ plainName (tb_y Z).cls = true ∧ (tb_i Z = 1 → (tb_y Z).name = "<init>") ∧ (tb_y Z).cls ≠ "java/lang/invoke/MethodHandle" ∧ (tb_y Z).cls ≠ "java/lang/invoke/VarHandle" ∧ tb_m Z ≤ 21 ∧ 11 ≤ tb_d Z)
theorem cwd_in {Z : Nat} (h : okZ Z = true) : cwd Z ∈ Wd := by
  simp only [okZ, decide_eq_true_eq] at h
  refine Wd_mem (cw_of h.1 h.2.1) ?_
  unfold cwd
  by_cases hh : hhY Z = []
  · rw [if_pos hh]; rfl
  · rw [if_neg hh]; rfl
def wsZ (Z : Nat) : List Cond := cwd Z :: Wd
def rmZ (Z mc ms : Nat) : Room := { frames := tb_d Z, cells := mc, slots := ms, locals := 40 * tb_d Z }
theorem wsZ_in {Z : Nat} (h : okZ Z = true) : ∀ w ∈ wsZ Z, w ∈ Wd := by
  intro w hw
  rcases List.mem_cons.mp hw with z | z
  · rw [z]; exact cwd_in h
  · exact z
theorem wsZ_0 {Z : Nat} (hh : hhY Z = []) : wsZ Z = Cond.code (tb_y Z) (tb_b Z) (tb_m Z) (tb_r Z) :: Wd := by unfold wsZ cwd; rw [if_pos hh]
theorem wsZ_1 {Z : Nat} (hh : ¬ hhY Z = []) : wsZ Z = Cond.codeWith (tb_y Z) (tb_b Z) (tb_m Z) (tb_r Z) (hhY Z) :: Wd := by unfold wsZ cwd; rw [if_neg hh]
def PcO (base : Nat) (D : va_G) (cA : Nat → ClassId) (h0 : MH) (as : List Value) (h : MH) : Array Value → State → Prop := fun v U => v = as.toArray ∧ Rel base D cA h0 h U.heap ∧ SF base D cA h0 U U.heap ∧ base ≤ U.heap.size
section SXG
variable {l : Launch} {base : Nat} {D : va_G} {cA : Nat → ClassId} {h0 : MH}
theorem PcO_blind {as : List Value} {h : MH} : FrameBlind (PcO base D cA h0 as h) := fun _ U _ _ q => ⟨q.1, q.2.1, q.2.2.1.go (State.WarmedH.refl U) (fun _ _ _ => rfl), q.2.2.2⟩
theorem SX_met {Z : Nat} {as : List Value} {h : MH} {mc ms : Nat} {Q1 : MR → MH → Prop} (hst : l.stackTraces = false) (hz : okZ Z = true) (hm : (ent as).length ≤ tb_m Z) (k : SX l base D cA h0 Z 0 (entN (tb_m Z) as) [] h mc ms Q1) :
    vx_Met l (tb_y Z) (wsZ Z) (rmZ Z mc ms) (PcO base D cA h0 as h) (QcO base D cA h0 Q1) (XcO base D cA h0 Q1) mc ms (Ab base) := by
  have hz2 := hz
  simp only [okZ, decide_eq_true_eq] at hz2
  obtain ⟨-, -, z1, z2, z3, z4, z5, z6, z7⟩ := hz2
  have body : ∀ p e s m args below meth c s₁, BodyLoose p l (tb_y Z) (headSpec (wsZ Z) (rmZ Z mc ms)) (tb_b Z) (tb_m Z) (tb_r Z) e s m args below meth c s₁ → c.maxLocals = tb_m Z → c.exceptionTable.toList = tableOf (hhY Z) → PcO base D cA h0 as h args s →
      W p l e (headSpec (wsZ Z) (rmZ Z mc ms)).room s m args below meth c s.heap [] 0 0 (vx_MQ below (QcO base D cA h0 Q1) (XcO base D cA h0 Q1) args s mc ms (Ab base)) (entryFrame m args (tb_m Z)) := by
    intro p e s m args below meth c s₁ B hml htab hp
    obtain ⟨rfl, hr, hsf, hbs⟩ := hp
    have hts := atoms_spec (ws := wsZ Z) B.pre
    rw [lg_entry_eq]
    exact k p e _ s m _ below meth c s.heap [] 0 0 mc ms _ ⟨⟨B.exec, B.bytes⟩, ⟨hml, B.returns, by rw [← z1]; exact findClass_of_methodNamed B.named, fun w hw => hts w (List.mem_cons_of_mem _ hw)⟩, ⟨B.notSynchronized, fun hi => ((name_of_methodNamed B.named B.method).1).trans (z3 hi), hsf, hbs, hst⟩, ⟨Nat.le_refl _, Nat.le_refl _, Nat.le_refl _, Nat.le_refl _⟩, z7, htab⟩ (by omega) (by omega) (RL_entry hm) hr va_S.rf
  by_cases hh : hhY Z = []
  · refine vx_ofW z2 (wsZ_0 hh) (fun p e s m args below meth c s₁ B hml hex hp => body p e s m args below meth c s₁ B hml ?_ hp)
    rw [hh]
    exact List.eq_nil_iff_forall_not_mem.mpr (fun x hx => hex x hx)
  · refine vx_ofWH z2 (wsZ_1 hh) (fun p e s m args below meth c s₁ B hml hp => body p e s m args below meth c s₁ B hml ?_ hp)
    have hts := atoms_spec (ws := wsZ Z) B.pre
    exact vx_table (x := tb_y Z) B (hts _ (by rw [wsZ_1 hh]; exact List.mem_cons_self))
variable {p : Program} {e : Env} {R : Room} {s : State} {m : MethodId} {args : Array Value} {below : List Frame} {meth : Method} {c : Code} {H : Heap} {locs : List Loc} {cells slots : Nat}
theorem run_go {mcZ msZ pc : Nat} {ls : Array Slot} {stk rest : List Value} {G : State → Prop} {a : Array Value} {Q1 : MR → MH → Prop} (hr : vx_Run p l e R s m args below meth c H locs cells slots mcZ msZ (F0 m pc ls stk) rest (QcO base D cA h0 Q1 a) (XcO base D cA h0 Q1) (Ab base)) (hS : va_S (Ab base) s.heap H locs)
    (kx : ∀ (En : Nat) (h' : MH) (ce : Cell) (q : Nat) (H1 : Heap) (locs1 : List Loc), Q1 (.inr En) h' → Rel base D cA h0 h' H1 → va_S (Ab base) s.heap H1 locs1 → H1[q]? = some ce → ce.vm = .none → s.vm.findClass (exN En) = some ce.cls → vx_W p l e R s m args below meth c H1 locs1 (cells + mcZ) (slots + msZ) G (F0 m pc ls rest) q)
    (kk : ∀ (v : Option Value) (h' : MH) (H1 : Heap) (locs1 : List Loc), Q1 (.inl v) h' → Rel base D cA h0 h' H1 → va_S (Ab base) s.heap H1 locs1 → W p l e R s m args below meth c H1 locs1 (cells + mcZ) (slots + msZ) G (F0 m (pc + 3) ls (v.toList ++ rest))) : W p l e R s m args below meth c H locs cells slots G (F0 m pc ls stk) := by
  intro T hT X
  rcases hr T hT X with ⟨v, st₀, t, T', L, g0, X', hL, e1, e2, hq, st⟩ | ⟨q, st₀, t, T', L, E, ce, g0, X', hL, e1, e2, hx, hce, hcv, hcl, st⟩
  · obtain ⟨v', h', hv, hQ, hR, hF⟩ := hq
    cases hv
    obtain ⟨k1, k2, k3⟩ := vx_keep (A1 := Ab base) (free := Ab base) g0 e1 hS (fun _ _ z => z) (fun _ z => z) hL hF
    obtain ⟨t2, a1, b1⟩ := kk v h' T'.heap (locs ++ L) hQ (by rw [e1]; exact hR) k3 T' rfl X'
    exact ⟨t2, st t2 a1, b1⟩
  · obtain ⟨En, h', hE, hQ, hR, hF⟩ := hx
    subst hE
    obtain ⟨k1, k2, k3⟩ := vx_keep (A1 := Ab base) (free := Ab base) g0 e1 hS (fun _ _ z => z) (fun _ z => z) hL hF
    obtain ⟨t2, a1, b1⟩ := kx En h' ce q T'.heap (locs ++ L) hQ (by rw [e1]; exact hR) k3 (by rw [e1]; exact hce) hcv hcl T' rfl X'
    exact ⟨t2, st.trans a1, b1⟩
end SXG
end
