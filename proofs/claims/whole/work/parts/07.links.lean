/-! links: words by their places, classes, fields, calls (written by wip/whole/gen02.py) -/
theorem tw_1 : (Cond.initialized "DagLedger") ∈ wd_tb := wd_in (wd_c0 (List.mem_of_getElem? (i := 1) rfl)) rfl
theorem tw_2 : (Cond.initialized "DagLedger$Transfers") ∈ wd_tb := wd_in (wd_c0 (List.mem_of_getElem? (i := 2) rfl)) rfl
theorem tw_3 : (Cond.initialized "DagLedger$Vertices") ∈ wd_tb := wd_in (wd_c0 (List.mem_of_getElem? (i := 3) rfl)) rfl
theorem tw_4 : (Cond.initialized "DagLedger$Board") ∈ wd_tb := wd_in (wd_c0 (List.mem_of_getElem? (i := 4) rfl)) rfl
theorem tw_5 : (Cond.initialized "DagLedger$Replica") ∈ wd_tb := wd_in (wd_c0 (List.mem_of_getElem? (i := 5) rfl)) rfl
theorem tw_6 : (Cond.initialized "DagLedger$Disk") ∈ wd_tb := wd_in (wd_c0 (List.mem_of_getElem? (i := 6) rfl)) rfl
theorem tw_7 : (Cond.initialized "DagLedger$Notes") ∈ wd_tb := wd_in (wd_c0 (List.mem_of_getElem? (i := 7) rfl)) rfl
theorem tw_8 : (Cond.initialized "DagLedger$Dag") ∈ wd_tb := wd_in (wd_c0 (List.mem_of_getElem? (i := 8) rfl)) rfl
theorem tw_9 : (Cond.initialized "java/util/Arrays") ∈ wd_tb := wd_in (wd_c0 (List.mem_of_getElem? (i := 9) rfl)) rfl
theorem tw_10 : (Cond.initialized "DagLedger$Book") ∈ wd_tb := wd_in (wd_c0 (List.mem_of_getElem? (i := 10) rfl)) rfl
theorem tw_11 : (Cond.initialized "DagLedger$Commits") ∈ wd_tb := wd_in (wd_c0 (List.mem_of_getElem? (i := 11) rfl)) rfl
theorem tw_12 : (Cond.initialized "DagLedgerModel") ∈ wd_tb := wd_in (wd_c0 (List.mem_of_getElem? (i := 12) rfl)) rfl
theorem tw_18 : (Cond.initialized "java/lang/Integer") ∈ wd_tb := wd_in (wd_c0 (List.mem_of_getElem? (i := 18) rfl)) rfl
theorem tw_19 : (Cond.initialized "java/lang/Math") ∈ wd_tb := wd_in (wd_c0 (List.mem_of_getElem? (i := 19) rfl)) rfl
theorem tw_34 : (Cond.fieldLink "DagLedger$Transfers" (9 : Nat) "DagLedger$Transfers" "froms" "[I") ∈ wd_tb := wd_in (wd_c0 (List.mem_of_getElem? (i := 34) rfl)) rfl
theorem tw_35 : (Cond.fieldLink "DagLedger$Book" (41 : Nat) "DagLedger$Transfers" "froms" "[I") ∈ wd_tb := wd_in (wd_c0 (List.mem_of_getElem? (i := 35) rfl)) rfl
theorem tw_36 : (Cond.fieldLink "DagLedger$Transfers" (15 : Nat) "DagLedger$Transfers" "tos" "[I") ∈ wd_tb := wd_in (wd_c0 (List.mem_of_getElem? (i := 36) rfl)) rfl
theorem tw_37 : (Cond.fieldLink "DagLedger$Book" (44 : Nat) "DagLedger$Transfers" "tos" "[I") ∈ wd_tb := wd_in (wd_c0 (List.mem_of_getElem? (i := 37) rfl)) rfl
theorem tw_38 : (Cond.fieldLink "DagLedger$Transfers" (18 : Nat) "DagLedger$Transfers" "amounts" "[I") ∈ wd_tb := wd_in (wd_c0 (List.mem_of_getElem? (i := 38) rfl)) rfl
theorem tw_39 : (Cond.fieldLink "DagLedger$Book" (36 : Nat) "DagLedger$Transfers" "amounts" "[I") ∈ wd_tb := wd_in (wd_c0 (List.mem_of_getElem? (i := 39) rfl)) rfl
theorem tw_40 : (Cond.fieldLink "DagLedger$Transfers" (21 : Nat) "DagLedger$Transfers" "count" "I") ∈ wd_tb := wd_in (wd_c0 (List.mem_of_getElem? (i := 40) rfl)) rfl
theorem tw_41 : (Cond.laysFinal "DagLedger$Transfers" "DagLedger$Transfers" "froms" "[I") ∈ wd_tb := wd_in (wd_c0 (List.mem_of_getElem? (i := 41) rfl)) rfl
theorem tw_43 : (Cond.laysFinal "DagLedger$Transfers" "DagLedger$Transfers" "tos" "[I") ∈ wd_tb := wd_in (wd_c0 (List.mem_of_getElem? (i := 43) rfl)) rfl
theorem tw_45 : (Cond.laysFinal "DagLedger$Transfers" "DagLedger$Transfers" "amounts" "[I") ∈ wd_tb := wd_in (wd_c0 (List.mem_of_getElem? (i := 45) rfl)) rfl
theorem tw_47 : (Cond.lays "DagLedger$Transfers" "DagLedger$Transfers" "count" "I") ∈ wd_tb := wd_in (wd_c0 (List.mem_of_getElem? (i := 47) rfl)) rfl
theorem tw_57 : (Cond.fieldLink "DagLedger$Vertices" (9 : Nat) "DagLedger$Vertices" "authors" "[I") ∈ wd_tb := wd_in (wd_c0 (List.mem_of_getElem? (i := 57) rfl)) rfl
theorem tw_58 : (Cond.fieldLink "DagLedger$Dag" (37 : Nat) "DagLedger$Vertices" "authors" "[I") ∈ wd_tb := wd_in (wd_c0 (List.mem_of_getElem? (i := 58) rfl)) rfl
theorem tw_59 : (Cond.fieldLink "DagLedger$Replica" (126 : Nat) "DagLedger$Vertices" "authors" "[I") ∈ wd_tb := wd_in (wd_c0 (List.mem_of_getElem? (i := 59) rfl)) rfl
theorem tw_60 : (Cond.fieldLink "DagLedger" (127 : Nat) "DagLedger$Vertices" "authors" "[I") ∈ wd_tb := wd_in (wd_c0 (List.mem_of_getElem? (i := 60) rfl)) rfl
theorem tw_61 : (Cond.fieldLink "DagLedger$Vertices" (15 : Nat) "DagLedger$Vertices" "rounds" "[I") ∈ wd_tb := wd_in (wd_c0 (List.mem_of_getElem? (i := 61) rfl)) rfl
theorem tw_62 : (Cond.fieldLink "DagLedger$Dag" (28 : Nat) "DagLedger$Vertices" "rounds" "[I") ∈ wd_tb := wd_in (wd_c0 (List.mem_of_getElem? (i := 62) rfl)) rfl
theorem tw_63 : (Cond.fieldLink "DagLedger$Replica" (131 : Nat) "DagLedger$Vertices" "rounds" "[I") ∈ wd_tb := wd_in (wd_c0 (List.mem_of_getElem? (i := 63) rfl)) rfl
theorem tw_64 : (Cond.fieldLink "DagLedger" (130 : Nat) "DagLedger$Vertices" "rounds" "[I") ∈ wd_tb := wd_in (wd_c0 (List.mem_of_getElem? (i := 64) rfl)) rfl
theorem tw_65 : (Cond.fieldLink "DagLedger$Vertices" (18 : Nat) "DagLedger$Vertices" "parents" "[I") ∈ wd_tb := wd_in (wd_c0 (List.mem_of_getElem? (i := 65) rfl)) rfl
theorem tw_66 : (Cond.fieldLink "DagLedger$Dag" (44 : Nat) "DagLedger$Vertices" "parents" "[I") ∈ wd_tb := wd_in (wd_c0 (List.mem_of_getElem? (i := 66) rfl)) rfl
theorem tw_67 : (Cond.fieldLink "DagLedger" (133 : Nat) "DagLedger$Vertices" "parents" "[I") ∈ wd_tb := wd_in (wd_c0 (List.mem_of_getElem? (i := 67) rfl)) rfl
theorem tw_68 : (Cond.fieldLink "DagLedger$Vertices" (21 : Nat) "DagLedger$Vertices" "firsts" "[I") ∈ wd_tb := wd_in (wd_c0 (List.mem_of_getElem? (i := 68) rfl)) rfl
theorem tw_69 : (Cond.fieldLink "DagLedger$Commits" (71 : Nat) "DagLedger$Vertices" "firsts" "[I") ∈ wd_tb := wd_in (wd_c0 (List.mem_of_getElem? (i := 69) rfl)) rfl
theorem tw_70 : (Cond.fieldLink "DagLedger" (136 : Nat) "DagLedger$Vertices" "firsts" "[I") ∈ wd_tb := wd_in (wd_c0 (List.mem_of_getElem? (i := 70) rfl)) rfl
theorem tw_71 : (Cond.fieldLink "DagLedger$Vertices" (24 : Nat) "DagLedger$Vertices" "seconds" "[I") ∈ wd_tb := wd_in (wd_c0 (List.mem_of_getElem? (i := 71) rfl)) rfl
theorem tw_72 : (Cond.fieldLink "DagLedger$Commits" (82 : Nat) "DagLedger$Vertices" "seconds" "[I") ∈ wd_tb := wd_in (wd_c0 (List.mem_of_getElem? (i := 72) rfl)) rfl
theorem tw_73 : (Cond.fieldLink "DagLedger" (139 : Nat) "DagLedger$Vertices" "seconds" "[I") ∈ wd_tb := wd_in (wd_c0 (List.mem_of_getElem? (i := 73) rfl)) rfl
theorem tw_74 : (Cond.fieldLink "DagLedger$Vertices" (27 : Nat) "DagLedger$Vertices" "count" "I") ∈ wd_tb := wd_in (wd_c0 (List.mem_of_getElem? (i := 74) rfl)) rfl
theorem tw_75 : (Cond.laysFinal "DagLedger$Vertices" "DagLedger$Vertices" "authors" "[I") ∈ wd_tb := wd_in (wd_c0 (List.mem_of_getElem? (i := 75) rfl)) rfl
theorem tw_77 : (Cond.laysFinal "DagLedger$Vertices" "DagLedger$Vertices" "rounds" "[I") ∈ wd_tb := wd_in (wd_c0 (List.mem_of_getElem? (i := 77) rfl)) rfl
theorem tw_79 : (Cond.laysFinal "DagLedger$Vertices" "DagLedger$Vertices" "parents" "[I") ∈ wd_tb := wd_in (wd_c0 (List.mem_of_getElem? (i := 79) rfl)) rfl
theorem tw_81 : (Cond.laysFinal "DagLedger$Vertices" "DagLedger$Vertices" "firsts" "[I") ∈ wd_tb := wd_in (wd_c0 (List.mem_of_getElem? (i := 81) rfl)) rfl
theorem tw_83 : (Cond.laysFinal "DagLedger$Vertices" "DagLedger$Vertices" "seconds" "[I") ∈ wd_tb := wd_in (wd_c0 (List.mem_of_getElem? (i := 83) rfl)) rfl
theorem tw_85 : (Cond.lays "DagLedger$Vertices" "DagLedger$Vertices" "count" "I") ∈ wd_tb := wd_in (wd_c0 (List.mem_of_getElem? (i := 85) rfl)) rfl
theorem tw_94 : (Cond.fieldLink "DagLedger$Board" (9 : Nat) "DagLedger$Board" "kinds" "[I") ∈ wd_tb := wd_in (wd_c0 (List.mem_of_getElem? (i := 94) rfl)) rfl
theorem tw_95 : (Cond.fieldLink "DagLedger$Replica" (113 : Nat) "DagLedger$Board" "kinds" "[I") ∈ wd_tb := wd_in (wd_c0 (List.mem_of_getElem? (i := 95) rfl)) rfl
theorem tw_96 : (Cond.fieldLink "DagLedger" (117 : Nat) "DagLedger$Board" "kinds" "[I") ∈ wd_tb := wd_in (wd_c0 (List.mem_of_getElem? (i := 96) rfl)) rfl
theorem tw_97 : (Cond.fieldLink "DagLedger$Board" (15 : Nat) "DagLedger$Board" "senders" "[I") ∈ wd_tb := wd_in (wd_c0 (List.mem_of_getElem? (i := 97) rfl)) rfl
theorem tw_98 : (Cond.fieldLink "DagLedger$Replica" (110 : Nat) "DagLedger$Board" "senders" "[I") ∈ wd_tb := wd_in (wd_c0 (List.mem_of_getElem? (i := 98) rfl)) rfl
theorem tw_99 : (Cond.fieldLink "DagLedger" (121 : Nat) "DagLedger$Board" "senders" "[I") ∈ wd_tb := wd_in (wd_c0 (List.mem_of_getElem? (i := 99) rfl)) rfl
theorem tw_100 : (Cond.fieldLink "DagLedger$Board" (18 : Nat) "DagLedger$Board" "subjects" "[I") ∈ wd_tb := wd_in (wd_c0 (List.mem_of_getElem? (i := 100) rfl)) rfl
theorem tw_101 : (Cond.fieldLink "DagLedger$Replica" (104 : Nat) "DagLedger$Board" "subjects" "[I") ∈ wd_tb := wd_in (wd_c0 (List.mem_of_getElem? (i := 101) rfl)) rfl
theorem tw_102 : (Cond.fieldLink "DagLedger" (124 : Nat) "DagLedger$Board" "subjects" "[I") ∈ wd_tb := wd_in (wd_c0 (List.mem_of_getElem? (i := 102) rfl)) rfl
theorem tw_103 : (Cond.fieldLink "DagLedger$Board" (21 : Nat) "DagLedger$Board" "count" "I") ∈ wd_tb := wd_in (wd_c0 (List.mem_of_getElem? (i := 103) rfl)) rfl
theorem tw_104 : (Cond.laysFinal "DagLedger$Board" "DagLedger$Board" "kinds" "[I") ∈ wd_tb := wd_in (wd_c0 (List.mem_of_getElem? (i := 104) rfl)) rfl
theorem tw_106 : (Cond.laysFinal "DagLedger$Board" "DagLedger$Board" "senders" "[I") ∈ wd_tb := wd_in (wd_c0 (List.mem_of_getElem? (i := 106) rfl)) rfl
theorem tw_108 : (Cond.laysFinal "DagLedger$Board" "DagLedger$Board" "subjects" "[I") ∈ wd_tb := wd_in (wd_c0 (List.mem_of_getElem? (i := 108) rfl)) rfl
theorem tw_110 : (Cond.lays "DagLedger$Board" "DagLedger$Board" "count" "I") ∈ wd_tb := wd_in (wd_c0 (List.mem_of_getElem? (i := 110) rfl)) rfl
theorem tw_126 : (Cond.fieldLink "DagLedger$Disk" (9 : Nat) "DagLedger$Disk" "own" "[I") ∈ wd_tb := wd_in (wd_c0 (List.mem_of_getElem? (i := 126) rfl)) rfl
theorem tw_127 : (Cond.fieldLink "DagLedger$Disk" (21 : Nat) "DagLedger$Disk" "ownCount" "I") ∈ wd_tb := wd_in (wd_c0 (List.mem_of_getElem? (i := 127) rfl)) rfl
theorem tw_128 : (Cond.fieldLink "DagLedger$Disk" (25 : Nat) "DagLedger$Disk" "queueHead" "I") ∈ wd_tb := wd_in (wd_c0 (List.mem_of_getElem? (i := 128) rfl)) rfl
theorem tw_129 : (Cond.fieldLink "DagLedger$Disk" (15 : Nat) "DagLedger$Disk" "echoedRounds" "[I") ∈ wd_tb := wd_in (wd_c0 (List.mem_of_getElem? (i := 129) rfl)) rfl
theorem tw_130 : (Cond.fieldLink "DagLedger$Replica" (138 : Nat) "DagLedger$Disk" "echoedRounds" "[I") ∈ wd_tb := wd_in (wd_c0 (List.mem_of_getElem? (i := 130) rfl)) rfl
theorem tw_131 : (Cond.fieldLink "DagLedger$Disk" (18 : Nat) "DagLedger$Disk" "readiedRounds" "[I") ∈ wd_tb := wd_in (wd_c0 (List.mem_of_getElem? (i := 131) rfl)) rfl
theorem tw_132 : (Cond.fieldLink "DagLedger$Replica" (163 : Nat) "DagLedger$Disk" "readiedRounds" "[I") ∈ wd_tb := wd_in (wd_c0 (List.mem_of_getElem? (i := 132) rfl)) rfl
theorem tw_133 : (Cond.fieldLink "DagLedger" (142 : Nat) "DagLedger$Disk" "round" "I") ∈ wd_tb := wd_in (wd_c0 (List.mem_of_getElem? (i := 133) rfl)) rfl
theorem tw_134 : (Cond.fieldLink "DagLedger$Replica" (199 : Nat) "DagLedger$Disk" "round" "I") ∈ wd_tb := wd_in (wd_c0 (List.mem_of_getElem? (i := 134) rfl)) rfl
theorem tw_135 : (Cond.fieldLink "DagLedger$Replica" (92 : Nat) "DagLedger$Disk" "records" "I") ∈ wd_tb := wd_in (wd_c0 (List.mem_of_getElem? (i := 135) rfl)) rfl
theorem tw_136 : (Cond.fieldLink "DagLedger" (177 : Nat) "DagLedger$Disk" "records" "I") ∈ wd_tb := wd_in (wd_c0 (List.mem_of_getElem? (i := 136) rfl)) rfl
theorem tw_137 : (Cond.laysFinal "DagLedger$Disk" "DagLedger$Disk" "own" "[I") ∈ wd_tb := wd_in (wd_c0 (List.mem_of_getElem? (i := 137) rfl)) rfl
theorem tw_139 : (Cond.lays "DagLedger$Disk" "DagLedger$Disk" "ownCount" "I") ∈ wd_tb := wd_in (wd_c0 (List.mem_of_getElem? (i := 139) rfl)) rfl
theorem tw_141 : (Cond.lays "DagLedger$Disk" "DagLedger$Disk" "queueHead" "I") ∈ wd_tb := wd_in (wd_c0 (List.mem_of_getElem? (i := 141) rfl)) rfl
theorem tw_143 : (Cond.laysFinal "DagLedger$Disk" "DagLedger$Disk" "echoedRounds" "[I") ∈ wd_tb := wd_in (wd_c0 (List.mem_of_getElem? (i := 143) rfl)) rfl
theorem tw_145 : (Cond.laysFinal "DagLedger$Disk" "DagLedger$Disk" "readiedRounds" "[I") ∈ wd_tb := wd_in (wd_c0 (List.mem_of_getElem? (i := 145) rfl)) rfl
theorem tw_147 : (Cond.lays "DagLedger$Disk" "DagLedger$Disk" "round" "I") ∈ wd_tb := wd_in (wd_c0 (List.mem_of_getElem? (i := 147) rfl)) rfl
theorem tw_149 : (Cond.lays "DagLedger$Disk" "DagLedger$Disk" "records" "I") ∈ wd_tb := wd_in (wd_c0 (List.mem_of_getElem? (i := 149) rfl)) rfl
theorem tw_158 : (Cond.fieldLink "DagLedger$Notes" (9 : Nat) "DagLedger$Notes" "echoes" "[I") ∈ wd_tb := wd_in (wd_c0 (List.mem_of_getElem? (i := 158) rfl)) rfl
theorem tw_159 : (Cond.fieldLink "DagLedger$Notes" (15 : Nat) "DagLedger$Notes" "readies" "[I") ∈ wd_tb := wd_in (wd_c0 (List.mem_of_getElem? (i := 159) rfl)) rfl
theorem tw_160 : (Cond.fieldLink "DagLedger$Notes" (18 : Nat) "DagLedger$Notes" "waiting" "[I") ∈ wd_tb := wd_in (wd_c0 (List.mem_of_getElem? (i := 160) rfl)) rfl
theorem tw_161 : (Cond.fieldLink "DagLedger$Replica" (181 : Nat) "DagLedger$Notes" "waiting" "[I") ∈ wd_tb := wd_in (wd_c0 (List.mem_of_getElem? (i := 161) rfl)) rfl
theorem tw_162 : (Cond.fieldLink "DagLedger$Notes" (27 : Nat) "DagLedger$Notes" "waitingCount" "I") ∈ wd_tb := wd_in (wd_c0 (List.mem_of_getElem? (i := 162) rfl)) rfl
theorem tw_163 : (Cond.fieldLink "DagLedger$Replica" (178 : Nat) "DagLedger$Notes" "waitingCount" "I") ∈ wd_tb := wd_in (wd_c0 (List.mem_of_getElem? (i := 163) rfl)) rfl
theorem tw_164 : (Cond.laysFinal "DagLedger$Notes" "DagLedger$Notes" "echoes" "[I") ∈ wd_tb := wd_in (wd_c0 (List.mem_of_getElem? (i := 164) rfl)) rfl
theorem tw_166 : (Cond.laysFinal "DagLedger$Notes" "DagLedger$Notes" "readies" "[I") ∈ wd_tb := wd_in (wd_c0 (List.mem_of_getElem? (i := 166) rfl)) rfl
theorem tw_168 : (Cond.laysFinal "DagLedger$Notes" "DagLedger$Notes" "waiting" "[I") ∈ wd_tb := wd_in (wd_c0 (List.mem_of_getElem? (i := 168) rfl)) rfl
theorem tw_170 : (Cond.lays "DagLedger$Notes" "DagLedger$Notes" "waitingCount" "I") ∈ wd_tb := wd_in (wd_c0 (List.mem_of_getElem? (i := 170) rfl)) rfl
theorem tw_179 : (Cond.methodLink "DagLedger$Dag" (22 : Nat) ({ cls := "java/util/Arrays", name := "fill", desc := "([II)V" } : MethodName)) ∈ wd_tb := wd_in (wd_c0 (List.mem_of_getElem? (i := 179) rfl)) rfl
theorem tw_180 : (Cond.static ({ cls := "java/util/Arrays", name := "fill", desc := "([II)V" } : MethodName)) ∈ wd_tb := wd_in (wd_c0 (List.mem_of_getElem? (i := 180) rfl)) rfl
theorem tw_181 : (Cond.code ({ cls := "java/util/Arrays", name := "fill", desc := "([II)V" } : MethodName) prog_21_method_103_code (4 : Nat) (Option.none : Option FieldType)) ∈ wd_tb := wd_in (wd_c0 (List.mem_of_getElem? (i := 181) rfl)) rfl
theorem tw_182 : (Cond.fieldLink "DagLedger$Dag" (18 : Nat) "DagLedger$Dag" "vertices" "LDagLedger$Vertices;") ∈ wd_tb := wd_in (wd_c0 (List.mem_of_getElem? (i := 182) rfl)) rfl
theorem tw_183 : (Cond.fieldLink "DagLedger$Dag" (9 : Nat) "DagLedger$Dag" "slots" "[I") ∈ wd_tb := wd_in (wd_c0 (List.mem_of_getElem? (i := 183) rfl)) rfl
theorem tw_184 : (Cond.fieldLink "DagLedger$Dag" (15 : Nat) "DagLedger$Dag" "authorSets" "[I") ∈ wd_tb := wd_in (wd_c0 (List.mem_of_getElem? (i := 184) rfl)) rfl
theorem tw_185 : (Cond.fieldLink "DagLedger$Dag" (47 : Nat) "DagLedger$Dag" "count" "I") ∈ wd_tb := wd_in (wd_c0 (List.mem_of_getElem? (i := 185) rfl)) rfl
theorem tw_186 : (Cond.fieldLink "DagLedger" (161 : Nat) "DagLedger$Dag" "count" "I") ∈ wd_tb := wd_in (wd_c0 (List.mem_of_getElem? (i := 186) rfl)) rfl
theorem tw_187 : (Cond.laysFinal "DagLedger$Dag" "DagLedger$Dag" "vertices" "LDagLedger$Vertices;") ∈ wd_tb := wd_in (wd_c0 (List.mem_of_getElem? (i := 187) rfl)) rfl
theorem tw_189 : (Cond.laysFinal "DagLedger$Dag" "DagLedger$Dag" "slots" "[I") ∈ wd_tb := wd_in (wd_c0 (List.mem_of_getElem? (i := 189) rfl)) rfl
theorem tw_191 : (Cond.laysFinal "DagLedger$Dag" "DagLedger$Dag" "authorSets" "[I") ∈ wd_tb := wd_in (wd_c0 (List.mem_of_getElem? (i := 191) rfl)) rfl
theorem tw_193 : (Cond.lays "DagLedger$Dag" "DagLedger$Dag" "count" "I") ∈ wd_tb := wd_in (wd_c0 (List.mem_of_getElem? (i := 193) rfl)) rfl
theorem tw_202 : (Cond.methodLink "DagLedger$Book" (22 : Nat) ({ cls := "java/util/Arrays", name := "fill", desc := "([II)V" } : MethodName)) ∈ wd_tb := wd_in (wd_c0 (List.mem_of_getElem? (i := 202) rfl)) rfl
theorem tw_203 : (Cond.fieldLink "DagLedger$Book" (18 : Nat) "DagLedger$Book" "transfers" "LDagLedger$Transfers;") ∈ wd_tb := wd_in (wd_c0 (List.mem_of_getElem? (i := 203) rfl)) rfl
theorem tw_204 : (Cond.fieldLink "DagLedger$Book" (9 : Nat) "DagLedger$Book" "order" "[I") ∈ wd_tb := wd_in (wd_c0 (List.mem_of_getElem? (i := 204) rfl)) rfl
theorem tw_205 : (Cond.fieldLink "DagLedger" (184 : Nat) "DagLedger$Book" "order" "[I") ∈ wd_tb := wd_in (wd_c0 (List.mem_of_getElem? (i := 205) rfl)) rfl
theorem tw_206 : (Cond.fieldLink "DagLedger$Book" (32 : Nat) "DagLedger$Book" "count" "I") ∈ wd_tb := wd_in (wd_c0 (List.mem_of_getElem? (i := 206) rfl)) rfl
theorem tw_207 : (Cond.fieldLink "DagLedger" (170 : Nat) "DagLedger$Book" "count" "I") ∈ wd_tb := wd_in (wd_c0 (List.mem_of_getElem? (i := 207) rfl)) rfl
theorem tw_208 : (Cond.fieldLink "DagLedger$Book" (28 : Nat) "DagLedger$Book" "placed" "J") ∈ wd_tb := wd_in (wd_c0 (List.mem_of_getElem? (i := 208) rfl)) rfl
theorem tw_209 : (Cond.fieldLink "DagLedger$Book" (15 : Nat) "DagLedger$Book" "balances" "[I") ∈ wd_tb := wd_in (wd_c0 (List.mem_of_getElem? (i := 209) rfl)) rfl
theorem tw_210 : (Cond.fieldLink "DagLedger" (187 : Nat) "DagLedger$Book" "balances" "[I") ∈ wd_tb := wd_in (wd_c0 (List.mem_of_getElem? (i := 210) rfl)) rfl
theorem tw_211 : (Cond.laysFinal "DagLedger$Book" "DagLedger$Book" "transfers" "LDagLedger$Transfers;") ∈ wd_tb := wd_in (wd_c0 (List.mem_of_getElem? (i := 211) rfl)) rfl
theorem tw_213 : (Cond.laysFinal "DagLedger$Book" "DagLedger$Book" "order" "[I") ∈ wd_tb := wd_in (wd_c0 (List.mem_of_getElem? (i := 213) rfl)) rfl
theorem tw_215 : (Cond.lays "DagLedger$Book" "DagLedger$Book" "count" "I") ∈ wd_tb := wd_in (wd_c0 (List.mem_of_getElem? (i := 215) rfl)) rfl
theorem tw_217 : (Cond.lays "DagLedger$Book" "DagLedger$Book" "placed" "J") ∈ wd_tb := wd_in (wd_c0 (List.mem_of_getElem? (i := 217) rfl)) rfl
theorem tw_219 : (Cond.laysFinal "DagLedger$Book" "DagLedger$Book" "balances" "[I") ∈ wd_tb := wd_in (wd_c0 (List.mem_of_getElem? (i := 219) rfl)) rfl
theorem tw_228 : (Cond.fieldLink "DagLedger$Commits" (18 : Nat) "DagLedger$Commits" "vertices" "LDagLedger$Vertices;") ∈ wd_tb := wd_in (wd_c0 (List.mem_of_getElem? (i := 228) rfl)) rfl
theorem tw_229 : (Cond.fieldLink "DagLedger$Commits" (22 : Nat) "DagLedger$Commits" "dag" "LDagLedger$Dag;") ∈ wd_tb := wd_in (wd_c0 (List.mem_of_getElem? (i := 229) rfl)) rfl
theorem tw_230 : (Cond.fieldLink "DagLedger$Commits" (26 : Nat) "DagLedger$Commits" "book" "LDagLedger$Book;") ∈ wd_tb := wd_in (wd_c0 (List.mem_of_getElem? (i := 230) rfl)) rfl
theorem tw_231 : (Cond.fieldLink "DagLedger$Commits" (9 : Nat) "DagLedger$Commits" "emitted" "[I") ∈ wd_tb := wd_in (wd_c0 (List.mem_of_getElem? (i := 231) rfl)) rfl
theorem tw_232 : (Cond.fieldLink "DagLedger$Commits" (15 : Nat) "DagLedger$Commits" "reached" "[I") ∈ wd_tb := wd_in (wd_c0 (List.mem_of_getElem? (i := 232) rfl)) rfl
theorem tw_233 : (Cond.fieldLink "DagLedger$Commits" (38 : Nat) "DagLedger$Commits" "last" "I") ∈ wd_tb := wd_in (wd_c0 (List.mem_of_getElem? (i := 233) rfl)) rfl
theorem tw_234 : (Cond.fieldLink "DagLedger" (152 : Nat) "DagLedger$Commits" "last" "I") ∈ wd_tb := wd_in (wd_c0 (List.mem_of_getElem? (i := 234) rfl)) rfl
theorem tw_235 : (Cond.laysFinal "DagLedger$Commits" "DagLedger$Commits" "vertices" "LDagLedger$Vertices;") ∈ wd_tb := wd_in (wd_c0 (List.mem_of_getElem? (i := 235) rfl)) rfl
theorem tw_237 : (Cond.laysFinal "DagLedger$Commits" "DagLedger$Commits" "dag" "LDagLedger$Dag;") ∈ wd_tb := wd_in (wd_c0 (List.mem_of_getElem? (i := 237) rfl)) rfl
theorem tw_239 : (Cond.laysFinal "DagLedger$Commits" "DagLedger$Commits" "book" "LDagLedger$Book;") ∈ wd_tb := wd_in (wd_c0 (List.mem_of_getElem? (i := 239) rfl)) rfl
theorem tw_241 : (Cond.laysFinal "DagLedger$Commits" "DagLedger$Commits" "emitted" "[I") ∈ wd_tb := wd_in (wd_c1 (List.mem_of_getElem? (i := 1) rfl)) rfl
theorem tw_243 : (Cond.laysFinal "DagLedger$Commits" "DagLedger$Commits" "reached" "[I") ∈ wd_tb := wd_in (wd_c1 (List.mem_of_getElem? (i := 3) rfl)) rfl
theorem tw_245 : (Cond.lays "DagLedger$Commits" "DagLedger$Commits" "last" "I") ∈ wd_tb := wd_in (wd_c1 (List.mem_of_getElem? (i := 5) rfl)) rfl
theorem tw_248 : (Cond.fieldLink "DagLedger$Replica" (29 : Nat) "DagLedger$Replica" "id" "I") ∈ wd_tb := wd_in (wd_c1 (List.mem_of_getElem? (i := 8) rfl)) rfl
theorem tw_249 : (Cond.fieldLink "DagLedger$Replica" (32 : Nat) "DagLedger$Replica" "board" "LDagLedger$Board;") ∈ wd_tb := wd_in (wd_c1 (List.mem_of_getElem? (i := 9) rfl)) rfl
theorem tw_250 : (Cond.fieldLink "DagLedger$Replica" (36 : Nat) "DagLedger$Replica" "vertices" "LDagLedger$Vertices;") ∈ wd_tb := wd_in (wd_c1 (List.mem_of_getElem? (i := 10) rfl)) rfl
theorem tw_251 : (Cond.fieldLink "DagLedger$Replica" (12 : Nat) "DagLedger$Replica" "disk" "LDagLedger$Disk;") ∈ wd_tb := wd_in (wd_c1 (List.mem_of_getElem? (i := 11) rfl)) rfl
theorem tw_252 : (Cond.fieldLink "DagLedger" (62 : Nat) "DagLedger$Replica" "disk" "LDagLedger$Disk;") ∈ wd_tb := wd_in (wd_c1 (List.mem_of_getElem? (i := 12) rfl)) rfl
theorem tw_253 : (Cond.fieldLink "DagLedger$Replica" (21 : Nat) "DagLedger$Replica" "notes" "LDagLedger$Notes;") ∈ wd_tb := wd_in (wd_c1 (List.mem_of_getElem? (i := 13) rfl)) rfl
theorem tw_254 : (Cond.fieldLink "DagLedger$Replica" (45 : Nat) "DagLedger$Replica" "dag" "LDagLedger$Dag;") ∈ wd_tb := wd_in (wd_c1 (List.mem_of_getElem? (i := 14) rfl)) rfl
theorem tw_255 : (Cond.fieldLink "DagLedger" (157 : Nat) "DagLedger$Replica" "dag" "LDagLedger$Dag;") ∈ wd_tb := wd_in (wd_c1 (List.mem_of_getElem? (i := 15) rfl)) rfl
theorem tw_256 : (Cond.fieldLink "DagLedger$Replica" (54 : Nat) "DagLedger$Replica" "book" "LDagLedger$Book;") ∈ wd_tb := wd_in (wd_c1 (List.mem_of_getElem? (i := 16) rfl)) rfl
theorem tw_257 : (Cond.fieldLink "DagLedger" (166 : Nat) "DagLedger$Replica" "book" "LDagLedger$Book;") ∈ wd_tb := wd_in (wd_c1 (List.mem_of_getElem? (i := 17) rfl)) rfl
theorem tw_258 : (Cond.fieldLink "DagLedger$Replica" (63 : Nat) "DagLedger$Replica" "commits" "LDagLedger$Commits;") ∈ wd_tb := wd_in (wd_c1 (List.mem_of_getElem? (i := 18) rfl)) rfl
theorem tw_259 : (Cond.fieldLink "DagLedger" (148 : Nat) "DagLedger$Replica" "commits" "LDagLedger$Commits;") ∈ wd_tb := wd_in (wd_c1 (List.mem_of_getElem? (i := 19) rfl)) rfl
theorem tw_260 : (Cond.fieldLink "DagLedger$Replica" (25 : Nat) "DagLedger$Replica" "state" "I") ∈ wd_tb := wd_in (wd_c1 (List.mem_of_getElem? (i := 20) rfl)) rfl
theorem tw_261 : (Cond.fieldLink "DagLedger" (94 : Nat) "DagLedger$Replica" "state" "I") ∈ wd_tb := wd_in (wd_c1 (List.mem_of_getElem? (i := 21) rfl)) rfl
theorem tw_262 : (Cond.fieldLink "DagLedger$Replica" (71 : Nat) "DagLedger$Replica" "mark" "I") ∈ wd_tb := wd_in (wd_c1 (List.mem_of_getElem? (i := 22) rfl)) rfl
theorem tw_263 : (Cond.fieldLink "DagLedger" (85 : Nat) "DagLedger$Replica" "mark" "I") ∈ wd_tb := wd_in (wd_c1 (List.mem_of_getElem? (i := 23) rfl)) rfl
theorem tw_264 : (Cond.fieldLink "DagLedger$Replica" (74 : Nat) "DagLedger$Replica" "timer" "I") ∈ wd_tb := wd_in (wd_c1 (List.mem_of_getElem? (i := 24) rfl)) rfl
theorem tw_265 : (Cond.fieldLink "DagLedger" (145 : Nat) "DagLedger$Replica" "timer" "I") ∈ wd_tb := wd_in (wd_c1 (List.mem_of_getElem? (i := 25) rfl)) rfl
theorem tw_266 : (Cond.fieldLink "DagLedger$Replica" (67 : Nat) "DagLedger$Replica" "cutIsSet" "Z") ∈ wd_tb := wd_in (wd_c1 (List.mem_of_getElem? (i := 26) rfl)) rfl
theorem tw_267 : (Cond.fieldLink "DagLedger$Replica" (86 : Nat) "DagLedger$Replica" "recordsBeforeCut" "I") ∈ wd_tb := wd_in (wd_c1 (List.mem_of_getElem? (i := 27) rfl)) rfl
theorem tw_268 : (Cond.laysFinal "DagLedger$Replica" "DagLedger$Replica" "id" "I") ∈ wd_tb := wd_in (wd_c1 (List.mem_of_getElem? (i := 28) rfl)) rfl
theorem tw_270 : (Cond.laysFinal "DagLedger$Replica" "DagLedger$Replica" "board" "LDagLedger$Board;") ∈ wd_tb := wd_in (wd_c1 (List.mem_of_getElem? (i := 30) rfl)) rfl
theorem tw_272 : (Cond.laysFinal "DagLedger$Replica" "DagLedger$Replica" "vertices" "LDagLedger$Vertices;") ∈ wd_tb := wd_in (wd_c1 (List.mem_of_getElem? (i := 32) rfl)) rfl
theorem tw_274 : (Cond.laysFinal "DagLedger$Replica" "DagLedger$Replica" "disk" "LDagLedger$Disk;") ∈ wd_tb := wd_in (wd_c1 (List.mem_of_getElem? (i := 34) rfl)) rfl
theorem tw_276 : (Cond.laysFinal "DagLedger$Replica" "DagLedger$Replica" "notes" "LDagLedger$Notes;") ∈ wd_tb := wd_in (wd_c1 (List.mem_of_getElem? (i := 36) rfl)) rfl
theorem tw_278 : (Cond.laysFinal "DagLedger$Replica" "DagLedger$Replica" "dag" "LDagLedger$Dag;") ∈ wd_tb := wd_in (wd_c1 (List.mem_of_getElem? (i := 38) rfl)) rfl
theorem tw_280 : (Cond.laysFinal "DagLedger$Replica" "DagLedger$Replica" "book" "LDagLedger$Book;") ∈ wd_tb := wd_in (wd_c1 (List.mem_of_getElem? (i := 40) rfl)) rfl
theorem tw_282 : (Cond.laysFinal "DagLedger$Replica" "DagLedger$Replica" "commits" "LDagLedger$Commits;") ∈ wd_tb := wd_in (wd_c1 (List.mem_of_getElem? (i := 42) rfl)) rfl
theorem tw_284 : (Cond.lays "DagLedger$Replica" "DagLedger$Replica" "state" "I") ∈ wd_tb := wd_in (wd_c1 (List.mem_of_getElem? (i := 44) rfl)) rfl
theorem tw_286 : (Cond.lays "DagLedger$Replica" "DagLedger$Replica" "mark" "I") ∈ wd_tb := wd_in (wd_c1 (List.mem_of_getElem? (i := 46) rfl)) rfl
theorem tw_288 : (Cond.lays "DagLedger$Replica" "DagLedger$Replica" "timer" "I") ∈ wd_tb := wd_in (wd_c1 (List.mem_of_getElem? (i := 48) rfl)) rfl
theorem tw_290 : (Cond.lays "DagLedger$Replica" "DagLedger$Replica" "cutIsSet" "Z") ∈ wd_tb := wd_in (wd_c1 (List.mem_of_getElem? (i := 50) rfl)) rfl
theorem tw_292 : (Cond.lays "DagLedger$Replica" "DagLedger$Replica" "recordsBeforeCut" "I") ∈ wd_tb := wd_in (wd_c1 (List.mem_of_getElem? (i := 52) rfl)) rfl
theorem tw_295 : (Cond.fieldLink "DagLedger" (12 : Nat) "DagLedger" "transfers" "LDagLedger$Transfers;") ∈ wd_tb := wd_in (wd_c1 (List.mem_of_getElem? (i := 55) rfl)) rfl
theorem tw_296 : (Cond.fieldLink "DagLedger" (19 : Nat) "DagLedger" "vertices" "LDagLedger$Vertices;") ∈ wd_tb := wd_in (wd_c1 (List.mem_of_getElem? (i := 56) rfl)) rfl
theorem tw_297 : (Cond.fieldLink "DagLedger" (26 : Nat) "DagLedger" "board" "LDagLedger$Board;") ∈ wd_tb := wd_in (wd_c1 (List.mem_of_getElem? (i := 57) rfl)) rfl
theorem tw_298 : (Cond.fieldLink "DagLedger" (32 : Nat) "DagLedger" "replicas" "[LDagLedger$Replica;") ∈ wd_tb := wd_in (wd_c1 (List.mem_of_getElem? (i := 58) rfl)) rfl
theorem tw_299 : (Cond.fieldLink "DagLedger" (39 : Nat) "DagLedger" "faulty" "I") ∈ wd_tb := wd_in (wd_c1 (List.mem_of_getElem? (i := 59) rfl)) rfl
theorem tw_300 : (Cond.laysFinal "DagLedger" "DagLedger" "transfers" "LDagLedger$Transfers;") ∈ wd_tb := wd_in (wd_c1 (List.mem_of_getElem? (i := 60) rfl)) rfl
theorem tw_302 : (Cond.laysFinal "DagLedger" "DagLedger" "vertices" "LDagLedger$Vertices;") ∈ wd_tb := wd_in (wd_c1 (List.mem_of_getElem? (i := 62) rfl)) rfl
theorem tw_304 : (Cond.laysFinal "DagLedger" "DagLedger" "board" "LDagLedger$Board;") ∈ wd_tb := wd_in (wd_c1 (List.mem_of_getElem? (i := 64) rfl)) rfl
theorem tw_306 : (Cond.laysFinal "DagLedger" "DagLedger" "replicas" "[LDagLedger$Replica;") ∈ wd_tb := wd_in (wd_c1 (List.mem_of_getElem? (i := 66) rfl)) rfl
theorem tw_308 : (Cond.lays "DagLedger" "DagLedger" "faulty" "I") ∈ wd_tb := wd_in (wd_c1 (List.mem_of_getElem? (i := 68) rfl)) rfl
theorem tw_311 : (Cond.methodLink "DagLedgerLaw" (91 : Nat) ({ cls := "DagLedger", name := "forge", desc := "(IIII)I" } : MethodName)) ∈ wd_tb := wd_in (wd_c1 (List.mem_of_getElem? (i := 71) rfl)) rfl
theorem tw_312 : (Cond.instanceMethod ({ cls := "DagLedger", name := "forge", desc := "(IIII)I" } : MethodName)) ∈ wd_tb := wd_in (wd_c1 (List.mem_of_getElem? (i := 72) rfl)) rfl
theorem tw_313 : (Cond.selects "DagLedger" ({ cls := "DagLedger", name := "forge", desc := "(IIII)I" } : MethodName) ({ cls := "DagLedger", name := "forge", desc := "(IIII)I" } : MethodName)) ∈ wd_tb := wd_in (wd_c1 (List.mem_of_getElem? (i := 73) rfl)) rfl
theorem tw_314 : (Cond.code ({ cls := "DagLedger", name := "forge", desc := "(IIII)I" } : MethodName) prog_1_method_10_code (6 : Nat) (Option.some FieldType.int)) ∈ wd_tb := wd_in (wd_c1 (List.mem_of_getElem? (i := 74) rfl)) rfl
theorem tw_315 : (Cond.methodLink "DagLedger" (106 : Nat) ({ cls := "DagLedger", name := "isTransferOrNone", desc := "(I)Z" } : MethodName)) ∈ wd_tb := wd_in (wd_c1 (List.mem_of_getElem? (i := 75) rfl)) rfl
theorem tw_317 : (Cond.instanceMethod ({ cls := "DagLedger", name := "isTransferOrNone", desc := "(I)Z" } : MethodName)) ∈ wd_tb := wd_in (wd_c1 (List.mem_of_getElem? (i := 77) rfl)) rfl
theorem tw_318 : (Cond.code ({ cls := "DagLedger", name := "isTransferOrNone", desc := "(I)Z" } : MethodName) prog_1_method_20_code (2 : Nat) (Option.some FieldType.boolean)) ∈ wd_tb := wd_in (wd_c1 (List.mem_of_getElem? (i := 78) rfl)) rfl
theorem tw_319 : (Cond.methodLink "DagLedger" (202 : Nat) ({ cls := "DagLedger$Transfers", name := "has", desc := "(I)Z" } : MethodName)) ∈ wd_tb := wd_in (wd_c1 (List.mem_of_getElem? (i := 79) rfl)) rfl
theorem tw_320 : (Cond.instanceMethod ({ cls := "DagLedger$Transfers", name := "has", desc := "(I)Z" } : MethodName)) ∈ wd_tb := wd_in (wd_c1 (List.mem_of_getElem? (i := 80) rfl)) rfl
theorem tw_321 : (Cond.selects "DagLedger$Transfers" ({ cls := "DagLedger$Transfers", name := "has", desc := "(I)Z" } : MethodName) ({ cls := "DagLedger$Transfers", name := "has", desc := "(I)Z" } : MethodName)) ∈ wd_tb := wd_in (wd_c1 (List.mem_of_getElem? (i := 81) rfl)) rfl
theorem tw_322 : (Cond.code ({ cls := "DagLedger$Transfers", name := "has", desc := "(I)Z" } : MethodName) prog_9_method_2_code (2 : Nat) (Option.some FieldType.boolean)) ∈ wd_tb := wd_in (wd_c1 (List.mem_of_getElem? (i := 82) rfl)) rfl
theorem tw_323 : (Cond.methodLink "DagLedger" (109 : Nat) ({ cls := "DagLedger$Vertices", name := "isFull", desc := "()Z" } : MethodName)) ∈ wd_tb := wd_in (wd_c1 (List.mem_of_getElem? (i := 83) rfl)) rfl
theorem tw_324 : (Cond.instanceMethod ({ cls := "DagLedger$Vertices", name := "isFull", desc := "()Z" } : MethodName)) ∈ wd_tb := wd_in (wd_c1 (List.mem_of_getElem? (i := 84) rfl)) rfl
theorem tw_325 : (Cond.selects "DagLedger$Vertices" ({ cls := "DagLedger$Vertices", name := "isFull", desc := "()Z" } : MethodName) ({ cls := "DagLedger$Vertices", name := "isFull", desc := "()Z" } : MethodName)) ∈ wd_tb := wd_in (wd_c1 (List.mem_of_getElem? (i := 85) rfl)) rfl
theorem tw_326 : (Cond.code ({ cls := "DagLedger$Vertices", name := "isFull", desc := "()Z" } : MethodName) prog_10_method_3_code (1 : Nat) (Option.some FieldType.boolean)) ∈ wd_tb := wd_in (wd_c1 (List.mem_of_getElem? (i := 86) rfl)) rfl
theorem tw_327 : (Cond.methodLink "DagLedger" (81 : Nat) ({ cls := "DagLedger$Board", name := "isFull", desc := "()Z" } : MethodName)) ∈ wd_tb := wd_in (wd_c1 (List.mem_of_getElem? (i := 87) rfl)) rfl
theorem tw_328 : (Cond.instanceMethod ({ cls := "DagLedger$Board", name := "isFull", desc := "()Z" } : MethodName)) ∈ wd_tb := wd_in (wd_c1 (List.mem_of_getElem? (i := 88) rfl)) rfl
theorem tw_329 : (Cond.selects "DagLedger$Board" ({ cls := "DagLedger$Board", name := "isFull", desc := "()Z" } : MethodName) ({ cls := "DagLedger$Board", name := "isFull", desc := "()Z" } : MethodName)) ∈ wd_tb := wd_in (wd_c1 (List.mem_of_getElem? (i := 89) rfl)) rfl
theorem tw_330 : (Cond.code ({ cls := "DagLedger$Board", name := "isFull", desc := "()Z" } : MethodName) prog_2_method_3_code (1 : Nat) (Option.some FieldType.boolean)) ∈ wd_tb := wd_in (wd_c1 (List.mem_of_getElem? (i := 90) rfl)) rfl
theorem tw_331 : (Cond.methodLink "DagLedger" (110 : Nat) ({ cls := "DagLedger$Vertices", name := "add", desc := "(IIIII)I" } : MethodName)) ∈ wd_tb := wd_in (wd_c1 (List.mem_of_getElem? (i := 91) rfl)) rfl
theorem tw_332 : (Cond.instanceMethod ({ cls := "DagLedger$Vertices", name := "add", desc := "(IIIII)I" } : MethodName)) ∈ wd_tb := wd_in (wd_c1 (List.mem_of_getElem? (i := 92) rfl)) rfl
theorem tw_333 : (Cond.selects "DagLedger$Vertices" ({ cls := "DagLedger$Vertices", name := "add", desc := "(IIIII)I" } : MethodName) ({ cls := "DagLedger$Vertices", name := "add", desc := "(IIIII)I" } : MethodName)) ∈ wd_tb := wd_in (wd_c1 (List.mem_of_getElem? (i := 93) rfl)) rfl
theorem tw_334 : (Cond.code ({ cls := "DagLedger$Vertices", name := "add", desc := "(IIIII)I" } : MethodName) prog_10_method_4_code (6 : Nat) (Option.some FieldType.int)) ∈ wd_tb := wd_in (wd_c1 (List.mem_of_getElem? (i := 94) rfl)) rfl
theorem tw_335 : (Cond.methodLink "DagLedger" (113 : Nat) ({ cls := "DagLedger$Board", name := "post", desc := "(III)I" } : MethodName)) ∈ wd_tb := wd_in (wd_c1 (List.mem_of_getElem? (i := 95) rfl)) rfl
theorem tw_336 : (Cond.instanceMethod ({ cls := "DagLedger$Board", name := "post", desc := "(III)I" } : MethodName)) ∈ wd_tb := wd_in (wd_c1 (List.mem_of_getElem? (i := 96) rfl)) rfl
theorem tw_337 : (Cond.selects "DagLedger$Board" ({ cls := "DagLedger$Board", name := "post", desc := "(III)I" } : MethodName) ({ cls := "DagLedger$Board", name := "post", desc := "(III)I" } : MethodName)) ∈ wd_tb := wd_in (wd_c1 (List.mem_of_getElem? (i := 97) rfl)) rfl
theorem tw_338 : (Cond.code ({ cls := "DagLedger$Board", name := "post", desc := "(III)I" } : MethodName) prog_2_method_4_code (4 : Nat) (Option.some FieldType.int)) ∈ wd_tb := wd_in (wd_c1 (List.mem_of_getElem? (i := 98) rfl)) rfl
theorem tw_339 : (Cond.methodLink "DagLedgerLaw" (95 : Nat) ({ cls := "DagLedger", name := "send", desc := "(II)I" } : MethodName)) ∈ wd_tb := wd_in (wd_c1 (List.mem_of_getElem? (i := 99) rfl)) rfl
theorem tw_340 : (Cond.instanceMethod ({ cls := "DagLedger", name := "send", desc := "(II)I" } : MethodName)) ∈ wd_tb := wd_in (wd_c1 (List.mem_of_getElem? (i := 100) rfl)) rfl
theorem tw_341 : (Cond.selects "DagLedger" ({ cls := "DagLedger", name := "send", desc := "(II)I" } : MethodName) ({ cls := "DagLedger", name := "send", desc := "(II)I" } : MethodName)) ∈ wd_tb := wd_in (wd_c1 (List.mem_of_getElem? (i := 101) rfl)) rfl
theorem tw_342 : (Cond.code ({ cls := "DagLedger", name := "send", desc := "(II)I" } : MethodName) prog_1_method_11_code (3 : Nat) (Option.some FieldType.int)) ∈ wd_tb := wd_in (wd_c1 (List.mem_of_getElem? (i := 102) rfl)) rfl
theorem tw_343 : (Cond.methodLink "DagLedger" (116 : Nat) ({ cls := "DagLedger$Vertices", name := "has", desc := "(I)Z" } : MethodName)) ∈ wd_tb := wd_in (wd_c1 (List.mem_of_getElem? (i := 103) rfl)) rfl
theorem tw_344 : (Cond.instanceMethod ({ cls := "DagLedger$Vertices", name := "has", desc := "(I)Z" } : MethodName)) ∈ wd_tb := wd_in (wd_c1 (List.mem_of_getElem? (i := 104) rfl)) rfl
theorem tw_345 : (Cond.selects "DagLedger$Vertices" ({ cls := "DagLedger$Vertices", name := "has", desc := "(I)Z" } : MethodName) ({ cls := "DagLedger$Vertices", name := "has", desc := "(I)Z" } : MethodName)) ∈ wd_tb := wd_in (wd_c1 (List.mem_of_getElem? (i := 105) rfl)) rfl
theorem tw_346 : (Cond.code ({ cls := "DagLedger$Vertices", name := "has", desc := "(I)Z" } : MethodName) prog_10_method_2_code (2 : Nat) (Option.some FieldType.boolean)) ∈ wd_tb := wd_in (wd_c1 (List.mem_of_getElem? (i := 106) rfl)) rfl
theorem tw_347 : (Cond.methodLink "DagLedgerLaw" (99 : Nat) ({ cls := "DagLedger", name := "message", desc := "(II)I" } : MethodName)) ∈ wd_tb := wd_in (wd_c1 (List.mem_of_getElem? (i := 107) rfl)) rfl
theorem tw_348 : (Cond.instanceMethod ({ cls := "DagLedger", name := "message", desc := "(II)I" } : MethodName)) ∈ wd_tb := wd_in (wd_c1 (List.mem_of_getElem? (i := 108) rfl)) rfl
theorem tw_349 : (Cond.selects "DagLedger" ({ cls := "DagLedger", name := "message", desc := "(II)I" } : MethodName) ({ cls := "DagLedger", name := "message", desc := "(II)I" } : MethodName)) ∈ wd_tb := wd_in (wd_c1 (List.mem_of_getElem? (i := 109) rfl)) rfl
theorem tw_350 : (Cond.code ({ cls := "DagLedger", name := "message", desc := "(II)I" } : MethodName) prog_1_method_12_code (3 : Nat) (Option.some FieldType.int)) ∈ wd_tb := wd_in (wd_c1 (List.mem_of_getElem? (i := 110) rfl)) rfl
theorem tw_351 : (Cond.methodLink "DagLedger" (75 : Nat) ({ cls := "DagLedger$Board", name := "has", desc := "(I)Z" } : MethodName)) ∈ wd_tb := wd_in (wd_c1 (List.mem_of_getElem? (i := 111) rfl)) rfl
theorem tw_352 : (Cond.instanceMethod ({ cls := "DagLedger$Board", name := "has", desc := "(I)Z" } : MethodName)) ∈ wd_tb := wd_in (wd_c1 (List.mem_of_getElem? (i := 112) rfl)) rfl
theorem tw_353 : (Cond.selects "DagLedger$Board" ({ cls := "DagLedger$Board", name := "has", desc := "(I)Z" } : MethodName) ({ cls := "DagLedger$Board", name := "has", desc := "(I)Z" } : MethodName)) ∈ wd_tb := wd_in (wd_c1 (List.mem_of_getElem? (i := 113) rfl)) rfl
theorem tw_354 : (Cond.code ({ cls := "DagLedger$Board", name := "has", desc := "(I)Z" } : MethodName) prog_2_method_2_code (2 : Nat) (Option.some FieldType.boolean)) ∈ wd_tb := wd_in (wd_c1 (List.mem_of_getElem? (i := 114) rfl)) rfl
theorem tw_355 : (Cond.methodLink "DagLedgerLaw" (103 : Nat) ({ cls := "DagLedger", name := "vertex", desc := "(II)I" } : MethodName)) ∈ wd_tb := wd_in (wd_c1 (List.mem_of_getElem? (i := 115) rfl)) rfl
theorem tw_356 : (Cond.instanceMethod ({ cls := "DagLedger", name := "vertex", desc := "(II)I" } : MethodName)) ∈ wd_tb := wd_in (wd_c1 (List.mem_of_getElem? (i := 116) rfl)) rfl
theorem tw_357 : (Cond.selects "DagLedger" ({ cls := "DagLedger", name := "vertex", desc := "(II)I" } : MethodName) ({ cls := "DagLedger", name := "vertex", desc := "(II)I" } : MethodName)) ∈ wd_tb := wd_in (wd_c1 (List.mem_of_getElem? (i := 117) rfl)) rfl
theorem tw_358 : (Cond.code ({ cls := "DagLedger", name := "vertex", desc := "(II)I" } : MethodName) prog_1_method_13_code (3 : Nat) (Option.some FieldType.int)) ∈ wd_tb := wd_in (wd_c1 (List.mem_of_getElem? (i := 118) rfl)) rfl
theorem tw_364 : (Cond.methodLink "DagLedgerLaw" (7 : Nat) ({ cls := "DagLedger", name := "submit", desc := "(IIII)I" } : MethodName)) ∈ wd_tb := wd_in (wd_c1 (List.mem_of_getElem? (i := 124) rfl)) rfl
theorem tw_365 : (Cond.instanceMethod ({ cls := "DagLedger", name := "submit", desc := "(IIII)I" } : MethodName)) ∈ wd_tb := wd_in (wd_c1 (List.mem_of_getElem? (i := 125) rfl)) rfl
theorem tw_366 : (Cond.selects "DagLedger" ({ cls := "DagLedger", name := "submit", desc := "(IIII)I" } : MethodName) ({ cls := "DagLedger", name := "submit", desc := "(IIII)I" } : MethodName)) ∈ wd_tb := wd_in (wd_c1 (List.mem_of_getElem? (i := 126) rfl)) rfl
theorem tw_367 : (Cond.code ({ cls := "DagLedger", name := "submit", desc := "(IIII)I" } : MethodName) prog_1_method_2_code (7 : Nat) (Option.some FieldType.int)) ∈ wd_tb := wd_in (wd_c1 (List.mem_of_getElem? (i := 127) rfl)) rfl
theorem tw_368 : (Cond.methodLink "DagLedger" (43 : Nat) ({ cls := "DagLedger", name := "upReplica", desc := "(I)LDagLedger$Replica;" } : MethodName)) ∈ wd_tb := wd_in (wd_c1 (List.mem_of_getElem? (i := 128) rfl)) rfl
theorem tw_370 : (Cond.instanceMethod ({ cls := "DagLedger", name := "upReplica", desc := "(I)LDagLedger$Replica;" } : MethodName)) ∈ wd_tb := wd_in (wd_c1 (List.mem_of_getElem? (i := 130) rfl)) rfl
theorem tw_371 : (Cond.code ({ cls := "DagLedger", name := "upReplica", desc := "(I)LDagLedger$Replica;" } : MethodName) prog_1_method_19_code (3 : Nat) (Option.some (FieldType.object "DagLedger$Replica"))) ∈ wd_tb := wd_in (wd_c1 (List.mem_of_getElem? (i := 131) rfl)) rfl
theorem tw_372 : (Cond.methodLink "DagLedger" (72 : Nat) ({ cls := "DagLedger", name := "replicaOf", desc := "(I)LDagLedger$Replica;" } : MethodName)) ∈ wd_tb := wd_in (wd_c1 (List.mem_of_getElem? (i := 132) rfl)) rfl
theorem tw_374 : (Cond.instanceMethod ({ cls := "DagLedger", name := "replicaOf", desc := "(I)LDagLedger$Replica;" } : MethodName)) ∈ wd_tb := wd_in (wd_c1 (List.mem_of_getElem? (i := 134) rfl)) rfl
theorem tw_375 : (Cond.code ({ cls := "DagLedger", name := "replicaOf", desc := "(I)LDagLedger$Replica;" } : MethodName) prog_1_method_18_code (2 : Nat) (Option.some (FieldType.object "DagLedger$Replica"))) ∈ wd_tb := wd_in (wd_c1 (List.mem_of_getElem? (i := 135) rfl)) rfl
theorem tw_443 : (Cond.methodLink "DagLedger" (78 : Nat) ({ cls := "DagLedger$Replica", name := "isUp", desc := "()Z" } : MethodName)) ∈ wd_tb := wd_in (wd_c1 (List.mem_of_getElem? (i := 203) rfl)) rfl
theorem tw_444 : (Cond.instanceMethod ({ cls := "DagLedger$Replica", name := "isUp", desc := "()Z" } : MethodName)) ∈ wd_tb := wd_in (wd_c1 (List.mem_of_getElem? (i := 204) rfl)) rfl
theorem tw_445 : (Cond.selects "DagLedger$Replica" ({ cls := "DagLedger$Replica", name := "isUp", desc := "()Z" } : MethodName) ({ cls := "DagLedger$Replica", name := "isUp", desc := "()Z" } : MethodName)) ∈ wd_tb := wd_in (wd_c1 (List.mem_of_getElem? (i := 205) rfl)) rfl
theorem tw_446 : (Cond.code ({ cls := "DagLedger$Replica", name := "isUp", desc := "()Z" } : MethodName) prog_8_method_2_code (1 : Nat) (Option.some FieldType.boolean)) ∈ wd_tb := wd_in (wd_c1 (List.mem_of_getElem? (i := 206) rfl)) rfl
theorem tw_463 : (Cond.methodLink "DagLedger" (47 : Nat) ({ cls := "DagLedger$Transfers", name := "isFull", desc := "()Z" } : MethodName)) ∈ wd_tb := wd_in (wd_c1 (List.mem_of_getElem? (i := 223) rfl)) rfl
theorem tw_464 : (Cond.instanceMethod ({ cls := "DagLedger$Transfers", name := "isFull", desc := "()Z" } : MethodName)) ∈ wd_tb := wd_in (wd_c1 (List.mem_of_getElem? (i := 224) rfl)) rfl
theorem tw_465 : (Cond.selects "DagLedger$Transfers" ({ cls := "DagLedger$Transfers", name := "isFull", desc := "()Z" } : MethodName) ({ cls := "DagLedger$Transfers", name := "isFull", desc := "()Z" } : MethodName)) ∈ wd_tb := wd_in (wd_c1 (List.mem_of_getElem? (i := 225) rfl)) rfl
theorem tw_466 : (Cond.code ({ cls := "DagLedger$Transfers", name := "isFull", desc := "()Z" } : MethodName) prog_9_method_3_code (1 : Nat) (Option.some FieldType.boolean)) ∈ wd_tb := wd_in (wd_c1 (List.mem_of_getElem? (i := 226) rfl)) rfl
theorem tw_467 : (Cond.methodLink "DagLedger" (51 : Nat) ({ cls := "DagLedger", name := "isAccount", desc := "(I)Z" } : MethodName)) ∈ wd_tb := wd_in (wd_c1 (List.mem_of_getElem? (i := 227) rfl)) rfl
theorem tw_468 : (Cond.static ({ cls := "DagLedger", name := "isAccount", desc := "(I)Z" } : MethodName)) ∈ wd_tb := wd_in (wd_c1 (List.mem_of_getElem? (i := 228) rfl)) rfl
theorem tw_469 : (Cond.code ({ cls := "DagLedger", name := "isAccount", desc := "(I)Z" } : MethodName) prog_1_method_21_code (1 : Nat) (Option.some FieldType.boolean)) ∈ wd_tb := wd_in (wd_c1 (List.mem_of_getElem? (i := 229) rfl)) rfl
theorem tw_470 : (Cond.methodLink "DagLedger" (55 : Nat) ({ cls := "DagLedger$Replica", name := "writeRecord", desc := "()Z" } : MethodName)) ∈ wd_tb := wd_in (wd_c1 (List.mem_of_getElem? (i := 230) rfl)) rfl
theorem tw_471 : (Cond.instanceMethod ({ cls := "DagLedger$Replica", name := "writeRecord", desc := "()Z" } : MethodName)) ∈ wd_tb := wd_in (wd_c1 (List.mem_of_getElem? (i := 231) rfl)) rfl
theorem tw_472 : (Cond.selects "DagLedger$Replica" ({ cls := "DagLedger$Replica", name := "writeRecord", desc := "()Z" } : MethodName) ({ cls := "DagLedger$Replica", name := "writeRecord", desc := "()Z" } : MethodName)) ∈ wd_tb := wd_in (wd_c1 (List.mem_of_getElem? (i := 232) rfl)) rfl
theorem tw_473 : (Cond.code ({ cls := "DagLedger$Replica", name := "writeRecord", desc := "()Z" } : MethodName) prog_8_method_6_code (1 : Nat) (Option.some FieldType.boolean)) ∈ wd_tb := wd_in (wd_c1 (List.mem_of_getElem? (i := 233) rfl)) rfl
theorem tw_474 : (Cond.methodLink "DagLedger$Replica" (89 : Nat) ({ cls := "DagLedger$Replica", name := "goDown", desc := "()V" } : MethodName)) ∈ wd_tb := wd_in (wd_c1 (List.mem_of_getElem? (i := 234) rfl)) rfl
theorem tw_475 : (Cond.instanceMethod ({ cls := "DagLedger$Replica", name := "goDown", desc := "()V" } : MethodName)) ∈ wd_tb := wd_in (wd_c1 (List.mem_of_getElem? (i := 235) rfl)) rfl
theorem tw_476 : (Cond.selects "DagLedger$Replica" ({ cls := "DagLedger$Replica", name := "goDown", desc := "()V" } : MethodName) ({ cls := "DagLedger$Replica", name := "goDown", desc := "()V" } : MethodName)) ∈ wd_tb := wd_in (wd_c1 (List.mem_of_getElem? (i := 236) rfl)) rfl
theorem tw_477 : (Cond.code ({ cls := "DagLedger$Replica", name := "goDown", desc := "()V" } : MethodName) prog_8_method_3_code (1 : Nat) (Option.none : Option FieldType)) ∈ wd_tb := wd_in (wd_c1 (List.mem_of_getElem? (i := 237) rfl)) rfl
theorem tw_478 : (Cond.methodLink "DagLedger$Replica" (77 : Nat) ({ cls := "DagLedger$Notes", name := "clear", desc := "()V" } : MethodName)) ∈ wd_tb := wd_in (wd_c1 (List.mem_of_getElem? (i := 238) rfl)) rfl
theorem tw_479 : (Cond.instanceMethod ({ cls := "DagLedger$Notes", name := "clear", desc := "()V" } : MethodName)) ∈ wd_tb := wd_in (wd_c1 (List.mem_of_getElem? (i := 239) rfl)) rfl
theorem tw_480 : (Cond.selects "DagLedger$Notes" ({ cls := "DagLedger$Notes", name := "clear", desc := "()V" } : MethodName) ({ cls := "DagLedger$Notes", name := "clear", desc := "()V" } : MethodName)) ∈ wd_tb := wd_in (wd_c2 (List.mem_of_getElem? (i := 0) rfl)) rfl
theorem tw_481 : (Cond.code ({ cls := "DagLedger$Notes", name := "clear", desc := "()V" } : MethodName) prog_7_method_5_code (1 : Nat) (Option.none : Option FieldType)) ∈ wd_tb := wd_in (wd_c2 (List.mem_of_getElem? (i := 1) rfl)) rfl
theorem tw_482 : (Cond.methodLink "DagLedger$Notes" (31 : Nat) ({ cls := "java/util/Arrays", name := "fill", desc := "([II)V" } : MethodName)) ∈ wd_tb := wd_in (wd_c2 (List.mem_of_getElem? (i := 2) rfl)) rfl
theorem tw_483 : (Cond.methodLink "DagLedger$Replica" (80 : Nat) ({ cls := "DagLedger$Dag", name := "clear", desc := "()V" } : MethodName)) ∈ wd_tb := wd_in (wd_c2 (List.mem_of_getElem? (i := 3) rfl)) rfl
theorem tw_484 : (Cond.instanceMethod ({ cls := "DagLedger$Dag", name := "clear", desc := "()V" } : MethodName)) ∈ wd_tb := wd_in (wd_c2 (List.mem_of_getElem? (i := 4) rfl)) rfl
theorem tw_485 : (Cond.selects "DagLedger$Dag" ({ cls := "DagLedger$Dag", name := "clear", desc := "()V" } : MethodName) ({ cls := "DagLedger$Dag", name := "clear", desc := "()V" } : MethodName)) ∈ wd_tb := wd_in (wd_c2 (List.mem_of_getElem? (i := 5) rfl)) rfl
theorem tw_486 : (Cond.code ({ cls := "DagLedger$Dag", name := "clear", desc := "()V" } : MethodName) prog_5_method_9_code (1 : Nat) (Option.none : Option FieldType)) ∈ wd_tb := wd_in (wd_c2 (List.mem_of_getElem? (i := 6) rfl)) rfl
theorem tw_487 : (Cond.methodLink "DagLedger$Replica" (81 : Nat) ({ cls := "DagLedger$Commits", name := "clear", desc := "()V" } : MethodName)) ∈ wd_tb := wd_in (wd_c2 (List.mem_of_getElem? (i := 7) rfl)) rfl
theorem tw_488 : (Cond.instanceMethod ({ cls := "DagLedger$Commits", name := "clear", desc := "()V" } : MethodName)) ∈ wd_tb := wd_in (wd_c2 (List.mem_of_getElem? (i := 8) rfl)) rfl
theorem tw_489 : (Cond.selects "DagLedger$Commits" ({ cls := "DagLedger$Commits", name := "clear", desc := "()V" } : MethodName) ({ cls := "DagLedger$Commits", name := "clear", desc := "()V" } : MethodName)) ∈ wd_tb := wd_in (wd_c2 (List.mem_of_getElem? (i := 9) rfl)) rfl
theorem tw_490 : (Cond.code ({ cls := "DagLedger$Commits", name := "clear", desc := "()V" } : MethodName) prog_4_method_7_code (1 : Nat) (Option.none : Option FieldType)) ∈ wd_tb := wd_in (wd_c2 (List.mem_of_getElem? (i := 10) rfl)) rfl
theorem tw_491 : (Cond.methodLink "DagLedger$Commits" (85 : Nat) ({ cls := "java/util/Arrays", name := "fill", desc := "([II)V" } : MethodName)) ∈ wd_tb := wd_in (wd_c2 (List.mem_of_getElem? (i := 11) rfl)) rfl
theorem tw_492 : (Cond.methodLink "DagLedger$Replica" (82 : Nat) ({ cls := "DagLedger$Book", name := "clear", desc := "()V" } : MethodName)) ∈ wd_tb := wd_in (wd_c2 (List.mem_of_getElem? (i := 12) rfl)) rfl
theorem tw_493 : (Cond.instanceMethod ({ cls := "DagLedger$Book", name := "clear", desc := "()V" } : MethodName)) ∈ wd_tb := wd_in (wd_c2 (List.mem_of_getElem? (i := 13) rfl)) rfl
theorem tw_494 : (Cond.selects "DagLedger$Book" ({ cls := "DagLedger$Book", name := "clear", desc := "()V" } : MethodName) ({ cls := "DagLedger$Book", name := "clear", desc := "()V" } : MethodName)) ∈ wd_tb := wd_in (wd_c2 (List.mem_of_getElem? (i := 14) rfl)) rfl
theorem tw_495 : (Cond.code ({ cls := "DagLedger$Book", name := "clear", desc := "()V" } : MethodName) prog_3_method_4_code (1 : Nat) (Option.none : Option FieldType)) ∈ wd_tb := wd_in (wd_c2 (List.mem_of_getElem? (i := 15) rfl)) rfl
theorem tw_496 : (Cond.methodLink "DagLedger" (58 : Nat) ({ cls := "DagLedger$Transfers", name := "add", desc := "(III)I" } : MethodName)) ∈ wd_tb := wd_in (wd_c2 (List.mem_of_getElem? (i := 16) rfl)) rfl
theorem tw_497 : (Cond.instanceMethod ({ cls := "DagLedger$Transfers", name := "add", desc := "(III)I" } : MethodName)) ∈ wd_tb := wd_in (wd_c2 (List.mem_of_getElem? (i := 17) rfl)) rfl
theorem tw_498 : (Cond.selects "DagLedger$Transfers" ({ cls := "DagLedger$Transfers", name := "add", desc := "(III)I" } : MethodName) ({ cls := "DagLedger$Transfers", name := "add", desc := "(III)I" } : MethodName)) ∈ wd_tb := wd_in (wd_c2 (List.mem_of_getElem? (i := 18) rfl)) rfl
theorem tw_499 : (Cond.code ({ cls := "DagLedger$Transfers", name := "add", desc := "(III)I" } : MethodName) prog_9_method_4_code (4 : Nat) (Option.some FieldType.int)) ∈ wd_tb := wd_in (wd_c2 (List.mem_of_getElem? (i := 19) rfl)) rfl
theorem tw_500 : (Cond.methodLink "DagLedger" (66 : Nat) ({ cls := "DagLedger$Disk", name := "keepTransfer", desc := "(I)V" } : MethodName)) ∈ wd_tb := wd_in (wd_c2 (List.mem_of_getElem? (i := 20) rfl)) rfl
theorem tw_501 : (Cond.instanceMethod ({ cls := "DagLedger$Disk", name := "keepTransfer", desc := "(I)V" } : MethodName)) ∈ wd_tb := wd_in (wd_c2 (List.mem_of_getElem? (i := 21) rfl)) rfl
theorem tw_502 : (Cond.selects "DagLedger$Disk" ({ cls := "DagLedger$Disk", name := "keepTransfer", desc := "(I)V" } : MethodName) ({ cls := "DagLedger$Disk", name := "keepTransfer", desc := "(I)V" } : MethodName)) ∈ wd_tb := wd_in (wd_c2 (List.mem_of_getElem? (i := 22) rfl)) rfl
theorem tw_503 : (Cond.code ({ cls := "DagLedger$Disk", name := "keepTransfer", desc := "(I)V" } : MethodName) prog_6_method_2_code (2 : Nat) (Option.none : Option FieldType)) ∈ wd_tb := wd_in (wd_c2 (List.mem_of_getElem? (i := 23) rfl)) rfl
theorem tw_507 : (Cond.methodLink "DagLedgerLaw" (17 : Nat) ({ cls := "DagLedger", name := "deliver", desc := "(II)Z" } : MethodName)) ∈ wd_tb := wd_in (wd_c2 (List.mem_of_getElem? (i := 27) rfl)) rfl
theorem tw_508 : (Cond.instanceMethod ({ cls := "DagLedger", name := "deliver", desc := "(II)Z" } : MethodName)) ∈ wd_tb := wd_in (wd_c2 (List.mem_of_getElem? (i := 28) rfl)) rfl
theorem tw_509 : (Cond.selects "DagLedger" ({ cls := "DagLedger", name := "deliver", desc := "(II)Z" } : MethodName) ({ cls := "DagLedger", name := "deliver", desc := "(II)Z" } : MethodName)) ∈ wd_tb := wd_in (wd_c2 (List.mem_of_getElem? (i := 29) rfl)) rfl
theorem tw_510 : (Cond.code ({ cls := "DagLedger", name := "deliver", desc := "(II)Z" } : MethodName) prog_1_method_3_code (4 : Nat) (Option.some FieldType.boolean)) ∈ wd_tb := wd_in (wd_c2 (List.mem_of_getElem? (i := 30) rfl)) rfl
theorem tw_511 : (Cond.methodLink "DagLedger" (82 : Nat) ({ cls := "DagLedger$Replica", name := "take", desc := "(I)V" } : MethodName)) ∈ wd_tb := wd_in (wd_c2 (List.mem_of_getElem? (i := 31) rfl)) rfl
theorem tw_512 : (Cond.instanceMethod ({ cls := "DagLedger$Replica", name := "take", desc := "(I)V" } : MethodName)) ∈ wd_tb := wd_in (wd_c2 (List.mem_of_getElem? (i := 32) rfl)) rfl
theorem tw_513 : (Cond.selects "DagLedger$Replica" ({ cls := "DagLedger$Replica", name := "take", desc := "(I)V" } : MethodName) ({ cls := "DagLedger$Replica", name := "take", desc := "(I)V" } : MethodName)) ∈ wd_tb := wd_in (wd_c2 (List.mem_of_getElem? (i := 33) rfl)) rfl
theorem tw_514 : (Cond.code ({ cls := "DagLedger$Replica", name := "take", desc := "(I)V" } : MethodName) prog_8_method_8_code (4 : Nat) (Option.none : Option FieldType)) ∈ wd_tb := wd_in (wd_c2 (List.mem_of_getElem? (i := 34) rfl)) rfl
theorem tw_515 : (Cond.methodLink "DagLedger$Replica" (116 : Nat) ({ cls := "DagLedger$Replica", name := "takeSend", desc := "(II)V" } : MethodName)) ∈ wd_tb := wd_in (wd_c2 (List.mem_of_getElem? (i := 35) rfl)) rfl
theorem tw_517 : (Cond.instanceMethod ({ cls := "DagLedger$Replica", name := "takeSend", desc := "(II)V" } : MethodName)) ∈ wd_tb := wd_in (wd_c2 (List.mem_of_getElem? (i := 37) rfl)) rfl
theorem tw_518 : (Cond.code ({ cls := "DagLedger$Replica", name := "takeSend", desc := "(II)V" } : MethodName) prog_8_method_9_code (5 : Nat) (Option.none : Option FieldType)) ∈ wd_tb := wd_in (wd_c2 (List.mem_of_getElem? (i := 38) rfl)) rfl
theorem tw_519 : (Cond.methodLink "DagLedger$Replica" (134 : Nat) ({ cls := "DagLedger$Vertices", name := "isWellFormed", desc := "(I)Z" } : MethodName)) ∈ wd_tb := wd_in (wd_c2 (List.mem_of_getElem? (i := 39) rfl)) rfl
theorem tw_520 : (Cond.instanceMethod ({ cls := "DagLedger$Vertices", name := "isWellFormed", desc := "(I)Z" } : MethodName)) ∈ wd_tb := wd_in (wd_c2 (List.mem_of_getElem? (i := 40) rfl)) rfl
theorem tw_521 : (Cond.selects "DagLedger$Vertices" ({ cls := "DagLedger$Vertices", name := "isWellFormed", desc := "(I)Z" } : MethodName) ({ cls := "DagLedger$Vertices", name := "isWellFormed", desc := "(I)Z" } : MethodName)) ∈ wd_tb := wd_in (wd_c2 (List.mem_of_getElem? (i := 41) rfl)) rfl
theorem tw_522 : (Cond.code ({ cls := "DagLedger$Vertices", name := "isWellFormed", desc := "(I)Z" } : MethodName) prog_10_method_5_code (2 : Nat) (Option.some FieldType.boolean)) ∈ wd_tb := wd_in (wd_c2 (List.mem_of_getElem? (i := 42) rfl)) rfl
theorem tw_523 : (Cond.methodLink "DagLedger$Vertices" (31 : Nat) ({ cls := "java/lang/Integer", name := "bitCount", desc := "(I)I" } : MethodName)) ∈ wd_tb := wd_in (wd_c2 (List.mem_of_getElem? (i := 43) rfl)) rfl
theorem tw_524 : (Cond.static ({ cls := "java/lang/Integer", name := "bitCount", desc := "(I)I" } : MethodName)) ∈ wd_tb := wd_in (wd_c2 (List.mem_of_getElem? (i := 44) rfl)) rfl
theorem tw_525 : (Cond.code ({ cls := "java/lang/Integer", name := "bitCount", desc := "(I)I" } : MethodName) prog_16_method_49_code (1 : Nat) (Option.some FieldType.int)) ∈ wd_tb := wd_in (wd_c2 (List.mem_of_getElem? (i := 45) rfl)) rfl
theorem tw_526 : (Cond.constant "java/lang/Integer" (265 : Nat) (1431655765 : Int32)) ∈ wd_tb := wd_in (wd_c2 (List.mem_of_getElem? (i := 46) rfl)) rfl
theorem tw_527 : (Cond.constant "java/lang/Integer" (266 : Nat) (858993459 : Int32)) ∈ wd_tb := wd_in (wd_c2 (List.mem_of_getElem? (i := 47) rfl)) rfl
theorem tw_528 : (Cond.constant "java/lang/Integer" (267 : Nat) (252645135 : Int32)) ∈ wd_tb := wd_in (wd_c2 (List.mem_of_getElem? (i := 48) rfl)) rfl
theorem tw_530 : (Cond.static ({ cls := "DagLedger", name := "contains", desc := "(II)Z" } : MethodName)) ∈ wd_tb := wd_in (wd_c2 (List.mem_of_getElem? (i := 50) rfl)) rfl
theorem tw_531 : (Cond.code ({ cls := "DagLedger", name := "contains", desc := "(II)Z" } : MethodName) prog_1_method_23_code (2 : Nat) (Option.some FieldType.boolean)) ∈ wd_tb := wd_in (wd_c2 (List.mem_of_getElem? (i := 51) rfl)) rfl
theorem tw_532 : (Cond.methodLink "DagLedger$Replica" (145 : Nat) ({ cls := "DagLedger$Replica", name := "writeRecord", desc := "()Z" } : MethodName)) ∈ wd_tb := wd_in (wd_c2 (List.mem_of_getElem? (i := 52) rfl)) rfl
theorem tw_533 : (Cond.methodLink "DagLedger$Replica" (149 : Nat) ({ cls := "DagLedger$Board", name := "post", desc := "(III)I" } : MethodName)) ∈ wd_tb := wd_in (wd_c2 (List.mem_of_getElem? (i := 53) rfl)) rfl
theorem tw_534 : (Cond.methodLink "DagLedger$Replica" (120 : Nat) ({ cls := "DagLedger$Replica", name := "takeEcho", desc := "(II)V" } : MethodName)) ∈ wd_tb := wd_in (wd_c2 (List.mem_of_getElem? (i := 54) rfl)) rfl
theorem tw_536 : (Cond.instanceMethod ({ cls := "DagLedger$Replica", name := "takeEcho", desc := "(II)V" } : MethodName)) ∈ wd_tb := wd_in (wd_c2 (List.mem_of_getElem? (i := 56) rfl)) rfl
theorem tw_537 : (Cond.code ({ cls := "DagLedger$Replica", name := "takeEcho", desc := "(II)V" } : MethodName) prog_8_method_10_code (3 : Nat) (Option.none : Option FieldType)) ∈ wd_tb := wd_in (wd_c2 (List.mem_of_getElem? (i := 57) rfl)) rfl
theorem tw_538 : (Cond.methodLink "DagLedger$Replica" (153 : Nat) ({ cls := "DagLedger$Notes", name := "noteEcho", desc := "(II)I" } : MethodName)) ∈ wd_tb := wd_in (wd_c2 (List.mem_of_getElem? (i := 58) rfl)) rfl
theorem tw_539 : (Cond.instanceMethod ({ cls := "DagLedger$Notes", name := "noteEcho", desc := "(II)I" } : MethodName)) ∈ wd_tb := wd_in (wd_c2 (List.mem_of_getElem? (i := 59) rfl)) rfl
theorem tw_540 : (Cond.selects "DagLedger$Notes" ({ cls := "DagLedger$Notes", name := "noteEcho", desc := "(II)I" } : MethodName) ({ cls := "DagLedger$Notes", name := "noteEcho", desc := "(II)I" } : MethodName)) ∈ wd_tb := wd_in (wd_c2 (List.mem_of_getElem? (i := 60) rfl)) rfl
theorem tw_541 : (Cond.code ({ cls := "DagLedger$Notes", name := "noteEcho", desc := "(II)I" } : MethodName) prog_7_method_2_code (3 : Nat) (Option.some FieldType.int)) ∈ wd_tb := wd_in (wd_c2 (List.mem_of_getElem? (i := 61) rfl)) rfl
theorem tw_542 : (Cond.methodLink "DagLedger$Notes" (21 : Nat) ({ cls := "java/lang/Integer", name := "bitCount", desc := "(I)I" } : MethodName)) ∈ wd_tb := wd_in (wd_c2 (List.mem_of_getElem? (i := 62) rfl)) rfl
theorem tw_543 : (Cond.methodLink "DagLedger$Replica" (156 : Nat) ({ cls := "DagLedger$Replica", name := "becomeReady", desc := "(I)V" } : MethodName)) ∈ wd_tb := wd_in (wd_c2 (List.mem_of_getElem? (i := 63) rfl)) rfl
theorem tw_545 : (Cond.instanceMethod ({ cls := "DagLedger$Replica", name := "becomeReady", desc := "(I)V" } : MethodName)) ∈ wd_tb := wd_in (wd_c2 (List.mem_of_getElem? (i := 65) rfl)) rfl
theorem tw_546 : (Cond.code ({ cls := "DagLedger$Replica", name := "becomeReady", desc := "(I)V" } : MethodName) prog_8_method_12_code (4 : Nat) (Option.none : Option FieldType)) ∈ wd_tb := wd_in (wd_c2 (List.mem_of_getElem? (i := 66) rfl)) rfl
theorem tw_547 : (Cond.methodLink "DagLedger$Replica" (123 : Nat) ({ cls := "DagLedger$Replica", name := "takeReady", desc := "(II)V" } : MethodName)) ∈ wd_tb := wd_in (wd_c2 (List.mem_of_getElem? (i := 67) rfl)) rfl
theorem tw_549 : (Cond.instanceMethod ({ cls := "DagLedger$Replica", name := "takeReady", desc := "(II)V" } : MethodName)) ∈ wd_tb := wd_in (wd_c2 (List.mem_of_getElem? (i := 69) rfl)) rfl
theorem tw_550 : (Cond.code ({ cls := "DagLedger$Replica", name := "takeReady", desc := "(II)V" } : MethodName) prog_8_method_11_code (3 : Nat) (Option.none : Option FieldType)) ∈ wd_tb := wd_in (wd_c2 (List.mem_of_getElem? (i := 70) rfl)) rfl
theorem tw_551 : (Cond.methodLink "DagLedger$Replica" (160 : Nat) ({ cls := "DagLedger$Notes", name := "noteReady", desc := "(II)I" } : MethodName)) ∈ wd_tb := wd_in (wd_c2 (List.mem_of_getElem? (i := 71) rfl)) rfl
theorem tw_552 : (Cond.instanceMethod ({ cls := "DagLedger$Notes", name := "noteReady", desc := "(II)I" } : MethodName)) ∈ wd_tb := wd_in (wd_c2 (List.mem_of_getElem? (i := 72) rfl)) rfl
theorem tw_553 : (Cond.selects "DagLedger$Notes" ({ cls := "DagLedger$Notes", name := "noteReady", desc := "(II)I" } : MethodName) ({ cls := "DagLedger$Notes", name := "noteReady", desc := "(II)I" } : MethodName)) ∈ wd_tb := wd_in (wd_c2 (List.mem_of_getElem? (i := 73) rfl)) rfl
theorem tw_554 : (Cond.code ({ cls := "DagLedger$Notes", name := "noteReady", desc := "(II)I" } : MethodName) prog_7_method_3_code (5 : Nat) (Option.some FieldType.int)) ∈ wd_tb := wd_in (wd_c2 (List.mem_of_getElem? (i := 74) rfl)) rfl
theorem tw_555 : (Cond.methodLink "DagLedger$Replica" (101 : Nat) ({ cls := "DagLedger$Replica", name := "act", desc := "()V" } : MethodName)) ∈ wd_tb := wd_in (wd_c2 (List.mem_of_getElem? (i := 75) rfl)) rfl
theorem tw_556 : (Cond.instanceMethod ({ cls := "DagLedger$Replica", name := "act", desc := "()V" } : MethodName)) ∈ wd_tb := wd_in (wd_c2 (List.mem_of_getElem? (i := 76) rfl)) rfl
theorem tw_557 : (Cond.selects "DagLedger$Replica" ({ cls := "DagLedger$Replica", name := "act", desc := "()V" } : MethodName) ({ cls := "DagLedger$Replica", name := "act", desc := "()V" } : MethodName)) ∈ wd_tb := wd_in (wd_c2 (List.mem_of_getElem? (i := 77) rfl)) rfl
theorem tw_558 : (Cond.code ({ cls := "DagLedger$Replica", name := "act", desc := "()V" } : MethodName) prog_8_method_13_code (2 : Nat) (Option.none : Option FieldType)) ∈ wd_tb := wd_in (wd_c2 (List.mem_of_getElem? (i := 78) rfl)) rfl
theorem tw_559 : (Cond.methodLink "DagLedger$Replica" (166 : Nat) ({ cls := "DagLedger$Replica", name := "isUp", desc := "()Z" } : MethodName)) ∈ wd_tb := wd_in (wd_c2 (List.mem_of_getElem? (i := 79) rfl)) rfl
theorem tw_560 : (Cond.methodLink "DagLedger$Replica" (169 : Nat) ({ cls := "DagLedger$Replica", name := "insertNext", desc := "()Z" } : MethodName)) ∈ wd_tb := wd_in (wd_c2 (List.mem_of_getElem? (i := 80) rfl)) rfl
theorem tw_562 : (Cond.instanceMethod ({ cls := "DagLedger$Replica", name := "insertNext", desc := "()Z" } : MethodName)) ∈ wd_tb := wd_in (wd_c2 (List.mem_of_getElem? (i := 82) rfl)) rfl
theorem tw_563 : (Cond.code ({ cls := "DagLedger$Replica", name := "insertNext", desc := "()Z" } : MethodName) prog_8_method_14_code (4 : Nat) (Option.some FieldType.boolean)) ∈ wd_tb := wd_in (wd_c2 (List.mem_of_getElem? (i := 83) rfl)) rfl
theorem tw_564 : (Cond.methodLink "DagLedger$Replica" (184 : Nat) ({ cls := "DagLedger$Dag", name := "canTake", desc := "(I)Z" } : MethodName)) ∈ wd_tb := wd_in (wd_c2 (List.mem_of_getElem? (i := 84) rfl)) rfl
theorem tw_565 : (Cond.instanceMethod ({ cls := "DagLedger$Dag", name := "canTake", desc := "(I)Z" } : MethodName)) ∈ wd_tb := wd_in (wd_c2 (List.mem_of_getElem? (i := 85) rfl)) rfl
theorem tw_566 : (Cond.selects "DagLedger$Dag" ({ cls := "DagLedger$Dag", name := "canTake", desc := "(I)Z" } : MethodName) ({ cls := "DagLedger$Dag", name := "canTake", desc := "(I)Z" } : MethodName)) ∈ wd_tb := wd_in (wd_c2 (List.mem_of_getElem? (i := 86) rfl)) rfl
theorem tw_567 : (Cond.code ({ cls := "DagLedger$Dag", name := "canTake", desc := "(I)Z" } : MethodName) prog_5_method_5_code (3 : Nat) (Option.some FieldType.boolean)) ∈ wd_tb := wd_in (wd_c2 (List.mem_of_getElem? (i := 87) rfl)) rfl
theorem tw_568 : (Cond.methodLink "DagLedger$Dag" (33 : Nat) ({ cls := "DagLedger$Vertices", name := "isWellFormed", desc := "(I)Z" } : MethodName)) ∈ wd_tb := wd_in (wd_c2 (List.mem_of_getElem? (i := 88) rfl)) rfl
theorem tw_569 : (Cond.methodLink "DagLedger$Dag" (40 : Nat) ({ cls := "DagLedger$Dag", name := "holds", desc := "(II)Z" } : MethodName)) ∈ wd_tb := wd_in (wd_c2 (List.mem_of_getElem? (i := 89) rfl)) rfl
theorem tw_570 : (Cond.instanceMethod ({ cls := "DagLedger$Dag", name := "holds", desc := "(II)Z" } : MethodName)) ∈ wd_tb := wd_in (wd_c2 (List.mem_of_getElem? (i := 90) rfl)) rfl
theorem tw_571 : (Cond.selects "DagLedger$Dag" ({ cls := "DagLedger$Dag", name := "holds", desc := "(II)Z" } : MethodName) ({ cls := "DagLedger$Dag", name := "holds", desc := "(II)Z" } : MethodName)) ∈ wd_tb := wd_in (wd_c2 (List.mem_of_getElem? (i := 91) rfl)) rfl
theorem tw_572 : (Cond.code ({ cls := "DagLedger$Dag", name := "holds", desc := "(II)Z" } : MethodName) prog_5_method_3_code (3 : Nat) (Option.some FieldType.boolean)) ∈ wd_tb := wd_in (wd_c2 (List.mem_of_getElem? (i := 92) rfl)) rfl
theorem tw_573 : (Cond.methodLink "DagLedger$Replica" (187 : Nat) ({ cls := "DagLedger$Vertices", name := "comesBefore", desc := "(II)Z" } : MethodName)) ∈ wd_tb := wd_in (wd_c2 (List.mem_of_getElem? (i := 93) rfl)) rfl
theorem tw_574 : (Cond.instanceMethod ({ cls := "DagLedger$Vertices", name := "comesBefore", desc := "(II)Z" } : MethodName)) ∈ wd_tb := wd_in (wd_c2 (List.mem_of_getElem? (i := 94) rfl)) rfl
theorem tw_575 : (Cond.selects "DagLedger$Vertices" ({ cls := "DagLedger$Vertices", name := "comesBefore", desc := "(II)Z" } : MethodName) ({ cls := "DagLedger$Vertices", name := "comesBefore", desc := "(II)Z" } : MethodName)) ∈ wd_tb := wd_in (wd_c2 (List.mem_of_getElem? (i := 95) rfl)) rfl
theorem tw_576 : (Cond.code ({ cls := "DagLedger$Vertices", name := "comesBefore", desc := "(II)Z" } : MethodName) prog_10_method_6_code (3 : Nat) (Option.some FieldType.boolean)) ∈ wd_tb := wd_in (wd_c2 (List.mem_of_getElem? (i := 96) rfl)) rfl
theorem tw_577 : (Cond.methodLink "DagLedger$Replica" (190 : Nat) ({ cls := "DagLedger$Dag", name := "insert", desc := "(I)V" } : MethodName)) ∈ wd_tb := wd_in (wd_c2 (List.mem_of_getElem? (i := 97) rfl)) rfl
theorem tw_578 : (Cond.instanceMethod ({ cls := "DagLedger$Dag", name := "insert", desc := "(I)V" } : MethodName)) ∈ wd_tb := wd_in (wd_c2 (List.mem_of_getElem? (i := 98) rfl)) rfl
theorem tw_579 : (Cond.selects "DagLedger$Dag" ({ cls := "DagLedger$Dag", name := "insert", desc := "(I)V" } : MethodName) ({ cls := "DagLedger$Dag", name := "insert", desc := "(I)V" } : MethodName)) ∈ wd_tb := wd_in (wd_c2 (List.mem_of_getElem? (i := 99) rfl)) rfl
theorem tw_580 : (Cond.code ({ cls := "DagLedger$Dag", name := "insert", desc := "(I)V" } : MethodName) prog_5_method_6_code (4 : Nat) (Option.none : Option FieldType)) ∈ wd_tb := wd_in (wd_c2 (List.mem_of_getElem? (i := 100) rfl)) rfl
theorem tw_581 : (Cond.methodLink "DagLedger$Replica" (193 : Nat) ({ cls := "DagLedger$Notes", name := "stopWaiting", desc := "(I)V" } : MethodName)) ∈ wd_tb := wd_in (wd_c2 (List.mem_of_getElem? (i := 101) rfl)) rfl
theorem tw_582 : (Cond.instanceMethod ({ cls := "DagLedger$Notes", name := "stopWaiting", desc := "(I)V" } : MethodName)) ∈ wd_tb := wd_in (wd_c2 (List.mem_of_getElem? (i := 102) rfl)) rfl
theorem tw_583 : (Cond.selects "DagLedger$Notes" ({ cls := "DagLedger$Notes", name := "stopWaiting", desc := "(I)V" } : MethodName) ({ cls := "DagLedger$Notes", name := "stopWaiting", desc := "(I)V" } : MethodName)) ∈ wd_tb := wd_in (wd_c2 (List.mem_of_getElem? (i := 103) rfl)) rfl
theorem tw_584 : (Cond.code ({ cls := "DagLedger$Notes", name := "stopWaiting", desc := "(I)V" } : MethodName) prog_7_method_4_code (2 : Nat) (Option.none : Option FieldType)) ∈ wd_tb := wd_in (wd_c2 (List.mem_of_getElem? (i := 104) rfl)) rfl
theorem tw_585 : (Cond.methodLink "DagLedger$Replica" (172 : Nat) ({ cls := "DagLedger$Commits", name := "commitNext", desc := "()Z" } : MethodName)) ∈ wd_tb := wd_in (wd_c2 (List.mem_of_getElem? (i := 105) rfl)) rfl
theorem tw_586 : (Cond.instanceMethod ({ cls := "DagLedger$Commits", name := "commitNext", desc := "()Z" } : MethodName)) ∈ wd_tb := wd_in (wd_c2 (List.mem_of_getElem? (i := 106) rfl)) rfl
theorem tw_587 : (Cond.selects "DagLedger$Commits" ({ cls := "DagLedger$Commits", name := "commitNext", desc := "()Z" } : MethodName) ({ cls := "DagLedger$Commits", name := "commitNext", desc := "()Z" } : MethodName)) ∈ wd_tb := wd_in (wd_c2 (List.mem_of_getElem? (i := 107) rfl)) rfl
theorem tw_588 : (Cond.code ({ cls := "DagLedger$Commits", name := "commitNext", desc := "()Z" } : MethodName) prog_4_method_2_code (4 : Nat) (Option.some FieldType.boolean)) ∈ wd_tb := wd_in (wd_c2 (List.mem_of_getElem? (i := 108) rfl)) rfl
theorem tw_589 : (Cond.methodLink "DagLedger$Commits" (30 : Nat) ({ cls := "DagLedger$Commits", name := "nextRound", desc := "()I" } : MethodName)) ∈ wd_tb := wd_in (wd_c2 (List.mem_of_getElem? (i := 109) rfl)) rfl
theorem tw_591 : (Cond.instanceMethod ({ cls := "DagLedger$Commits", name := "nextRound", desc := "()I" } : MethodName)) ∈ wd_tb := wd_in (wd_c2 (List.mem_of_getElem? (i := 111) rfl)) rfl
theorem tw_592 : (Cond.code ({ cls := "DagLedger$Commits", name := "nextRound", desc := "()I" } : MethodName) prog_4_method_3_code (3 : Nat) (Option.some FieldType.int)) ∈ wd_tb := wd_in (wd_c2 (List.mem_of_getElem? (i := 112) rfl)) rfl
theorem tw_594 : (Cond.static ({ cls := "DagLedger", name := "leaderOf", desc := "(I)I" } : MethodName)) ∈ wd_tb := wd_in (wd_c2 (List.mem_of_getElem? (i := 114) rfl)) rfl
theorem tw_595 : (Cond.code ({ cls := "DagLedger", name := "leaderOf", desc := "(I)I" } : MethodName) prog_1_method_22_code (1 : Nat) (Option.some FieldType.int)) ∈ wd_tb := wd_in (wd_c2 (List.mem_of_getElem? (i := 115) rfl)) rfl
theorem tw_596 : (Cond.methodLink "DagLedger$Commits" (53 : Nat) ({ cls := "DagLedger$Dag", name := "holds", desc := "(II)Z" } : MethodName)) ∈ wd_tb := wd_in (wd_c2 (List.mem_of_getElem? (i := 116) rfl)) rfl
theorem tw_597 : (Cond.methodLink "DagLedger$Commits" (58 : Nat) ({ cls := "DagLedger$Dag", name := "countStandingOn", desc := "(II)I" } : MethodName)) ∈ wd_tb := wd_in (wd_c2 (List.mem_of_getElem? (i := 117) rfl)) rfl
theorem tw_598 : (Cond.instanceMethod ({ cls := "DagLedger$Dag", name := "countStandingOn", desc := "(II)I" } : MethodName)) ∈ wd_tb := wd_in (wd_c2 (List.mem_of_getElem? (i := 118) rfl)) rfl
theorem tw_599 : (Cond.selects "DagLedger$Dag" ({ cls := "DagLedger$Dag", name := "countStandingOn", desc := "(II)I" } : MethodName) ({ cls := "DagLedger$Dag", name := "countStandingOn", desc := "(II)I" } : MethodName)) ∈ wd_tb := wd_in (wd_c2 (List.mem_of_getElem? (i := 119) rfl)) rfl
theorem tw_600 : (Cond.code ({ cls := "DagLedger$Dag", name := "countStandingOn", desc := "(II)I" } : MethodName) prog_5_method_8_code (6 : Nat) (Option.some FieldType.int)) ∈ wd_tb := wd_in (wd_c2 (List.mem_of_getElem? (i := 120) rfl)) rfl
theorem tw_602 : (Cond.methodLink "DagLedger$Commits" (34 : Nat) ({ cls := "DagLedger$Commits", name := "leadersUnder", desc := "(I)I" } : MethodName)) ∈ wd_tb := wd_in (wd_c2 (List.mem_of_getElem? (i := 122) rfl)) rfl
theorem tw_604 : (Cond.instanceMethod ({ cls := "DagLedger$Commits", name := "leadersUnder", desc := "(I)I" } : MethodName)) ∈ wd_tb := wd_in (wd_c2 (List.mem_of_getElem? (i := 124) rfl)) rfl
theorem tw_605 : (Cond.code ({ cls := "DagLedger$Commits", name := "leadersUnder", desc := "(I)I" } : MethodName) prog_4_method_4_code (5 : Nat) (Option.some FieldType.int)) ∈ wd_tb := wd_in (wd_c2 (List.mem_of_getElem? (i := 125) rfl)) rfl
theorem tw_606 : (Cond.methodLink "DagLedger$Commits" (62 : Nat) ({ cls := "DagLedger$Dag", name := "parentsOf", desc := "(II)I" } : MethodName)) ∈ wd_tb := wd_in (wd_c2 (List.mem_of_getElem? (i := 126) rfl)) rfl
theorem tw_607 : (Cond.instanceMethod ({ cls := "DagLedger$Dag", name := "parentsOf", desc := "(II)I" } : MethodName)) ∈ wd_tb := wd_in (wd_c2 (List.mem_of_getElem? (i := 127) rfl)) rfl
theorem tw_608 : (Cond.selects "DagLedger$Dag" ({ cls := "DagLedger$Dag", name := "parentsOf", desc := "(II)I" } : MethodName) ({ cls := "DagLedger$Dag", name := "parentsOf", desc := "(II)I" } : MethodName)) ∈ wd_tb := wd_in (wd_c2 (List.mem_of_getElem? (i := 128) rfl)) rfl
theorem tw_609 : (Cond.code ({ cls := "DagLedger$Dag", name := "parentsOf", desc := "(II)I" } : MethodName) prog_5_method_7_code (6 : Nat) (Option.some FieldType.int)) ∈ wd_tb := wd_in (wd_c2 (List.mem_of_getElem? (i := 129) rfl)) rfl
theorem tw_611 : (Cond.methodLink "DagLedger$Commits" (49 : Nat) ({ cls := "DagLedger$Commits", name := "emit", desc := "(II)V" } : MethodName)) ∈ wd_tb := wd_in (wd_c2 (List.mem_of_getElem? (i := 131) rfl)) rfl
theorem tw_613 : (Cond.instanceMethod ({ cls := "DagLedger$Commits", name := "emit", desc := "(II)V" } : MethodName)) ∈ wd_tb := wd_in (wd_c2 (List.mem_of_getElem? (i := 133) rfl)) rfl
theorem tw_614 : (Cond.code ({ cls := "DagLedger$Commits", name := "emit", desc := "(II)V" } : MethodName) prog_4_method_5_code (4 : Nat) (Option.none : Option FieldType)) ∈ wd_tb := wd_in (wd_c2 (List.mem_of_getElem? (i := 134) rfl)) rfl
theorem tw_615 : (Cond.methodLink "DagLedger$Commits" (65 : Nat) ({ cls := "DagLedger$Commits", name := "emitRound", desc := "(II)V" } : MethodName)) ∈ wd_tb := wd_in (wd_c2 (List.mem_of_getElem? (i := 135) rfl)) rfl
theorem tw_617 : (Cond.instanceMethod ({ cls := "DagLedger$Commits", name := "emitRound", desc := "(II)V" } : MethodName)) ∈ wd_tb := wd_in (wd_c2 (List.mem_of_getElem? (i := 137) rfl)) rfl
theorem tw_618 : (Cond.code ({ cls := "DagLedger$Commits", name := "emitRound", desc := "(II)V" } : MethodName) prog_4_method_6_code (5 : Nat) (Option.none : Option FieldType)) ∈ wd_tb := wd_in (wd_c2 (List.mem_of_getElem? (i := 138) rfl)) rfl
theorem tw_619 : (Cond.methodLink "DagLedger$Commits" (68 : Nat) ({ cls := "DagLedger$Dag", name := "find", desc := "(II)I" } : MethodName)) ∈ wd_tb := wd_in (wd_c2 (List.mem_of_getElem? (i := 139) rfl)) rfl
theorem tw_620 : (Cond.instanceMethod ({ cls := "DagLedger$Dag", name := "find", desc := "(II)I" } : MethodName)) ∈ wd_tb := wd_in (wd_c2 (List.mem_of_getElem? (i := 140) rfl)) rfl
theorem tw_621 : (Cond.selects "DagLedger$Dag" ({ cls := "DagLedger$Dag", name := "find", desc := "(II)I" } : MethodName) ({ cls := "DagLedger$Dag", name := "find", desc := "(II)I" } : MethodName)) ∈ wd_tb := wd_in (wd_c2 (List.mem_of_getElem? (i := 141) rfl)) rfl
theorem tw_622 : (Cond.code ({ cls := "DagLedger$Dag", name := "find", desc := "(II)I" } : MethodName) prog_5_method_2_code (3 : Nat) (Option.some FieldType.int)) ∈ wd_tb := wd_in (wd_c2 (List.mem_of_getElem? (i := 142) rfl)) rfl
theorem tw_623 : (Cond.methodLink "DagLedger$Commits" (76 : Nat) ({ cls := "DagLedger$Book", name := "place", desc := "(I)V" } : MethodName)) ∈ wd_tb := wd_in (wd_c2 (List.mem_of_getElem? (i := 143) rfl)) rfl
theorem tw_624 : (Cond.instanceMethod ({ cls := "DagLedger$Book", name := "place", desc := "(I)V" } : MethodName)) ∈ wd_tb := wd_in (wd_c2 (List.mem_of_getElem? (i := 144) rfl)) rfl
theorem tw_625 : (Cond.selects "DagLedger$Book" ({ cls := "DagLedger$Book", name := "place", desc := "(I)V" } : MethodName) ({ cls := "DagLedger$Book", name := "place", desc := "(I)V" } : MethodName)) ∈ wd_tb := wd_in (wd_c2 (List.mem_of_getElem? (i := 145) rfl)) rfl
theorem tw_626 : (Cond.code ({ cls := "DagLedger$Book", name := "place", desc := "(I)V" } : MethodName) prog_3_method_2_code (3 : Nat) (Option.none : Option FieldType)) ∈ wd_tb := wd_in (wd_c2 (List.mem_of_getElem? (i := 146) rfl)) rfl
theorem tw_627 : (Cond.methodLink "DagLedger$Replica" (175 : Nat) ({ cls := "DagLedger$Replica", name := "advance", desc := "()Z" } : MethodName)) ∈ wd_tb := wd_in (wd_c2 (List.mem_of_getElem? (i := 147) rfl)) rfl
theorem tw_629 : (Cond.instanceMethod ({ cls := "DagLedger$Replica", name := "advance", desc := "()Z" } : MethodName)) ∈ wd_tb := wd_in (wd_c2 (List.mem_of_getElem? (i := 149) rfl)) rfl
theorem tw_630 : (Cond.code ({ cls := "DagLedger$Replica", name := "advance", desc := "()Z" } : MethodName) prog_8_method_15_code (4 : Nat) (Option.some FieldType.boolean)) ∈ wd_tb := wd_in (wd_c2 (List.mem_of_getElem? (i := 150) rfl)) rfl
theorem tw_631 : (Cond.methodLink "DagLedger$Replica" (196 : Nat) ({ cls := "DagLedger$Replica", name := "mayAdvance", desc := "()Z" } : MethodName)) ∈ wd_tb := wd_in (wd_c2 (List.mem_of_getElem? (i := 151) rfl)) rfl
theorem tw_633 : (Cond.instanceMethod ({ cls := "DagLedger$Replica", name := "mayAdvance", desc := "()Z" } : MethodName)) ∈ wd_tb := wd_in (wd_c2 (List.mem_of_getElem? (i := 153) rfl)) rfl
theorem tw_634 : (Cond.code ({ cls := "DagLedger$Replica", name := "mayAdvance", desc := "()Z" } : MethodName) prog_8_method_16_code (2 : Nat) (Option.some FieldType.boolean)) ∈ wd_tb := wd_in (wd_c2 (List.mem_of_getElem? (i := 154) rfl)) rfl
theorem tw_635 : (Cond.methodLink "DagLedger$Replica" (214 : Nat) ({ cls := "DagLedger$Vertices", name := "isFull", desc := "()Z" } : MethodName)) ∈ wd_tb := wd_in (wd_c2 (List.mem_of_getElem? (i := 155) rfl)) rfl
theorem tw_636 : (Cond.methodLink "DagLedger$Replica" (217 : Nat) ({ cls := "DagLedger$Dag", name := "holds", desc := "(II)Z" } : MethodName)) ∈ wd_tb := wd_in (wd_c2 (List.mem_of_getElem? (i := 156) rfl)) rfl
theorem tw_637 : (Cond.methodLink "DagLedger$Replica" (202 : Nat) ({ cls := "DagLedger$Dag", name := "authorsOf", desc := "(I)I" } : MethodName)) ∈ wd_tb := wd_in (wd_c2 (List.mem_of_getElem? (i := 157) rfl)) rfl
theorem tw_638 : (Cond.instanceMethod ({ cls := "DagLedger$Dag", name := "authorsOf", desc := "(I)I" } : MethodName)) ∈ wd_tb := wd_in (wd_c2 (List.mem_of_getElem? (i := 158) rfl)) rfl
theorem tw_639 : (Cond.selects "DagLedger$Dag" ({ cls := "DagLedger$Dag", name := "authorsOf", desc := "(I)I" } : MethodName) ({ cls := "DagLedger$Dag", name := "authorsOf", desc := "(I)I" } : MethodName)) ∈ wd_tb := wd_in (wd_c2 (List.mem_of_getElem? (i := 159) rfl)) rfl
theorem tw_640 : (Cond.code ({ cls := "DagLedger$Dag", name := "authorsOf", desc := "(I)I" } : MethodName) prog_5_method_4_code (2 : Nat) (Option.some FieldType.int)) ∈ wd_tb := wd_in (wd_c2 (List.mem_of_getElem? (i := 160) rfl)) rfl
theorem tw_641 : (Cond.methodLink "DagLedger$Replica" (220 : Nat) ({ cls := "java/lang/Integer", name := "bitCount", desc := "(I)I" } : MethodName)) ∈ wd_tb := wd_in (wd_c2 (List.mem_of_getElem? (i := 161) rfl)) rfl
theorem tw_643 : (Cond.methodLink "DagLedger$Replica" (206 : Nat) ({ cls := "DagLedger$Disk", name := "nextOfQueue", desc := "()I" } : MethodName)) ∈ wd_tb := wd_in (wd_c2 (List.mem_of_getElem? (i := 163) rfl)) rfl
theorem tw_644 : (Cond.instanceMethod ({ cls := "DagLedger$Disk", name := "nextOfQueue", desc := "()I" } : MethodName)) ∈ wd_tb := wd_in (wd_c2 (List.mem_of_getElem? (i := 164) rfl)) rfl
theorem tw_645 : (Cond.selects "DagLedger$Disk" ({ cls := "DagLedger$Disk", name := "nextOfQueue", desc := "()I" } : MethodName) ({ cls := "DagLedger$Disk", name := "nextOfQueue", desc := "()I" } : MethodName)) ∈ wd_tb := wd_in (wd_c2 (List.mem_of_getElem? (i := 165) rfl)) rfl
theorem tw_646 : (Cond.code ({ cls := "DagLedger$Disk", name := "nextOfQueue", desc := "()I" } : MethodName) prog_6_method_4_code (1 : Nat) (Option.some FieldType.int)) ∈ wd_tb := wd_in (wd_c2 (List.mem_of_getElem? (i := 166) rfl)) rfl
theorem tw_647 : (Cond.methodLink "DagLedger$Replica" (210 : Nat) ({ cls := "DagLedger$Vertices", name := "add", desc := "(IIIII)I" } : MethodName)) ∈ wd_tb := wd_in (wd_c2 (List.mem_of_getElem? (i := 167) rfl)) rfl
theorem tw_651 : (Cond.methodLink "DagLedgerLaw" (21 : Nat) ({ cls := "DagLedger", name := "pump", desc := "(II)I" } : MethodName)) ∈ wd_tb := wd_in (wd_c2 (List.mem_of_getElem? (i := 171) rfl)) rfl
theorem tw_652 : (Cond.instanceMethod ({ cls := "DagLedger", name := "pump", desc := "(II)I" } : MethodName)) ∈ wd_tb := wd_in (wd_c2 (List.mem_of_getElem? (i := 172) rfl)) rfl
theorem tw_653 : (Cond.selects "DagLedger" ({ cls := "DagLedger", name := "pump", desc := "(II)I" } : MethodName) ({ cls := "DagLedger", name := "pump", desc := "(II)I" } : MethodName)) ∈ wd_tb := wd_in (wd_c2 (List.mem_of_getElem? (i := 173) rfl)) rfl
theorem tw_654 : (Cond.code ({ cls := "DagLedger", name := "pump", desc := "(II)I" } : MethodName) prog_1_method_4_code (5 : Nat) (Option.some FieldType.int)) ∈ wd_tb := wd_in (wd_c2 (List.mem_of_getElem? (i := 174) rfl)) rfl
theorem tw_658 : (Cond.methodLink "DagLedgerLaw" (25 : Nat) ({ cls := "DagLedger", name := "tick", desc := "(I)Z" } : MethodName)) ∈ wd_tb := wd_in (wd_c2 (List.mem_of_getElem? (i := 178) rfl)) rfl
theorem tw_659 : (Cond.instanceMethod ({ cls := "DagLedger", name := "tick", desc := "(I)Z" } : MethodName)) ∈ wd_tb := wd_in (wd_c2 (List.mem_of_getElem? (i := 179) rfl)) rfl
theorem tw_660 : (Cond.selects "DagLedger" ({ cls := "DagLedger", name := "tick", desc := "(I)Z" } : MethodName) ({ cls := "DagLedger", name := "tick", desc := "(I)Z" } : MethodName)) ∈ wd_tb := wd_in (wd_c2 (List.mem_of_getElem? (i := 180) rfl)) rfl
theorem tw_661 : (Cond.code ({ cls := "DagLedger", name := "tick", desc := "(I)Z" } : MethodName) prog_1_method_5_code (3 : Nat) (Option.some FieldType.boolean)) ∈ wd_tb := wd_in (wd_c2 (List.mem_of_getElem? (i := 181) rfl)) rfl
theorem tw_662 : (Cond.methodLink "DagLedger" (88 : Nat) ({ cls := "DagLedger$Replica", name := "passTime", desc := "()V" } : MethodName)) ∈ wd_tb := wd_in (wd_c2 (List.mem_of_getElem? (i := 182) rfl)) rfl
theorem tw_663 : (Cond.instanceMethod ({ cls := "DagLedger$Replica", name := "passTime", desc := "()V" } : MethodName)) ∈ wd_tb := wd_in (wd_c2 (List.mem_of_getElem? (i := 183) rfl)) rfl
theorem tw_664 : (Cond.selects "DagLedger$Replica" ({ cls := "DagLedger$Replica", name := "passTime", desc := "()V" } : MethodName) ({ cls := "DagLedger$Replica", name := "passTime", desc := "()V" } : MethodName)) ∈ wd_tb := wd_in (wd_c2 (List.mem_of_getElem? (i := 184) rfl)) rfl
theorem tw_665 : (Cond.code ({ cls := "DagLedger$Replica", name := "passTime", desc := "()V" } : MethodName) prog_8_method_7_code (1 : Nat) (Option.none : Option FieldType)) ∈ wd_tb := wd_in (wd_c2 (List.mem_of_getElem? (i := 185) rfl)) rfl
theorem tw_666 : (Cond.methodLink "DagLedger$Replica" (95 : Nat) ({ cls := "java/lang/Math", name := "min", desc := "(II)I" } : MethodName)) ∈ wd_tb := wd_in (wd_c2 (List.mem_of_getElem? (i := 186) rfl)) rfl
theorem tw_667 : (Cond.static ({ cls := "java/lang/Math", name := "min", desc := "(II)I" } : MethodName)) ∈ wd_tb := wd_in (wd_c2 (List.mem_of_getElem? (i := 187) rfl)) rfl
theorem tw_668 : (Cond.code ({ cls := "java/lang/Math", name := "min", desc := "(II)I" } : MethodName) prog_17_method_69_code (2 : Nat) (Option.some FieldType.int)) ∈ wd_tb := wd_in (wd_c2 (List.mem_of_getElem? (i := 188) rfl)) rfl
theorem tw_672 : (Cond.methodLink "DagLedgerLaw" (29 : Nat) ({ cls := "DagLedger", name := "crash", desc := "(I)Z" } : MethodName)) ∈ wd_tb := wd_in (wd_c2 (List.mem_of_getElem? (i := 192) rfl)) rfl
theorem tw_673 : (Cond.instanceMethod ({ cls := "DagLedger", name := "crash", desc := "(I)Z" } : MethodName)) ∈ wd_tb := wd_in (wd_c2 (List.mem_of_getElem? (i := 193) rfl)) rfl
theorem tw_674 : (Cond.selects "DagLedger" ({ cls := "DagLedger", name := "crash", desc := "(I)Z" } : MethodName) ({ cls := "DagLedger", name := "crash", desc := "(I)Z" } : MethodName)) ∈ wd_tb := wd_in (wd_c2 (List.mem_of_getElem? (i := 194) rfl)) rfl
theorem tw_675 : (Cond.code ({ cls := "DagLedger", name := "crash", desc := "(I)Z" } : MethodName) prog_1_method_6_code (3 : Nat) (Option.some FieldType.boolean)) ∈ wd_tb := wd_in (wd_c2 (List.mem_of_getElem? (i := 195) rfl)) rfl
theorem tw_676 : (Cond.methodLink "DagLedger" (91 : Nat) ({ cls := "DagLedger$Replica", name := "goDown", desc := "()V" } : MethodName)) ∈ wd_tb := wd_in (wd_c2 (List.mem_of_getElem? (i := 196) rfl)) rfl
theorem tw_680 : (Cond.methodLink "DagLedgerLaw" (32 : Nat) ({ cls := "DagLedger", name := "restart", desc := "(I)Z" } : MethodName)) ∈ wd_tb := wd_in (wd_c2 (List.mem_of_getElem? (i := 200) rfl)) rfl
theorem tw_681 : (Cond.instanceMethod ({ cls := "DagLedger", name := "restart", desc := "(I)Z" } : MethodName)) ∈ wd_tb := wd_in (wd_c2 (List.mem_of_getElem? (i := 201) rfl)) rfl
theorem tw_682 : (Cond.selects "DagLedger" ({ cls := "DagLedger", name := "restart", desc := "(I)Z" } : MethodName) ({ cls := "DagLedger", name := "restart", desc := "(I)Z" } : MethodName)) ∈ wd_tb := wd_in (wd_c2 (List.mem_of_getElem? (i := 202) rfl)) rfl
theorem tw_683 : (Cond.code ({ cls := "DagLedger", name := "restart", desc := "(I)Z" } : MethodName) prog_1_method_7_code (3 : Nat) (Option.some FieldType.boolean)) ∈ wd_tb := wd_in (wd_c2 (List.mem_of_getElem? (i := 203) rfl)) rfl
theorem tw_684 : (Cond.methodLink "DagLedger" (97 : Nat) ({ cls := "DagLedger$Replica", name := "comeUp", desc := "()V" } : MethodName)) ∈ wd_tb := wd_in (wd_c2 (List.mem_of_getElem? (i := 204) rfl)) rfl
theorem tw_685 : (Cond.instanceMethod ({ cls := "DagLedger$Replica", name := "comeUp", desc := "()V" } : MethodName)) ∈ wd_tb := wd_in (wd_c2 (List.mem_of_getElem? (i := 205) rfl)) rfl
theorem tw_686 : (Cond.selects "DagLedger$Replica" ({ cls := "DagLedger$Replica", name := "comeUp", desc := "()V" } : MethodName) ({ cls := "DagLedger$Replica", name := "comeUp", desc := "()V" } : MethodName)) ∈ wd_tb := wd_in (wd_c2 (List.mem_of_getElem? (i := 206) rfl)) rfl
theorem tw_687 : (Cond.code ({ cls := "DagLedger$Replica", name := "comeUp", desc := "()V" } : MethodName) prog_8_method_4_code (1 : Nat) (Option.none : Option FieldType)) ∈ wd_tb := wd_in (wd_c2 (List.mem_of_getElem? (i := 207) rfl)) rfl
theorem tw_688 : (Cond.methodLink "DagLedger$Replica" (83 : Nat) ({ cls := "DagLedger$Book", name := "open", desc := "()V" } : MethodName)) ∈ wd_tb := wd_in (wd_c2 (List.mem_of_getElem? (i := 208) rfl)) rfl
theorem tw_689 : (Cond.instanceMethod ({ cls := "DagLedger$Book", name := "open", desc := "()V" } : MethodName)) ∈ wd_tb := wd_in (wd_c2 (List.mem_of_getElem? (i := 209) rfl)) rfl
theorem tw_690 : (Cond.selects "DagLedger$Book" ({ cls := "DagLedger$Book", name := "open", desc := "()V" } : MethodName) ({ cls := "DagLedger$Book", name := "open", desc := "()V" } : MethodName)) ∈ wd_tb := wd_in (wd_c2 (List.mem_of_getElem? (i := 210) rfl)) rfl
theorem tw_691 : (Cond.code ({ cls := "DagLedger$Book", name := "open", desc := "()V" } : MethodName) prog_3_method_3_code (1 : Nat) (Option.none : Option FieldType)) ∈ wd_tb := wd_in (wd_c2 (List.mem_of_getElem? (i := 211) rfl)) rfl
theorem tw_692 : (Cond.methodLink "DagLedger" (100 : Nat) ({ cls := "DagLedger$Replica", name := "act", desc := "()V" } : MethodName)) ∈ wd_tb := wd_in (wd_c2 (List.mem_of_getElem? (i := 212) rfl)) rfl
theorem tw_696 : (Cond.methodLink "DagLedgerLaw" (35 : Nat) ({ cls := "DagLedger", name := "cut", desc := "(II)Z" } : MethodName)) ∈ wd_tb := wd_in (wd_c2 (List.mem_of_getElem? (i := 216) rfl)) rfl
theorem tw_697 : (Cond.instanceMethod ({ cls := "DagLedger", name := "cut", desc := "(II)Z" } : MethodName)) ∈ wd_tb := wd_in (wd_c2 (List.mem_of_getElem? (i := 217) rfl)) rfl
theorem tw_698 : (Cond.selects "DagLedger" ({ cls := "DagLedger", name := "cut", desc := "(II)Z" } : MethodName) ({ cls := "DagLedger", name := "cut", desc := "(II)Z" } : MethodName)) ∈ wd_tb := wd_in (wd_c2 (List.mem_of_getElem? (i := 218) rfl)) rfl
theorem tw_699 : (Cond.code ({ cls := "DagLedger", name := "cut", desc := "(II)Z" } : MethodName) prog_1_method_8_code (4 : Nat) (Option.some FieldType.boolean)) ∈ wd_tb := wd_in (wd_c2 (List.mem_of_getElem? (i := 219) rfl)) rfl
theorem tw_700 : (Cond.methodLink "DagLedger" (103 : Nat) ({ cls := "DagLedger$Replica", name := "setCut", desc := "(I)V" } : MethodName)) ∈ wd_tb := wd_in (wd_c2 (List.mem_of_getElem? (i := 220) rfl)) rfl
theorem tw_701 : (Cond.instanceMethod ({ cls := "DagLedger$Replica", name := "setCut", desc := "(I)V" } : MethodName)) ∈ wd_tb := wd_in (wd_c2 (List.mem_of_getElem? (i := 221) rfl)) rfl
theorem tw_702 : (Cond.selects "DagLedger$Replica" ({ cls := "DagLedger$Replica", name := "setCut", desc := "(I)V" } : MethodName) ({ cls := "DagLedger$Replica", name := "setCut", desc := "(I)V" } : MethodName)) ∈ wd_tb := wd_in (wd_c2 (List.mem_of_getElem? (i := 222) rfl)) rfl
theorem tw_703 : (Cond.code ({ cls := "DagLedger$Replica", name := "setCut", desc := "(I)V" } : MethodName) prog_8_method_5_code (2 : Nat) (Option.none : Option FieldType)) ∈ wd_tb := wd_in (wd_c2 (List.mem_of_getElem? (i := 223) rfl)) rfl
theorem tw_707 : (Cond.methodLink "DagLedgerLaw" (38 : Nat) ({ cls := "DagLedger", name := "corrupt", desc := "(I)Z" } : MethodName)) ∈ wd_tb := wd_in (wd_c2 (List.mem_of_getElem? (i := 227) rfl)) rfl
theorem tw_708 : (Cond.instanceMethod ({ cls := "DagLedger", name := "corrupt", desc := "(I)Z" } : MethodName)) ∈ wd_tb := wd_in (wd_c2 (List.mem_of_getElem? (i := 228) rfl)) rfl
theorem tw_709 : (Cond.selects "DagLedger" ({ cls := "DagLedger", name := "corrupt", desc := "(I)Z" } : MethodName) ({ cls := "DagLedger", name := "corrupt", desc := "(I)Z" } : MethodName)) ∈ wd_tb := wd_in (wd_c2 (List.mem_of_getElem? (i := 229) rfl)) rfl
theorem tw_710 : (Cond.code ({ cls := "DagLedger", name := "corrupt", desc := "(I)Z" } : MethodName) prog_1_method_9_code (3 : Nat) (Option.some FieldType.boolean)) ∈ wd_tb := wd_in (wd_c2 (List.mem_of_getElem? (i := 230) rfl)) rfl
theorem tw_714 : (Cond.methodLink "DagLedgerLaw" (41 : Nat) ({ cls := "DagLedger", name := "node", desc := "(II)I" } : MethodName)) ∈ wd_tb := wd_in (wd_c2 (List.mem_of_getElem? (i := 234) rfl)) rfl
theorem tw_715 : (Cond.instanceMethod ({ cls := "DagLedger", name := "node", desc := "(II)I" } : MethodName)) ∈ wd_tb := wd_in (wd_c2 (List.mem_of_getElem? (i := 235) rfl)) rfl
theorem tw_716 : (Cond.selects "DagLedger" ({ cls := "DagLedger", name := "node", desc := "(II)I" } : MethodName) ({ cls := "DagLedger", name := "node", desc := "(II)I" } : MethodName)) ∈ wd_tb := wd_in (wd_c2 (List.mem_of_getElem? (i := 236) rfl)) rfl
theorem tw_717 : (Cond.code ({ cls := "DagLedger", name := "node", desc := "(II)I" } : MethodName) prog_1_method_14_code (4 : Nat) (Option.some FieldType.int)) ∈ wd_tb := wd_in (wd_c2 (List.mem_of_getElem? (i := 237) rfl)) rfl
theorem tw_718 : (Cond.methodLink "DagLedger" (173 : Nat) ({ cls := "DagLedger$Disk", name := "queueLength", desc := "()I" } : MethodName)) ∈ wd_tb := wd_in (wd_c2 (List.mem_of_getElem? (i := 238) rfl)) rfl
theorem tw_719 : (Cond.instanceMethod ({ cls := "DagLedger$Disk", name := "queueLength", desc := "()I" } : MethodName)) ∈ wd_tb := wd_in (wd_c2 (List.mem_of_getElem? (i := 239) rfl)) rfl
theorem tw_720 : (Cond.selects "DagLedger$Disk" ({ cls := "DagLedger$Disk", name := "queueLength", desc := "()I" } : MethodName) ({ cls := "DagLedger$Disk", name := "queueLength", desc := "()I" } : MethodName)) ∈ wd_tb := wd_in (wd_c3 (List.mem_of_getElem? (i := 0) rfl)) rfl
theorem tw_721 : (Cond.code ({ cls := "DagLedger$Disk", name := "queueLength", desc := "()I" } : MethodName) prog_6_method_3_code (1 : Nat) (Option.some FieldType.int)) ∈ wd_tb := wd_in (wd_c3 (List.mem_of_getElem? (i := 1) rfl)) rfl
theorem tw_725 : (Cond.methodLink "DagLedgerLaw" (44 : Nat) ({ cls := "DagLedger", name := "dag", desc := "(III)I" } : MethodName)) ∈ wd_tb := wd_in (wd_c3 (List.mem_of_getElem? (i := 5) rfl)) rfl
theorem tw_726 : (Cond.instanceMethod ({ cls := "DagLedger", name := "dag", desc := "(III)I" } : MethodName)) ∈ wd_tb := wd_in (wd_c3 (List.mem_of_getElem? (i := 6) rfl)) rfl
theorem tw_727 : (Cond.selects "DagLedger" ({ cls := "DagLedger", name := "dag", desc := "(III)I" } : MethodName) ({ cls := "DagLedger", name := "dag", desc := "(III)I" } : MethodName)) ∈ wd_tb := wd_in (wd_c3 (List.mem_of_getElem? (i := 7) rfl)) rfl
theorem tw_728 : (Cond.code ({ cls := "DagLedger", name := "dag", desc := "(III)I" } : MethodName) prog_1_method_15_code (5 : Nat) (Option.some FieldType.int)) ∈ wd_tb := wd_in (wd_c3 (List.mem_of_getElem? (i := 8) rfl)) rfl
theorem tw_729 : (Cond.methodLink "DagLedger" (180 : Nat) ({ cls := "DagLedger$Dag", name := "find", desc := "(II)I" } : MethodName)) ∈ wd_tb := wd_in (wd_c3 (List.mem_of_getElem? (i := 9) rfl)) rfl
theorem tw_733 : (Cond.methodLink "DagLedgerLaw" (48 : Nat) ({ cls := "DagLedger", name := "at", desc := "(II)I" } : MethodName)) ∈ wd_tb := wd_in (wd_c3 (List.mem_of_getElem? (i := 13) rfl)) rfl
theorem tw_734 : (Cond.instanceMethod ({ cls := "DagLedger", name := "at", desc := "(II)I" } : MethodName)) ∈ wd_tb := wd_in (wd_c3 (List.mem_of_getElem? (i := 14) rfl)) rfl
theorem tw_735 : (Cond.selects "DagLedger" ({ cls := "DagLedger", name := "at", desc := "(II)I" } : MethodName) ({ cls := "DagLedger", name := "at", desc := "(II)I" } : MethodName)) ∈ wd_tb := wd_in (wd_c3 (List.mem_of_getElem? (i := 15) rfl)) rfl
theorem tw_736 : (Cond.code ({ cls := "DagLedger", name := "at", desc := "(II)I" } : MethodName) prog_1_method_16_code (4 : Nat) (Option.some FieldType.int)) ∈ wd_tb := wd_in (wd_c3 (List.mem_of_getElem? (i := 16) rfl)) rfl
theorem tw_740 : (Cond.methodLink "DagLedgerLaw" (51 : Nat) ({ cls := "DagLedger", name := "balance", desc := "(II)I" } : MethodName)) ∈ wd_tb := wd_in (wd_c3 (List.mem_of_getElem? (i := 20) rfl)) rfl
theorem tw_741 : (Cond.instanceMethod ({ cls := "DagLedger", name := "balance", desc := "(II)I" } : MethodName)) ∈ wd_tb := wd_in (wd_c3 (List.mem_of_getElem? (i := 21) rfl)) rfl
theorem tw_742 : (Cond.selects "DagLedger" ({ cls := "DagLedger", name := "balance", desc := "(II)I" } : MethodName) ({ cls := "DagLedger", name := "balance", desc := "(II)I" } : MethodName)) ∈ wd_tb := wd_in (wd_c3 (List.mem_of_getElem? (i := 22) rfl)) rfl
theorem tw_743 : (Cond.code ({ cls := "DagLedger", name := "balance", desc := "(II)I" } : MethodName) prog_1_method_17_code (4 : Nat) (Option.some FieldType.int)) ∈ wd_tb := wd_in (wd_c3 (List.mem_of_getElem? (i := 23) rfl)) rfl
theorem tw_750 : (Cond.methodLink "DagLedgerModel" (101 : Nat) ({ cls := "DagLedgerModel", name := "fresh", desc := "(I)V" } : MethodName)) ∈ wd_tb := wd_in (wd_c3 (List.mem_of_getElem? (i := 30) rfl)) rfl
theorem tw_752 : (Cond.instanceMethod ({ cls := "DagLedgerModel", name := "fresh", desc := "(I)V" } : MethodName)) ∈ wd_tb := wd_in (wd_c3 (List.mem_of_getElem? (i := 32) rfl)) rfl
theorem tw_753 : (Cond.code ({ cls := "DagLedgerModel", name := "fresh", desc := "(I)V" } : MethodName) prog_12_method_4_code (3 : Nat) (Option.none : Option FieldType)) ∈ wd_tb := wd_in (wd_c3 (List.mem_of_getElem? (i := 33) rfl)) rfl
theorem tw_754 : (Cond.fieldLink "DagLedgerModel" (105 : Nat) "DagLedgerModel" "thrown" "I") ∈ wd_tb := wd_in (wd_c3 (List.mem_of_getElem? (i := 34) rfl)) rfl
theorem tw_755 : (Cond.fieldLink "DagLedgerModel" (176 : Nat) "DagLedgerModel" "transfers" "I") ∈ wd_tb := wd_in (wd_c3 (List.mem_of_getElem? (i := 35) rfl)) rfl
theorem tw_756 : (Cond.fieldLink "DagLedgerModel" (7 : Nat) "DagLedgerModel" "from" "[I") ∈ wd_tb := wd_in (wd_c3 (List.mem_of_getElem? (i := 36) rfl)) rfl
theorem tw_757 : (Cond.fieldLink "DagLedgerModel" (13 : Nat) "DagLedgerModel" "to" "[I") ∈ wd_tb := wd_in (wd_c3 (List.mem_of_getElem? (i := 37) rfl)) rfl
theorem tw_758 : (Cond.fieldLink "DagLedgerModel" (16 : Nat) "DagLedgerModel" "amount" "[I") ∈ wd_tb := wd_in (wd_c3 (List.mem_of_getElem? (i := 38) rfl)) rfl
theorem tw_759 : (Cond.fieldLink "DagLedgerModel" (19 : Nat) "DagLedgerModel" "owner" "[I") ∈ wd_tb := wd_in (wd_c3 (List.mem_of_getElem? (i := 39) rfl)) rfl
theorem tw_760 : (Cond.fieldLink "DagLedgerModel" (22 : Nat) "DagLedgerModel" "placed" "[Z") ∈ wd_tb := wd_in (wd_c3 (List.mem_of_getElem? (i := 40) rfl)) rfl
theorem tw_761 : (Cond.fieldLink "DagLedgerModel" (153 : Nat) "DagLedgerModel" "vertices" "I") ∈ wd_tb := wd_in (wd_c3 (List.mem_of_getElem? (i := 41) rfl)) rfl
theorem tw_762 : (Cond.fieldLink "DagLedgerModel" (26 : Nat) "DagLedgerModel" "author" "[I") ∈ wd_tb := wd_in (wd_c3 (List.mem_of_getElem? (i := 42) rfl)) rfl
theorem tw_763 : (Cond.fieldLink "DagLedgerModel" (29 : Nat) "DagLedgerModel" "round" "[I") ∈ wd_tb := wd_in (wd_c3 (List.mem_of_getElem? (i := 43) rfl)) rfl
theorem tw_764 : (Cond.fieldLink "DagLedgerModel" (32 : Nat) "DagLedgerModel" "parents" "[I") ∈ wd_tb := wd_in (wd_c3 (List.mem_of_getElem? (i := 44) rfl)) rfl
theorem tw_765 : (Cond.fieldLink "DagLedgerModel" (35 : Nat) "DagLedgerModel" "first" "[I") ∈ wd_tb := wd_in (wd_c3 (List.mem_of_getElem? (i := 45) rfl)) rfl
theorem tw_766 : (Cond.fieldLink "DagLedgerModel" (38 : Nat) "DagLedgerModel" "second" "[I") ∈ wd_tb := wd_in (wd_c3 (List.mem_of_getElem? (i := 46) rfl)) rfl
theorem tw_767 : (Cond.fieldLink "DagLedgerModel" (112 : Nat) "DagLedgerModel" "messages" "I") ∈ wd_tb := wd_in (wd_c3 (List.mem_of_getElem? (i := 47) rfl)) rfl
theorem tw_768 : (Cond.fieldLink "DagLedgerModel" (41 : Nat) "DagLedgerModel" "sender" "[I") ∈ wd_tb := wd_in (wd_c3 (List.mem_of_getElem? (i := 48) rfl)) rfl
theorem tw_769 : (Cond.fieldLink "DagLedgerModel" (44 : Nat) "DagLedgerModel" "about" "[I") ∈ wd_tb := wd_in (wd_c3 (List.mem_of_getElem? (i := 49) rfl)) rfl
theorem tw_770 : (Cond.fieldLink "DagLedgerModel" (47 : Nat) "DagLedgerModel" "kind" "[I") ∈ wd_tb := wd_in (wd_c3 (List.mem_of_getElem? (i := 50) rfl)) rfl
theorem tw_771 : (Cond.fieldLink "DagLedgerModel" (50 : Nat) "DagLedgerModel" "state" "[I") ∈ wd_tb := wd_in (wd_c3 (List.mem_of_getElem? (i := 51) rfl)) rfl
theorem tw_772 : (Cond.fieldLink "DagLedgerModel" (53 : Nat) "DagLedgerModel" "records" "[I") ∈ wd_tb := wd_in (wd_c3 (List.mem_of_getElem? (i := 52) rfl)) rfl
theorem tw_773 : (Cond.fieldLink "DagLedgerModel" (56 : Nat) "DagLedgerModel" "cutAt" "[I") ∈ wd_tb := wd_in (wd_c3 (List.mem_of_getElem? (i := 53) rfl)) rfl
theorem tw_774 : (Cond.fieldLink "DagLedgerModel" (59 : Nat) "DagLedgerModel" "made" "[I") ∈ wd_tb := wd_in (wd_c3 (List.mem_of_getElem? (i := 54) rfl)) rfl
theorem tw_775 : (Cond.fieldLink "DagLedgerModel" (62 : Nat) "DagLedgerModel" "echoed" "[Z") ∈ wd_tb := wd_in (wd_c3 (List.mem_of_getElem? (i := 55) rfl)) rfl
theorem tw_776 : (Cond.fieldLink "DagLedgerModel" (65 : Nat) "DagLedgerModel" "readied" "[Z") ∈ wd_tb := wd_in (wd_c3 (List.mem_of_getElem? (i := 56) rfl)) rfl
theorem tw_777 : (Cond.fieldLink "DagLedgerModel" (68 : Nat) "DagLedgerModel" "timer" "[I") ∈ wd_tb := wd_in (wd_c3 (List.mem_of_getElem? (i := 57) rfl)) rfl
theorem tw_778 : (Cond.fieldLink "DagLedgerModel" (71 : Nat) "DagLedgerModel" "mark" "[I") ∈ wd_tb := wd_in (wd_c3 (List.mem_of_getElem? (i := 58) rfl)) rfl
theorem tw_779 : (Cond.fieldLink "DagLedgerModel" (74 : Nat) "DagLedgerModel" "last" "[I") ∈ wd_tb := wd_in (wd_c3 (List.mem_of_getElem? (i := 59) rfl)) rfl
theorem tw_780 : (Cond.fieldLink "DagLedgerModel" (77 : Nat) "DagLedgerModel" "dag" "[I") ∈ wd_tb := wd_in (wd_c3 (List.mem_of_getElem? (i := 60) rfl)) rfl
theorem tw_781 : (Cond.fieldLink "DagLedgerModel" (80 : Nat) "DagLedgerModel" "echoes" "[I") ∈ wd_tb := wd_in (wd_c3 (List.mem_of_getElem? (i := 61) rfl)) rfl
theorem tw_782 : (Cond.fieldLink "DagLedgerModel" (83 : Nat) "DagLedgerModel" "readies" "[I") ∈ wd_tb := wd_in (wd_c3 (List.mem_of_getElem? (i := 62) rfl)) rfl
theorem tw_783 : (Cond.fieldLink "DagLedgerModel" (86 : Nat) "DagLedgerModel" "emitted" "[Z") ∈ wd_tb := wd_in (wd_c3 (List.mem_of_getElem? (i := 63) rfl)) rfl
theorem tw_784 : (Cond.fieldLink "DagLedgerModel" (89 : Nat) "DagLedgerModel" "order" "[I") ∈ wd_tb := wd_in (wd_c3 (List.mem_of_getElem? (i := 64) rfl)) rfl
theorem tw_785 : (Cond.fieldLink "DagLedgerModel" (92 : Nat) "DagLedgerModel" "positions" "[I") ∈ wd_tb := wd_in (wd_c3 (List.mem_of_getElem? (i := 65) rfl)) rfl
theorem tw_786 : (Cond.fieldLink "DagLedgerModel" (95 : Nat) "DagLedgerModel" "balances" "[I") ∈ wd_tb := wd_in (wd_c3 (List.mem_of_getElem? (i := 66) rfl)) rfl
theorem tw_787 : (Cond.fieldLink "DagLedgerModel" (98 : Nat) "DagLedgerModel" "reach" "[I") ∈ wd_tb := wd_in (wd_c3 (List.mem_of_getElem? (i := 67) rfl)) rfl
theorem tw_788 : (Cond.fieldLink "DagLedgerModel" (207 : Nat) "DagLedgerModel" "wasDown" "Z") ∈ wd_tb := wd_in (wd_c3 (List.mem_of_getElem? (i := 68) rfl)) rfl
theorem tw_789 : (Cond.lays "DagLedgerModel" "DagLedgerModel" "thrown" "I") ∈ wd_tb := wd_in (wd_c3 (List.mem_of_getElem? (i := 69) rfl)) rfl
theorem tw_791 : (Cond.lays "DagLedgerModel" "DagLedgerModel" "transfers" "I") ∈ wd_tb := wd_in (wd_c3 (List.mem_of_getElem? (i := 71) rfl)) rfl
theorem tw_793 : (Cond.laysFinal "DagLedgerModel" "DagLedgerModel" "from" "[I") ∈ wd_tb := wd_in (wd_c3 (List.mem_of_getElem? (i := 73) rfl)) rfl
theorem tw_795 : (Cond.laysFinal "DagLedgerModel" "DagLedgerModel" "to" "[I") ∈ wd_tb := wd_in (wd_c3 (List.mem_of_getElem? (i := 75) rfl)) rfl
theorem tw_797 : (Cond.laysFinal "DagLedgerModel" "DagLedgerModel" "amount" "[I") ∈ wd_tb := wd_in (wd_c3 (List.mem_of_getElem? (i := 77) rfl)) rfl
theorem tw_799 : (Cond.laysFinal "DagLedgerModel" "DagLedgerModel" "owner" "[I") ∈ wd_tb := wd_in (wd_c3 (List.mem_of_getElem? (i := 79) rfl)) rfl
theorem tw_801 : (Cond.laysFinal "DagLedgerModel" "DagLedgerModel" "placed" "[Z") ∈ wd_tb := wd_in (wd_c3 (List.mem_of_getElem? (i := 81) rfl)) rfl
theorem tw_803 : (Cond.lays "DagLedgerModel" "DagLedgerModel" "vertices" "I") ∈ wd_tb := wd_in (wd_c3 (List.mem_of_getElem? (i := 83) rfl)) rfl
theorem tw_805 : (Cond.laysFinal "DagLedgerModel" "DagLedgerModel" "author" "[I") ∈ wd_tb := wd_in (wd_c3 (List.mem_of_getElem? (i := 85) rfl)) rfl
theorem tw_807 : (Cond.laysFinal "DagLedgerModel" "DagLedgerModel" "round" "[I") ∈ wd_tb := wd_in (wd_c3 (List.mem_of_getElem? (i := 87) rfl)) rfl
theorem tw_809 : (Cond.laysFinal "DagLedgerModel" "DagLedgerModel" "parents" "[I") ∈ wd_tb := wd_in (wd_c3 (List.mem_of_getElem? (i := 89) rfl)) rfl
theorem tw_811 : (Cond.laysFinal "DagLedgerModel" "DagLedgerModel" "first" "[I") ∈ wd_tb := wd_in (wd_c3 (List.mem_of_getElem? (i := 91) rfl)) rfl
theorem tw_813 : (Cond.laysFinal "DagLedgerModel" "DagLedgerModel" "second" "[I") ∈ wd_tb := wd_in (wd_c3 (List.mem_of_getElem? (i := 93) rfl)) rfl
theorem tw_815 : (Cond.lays "DagLedgerModel" "DagLedgerModel" "messages" "I") ∈ wd_tb := wd_in (wd_c3 (List.mem_of_getElem? (i := 95) rfl)) rfl
theorem tw_817 : (Cond.laysFinal "DagLedgerModel" "DagLedgerModel" "sender" "[I") ∈ wd_tb := wd_in (wd_c3 (List.mem_of_getElem? (i := 97) rfl)) rfl
theorem tw_819 : (Cond.laysFinal "DagLedgerModel" "DagLedgerModel" "about" "[I") ∈ wd_tb := wd_in (wd_c3 (List.mem_of_getElem? (i := 99) rfl)) rfl
theorem tw_821 : (Cond.laysFinal "DagLedgerModel" "DagLedgerModel" "kind" "[I") ∈ wd_tb := wd_in (wd_c3 (List.mem_of_getElem? (i := 101) rfl)) rfl
theorem tw_823 : (Cond.laysFinal "DagLedgerModel" "DagLedgerModel" "state" "[I") ∈ wd_tb := wd_in (wd_c3 (List.mem_of_getElem? (i := 103) rfl)) rfl
theorem tw_825 : (Cond.laysFinal "DagLedgerModel" "DagLedgerModel" "records" "[I") ∈ wd_tb := wd_in (wd_c3 (List.mem_of_getElem? (i := 105) rfl)) rfl
theorem tw_827 : (Cond.laysFinal "DagLedgerModel" "DagLedgerModel" "cutAt" "[I") ∈ wd_tb := wd_in (wd_c3 (List.mem_of_getElem? (i := 107) rfl)) rfl
theorem tw_829 : (Cond.laysFinal "DagLedgerModel" "DagLedgerModel" "made" "[I") ∈ wd_tb := wd_in (wd_c3 (List.mem_of_getElem? (i := 109) rfl)) rfl
theorem tw_831 : (Cond.laysFinal "DagLedgerModel" "DagLedgerModel" "echoed" "[Z") ∈ wd_tb := wd_in (wd_c3 (List.mem_of_getElem? (i := 111) rfl)) rfl
theorem tw_833 : (Cond.laysFinal "DagLedgerModel" "DagLedgerModel" "readied" "[Z") ∈ wd_tb := wd_in (wd_c3 (List.mem_of_getElem? (i := 113) rfl)) rfl
theorem tw_835 : (Cond.laysFinal "DagLedgerModel" "DagLedgerModel" "timer" "[I") ∈ wd_tb := wd_in (wd_c3 (List.mem_of_getElem? (i := 115) rfl)) rfl
theorem tw_837 : (Cond.laysFinal "DagLedgerModel" "DagLedgerModel" "mark" "[I") ∈ wd_tb := wd_in (wd_c3 (List.mem_of_getElem? (i := 117) rfl)) rfl
theorem tw_839 : (Cond.laysFinal "DagLedgerModel" "DagLedgerModel" "last" "[I") ∈ wd_tb := wd_in (wd_c3 (List.mem_of_getElem? (i := 119) rfl)) rfl
theorem tw_841 : (Cond.laysFinal "DagLedgerModel" "DagLedgerModel" "dag" "[I") ∈ wd_tb := wd_in (wd_c3 (List.mem_of_getElem? (i := 121) rfl)) rfl
theorem tw_843 : (Cond.laysFinal "DagLedgerModel" "DagLedgerModel" "echoes" "[I") ∈ wd_tb := wd_in (wd_c3 (List.mem_of_getElem? (i := 123) rfl)) rfl
theorem tw_845 : (Cond.laysFinal "DagLedgerModel" "DagLedgerModel" "readies" "[I") ∈ wd_tb := wd_in (wd_c3 (List.mem_of_getElem? (i := 125) rfl)) rfl
theorem tw_847 : (Cond.laysFinal "DagLedgerModel" "DagLedgerModel" "emitted" "[Z") ∈ wd_tb := wd_in (wd_c3 (List.mem_of_getElem? (i := 127) rfl)) rfl
theorem tw_849 : (Cond.laysFinal "DagLedgerModel" "DagLedgerModel" "order" "[I") ∈ wd_tb := wd_in (wd_c3 (List.mem_of_getElem? (i := 129) rfl)) rfl
theorem tw_851 : (Cond.laysFinal "DagLedgerModel" "DagLedgerModel" "positions" "[I") ∈ wd_tb := wd_in (wd_c3 (List.mem_of_getElem? (i := 131) rfl)) rfl
theorem tw_853 : (Cond.laysFinal "DagLedgerModel" "DagLedgerModel" "balances" "[I") ∈ wd_tb := wd_in (wd_c3 (List.mem_of_getElem? (i := 133) rfl)) rfl
theorem tw_855 : (Cond.laysFinal "DagLedgerModel" "DagLedgerModel" "reach" "[I") ∈ wd_tb := wd_in (wd_c3 (List.mem_of_getElem? (i := 135) rfl)) rfl
theorem tw_857 : (Cond.lays "DagLedgerModel" "DagLedgerModel" "wasDown" "Z") ∈ wd_tb := wd_in (wd_c3 (List.mem_of_getElem? (i := 137) rfl)) rfl
theorem tw_861 : (Cond.methodLink "DagLedgerLaw" (64 : Nat) ({ cls := "DagLedgerModel", name := "thrown", desc := "()I" } : MethodName)) ∈ wd_tb := wd_in (wd_c3 (List.mem_of_getElem? (i := 141) rfl)) rfl
theorem tw_862 : (Cond.instanceMethod ({ cls := "DagLedgerModel", name := "thrown", desc := "()I" } : MethodName)) ∈ wd_tb := wd_in (wd_c3 (List.mem_of_getElem? (i := 142) rfl)) rfl
theorem tw_863 : (Cond.selects "DagLedgerModel" ({ cls := "DagLedgerModel", name := "thrown", desc := "()I" } : MethodName) ({ cls := "DagLedgerModel", name := "thrown", desc := "()I" } : MethodName)) ∈ wd_tb := wd_in (wd_c3 (List.mem_of_getElem? (i := 143) rfl)) rfl
theorem tw_864 : (Cond.code ({ cls := "DagLedgerModel", name := "thrown", desc := "()I" } : MethodName) prog_12_method_2_code (1 : Nat) (Option.some FieldType.int)) ∈ wd_tb := wd_in (wd_c3 (List.mem_of_getElem? (i := 144) rfl)) rfl
theorem tw_865 : (Cond.methodLink "DagLedgerLaw" (63 : Nat) ({ cls := "DagLedgerModel", name := "submit", desc := "(IIII)I" } : MethodName)) ∈ wd_tb := wd_in (wd_c3 (List.mem_of_getElem? (i := 145) rfl)) rfl
theorem tw_866 : (Cond.instanceMethod ({ cls := "DagLedgerModel", name := "submit", desc := "(IIII)I" } : MethodName)) ∈ wd_tb := wd_in (wd_c3 (List.mem_of_getElem? (i := 146) rfl)) rfl
theorem tw_867 : (Cond.selects "DagLedgerModel" ({ cls := "DagLedgerModel", name := "submit", desc := "(IIII)I" } : MethodName) ({ cls := "DagLedgerModel", name := "submit", desc := "(IIII)I" } : MethodName)) ∈ wd_tb := wd_in (wd_c3 (List.mem_of_getElem? (i := 147) rfl)) rfl
theorem tw_868 : (Cond.code ({ cls := "DagLedgerModel", name := "submit", desc := "(IIII)I" } : MethodName) prog_12_method_29_code (5 : Nat) (Option.some FieldType.int)) ∈ wd_tb := wd_in (wd_c3 (List.mem_of_getElem? (i := 148) rfl)) rfl
theorem tw_869 : (Cond.methodLink "DagLedgerModel" (190 : Nat) ({ cls := "DagLedgerModel", name := "isNode", desc := "(I)Z" } : MethodName)) ∈ wd_tb := wd_in (wd_c3 (List.mem_of_getElem? (i := 149) rfl)) rfl
theorem tw_871 : (Cond.instanceMethod ({ cls := "DagLedgerModel", name := "isNode", desc := "(I)Z" } : MethodName)) ∈ wd_tb := wd_in (wd_c3 (List.mem_of_getElem? (i := 151) rfl)) rfl
theorem tw_872 : (Cond.code ({ cls := "DagLedgerModel", name := "isNode", desc := "(I)Z" } : MethodName) prog_12_method_26_code (2 : Nat) (Option.some FieldType.boolean)) ∈ wd_tb := wd_in (wd_c3 (List.mem_of_getElem? (i := 152) rfl)) rfl
theorem tw_873 : (Cond.methodLink "DagLedgerModel" (186 : Nat) ({ cls := "DagLedgerModel", name := "in", desc := "(III)Z" } : MethodName)) ∈ wd_tb := wd_in (wd_c3 (List.mem_of_getElem? (i := 153) rfl)) rfl
theorem tw_874 : (Cond.static ({ cls := "DagLedgerModel", name := "in", desc := "(III)Z" } : MethodName)) ∈ wd_tb := wd_in (wd_c3 (List.mem_of_getElem? (i := 154) rfl)) rfl
theorem tw_875 : (Cond.code ({ cls := "DagLedgerModel", name := "in", desc := "(III)Z" } : MethodName) prog_12_method_3_code (3 : Nat) (Option.some FieldType.boolean)) ∈ wd_tb := wd_in (wd_c3 (List.mem_of_getElem? (i := 155) rfl)) rfl
theorem tw_876 : (Cond.methodLink "DagLedgerModel" (127 : Nat) ({ cls := "DagLedgerModel", name := "record", desc := "(I)Z" } : MethodName)) ∈ wd_tb := wd_in (wd_c3 (List.mem_of_getElem? (i := 156) rfl)) rfl
theorem tw_878 : (Cond.instanceMethod ({ cls := "DagLedgerModel", name := "record", desc := "(I)Z" } : MethodName)) ∈ wd_tb := wd_in (wd_c3 (List.mem_of_getElem? (i := 158) rfl)) rfl
theorem tw_879 : (Cond.code ({ cls := "DagLedgerModel", name := "record", desc := "(I)Z" } : MethodName) prog_12_method_6_code (2 : Nat) (Option.some FieldType.boolean)) ∈ wd_tb := wd_in (wd_c3 (List.mem_of_getElem? (i := 159) rfl)) rfl
theorem tw_880 : (Cond.methodLink "DagLedgerModel" (109 : Nat) ({ cls := "DagLedgerModel", name := "fall", desc := "(I)V" } : MethodName)) ∈ wd_tb := wd_in (wd_c3 (List.mem_of_getElem? (i := 160) rfl)) rfl
theorem tw_882 : (Cond.instanceMethod ({ cls := "DagLedgerModel", name := "fall", desc := "(I)V" } : MethodName)) ∈ wd_tb := wd_in (wd_c3 (List.mem_of_getElem? (i := 162) rfl)) rfl
theorem tw_883 : (Cond.code ({ cls := "DagLedgerModel", name := "fall", desc := "(I)V" } : MethodName) prog_12_method_5_code (2 : Nat) (Option.none : Option FieldType)) ∈ wd_tb := wd_in (wd_c3 (List.mem_of_getElem? (i := 163) rfl)) rfl
theorem tw_884 : (Cond.methodLink "DagLedgerLaw" (71 : Nat) ({ cls := "DagLedgerModel", name := "deliver", desc := "(II)Z" } : MethodName)) ∈ wd_tb := wd_in (wd_c3 (List.mem_of_getElem? (i := 164) rfl)) rfl
theorem tw_885 : (Cond.instanceMethod ({ cls := "DagLedgerModel", name := "deliver", desc := "(II)Z" } : MethodName)) ∈ wd_tb := wd_in (wd_c3 (List.mem_of_getElem? (i := 165) rfl)) rfl
theorem tw_886 : (Cond.selects "DagLedgerModel" ({ cls := "DagLedgerModel", name := "deliver", desc := "(II)Z" } : MethodName) ({ cls := "DagLedgerModel", name := "deliver", desc := "(II)Z" } : MethodName)) ∈ wd_tb := wd_in (wd_c3 (List.mem_of_getElem? (i := 166) rfl)) rfl
theorem tw_887 : (Cond.code ({ cls := "DagLedgerModel", name := "deliver", desc := "(II)Z" } : MethodName) prog_12_method_30_code (3 : Nat) (Option.some FieldType.boolean)) ∈ wd_tb := wd_in (wd_c3 (List.mem_of_getElem? (i := 167) rfl)) rfl
theorem tw_888 : (Cond.methodLink "DagLedgerModel" (193 : Nat) ({ cls := "DagLedgerModel", name := "works", desc := "(I)Z" } : MethodName)) ∈ wd_tb := wd_in (wd_c3 (List.mem_of_getElem? (i := 168) rfl)) rfl
theorem tw_890 : (Cond.instanceMethod ({ cls := "DagLedgerModel", name := "works", desc := "(I)Z" } : MethodName)) ∈ wd_tb := wd_in (wd_c3 (List.mem_of_getElem? (i := 170) rfl)) rfl
theorem tw_891 : (Cond.code ({ cls := "DagLedgerModel", name := "works", desc := "(I)Z" } : MethodName) prog_12_method_27_code (2 : Nat) (Option.some FieldType.boolean)) ∈ wd_tb := wd_in (wd_c3 (List.mem_of_getElem? (i := 171) rfl)) rfl
theorem tw_892 : (Cond.methodLink "DagLedgerModel" (196 : Nat) ({ cls := "DagLedgerModel", name := "full", desc := "()Z" } : MethodName)) ∈ wd_tb := wd_in (wd_c3 (List.mem_of_getElem? (i := 172) rfl)) rfl
theorem tw_894 : (Cond.instanceMethod ({ cls := "DagLedgerModel", name := "full", desc := "()Z" } : MethodName)) ∈ wd_tb := wd_in (wd_c3 (List.mem_of_getElem? (i := 174) rfl)) rfl
theorem tw_895 : (Cond.code ({ cls := "DagLedgerModel", name := "full", desc := "()Z" } : MethodName) prog_12_method_28_code (1 : Nat) (Option.some FieldType.boolean)) ∈ wd_tb := wd_in (wd_c3 (List.mem_of_getElem? (i := 175) rfl)) rfl
theorem tw_896 : (Cond.methodLink "DagLedgerModel" (200 : Nat) ({ cls := "DagLedgerModel", name := "take", desc := "(II)V" } : MethodName)) ∈ wd_tb := wd_in (wd_c3 (List.mem_of_getElem? (i := 176) rfl)) rfl
theorem tw_898 : (Cond.instanceMethod ({ cls := "DagLedgerModel", name := "take", desc := "(II)V" } : MethodName)) ∈ wd_tb := wd_in (wd_c3 (List.mem_of_getElem? (i := 178) rfl)) rfl
theorem tw_899 : (Cond.code ({ cls := "DagLedgerModel", name := "take", desc := "(II)V" } : MethodName) prog_12_method_11_code (6 : Nat) (Option.none : Option FieldType)) ∈ wd_tb := wd_in (wd_c3 (List.mem_of_getElem? (i := 179) rfl)) rfl
theorem tw_900 : (Cond.methodLink "DagLedgerModel" (119 : Nat) ({ cls := "DagLedgerModel", name := "formed", desc := "(I)Z" } : MethodName)) ∈ wd_tb := wd_in (wd_c3 (List.mem_of_getElem? (i := 180) rfl)) rfl
theorem tw_902 : (Cond.instanceMethod ({ cls := "DagLedgerModel", name := "formed", desc := "(I)Z" } : MethodName)) ∈ wd_tb := wd_in (wd_c3 (List.mem_of_getElem? (i := 182) rfl)) rfl
theorem tw_903 : (Cond.code ({ cls := "DagLedgerModel", name := "formed", desc := "(I)Z" } : MethodName) prog_12_method_9_code (2 : Nat) (Option.some FieldType.boolean)) ∈ wd_tb := wd_in (wd_c3 (List.mem_of_getElem? (i := 183) rfl)) rfl
theorem tw_904 : (Cond.methodLink "DagLedgerModel" (115 : Nat) ({ cls := "DagLedgerModel", name := "ones", desc := "(I)I" } : MethodName)) ∈ wd_tb := wd_in (wd_c3 (List.mem_of_getElem? (i := 184) rfl)) rfl
theorem tw_905 : (Cond.static ({ cls := "DagLedgerModel", name := "ones", desc := "(I)I" } : MethodName)) ∈ wd_tb := wd_in (wd_c3 (List.mem_of_getElem? (i := 185) rfl)) rfl
theorem tw_906 : (Cond.code ({ cls := "DagLedgerModel", name := "ones", desc := "(I)I" } : MethodName) prog_12_method_8_code (1 : Nat) (Option.some FieldType.int)) ∈ wd_tb := wd_in (wd_c3 (List.mem_of_getElem? (i := 186) rfl)) rfl
theorem tw_907 : (Cond.methodLink "DagLedgerModel" (123 : Nat) ({ cls := "DagLedgerModel", name := "spot", desc := "(II)I" } : MethodName)) ∈ wd_tb := wd_in (wd_c3 (List.mem_of_getElem? (i := 187) rfl)) rfl
theorem tw_909 : (Cond.instanceMethod ({ cls := "DagLedgerModel", name := "spot", desc := "(II)I" } : MethodName)) ∈ wd_tb := wd_in (wd_c3 (List.mem_of_getElem? (i := 189) rfl)) rfl
theorem tw_910 : (Cond.code ({ cls := "DagLedgerModel", name := "spot", desc := "(II)I" } : MethodName) prog_12_method_10_code (3 : Nat) (Option.some FieldType.int)) ∈ wd_tb := wd_in (wd_c3 (List.mem_of_getElem? (i := 190) rfl)) rfl
theorem tw_911 : (Cond.methodLink "DagLedgerModel" (130 : Nat) ({ cls := "DagLedgerModel", name := "say", desc := "(III)I" } : MethodName)) ∈ wd_tb := wd_in (wd_c3 (List.mem_of_getElem? (i := 191) rfl)) rfl
theorem tw_913 : (Cond.instanceMethod ({ cls := "DagLedgerModel", name := "say", desc := "(III)I" } : MethodName)) ∈ wd_tb := wd_in (wd_c3 (List.mem_of_getElem? (i := 193) rfl)) rfl
theorem tw_914 : (Cond.code ({ cls := "DagLedgerModel", name := "say", desc := "(III)I" } : MethodName) prog_12_method_7_code (4 : Nat) (Option.some FieldType.int)) ∈ wd_tb := wd_in (wd_c3 (List.mem_of_getElem? (i := 194) rfl)) rfl
theorem tw_915 : (Cond.methodLink "DagLedgerModel" (134 : Nat) ({ cls := "DagLedgerModel", name := "act", desc := "(I)V" } : MethodName)) ∈ wd_tb := wd_in (wd_c3 (List.mem_of_getElem? (i := 195) rfl)) rfl
theorem tw_917 : (Cond.instanceMethod ({ cls := "DagLedgerModel", name := "act", desc := "(I)V" } : MethodName)) ∈ wd_tb := wd_in (wd_c3 (List.mem_of_getElem? (i := 197) rfl)) rfl
theorem tw_918 : (Cond.code ({ cls := "DagLedgerModel", name := "act", desc := "(I)V" } : MethodName) prog_12_method_12_code (5 : Nat) (Option.none : Option FieldType)) ∈ wd_tb := wd_in (wd_c3 (List.mem_of_getElem? (i := 198) rfl)) rfl
theorem tw_919 : (Cond.methodLink "DagLedgerModel" (137 : Nat) ({ cls := "DagLedgerModel", name := "insertable", desc := "(I)I" } : MethodName)) ∈ wd_tb := wd_in (wd_c3 (List.mem_of_getElem? (i := 199) rfl)) rfl
theorem tw_921 : (Cond.instanceMethod ({ cls := "DagLedgerModel", name := "insertable", desc := "(I)I" } : MethodName)) ∈ wd_tb := wd_in (wd_c3 (List.mem_of_getElem? (i := 201) rfl)) rfl
theorem tw_922 : (Cond.code ({ cls := "DagLedgerModel", name := "insertable", desc := "(I)I" } : MethodName) prog_12_method_14_code (5 : Nat) (Option.some FieldType.int)) ∈ wd_tb := wd_in (wd_c3 (List.mem_of_getElem? (i := 202) rfl)) rfl
theorem tw_923 : (Cond.methodLink "DagLedgerModel" (156 : Nat) ({ cls := "DagLedgerModel", name := "there", desc := "(II)I" } : MethodName)) ∈ wd_tb := wd_in (wd_c3 (List.mem_of_getElem? (i := 203) rfl)) rfl
theorem tw_925 : (Cond.instanceMethod ({ cls := "DagLedgerModel", name := "there", desc := "(II)I" } : MethodName)) ∈ wd_tb := wd_in (wd_c3 (List.mem_of_getElem? (i := 205) rfl)) rfl
theorem tw_926 : (Cond.code ({ cls := "DagLedgerModel", name := "there", desc := "(II)I" } : MethodName) prog_12_method_13_code (5 : Nat) (Option.some FieldType.int)) ∈ wd_tb := wd_in (wd_c3 (List.mem_of_getElem? (i := 206) rfl)) rfl
theorem tw_927 : (Cond.methodLink "DagLedgerModel" (140 : Nat) ({ cls := "DagLedgerModel", name := "committable", desc := "(I)I" } : MethodName)) ∈ wd_tb := wd_in (wd_c3 (List.mem_of_getElem? (i := 207) rfl)) rfl
theorem tw_929 : (Cond.instanceMethod ({ cls := "DagLedgerModel", name := "committable", desc := "(I)I" } : MethodName)) ∈ wd_tb := wd_in (wd_c3 (List.mem_of_getElem? (i := 209) rfl)) rfl
theorem tw_930 : (Cond.code ({ cls := "DagLedgerModel", name := "committable", desc := "(I)I" } : MethodName) prog_12_method_17_code (6 : Nat) (Option.some FieldType.int)) ∈ wd_tb := wd_in (wd_c3 (List.mem_of_getElem? (i := 210) rfl)) rfl
theorem tw_931 : (Cond.methodLink "DagLedgerModel" (159 : Nat) ({ cls := "DagLedgerModel", name := "leader", desc := "(I)I" } : MethodName)) ∈ wd_tb := wd_in (wd_c3 (List.mem_of_getElem? (i := 211) rfl)) rfl
theorem tw_932 : (Cond.static ({ cls := "DagLedgerModel", name := "leader", desc := "(I)I" } : MethodName)) ∈ wd_tb := wd_in (wd_c3 (List.mem_of_getElem? (i := 212) rfl)) rfl
theorem tw_933 : (Cond.code ({ cls := "DagLedgerModel", name := "leader", desc := "(I)I" } : MethodName) prog_12_method_15_code (1 : Nat) (Option.some FieldType.int)) ∈ wd_tb := wd_in (wd_c3 (List.mem_of_getElem? (i := 213) rfl)) rfl
theorem tw_934 : (Cond.methodLink "DagLedgerModel" (162 : Nat) ({ cls := "DagLedgerModel", name := "hasLeader", desc := "(II)Z" } : MethodName)) ∈ wd_tb := wd_in (wd_c3 (List.mem_of_getElem? (i := 214) rfl)) rfl
theorem tw_936 : (Cond.instanceMethod ({ cls := "DagLedgerModel", name := "hasLeader", desc := "(II)Z" } : MethodName)) ∈ wd_tb := wd_in (wd_c3 (List.mem_of_getElem? (i := 216) rfl)) rfl
theorem tw_937 : (Cond.code ({ cls := "DagLedgerModel", name := "hasLeader", desc := "(II)Z" } : MethodName) prog_12_method_16_code (3 : Nat) (Option.some FieldType.boolean)) ∈ wd_tb := wd_in (wd_c3 (List.mem_of_getElem? (i := 217) rfl)) rfl
theorem tw_938 : (Cond.methodLink "DagLedgerModel" (143 : Nat) ({ cls := "DagLedgerModel", name := "commit", desc := "(II)V" } : MethodName)) ∈ wd_tb := wd_in (wd_c3 (List.mem_of_getElem? (i := 218) rfl)) rfl
theorem tw_940 : (Cond.instanceMethod ({ cls := "DagLedgerModel", name := "commit", desc := "(II)V" } : MethodName)) ∈ wd_tb := wd_in (wd_c3 (List.mem_of_getElem? (i := 220) rfl)) rfl
theorem tw_941 : (Cond.code ({ cls := "DagLedgerModel", name := "commit", desc := "(II)V" } : MethodName) prog_12_method_19_code (6 : Nat) (Option.none : Option FieldType)) ∈ wd_tb := wd_in (wd_c3 (List.mem_of_getElem? (i := 221) rfl)) rfl
theorem tw_942 : (Cond.methodLink "DagLedgerModel" (166 : Nat) ({ cls := "DagLedgerModel", name := "spread", desc := "(III)V" } : MethodName)) ∈ wd_tb := wd_in (wd_c3 (List.mem_of_getElem? (i := 222) rfl)) rfl
theorem tw_944 : (Cond.instanceMethod ({ cls := "DagLedgerModel", name := "spread", desc := "(III)V" } : MethodName)) ∈ wd_tb := wd_in (wd_c3 (List.mem_of_getElem? (i := 224) rfl)) rfl
theorem tw_945 : (Cond.code ({ cls := "DagLedgerModel", name := "spread", desc := "(III)V" } : MethodName) prog_12_method_18_code (6 : Nat) (Option.none : Option FieldType)) ∈ wd_tb := wd_in (wd_c3 (List.mem_of_getElem? (i := 225) rfl)) rfl
theorem tw_946 : (Cond.methodLink "DagLedgerModel" (170 : Nat) ({ cls := "DagLedgerModel", name := "emit", desc := "(II)V" } : MethodName)) ∈ wd_tb := wd_in (wd_c3 (List.mem_of_getElem? (i := 226) rfl)) rfl
theorem tw_948 : (Cond.instanceMethod ({ cls := "DagLedgerModel", name := "emit", desc := "(II)V" } : MethodName)) ∈ wd_tb := wd_in (wd_c3 (List.mem_of_getElem? (i := 228) rfl)) rfl
theorem tw_949 : (Cond.code ({ cls := "DagLedgerModel", name := "emit", desc := "(II)V" } : MethodName) prog_12_method_20_code (6 : Nat) (Option.none : Option FieldType)) ∈ wd_tb := wd_in (wd_c3 (List.mem_of_getElem? (i := 229) rfl)) rfl
theorem tw_950 : (Cond.methodLink "DagLedgerModel" (173 : Nat) ({ cls := "DagLedgerModel", name := "place", desc := "(II)V" } : MethodName)) ∈ wd_tb := wd_in (wd_c3 (List.mem_of_getElem? (i := 230) rfl)) rfl
theorem tw_952 : (Cond.instanceMethod ({ cls := "DagLedgerModel", name := "place", desc := "(II)V" } : MethodName)) ∈ wd_tb := wd_in (wd_c3 (List.mem_of_getElem? (i := 232) rfl)) rfl
theorem tw_953 : (Cond.code ({ cls := "DagLedgerModel", name := "place", desc := "(II)V" } : MethodName) prog_12_method_21_code (5 : Nat) (Option.none : Option FieldType)) ∈ wd_tb := wd_in (wd_c3 (List.mem_of_getElem? (i := 233) rfl)) rfl
theorem tw_954 : (Cond.methodLink "DagLedgerModel" (147 : Nat) ({ cls := "DagLedgerModel", name := "advances", desc := "(I)Z" } : MethodName)) ∈ wd_tb := wd_in (wd_c3 (List.mem_of_getElem? (i := 234) rfl)) rfl
theorem tw_956 : (Cond.instanceMethod ({ cls := "DagLedgerModel", name := "advances", desc := "(I)Z" } : MethodName)) ∈ wd_tb := wd_in (wd_c3 (List.mem_of_getElem? (i := 236) rfl)) rfl
theorem tw_957 : (Cond.code ({ cls := "DagLedgerModel", name := "advances", desc := "(I)Z" } : MethodName) prog_12_method_22_code (4 : Nat) (Option.some FieldType.boolean)) ∈ wd_tb := wd_in (wd_c3 (List.mem_of_getElem? (i := 237) rfl)) rfl
theorem tw_958 : (Cond.methodLink "DagLedgerModel" (150 : Nat) ({ cls := "DagLedgerModel", name := "advance", desc := "(I)V" } : MethodName)) ∈ wd_tb := wd_in (wd_c3 (List.mem_of_getElem? (i := 238) rfl)) rfl
theorem tw_960 : (Cond.instanceMethod ({ cls := "DagLedgerModel", name := "advance", desc := "(I)V" } : MethodName)) ∈ wd_tb := wd_in (wd_c4 (List.mem_of_getElem? (i := 0) rfl)) rfl
theorem tw_961 : (Cond.code ({ cls := "DagLedgerModel", name := "advance", desc := "(I)V" } : MethodName) prog_12_method_24_code (5 : Nat) (Option.none : Option FieldType)) ∈ wd_tb := wd_in (wd_c4 (List.mem_of_getElem? (i := 1) rfl)) rfl
theorem tw_962 : (Cond.methodLink "DagLedgerModel" (179 : Nat) ({ cls := "DagLedgerModel", name := "queued", desc := "(II)I" } : MethodName)) ∈ wd_tb := wd_in (wd_c4 (List.mem_of_getElem? (i := 2) rfl)) rfl
theorem tw_964 : (Cond.instanceMethod ({ cls := "DagLedgerModel", name := "queued", desc := "(II)I" } : MethodName)) ∈ wd_tb := wd_in (wd_c4 (List.mem_of_getElem? (i := 4) rfl)) rfl
theorem tw_965 : (Cond.code ({ cls := "DagLedgerModel", name := "queued", desc := "(II)I" } : MethodName) prog_12_method_23_code (4 : Nat) (Option.some FieldType.int)) ∈ wd_tb := wd_in (wd_c4 (List.mem_of_getElem? (i := 5) rfl)) rfl
theorem tw_966 : (Cond.methodLink "DagLedgerModel" (182 : Nat) ({ cls := "DagLedgerModel", name := "make", desc := "(IIIII)I" } : MethodName)) ∈ wd_tb := wd_in (wd_c4 (List.mem_of_getElem? (i := 6) rfl)) rfl
theorem tw_968 : (Cond.instanceMethod ({ cls := "DagLedgerModel", name := "make", desc := "(IIIII)I" } : MethodName)) ∈ wd_tb := wd_in (wd_c4 (List.mem_of_getElem? (i := 8) rfl)) rfl
theorem tw_969 : (Cond.code ({ cls := "DagLedgerModel", name := "make", desc := "(IIIII)I" } : MethodName) prog_12_method_25_code (6 : Nat) (Option.some FieldType.int)) ∈ wd_tb := wd_in (wd_c4 (List.mem_of_getElem? (i := 9) rfl)) rfl
theorem tw_970 : (Cond.methodLink "DagLedgerLaw" (74 : Nat) ({ cls := "DagLedgerModel", name := "pump", desc := "(II)I" } : MethodName)) ∈ wd_tb := wd_in (wd_c4 (List.mem_of_getElem? (i := 10) rfl)) rfl
theorem tw_971 : (Cond.instanceMethod ({ cls := "DagLedgerModel", name := "pump", desc := "(II)I" } : MethodName)) ∈ wd_tb := wd_in (wd_c4 (List.mem_of_getElem? (i := 11) rfl)) rfl
theorem tw_972 : (Cond.selects "DagLedgerModel" ({ cls := "DagLedgerModel", name := "pump", desc := "(II)I" } : MethodName) ({ cls := "DagLedgerModel", name := "pump", desc := "(II)I" } : MethodName)) ∈ wd_tb := wd_in (wd_c4 (List.mem_of_getElem? (i := 12) rfl)) rfl
theorem tw_973 : (Cond.code ({ cls := "DagLedgerModel", name := "pump", desc := "(II)I" } : MethodName) prog_12_method_31_code (4 : Nat) (Option.some FieldType.int)) ∈ wd_tb := wd_in (wd_c4 (List.mem_of_getElem? (i := 13) rfl)) rfl
theorem tw_974 : (Cond.methodLink "DagLedgerLaw" (78 : Nat) ({ cls := "DagLedgerModel", name := "tick", desc := "(I)Z" } : MethodName)) ∈ wd_tb := wd_in (wd_c4 (List.mem_of_getElem? (i := 14) rfl)) rfl
theorem tw_975 : (Cond.instanceMethod ({ cls := "DagLedgerModel", name := "tick", desc := "(I)Z" } : MethodName)) ∈ wd_tb := wd_in (wd_c4 (List.mem_of_getElem? (i := 15) rfl)) rfl
theorem tw_976 : (Cond.selects "DagLedgerModel" ({ cls := "DagLedgerModel", name := "tick", desc := "(I)Z" } : MethodName) ({ cls := "DagLedgerModel", name := "tick", desc := "(I)Z" } : MethodName)) ∈ wd_tb := wd_in (wd_c4 (List.mem_of_getElem? (i := 16) rfl)) rfl
theorem tw_977 : (Cond.code ({ cls := "DagLedgerModel", name := "tick", desc := "(I)Z" } : MethodName) prog_12_method_32_code (2 : Nat) (Option.some FieldType.boolean)) ∈ wd_tb := wd_in (wd_c4 (List.mem_of_getElem? (i := 17) rfl)) rfl
theorem tw_978 : (Cond.methodLink "DagLedgerLaw" (81 : Nat) ({ cls := "DagLedgerModel", name := "crash", desc := "(I)Z" } : MethodName)) ∈ wd_tb := wd_in (wd_c4 (List.mem_of_getElem? (i := 18) rfl)) rfl
theorem tw_979 : (Cond.instanceMethod ({ cls := "DagLedgerModel", name := "crash", desc := "(I)Z" } : MethodName)) ∈ wd_tb := wd_in (wd_c4 (List.mem_of_getElem? (i := 19) rfl)) rfl
theorem tw_980 : (Cond.selects "DagLedgerModel" ({ cls := "DagLedgerModel", name := "crash", desc := "(I)Z" } : MethodName) ({ cls := "DagLedgerModel", name := "crash", desc := "(I)Z" } : MethodName)) ∈ wd_tb := wd_in (wd_c4 (List.mem_of_getElem? (i := 20) rfl)) rfl
theorem tw_981 : (Cond.code ({ cls := "DagLedgerModel", name := "crash", desc := "(I)Z" } : MethodName) prog_12_method_33_code (2 : Nat) (Option.some FieldType.boolean)) ∈ wd_tb := wd_in (wd_c4 (List.mem_of_getElem? (i := 21) rfl)) rfl
theorem tw_982 : (Cond.methodLink "DagLedgerLaw" (84 : Nat) ({ cls := "DagLedgerModel", name := "restart", desc := "(I)Z" } : MethodName)) ∈ wd_tb := wd_in (wd_c4 (List.mem_of_getElem? (i := 22) rfl)) rfl
theorem tw_983 : (Cond.instanceMethod ({ cls := "DagLedgerModel", name := "restart", desc := "(I)Z" } : MethodName)) ∈ wd_tb := wd_in (wd_c4 (List.mem_of_getElem? (i := 23) rfl)) rfl
theorem tw_984 : (Cond.selects "DagLedgerModel" ({ cls := "DagLedgerModel", name := "restart", desc := "(I)Z" } : MethodName) ({ cls := "DagLedgerModel", name := "restart", desc := "(I)Z" } : MethodName)) ∈ wd_tb := wd_in (wd_c4 (List.mem_of_getElem? (i := 24) rfl)) rfl
theorem tw_985 : (Cond.code ({ cls := "DagLedgerModel", name := "restart", desc := "(I)Z" } : MethodName) prog_12_method_34_code (2 : Nat) (Option.some FieldType.boolean)) ∈ wd_tb := wd_in (wd_c4 (List.mem_of_getElem? (i := 25) rfl)) rfl
theorem tw_986 : (Cond.methodLink "DagLedgerLaw" (87 : Nat) ({ cls := "DagLedgerModel", name := "cut", desc := "(II)Z" } : MethodName)) ∈ wd_tb := wd_in (wd_c4 (List.mem_of_getElem? (i := 26) rfl)) rfl
theorem tw_987 : (Cond.instanceMethod ({ cls := "DagLedgerModel", name := "cut", desc := "(II)Z" } : MethodName)) ∈ wd_tb := wd_in (wd_c4 (List.mem_of_getElem? (i := 27) rfl)) rfl
theorem tw_988 : (Cond.selects "DagLedgerModel" ({ cls := "DagLedgerModel", name := "cut", desc := "(II)Z" } : MethodName) ({ cls := "DagLedgerModel", name := "cut", desc := "(II)Z" } : MethodName)) ∈ wd_tb := wd_in (wd_c4 (List.mem_of_getElem? (i := 28) rfl)) rfl
theorem tw_989 : (Cond.code ({ cls := "DagLedgerModel", name := "cut", desc := "(II)Z" } : MethodName) prog_12_method_35_code (3 : Nat) (Option.some FieldType.boolean)) ∈ wd_tb := wd_in (wd_c4 (List.mem_of_getElem? (i := 29) rfl)) rfl
theorem tw_990 : (Cond.methodLink "DagLedgerLaw" (90 : Nat) ({ cls := "DagLedgerModel", name := "corrupt", desc := "(I)Z" } : MethodName)) ∈ wd_tb := wd_in (wd_c4 (List.mem_of_getElem? (i := 30) rfl)) rfl
theorem tw_991 : (Cond.instanceMethod ({ cls := "DagLedgerModel", name := "corrupt", desc := "(I)Z" } : MethodName)) ∈ wd_tb := wd_in (wd_c4 (List.mem_of_getElem? (i := 31) rfl)) rfl
theorem tw_992 : (Cond.selects "DagLedgerModel" ({ cls := "DagLedgerModel", name := "corrupt", desc := "(I)Z" } : MethodName) ({ cls := "DagLedgerModel", name := "corrupt", desc := "(I)Z" } : MethodName)) ∈ wd_tb := wd_in (wd_c4 (List.mem_of_getElem? (i := 32) rfl)) rfl
theorem tw_993 : (Cond.code ({ cls := "DagLedgerModel", name := "corrupt", desc := "(I)Z" } : MethodName) prog_12_method_37_code (2 : Nat) (Option.some FieldType.boolean)) ∈ wd_tb := wd_in (wd_c4 (List.mem_of_getElem? (i := 33) rfl)) rfl
theorem tw_994 : (Cond.methodLink "DagLedgerModel" (203 : Nat) ({ cls := "DagLedgerModel", name := "faulty", desc := "()I" } : MethodName)) ∈ wd_tb := wd_in (wd_c4 (List.mem_of_getElem? (i := 34) rfl)) rfl
theorem tw_996 : (Cond.instanceMethod ({ cls := "DagLedgerModel", name := "faulty", desc := "()I" } : MethodName)) ∈ wd_tb := wd_in (wd_c4 (List.mem_of_getElem? (i := 36) rfl)) rfl
theorem tw_997 : (Cond.code ({ cls := "DagLedgerModel", name := "faulty", desc := "()I" } : MethodName) prog_12_method_36_code (2 : Nat) (Option.some FieldType.int)) ∈ wd_tb := wd_in (wd_c4 (List.mem_of_getElem? (i := 37) rfl)) rfl
theorem tw_998 : (Cond.methodLink "DagLedgerLaw" (94 : Nat) ({ cls := "DagLedgerModel", name := "forge", desc := "(IIII)I" } : MethodName)) ∈ wd_tb := wd_in (wd_c4 (List.mem_of_getElem? (i := 38) rfl)) rfl
theorem tw_999 : (Cond.instanceMethod ({ cls := "DagLedgerModel", name := "forge", desc := "(IIII)I" } : MethodName)) ∈ wd_tb := wd_in (wd_c4 (List.mem_of_getElem? (i := 39) rfl)) rfl
theorem tw_1000 : (Cond.selects "DagLedgerModel" ({ cls := "DagLedgerModel", name := "forge", desc := "(IIII)I" } : MethodName) ({ cls := "DagLedgerModel", name := "forge", desc := "(IIII)I" } : MethodName)) ∈ wd_tb := wd_in (wd_c4 (List.mem_of_getElem? (i := 40) rfl)) rfl
theorem tw_1001 : (Cond.code ({ cls := "DagLedgerModel", name := "forge", desc := "(IIII)I" } : MethodName) prog_12_method_39_code (6 : Nat) (Option.some FieldType.int)) ∈ wd_tb := wd_in (wd_c4 (List.mem_of_getElem? (i := 41) rfl)) rfl
theorem tw_1002 : (Cond.methodLink "DagLedgerModel" (211 : Nat) ({ cls := "DagLedgerModel", name := "isTransfer", desc := "(I)Z" } : MethodName)) ∈ wd_tb := wd_in (wd_c4 (List.mem_of_getElem? (i := 42) rfl)) rfl
theorem tw_1004 : (Cond.instanceMethod ({ cls := "DagLedgerModel", name := "isTransfer", desc := "(I)Z" } : MethodName)) ∈ wd_tb := wd_in (wd_c4 (List.mem_of_getElem? (i := 44) rfl)) rfl
theorem tw_1005 : (Cond.code ({ cls := "DagLedgerModel", name := "isTransfer", desc := "(I)Z" } : MethodName) prog_12_method_38_code (2 : Nat) (Option.some FieldType.boolean)) ∈ wd_tb := wd_in (wd_c4 (List.mem_of_getElem? (i := 45) rfl)) rfl
theorem tw_1006 : (Cond.methodLink "DagLedgerLaw" (98 : Nat) ({ cls := "DagLedgerModel", name := "send", desc := "(II)I" } : MethodName)) ∈ wd_tb := wd_in (wd_c4 (List.mem_of_getElem? (i := 46) rfl)) rfl
theorem tw_1007 : (Cond.instanceMethod ({ cls := "DagLedgerModel", name := "send", desc := "(II)I" } : MethodName)) ∈ wd_tb := wd_in (wd_c4 (List.mem_of_getElem? (i := 47) rfl)) rfl
theorem tw_1008 : (Cond.selects "DagLedgerModel" ({ cls := "DagLedgerModel", name := "send", desc := "(II)I" } : MethodName) ({ cls := "DagLedgerModel", name := "send", desc := "(II)I" } : MethodName)) ∈ wd_tb := wd_in (wd_c4 (List.mem_of_getElem? (i := 48) rfl)) rfl
theorem tw_1009 : (Cond.code ({ cls := "DagLedgerModel", name := "send", desc := "(II)I" } : MethodName) prog_12_method_40_code (3 : Nat) (Option.some FieldType.int)) ∈ wd_tb := wd_in (wd_c4 (List.mem_of_getElem? (i := 49) rfl)) rfl
theorem tw_1010 : (Cond.methodLink "DagLedgerLaw" (102 : Nat) ({ cls := "DagLedgerModel", name := "message", desc := "(II)I" } : MethodName)) ∈ wd_tb := wd_in (wd_c4 (List.mem_of_getElem? (i := 50) rfl)) rfl
theorem tw_1011 : (Cond.instanceMethod ({ cls := "DagLedgerModel", name := "message", desc := "(II)I" } : MethodName)) ∈ wd_tb := wd_in (wd_c4 (List.mem_of_getElem? (i := 51) rfl)) rfl
theorem tw_1012 : (Cond.selects "DagLedgerModel" ({ cls := "DagLedgerModel", name := "message", desc := "(II)I" } : MethodName) ({ cls := "DagLedgerModel", name := "message", desc := "(II)I" } : MethodName)) ∈ wd_tb := wd_in (wd_c4 (List.mem_of_getElem? (i := 52) rfl)) rfl
theorem tw_1013 : (Cond.code ({ cls := "DagLedgerModel", name := "message", desc := "(II)I" } : MethodName) prog_12_method_41_code (3 : Nat) (Option.some FieldType.int)) ∈ wd_tb := wd_in (wd_c4 (List.mem_of_getElem? (i := 53) rfl)) rfl
theorem tw_1014 : (Cond.methodLink "DagLedgerLaw" (106 : Nat) ({ cls := "DagLedgerModel", name := "vertex", desc := "(II)I" } : MethodName)) ∈ wd_tb := wd_in (wd_c4 (List.mem_of_getElem? (i := 54) rfl)) rfl
theorem tw_1015 : (Cond.instanceMethod ({ cls := "DagLedgerModel", name := "vertex", desc := "(II)I" } : MethodName)) ∈ wd_tb := wd_in (wd_c4 (List.mem_of_getElem? (i := 55) rfl)) rfl
theorem tw_1016 : (Cond.selects "DagLedgerModel" ({ cls := "DagLedgerModel", name := "vertex", desc := "(II)I" } : MethodName) ({ cls := "DagLedgerModel", name := "vertex", desc := "(II)I" } : MethodName)) ∈ wd_tb := wd_in (wd_c4 (List.mem_of_getElem? (i := 56) rfl)) rfl
theorem tw_1017 : (Cond.code ({ cls := "DagLedgerModel", name := "vertex", desc := "(II)I" } : MethodName) prog_12_method_42_code (3 : Nat) (Option.some FieldType.int)) ∈ wd_tb := wd_in (wd_c4 (List.mem_of_getElem? (i := 57) rfl)) rfl
theorem tw_1018 : (Cond.methodLink "DagLedgerLaw" (109 : Nat) ({ cls := "DagLedgerModel", name := "node", desc := "(II)I" } : MethodName)) ∈ wd_tb := wd_in (wd_c4 (List.mem_of_getElem? (i := 58) rfl)) rfl
theorem tw_1019 : (Cond.instanceMethod ({ cls := "DagLedgerModel", name := "node", desc := "(II)I" } : MethodName)) ∈ wd_tb := wd_in (wd_c4 (List.mem_of_getElem? (i := 59) rfl)) rfl
theorem tw_1020 : (Cond.selects "DagLedgerModel" ({ cls := "DagLedgerModel", name := "node", desc := "(II)I" } : MethodName) ({ cls := "DagLedgerModel", name := "node", desc := "(II)I" } : MethodName)) ∈ wd_tb := wd_in (wd_c4 (List.mem_of_getElem? (i := 60) rfl)) rfl
theorem tw_1021 : (Cond.code ({ cls := "DagLedgerModel", name := "node", desc := "(II)I" } : MethodName) prog_12_method_43_code (5 : Nat) (Option.some FieldType.int)) ∈ wd_tb := wd_in (wd_c4 (List.mem_of_getElem? (i := 61) rfl)) rfl
theorem tw_1022 : (Cond.methodLink "DagLedgerLaw" (113 : Nat) ({ cls := "DagLedgerModel", name := "dag", desc := "(III)I" } : MethodName)) ∈ wd_tb := wd_in (wd_c4 (List.mem_of_getElem? (i := 62) rfl)) rfl
theorem tw_1023 : (Cond.instanceMethod ({ cls := "DagLedgerModel", name := "dag", desc := "(III)I" } : MethodName)) ∈ wd_tb := wd_in (wd_c4 (List.mem_of_getElem? (i := 63) rfl)) rfl
theorem tw_1024 : (Cond.selects "DagLedgerModel" ({ cls := "DagLedgerModel", name := "dag", desc := "(III)I" } : MethodName) ({ cls := "DagLedgerModel", name := "dag", desc := "(III)I" } : MethodName)) ∈ wd_tb := wd_in (wd_c4 (List.mem_of_getElem? (i := 64) rfl)) rfl
theorem tw_1025 : (Cond.code ({ cls := "DagLedgerModel", name := "dag", desc := "(III)I" } : MethodName) prog_12_method_44_code (4 : Nat) (Option.some FieldType.int)) ∈ wd_tb := wd_in (wd_c4 (List.mem_of_getElem? (i := 65) rfl)) rfl
theorem tw_1026 : (Cond.methodLink "DagLedgerLaw" (116 : Nat) ({ cls := "DagLedgerModel", name := "at", desc := "(II)I" } : MethodName)) ∈ wd_tb := wd_in (wd_c4 (List.mem_of_getElem? (i := 66) rfl)) rfl
theorem tw_1027 : (Cond.instanceMethod ({ cls := "DagLedgerModel", name := "at", desc := "(II)I" } : MethodName)) ∈ wd_tb := wd_in (wd_c4 (List.mem_of_getElem? (i := 67) rfl)) rfl
theorem tw_1028 : (Cond.selects "DagLedgerModel" ({ cls := "DagLedgerModel", name := "at", desc := "(II)I" } : MethodName) ({ cls := "DagLedgerModel", name := "at", desc := "(II)I" } : MethodName)) ∈ wd_tb := wd_in (wd_c4 (List.mem_of_getElem? (i := 68) rfl)) rfl
theorem tw_1029 : (Cond.code ({ cls := "DagLedgerModel", name := "at", desc := "(II)I" } : MethodName) prog_12_method_45_code (3 : Nat) (Option.some FieldType.int)) ∈ wd_tb := wd_in (wd_c4 (List.mem_of_getElem? (i := 69) rfl)) rfl
theorem tw_1030 : (Cond.methodLink "DagLedgerLaw" (119 : Nat) ({ cls := "DagLedgerModel", name := "balance", desc := "(II)I" } : MethodName)) ∈ wd_tb := wd_in (wd_c4 (List.mem_of_getElem? (i := 70) rfl)) rfl
theorem tw_1031 : (Cond.instanceMethod ({ cls := "DagLedgerModel", name := "balance", desc := "(II)I" } : MethodName)) ∈ wd_tb := wd_in (wd_c4 (List.mem_of_getElem? (i := 71) rfl)) rfl
theorem tw_1032 : (Cond.selects "DagLedgerModel" ({ cls := "DagLedgerModel", name := "balance", desc := "(II)I" } : MethodName) ({ cls := "DagLedgerModel", name := "balance", desc := "(II)I" } : MethodName)) ∈ wd_tb := wd_in (wd_c4 (List.mem_of_getElem? (i := 72) rfl)) rfl
theorem tw_1033 : (Cond.code ({ cls := "DagLedgerModel", name := "balance", desc := "(II)I" } : MethodName) prog_12_method_46_code (3 : Nat) (Option.some FieldType.int)) ∈ wd_tb := wd_in (wd_c4 (List.mem_of_getElem? (i := 73) rfl)) rfl
theorem ts_0 : Cond.selects "DagLedger" ⟨"DagLedger", "isTransferOrNone", "(I)Z"⟩ ⟨"DagLedger", "isTransferOrNone", "(I)Z"⟩ ∈ wd_tb := wd_se (List.mem_of_getElem? (i := 0) rfl) rfl
theorem ts_1 : Cond.selects "DagLedger" ⟨"DagLedger", "upReplica", "(I)LDagLedger$Replica;"⟩ ⟨"DagLedger", "upReplica", "(I)LDagLedger$Replica;"⟩ ∈ wd_tb := wd_se (List.mem_of_getElem? (i := 1) rfl) rfl
theorem ts_2 : Cond.selects "DagLedger" ⟨"DagLedger", "replicaOf", "(I)LDagLedger$Replica;"⟩ ⟨"DagLedger", "replicaOf", "(I)LDagLedger$Replica;"⟩ ∈ wd_tb := wd_se (List.mem_of_getElem? (i := 2) rfl) rfl
theorem ts_4 : Cond.selects "DagLedger$Replica" ⟨"DagLedger$Replica", "takeSend", "(II)V"⟩ ⟨"DagLedger$Replica", "takeSend", "(II)V"⟩ ∈ wd_tb := wd_se (List.mem_of_getElem? (i := 4) rfl) rfl
theorem ts_5 : Cond.selects "DagLedger$Replica" ⟨"DagLedger$Replica", "takeEcho", "(II)V"⟩ ⟨"DagLedger$Replica", "takeEcho", "(II)V"⟩ ∈ wd_tb := wd_se (List.mem_of_getElem? (i := 5) rfl) rfl
theorem ts_6 : Cond.selects "DagLedger$Replica" ⟨"DagLedger$Replica", "becomeReady", "(I)V"⟩ ⟨"DagLedger$Replica", "becomeReady", "(I)V"⟩ ∈ wd_tb := wd_se (List.mem_of_getElem? (i := 6) rfl) rfl
theorem ts_7 : Cond.selects "DagLedger$Replica" ⟨"DagLedger$Replica", "takeReady", "(II)V"⟩ ⟨"DagLedger$Replica", "takeReady", "(II)V"⟩ ∈ wd_tb := wd_se (List.mem_of_getElem? (i := 7) rfl) rfl
theorem ts_8 : Cond.selects "DagLedger$Replica" ⟨"DagLedger$Replica", "insertNext", "()Z"⟩ ⟨"DagLedger$Replica", "insertNext", "()Z"⟩ ∈ wd_tb := wd_se (List.mem_of_getElem? (i := 8) rfl) rfl
theorem ts_9 : Cond.selects "DagLedger$Commits" ⟨"DagLedger$Commits", "nextRound", "()I"⟩ ⟨"DagLedger$Commits", "nextRound", "()I"⟩ ∈ wd_tb := wd_se (List.mem_of_getElem? (i := 9) rfl) rfl
theorem ts_10 : Cond.selects "DagLedger$Commits" ⟨"DagLedger$Commits", "leadersUnder", "(I)I"⟩ ⟨"DagLedger$Commits", "leadersUnder", "(I)I"⟩ ∈ wd_tb := wd_se (List.mem_of_getElem? (i := 10) rfl) rfl
theorem ts_11 : Cond.selects "DagLedger$Commits" ⟨"DagLedger$Commits", "emit", "(II)V"⟩ ⟨"DagLedger$Commits", "emit", "(II)V"⟩ ∈ wd_tb := wd_se (List.mem_of_getElem? (i := 11) rfl) rfl
theorem ts_12 : Cond.selects "DagLedger$Commits" ⟨"DagLedger$Commits", "emitRound", "(II)V"⟩ ⟨"DagLedger$Commits", "emitRound", "(II)V"⟩ ∈ wd_tb := wd_se (List.mem_of_getElem? (i := 12) rfl) rfl
theorem ts_13 : Cond.selects "DagLedger$Replica" ⟨"DagLedger$Replica", "advance", "()Z"⟩ ⟨"DagLedger$Replica", "advance", "()Z"⟩ ∈ wd_tb := wd_se (List.mem_of_getElem? (i := 13) rfl) rfl
theorem ts_14 : Cond.selects "DagLedger$Replica" ⟨"DagLedger$Replica", "mayAdvance", "()Z"⟩ ⟨"DagLedger$Replica", "mayAdvance", "()Z"⟩ ∈ wd_tb := wd_se (List.mem_of_getElem? (i := 14) rfl) rfl
theorem ts_15 : Cond.selects "DagLedgerModel" ⟨"DagLedgerModel", "fresh", "(I)V"⟩ ⟨"DagLedgerModel", "fresh", "(I)V"⟩ ∈ wd_tb := wd_se (List.mem_of_getElem? (i := 15) rfl) rfl
theorem ts_16 : Cond.selects "DagLedgerModel" ⟨"DagLedgerModel", "isNode", "(I)Z"⟩ ⟨"DagLedgerModel", "isNode", "(I)Z"⟩ ∈ wd_tb := wd_se (List.mem_of_getElem? (i := 16) rfl) rfl
theorem ts_17 : Cond.selects "DagLedgerModel" ⟨"DagLedgerModel", "record", "(I)Z"⟩ ⟨"DagLedgerModel", "record", "(I)Z"⟩ ∈ wd_tb := wd_se (List.mem_of_getElem? (i := 17) rfl) rfl
theorem ts_18 : Cond.selects "DagLedgerModel" ⟨"DagLedgerModel", "fall", "(I)V"⟩ ⟨"DagLedgerModel", "fall", "(I)V"⟩ ∈ wd_tb := wd_se (List.mem_of_getElem? (i := 18) rfl) rfl
theorem ts_19 : Cond.selects "DagLedgerModel" ⟨"DagLedgerModel", "works", "(I)Z"⟩ ⟨"DagLedgerModel", "works", "(I)Z"⟩ ∈ wd_tb := wd_se (List.mem_of_getElem? (i := 19) rfl) rfl
theorem ts_20 : Cond.selects "DagLedgerModel" ⟨"DagLedgerModel", "full", "()Z"⟩ ⟨"DagLedgerModel", "full", "()Z"⟩ ∈ wd_tb := wd_se (List.mem_of_getElem? (i := 20) rfl) rfl
theorem ts_21 : Cond.selects "DagLedgerModel" ⟨"DagLedgerModel", "take", "(II)V"⟩ ⟨"DagLedgerModel", "take", "(II)V"⟩ ∈ wd_tb := wd_se (List.mem_of_getElem? (i := 21) rfl) rfl
theorem ts_22 : Cond.selects "DagLedgerModel" ⟨"DagLedgerModel", "formed", "(I)Z"⟩ ⟨"DagLedgerModel", "formed", "(I)Z"⟩ ∈ wd_tb := wd_se (List.mem_of_getElem? (i := 22) rfl) rfl
theorem ts_23 : Cond.selects "DagLedgerModel" ⟨"DagLedgerModel", "spot", "(II)I"⟩ ⟨"DagLedgerModel", "spot", "(II)I"⟩ ∈ wd_tb := wd_se (List.mem_of_getElem? (i := 23) rfl) rfl
theorem ts_24 : Cond.selects "DagLedgerModel" ⟨"DagLedgerModel", "say", "(III)I"⟩ ⟨"DagLedgerModel", "say", "(III)I"⟩ ∈ wd_tb := wd_se (List.mem_of_getElem? (i := 24) rfl) rfl
theorem ts_25 : Cond.selects "DagLedgerModel" ⟨"DagLedgerModel", "act", "(I)V"⟩ ⟨"DagLedgerModel", "act", "(I)V"⟩ ∈ wd_tb := wd_se (List.mem_of_getElem? (i := 25) rfl) rfl
theorem ts_26 : Cond.selects "DagLedgerModel" ⟨"DagLedgerModel", "insertable", "(I)I"⟩ ⟨"DagLedgerModel", "insertable", "(I)I"⟩ ∈ wd_tb := wd_se (List.mem_of_getElem? (i := 26) rfl) rfl
theorem ts_27 : Cond.selects "DagLedgerModel" ⟨"DagLedgerModel", "there", "(II)I"⟩ ⟨"DagLedgerModel", "there", "(II)I"⟩ ∈ wd_tb := wd_se (List.mem_of_getElem? (i := 27) rfl) rfl
theorem ts_28 : Cond.selects "DagLedgerModel" ⟨"DagLedgerModel", "committable", "(I)I"⟩ ⟨"DagLedgerModel", "committable", "(I)I"⟩ ∈ wd_tb := wd_se (List.mem_of_getElem? (i := 28) rfl) rfl
theorem ts_29 : Cond.selects "DagLedgerModel" ⟨"DagLedgerModel", "hasLeader", "(II)Z"⟩ ⟨"DagLedgerModel", "hasLeader", "(II)Z"⟩ ∈ wd_tb := wd_se (List.mem_of_getElem? (i := 29) rfl) rfl
theorem ts_30 : Cond.selects "DagLedgerModel" ⟨"DagLedgerModel", "commit", "(II)V"⟩ ⟨"DagLedgerModel", "commit", "(II)V"⟩ ∈ wd_tb := wd_se (List.mem_of_getElem? (i := 30) rfl) rfl
theorem ts_31 : Cond.selects "DagLedgerModel" ⟨"DagLedgerModel", "spread", "(III)V"⟩ ⟨"DagLedgerModel", "spread", "(III)V"⟩ ∈ wd_tb := wd_se (List.mem_of_getElem? (i := 31) rfl) rfl
theorem ts_32 : Cond.selects "DagLedgerModel" ⟨"DagLedgerModel", "emit", "(II)V"⟩ ⟨"DagLedgerModel", "emit", "(II)V"⟩ ∈ wd_tb := wd_se (List.mem_of_getElem? (i := 32) rfl) rfl
theorem ts_33 : Cond.selects "DagLedgerModel" ⟨"DagLedgerModel", "place", "(II)V"⟩ ⟨"DagLedgerModel", "place", "(II)V"⟩ ∈ wd_tb := wd_se (List.mem_of_getElem? (i := 33) rfl) rfl
theorem ts_34 : Cond.selects "DagLedgerModel" ⟨"DagLedgerModel", "advances", "(I)Z"⟩ ⟨"DagLedgerModel", "advances", "(I)Z"⟩ ∈ wd_tb := wd_se (List.mem_of_getElem? (i := 34) rfl) rfl
theorem ts_35 : Cond.selects "DagLedgerModel" ⟨"DagLedgerModel", "advance", "(I)V"⟩ ⟨"DagLedgerModel", "advance", "(I)V"⟩ ∈ wd_tb := wd_se (List.mem_of_getElem? (i := 35) rfl) rfl
theorem ts_36 : Cond.selects "DagLedgerModel" ⟨"DagLedgerModel", "queued", "(II)I"⟩ ⟨"DagLedgerModel", "queued", "(II)I"⟩ ∈ wd_tb := wd_se (List.mem_of_getElem? (i := 36) rfl) rfl
theorem ts_37 : Cond.selects "DagLedgerModel" ⟨"DagLedgerModel", "make", "(IIIII)I"⟩ ⟨"DagLedgerModel", "make", "(IIIII)I"⟩ ∈ wd_tb := wd_se (List.mem_of_getElem? (i := 37) rfl) rfl
theorem ts_38 : Cond.selects "DagLedgerModel" ⟨"DagLedgerModel", "faulty", "()I"⟩ ⟨"DagLedgerModel", "faulty", "()I"⟩ ∈ wd_tb := wd_se (List.mem_of_getElem? (i := 38) rfl) rfl
theorem ts_39 : Cond.selects "DagLedgerModel" ⟨"DagLedgerModel", "isTransfer", "(I)Z"⟩ ⟨"DagLedgerModel", "isTransfer", "(I)Z"⟩ ∈ wd_tb := wd_se (List.mem_of_getElem? (i := 39) rfl) rfl
theorem wc_0 : wd_cls 0 "DagLedger" tt_Le 5 ty_Le := ⟨rfl, List.forall_mem_cons.mpr ⟨tw_300, List.forall_mem_cons.mpr ⟨tw_302, List.forall_mem_cons.mpr ⟨tw_304, List.forall_mem_cons.mpr ⟨tw_306, List.forall_mem_cons.mpr ⟨tw_308, fun _ h => absurd h List.not_mem_nil⟩⟩⟩⟩⟩, ty_Le_ok, nm_Le⟩
theorem wc_1 : wd_cls 1 "DagLedger$Transfers" tt_Tr 4 ty_Tr := ⟨rfl, List.forall_mem_cons.mpr ⟨tw_41, List.forall_mem_cons.mpr ⟨tw_43, List.forall_mem_cons.mpr ⟨tw_45, List.forall_mem_cons.mpr ⟨tw_47, fun _ h => absurd h List.not_mem_nil⟩⟩⟩⟩, ty_Tr_ok, nm_Tr⟩
theorem wc_5 : wd_cls 2 "DagLedger$Vertices" tt_Ve 6 ty_Ve := ⟨rfl, List.forall_mem_cons.mpr ⟨tw_75, List.forall_mem_cons.mpr ⟨tw_77, List.forall_mem_cons.mpr ⟨tw_79, List.forall_mem_cons.mpr ⟨tw_81, List.forall_mem_cons.mpr ⟨tw_83, List.forall_mem_cons.mpr ⟨tw_85, fun _ h => absurd h List.not_mem_nil⟩⟩⟩⟩⟩⟩, ty_Ve_ok, nm_Ve⟩
theorem wc_11 : wd_cls 3 "DagLedger$Board" tt_Bo 4 ty_Bo := ⟨rfl, List.forall_mem_cons.mpr ⟨tw_104, List.forall_mem_cons.mpr ⟨tw_106, List.forall_mem_cons.mpr ⟨tw_108, List.forall_mem_cons.mpr ⟨tw_110, fun _ h => absurd h List.not_mem_nil⟩⟩⟩⟩, ty_Bo_ok, nm_Bo⟩
theorem wc_16 : wd_cls 4 "DagLedger$Replica" tt_Re 13 ty_Re := ⟨rfl, List.forall_mem_cons.mpr ⟨tw_268, List.forall_mem_cons.mpr ⟨tw_270, List.forall_mem_cons.mpr ⟨tw_272, List.forall_mem_cons.mpr ⟨tw_274, List.forall_mem_cons.mpr ⟨tw_276, List.forall_mem_cons.mpr ⟨tw_278, List.forall_mem_cons.mpr ⟨tw_280, List.forall_mem_cons.mpr ⟨tw_282, List.forall_mem_cons.mpr ⟨tw_284, List.forall_mem_cons.mpr ⟨tw_286, List.forall_mem_cons.mpr ⟨tw_288, List.forall_mem_cons.mpr ⟨tw_290, List.forall_mem_cons.mpr ⟨tw_292, fun _ h => absurd h List.not_mem_nil⟩⟩⟩⟩⟩⟩⟩⟩⟩⟩⟩⟩⟩, ty_Re_ok, nm_Re⟩
theorem wc_17 : wd_cls 5 "DagLedger$Disk" tt_Di 7 ty_Di := ⟨rfl, List.forall_mem_cons.mpr ⟨tw_137, List.forall_mem_cons.mpr ⟨tw_139, List.forall_mem_cons.mpr ⟨tw_141, List.forall_mem_cons.mpr ⟨tw_143, List.forall_mem_cons.mpr ⟨tw_145, List.forall_mem_cons.mpr ⟨tw_147, List.forall_mem_cons.mpr ⟨tw_149, fun _ h => absurd h List.not_mem_nil⟩⟩⟩⟩⟩⟩⟩, ty_Di_ok, nm_Di⟩
theorem wc_21 : wd_cls 6 "DagLedger$Notes" tt_No 4 ty_No := ⟨rfl, List.forall_mem_cons.mpr ⟨tw_164, List.forall_mem_cons.mpr ⟨tw_166, List.forall_mem_cons.mpr ⟨tw_168, List.forall_mem_cons.mpr ⟨tw_170, fun _ h => absurd h List.not_mem_nil⟩⟩⟩⟩, ty_No_ok, nm_No⟩
theorem wc_25 : wd_cls 7 "DagLedger$Dag" tt_Dg 4 ty_Dg := ⟨rfl, List.forall_mem_cons.mpr ⟨tw_187, List.forall_mem_cons.mpr ⟨tw_189, List.forall_mem_cons.mpr ⟨tw_191, List.forall_mem_cons.mpr ⟨tw_193, fun _ h => absurd h List.not_mem_nil⟩⟩⟩⟩, ty_Dg_ok, nm_Dg⟩
theorem wc_28 : wd_cls 8 "DagLedger$Book" tt_Bk 5 ty_Bk := ⟨rfl, List.forall_mem_cons.mpr ⟨tw_211, List.forall_mem_cons.mpr ⟨tw_213, List.forall_mem_cons.mpr ⟨tw_215, List.forall_mem_cons.mpr ⟨tw_217, List.forall_mem_cons.mpr ⟨tw_219, fun _ h => absurd h List.not_mem_nil⟩⟩⟩⟩⟩, ty_Bk_ok, nm_Bk⟩
theorem wc_31 : wd_cls 9 "DagLedger$Commits" tt_Co 6 ty_Co := ⟨rfl, List.forall_mem_cons.mpr ⟨tw_235, List.forall_mem_cons.mpr ⟨tw_237, List.forall_mem_cons.mpr ⟨tw_239, List.forall_mem_cons.mpr ⟨tw_241, List.forall_mem_cons.mpr ⟨tw_243, List.forall_mem_cons.mpr ⟨tw_245, fun _ h => absurd h List.not_mem_nil⟩⟩⟩⟩⟩⟩, ty_Co_ok, nm_Co⟩
theorem wc_34 : wd_cls 10 "DagLedgerModel" tt_Mo 35 ty_Mo := ⟨rfl, List.forall_mem_cons.mpr ⟨tw_789, List.forall_mem_cons.mpr ⟨tw_791, List.forall_mem_cons.mpr ⟨tw_793, List.forall_mem_cons.mpr ⟨tw_795, List.forall_mem_cons.mpr ⟨tw_797, List.forall_mem_cons.mpr ⟨tw_799, List.forall_mem_cons.mpr ⟨tw_801, List.forall_mem_cons.mpr ⟨tw_803, List.forall_mem_cons.mpr ⟨tw_805, List.forall_mem_cons.mpr ⟨tw_807, List.forall_mem_cons.mpr ⟨tw_809, List.forall_mem_cons.mpr ⟨tw_811, List.forall_mem_cons.mpr ⟨tw_813, List.forall_mem_cons.mpr ⟨tw_815, List.forall_mem_cons.mpr ⟨tw_817, List.forall_mem_cons.mpr ⟨tw_819, List.forall_mem_cons.mpr ⟨tw_821, List.forall_mem_cons.mpr ⟨tw_823, List.forall_mem_cons.mpr ⟨tw_825, List.forall_mem_cons.mpr ⟨tw_827, List.forall_mem_cons.mpr ⟨tw_829, List.forall_mem_cons.mpr ⟨tw_831, List.forall_mem_cons.mpr ⟨tw_833, List.forall_mem_cons.mpr ⟨tw_835, List.forall_mem_cons.mpr ⟨tw_837, List.forall_mem_cons.mpr ⟨tw_839, List.forall_mem_cons.mpr ⟨tw_841, List.forall_mem_cons.mpr ⟨tw_843, List.forall_mem_cons.mpr ⟨tw_845, List.forall_mem_cons.mpr ⟨tw_847, List.forall_mem_cons.mpr ⟨tw_849, List.forall_mem_cons.mpr ⟨tw_851, List.forall_mem_cons.mpr ⟨tw_853, List.forall_mem_cons.mpr ⟨tw_855, List.forall_mem_cons.mpr ⟨tw_857, fun _ h => absurd h List.not_mem_nil⟩⟩⟩⟩⟩⟩⟩⟩⟩⟩⟩⟩⟩⟩⟩⟩⟩⟩⟩⟩⟩⟩⟩⟩⟩⟩⟩⟩⟩⟩⟩⟩⟩⟩⟩, ty_Mo_ok, nm_Mo⟩
theorem is_0 : wd_is wd_all 0 (4, 0, [(2, 1), (2, 5), (2, 11), (2, 15), (0, 0)]) := ⟨by decide +kernel, rfl⟩
theorem is_1 : wd_is wd_all 4 (4, 1, [(2, 2), (2, 3), (2, 4), (0, 0)]) := ⟨by decide +kernel, rfl⟩
theorem is_2 : wd_is wd_all 8 (0, 40, []) := ⟨by decide +kernel, rfl⟩
theorem is_3 : wd_is wd_all 12 (0, 40, []) := ⟨by decide +kernel, rfl⟩
theorem is_4 : wd_is wd_all 16 (0, 40, []) := ⟨by decide +kernel, rfl⟩
theorem is_5 : wd_is wd_all 20 (4, 2, [(2, 6), (2, 7), (2, 8), (2, 9), (2, 10), (0, 0)]) := ⟨by decide +kernel, rfl⟩
theorem is_6 : wd_is wd_all 24 (0, 90, []) := ⟨by decide +kernel, rfl⟩
theorem is_7 : wd_is wd_all 28 (0, 90, []) := ⟨by decide +kernel, rfl⟩
theorem is_8 : wd_is wd_all 32 (0, 90, []) := ⟨by decide +kernel, rfl⟩
theorem is_9 : wd_is wd_all 36 (0, 90, []) := ⟨by decide +kernel, rfl⟩
theorem is_10 : wd_is wd_all 40 (0, 90, []) := ⟨by decide +kernel, rfl⟩
theorem is_11 : wd_is wd_all 44 (4, 3, [(2, 12), (2, 13), (2, 14), (0, 0)]) := ⟨by decide +kernel, rfl⟩
theorem is_12 : wd_is wd_all 48 (0, 802, []) := ⟨by decide +kernel, rfl⟩
theorem is_13 : wd_is wd_all 52 (0, 802, []) := ⟨by decide +kernel, rfl⟩
theorem is_14 : wd_is wd_all 56 (0, 802, []) := ⟨by decide +kernel, rfl⟩
theorem is_15 : wd_is wd_all 60 (3, 4, [(0, 16)]) := ⟨by decide +kernel, rfl⟩
theorem is_16 {r : Nat} (hr : r < 4) : wd_is wd_all (64 + r) (4, 4, [(0, 0), (2, 11), (2, 5), (3, 17), (3, 21), (3, 25), (3, 28), (3, 31), (0, 0), (0, 0), (0, 0), (0, 0), (0, 0)]) := by
  rcases (show r = 0 ∨ r = 1 ∨ r = 2 ∨ r = 3 by omega) with rfl | rfl | rfl | rfl <;> exact ⟨by decide +kernel, rfl⟩
theorem is_17 {r : Nat} (hr : r < 4) : wd_is wd_all (68 + r) (4, 5, [(3, 18), (0, 0), (0, 0), (3, 19), (3, 20), (0, 0), (0, 0)]) := by
  rcases (show r = 0 ∨ r = 1 ∨ r = 2 ∨ r = 3 by omega) with rfl | rfl | rfl | rfl <;> exact ⟨by decide +kernel, rfl⟩
theorem is_18 {r : Nat} (hr : r < 4) : wd_is wd_all (72 + r) (0, 40, []) := by
  rcases (show r = 0 ∨ r = 1 ∨ r = 2 ∨ r = 3 by omega) with rfl | rfl | rfl | rfl <;> exact ⟨by decide +kernel, rfl⟩
theorem is_19 {r : Nat} (hr : r < 4) : wd_is wd_all (76 + r) (0, 4, []) := by
  rcases (show r = 0 ∨ r = 1 ∨ r = 2 ∨ r = 3 by omega) with rfl | rfl | rfl | rfl <;> exact ⟨by decide +kernel, rfl⟩
theorem is_20 {r : Nat} (hr : r < 4) : wd_is wd_all (80 + r) (0, 4, []) := by
  rcases (show r = 0 ∨ r = 1 ∨ r = 2 ∨ r = 3 by omega) with rfl | rfl | rfl | rfl <;> exact ⟨by decide +kernel, rfl⟩
theorem is_21 {r : Nat} (hr : r < 4) : wd_is wd_all (84 + r) (4, 6, [(3, 22), (3, 23), (3, 24), (0, 0)]) := by
  rcases (show r = 0 ∨ r = 1 ∨ r = 2 ∨ r = 3 by omega) with rfl | rfl | rfl | rfl <;> exact ⟨by decide +kernel, rfl⟩
theorem is_22 {r : Nat} (hr : r < 4) : wd_is wd_all (88 + r) (0, 90, []) := by
  rcases (show r = 0 ∨ r = 1 ∨ r = 2 ∨ r = 3 by omega) with rfl | rfl | rfl | rfl <;> exact ⟨by decide +kernel, rfl⟩
theorem is_23 {r : Nat} (hr : r < 4) : wd_is wd_all (92 + r) (0, 90, []) := by
  rcases (show r = 0 ∨ r = 1 ∨ r = 2 ∨ r = 3 by omega) with rfl | rfl | rfl | rfl <;> exact ⟨by decide +kernel, rfl⟩
theorem is_24 {r : Nat} (hr : r < 4) : wd_is wd_all (96 + r) (0, 90, []) := by
  rcases (show r = 0 ∨ r = 1 ∨ r = 2 ∨ r = 3 by omega) with rfl | rfl | rfl | rfl <;> exact ⟨by decide +kernel, rfl⟩
theorem is_25 {r : Nat} (hr : r < 4) : wd_is wd_all (100 + r) (4, 7, [(2, 5), (3, 26), (3, 27), (0, 0)]) := by
  rcases (show r = 0 ∨ r = 1 ∨ r = 2 ∨ r = 3 by omega) with rfl | rfl | rfl | rfl <;> exact ⟨by decide +kernel, rfl⟩
theorem is_26 {r : Nat} (hr : r < 4) : wd_is wd_all (104 + r) (0, 64, []) := by
  rcases (show r = 0 ∨ r = 1 ∨ r = 2 ∨ r = 3 by omega) with rfl | rfl | rfl | rfl <;> exact ⟨by decide +kernel, rfl⟩
theorem is_27 {r : Nat} (hr : r < 4) : wd_is wd_all (108 + r) (0, 16, []) := by
  rcases (show r = 0 ∨ r = 1 ∨ r = 2 ∨ r = 3 by omega) with rfl | rfl | rfl | rfl <;> exact ⟨by decide +kernel, rfl⟩
theorem is_28 {r : Nat} (hr : r < 4) : wd_is wd_all (112 + r) (4, 8, [(2, 1), (3, 29), (0, 0), (1, 0), (3, 30)]) := by
  rcases (show r = 0 ∨ r = 1 ∨ r = 2 ∨ r = 3 by omega) with rfl | rfl | rfl | rfl <;> exact ⟨by decide +kernel, rfl⟩
theorem is_29 {r : Nat} (hr : r < 4) : wd_is wd_all (116 + r) (0, 40, []) := by
  rcases (show r = 0 ∨ r = 1 ∨ r = 2 ∨ r = 3 by omega) with rfl | rfl | rfl | rfl <;> exact ⟨by decide +kernel, rfl⟩
theorem is_30 {r : Nat} (hr : r < 4) : wd_is wd_all (120 + r) (0, 4, []) := by
  rcases (show r = 0 ∨ r = 1 ∨ r = 2 ∨ r = 3 by omega) with rfl | rfl | rfl | rfl <;> exact ⟨by decide +kernel, rfl⟩
theorem is_31 {r : Nat} (hr : r < 4) : wd_is wd_all (124 + r) (4, 9, [(2, 5), (3, 25), (3, 28), (3, 32), (3, 33), (0, 0)]) := by
  rcases (show r = 0 ∨ r = 1 ∨ r = 2 ∨ r = 3 by omega) with rfl | rfl | rfl | rfl <;> exact ⟨by decide +kernel, rfl⟩
theorem is_32 {r : Nat} (hr : r < 4) : wd_is wd_all (128 + r) (0, 15, []) := by
  rcases (show r = 0 ∨ r = 1 ∨ r = 2 ∨ r = 3 by omega) with rfl | rfl | rfl | rfl <;> exact ⟨by decide +kernel, rfl⟩
theorem is_33 {r : Nat} (hr : r < 4) : wd_is wd_all (132 + r) (0, 15, []) := by
  rcases (show r = 0 ∨ r = 1 ∨ r = 2 ∨ r = 3 by omega) with rfl | rfl | rfl | rfl <;> exact ⟨by decide +kernel, rfl⟩
theorem is_34 : wd_is wd_all 136 (4, 10, [(0, 0), (0, 0), (2, 35), (2, 36), (2, 37), (2, 38), (2, 39), (0, 0), (2, 40), (2, 41), (2, 42), (2, 43), (2, 44), (0, 0), (2, 45), (2, 46), (2, 47), (2, 48), (2, 49), (2, 50), (2, 51), (2, 52), (2, 53), (2, 54), (2, 55), (2, 56), (2, 57), (2, 58), (2, 59), (2, 60), (2, 61), (2, 62), (2, 63), (2, 64), (0, 0)]) := ⟨by decide +kernel, rfl⟩
theorem is_35 : wd_is wd_all 140 (0, 40, []) := ⟨by decide +kernel, rfl⟩
theorem is_36 : wd_is wd_all 144 (0, 40, []) := ⟨by decide +kernel, rfl⟩
theorem is_37 : wd_is wd_all 148 (0, 40, []) := ⟨by decide +kernel, rfl⟩
theorem is_38 : wd_is wd_all 152 (0, 40, []) := ⟨by decide +kernel, rfl⟩
theorem is_39 : wd_is wd_all 156 (1, 40, []) := ⟨by decide +kernel, rfl⟩
theorem is_40 : wd_is wd_all 160 (0, 90, []) := ⟨by decide +kernel, rfl⟩
theorem is_41 : wd_is wd_all 164 (0, 90, []) := ⟨by decide +kernel, rfl⟩
theorem is_42 : wd_is wd_all 168 (0, 90, []) := ⟨by decide +kernel, rfl⟩
theorem is_43 : wd_is wd_all 172 (0, 90, []) := ⟨by decide +kernel, rfl⟩
theorem is_44 : wd_is wd_all 176 (0, 90, []) := ⟨by decide +kernel, rfl⟩
theorem is_45 : wd_is wd_all 180 (0, 840, []) := ⟨by decide +kernel, rfl⟩
theorem is_46 : wd_is wd_all 184 (0, 840, []) := ⟨by decide +kernel, rfl⟩
theorem is_47 : wd_is wd_all 188 (0, 840, []) := ⟨by decide +kernel, rfl⟩
theorem is_48 : wd_is wd_all 192 (0, 4, []) := ⟨by decide +kernel, rfl⟩
theorem is_49 : wd_is wd_all 196 (0, 4, []) := ⟨by decide +kernel, rfl⟩
theorem is_50 : wd_is wd_all 200 (0, 4, []) := ⟨by decide +kernel, rfl⟩
theorem is_51 : wd_is wd_all 204 (0, 4, []) := ⟨by decide +kernel, rfl⟩
theorem is_52 : wd_is wd_all 208 (1, 240, []) := ⟨by decide +kernel, rfl⟩
theorem is_53 : wd_is wd_all 212 (1, 240, []) := ⟨by decide +kernel, rfl⟩
theorem is_54 : wd_is wd_all 216 (0, 4, []) := ⟨by decide +kernel, rfl⟩
theorem is_55 : wd_is wd_all 220 (0, 4, []) := ⟨by decide +kernel, rfl⟩
theorem is_56 : wd_is wd_all 224 (0, 4, []) := ⟨by decide +kernel, rfl⟩
theorem is_57 : wd_is wd_all 228 (0, 240, []) := ⟨by decide +kernel, rfl⟩
theorem is_58 : wd_is wd_all 232 (0, 360, []) := ⟨by decide +kernel, rfl⟩
theorem is_59 : wd_is wd_all 236 (0, 360, []) := ⟨by decide +kernel, rfl⟩
theorem is_60 : wd_is wd_all 240 (1, 360, []) := ⟨by decide +kernel, rfl⟩
theorem is_61 : wd_is wd_all 244 (0, 160, []) := ⟨by decide +kernel, rfl⟩
theorem is_62 : wd_is wd_all 248 (0, 4, []) := ⟨by decide +kernel, rfl⟩
theorem is_63 : wd_is wd_all 252 (0, 16, []) := ⟨by decide +kernel, rfl⟩
theorem is_64 : wd_is wd_all 256 (0, 16, []) := ⟨by decide +kernel, rfl⟩
theorem is_65 : wd_is wd_all 260 (2, 1, []) := ⟨by decide +kernel, rfl⟩
theorem kF_Le_12 : cw_kF "DagLedger" 12 tt_Le 0 := tw_295
theorem kF_Le_19 : cw_kF "DagLedger" 19 tt_Le 1 := tw_296
theorem kF_Le_26 : cw_kF "DagLedger" 26 tt_Le 2 := tw_297
theorem kF_Le_32 : cw_kF "DagLedger" 32 tt_Le 3 := tw_298
theorem kF_Le_39 : cw_kF "DagLedger" 39 tt_Le 4 := tw_299
theorem kF_Le_62 : cw_kF "DagLedger" 62 tt_Re 3 := tw_252
theorem kF_Le_85 : cw_kF "DagLedger" 85 tt_Re 9 := tw_263
theorem kF_Le_94 : cw_kF "DagLedger" 94 tt_Re 8 := tw_261
theorem kF_Le_117 : cw_kF "DagLedger" 117 tt_Bo 0 := tw_96
theorem kF_Le_121 : cw_kF "DagLedger" 121 tt_Bo 1 := tw_99
theorem kF_Le_124 : cw_kF "DagLedger" 124 tt_Bo 2 := tw_102
theorem kF_Le_127 : cw_kF "DagLedger" 127 tt_Ve 0 := tw_60
theorem kF_Le_130 : cw_kF "DagLedger" 130 tt_Ve 1 := tw_64
theorem kF_Le_133 : cw_kF "DagLedger" 133 tt_Ve 2 := tw_67
theorem kF_Le_136 : cw_kF "DagLedger" 136 tt_Ve 3 := tw_70
theorem kF_Le_139 : cw_kF "DagLedger" 139 tt_Ve 4 := tw_73
theorem kF_Le_142 : cw_kF "DagLedger" 142 tt_Di 5 := tw_133
theorem kF_Le_145 : cw_kF "DagLedger" 145 tt_Re 10 := tw_265
theorem kF_Le_148 : cw_kF "DagLedger" 148 tt_Re 7 := tw_259
theorem kF_Le_152 : cw_kF "DagLedger" 152 tt_Co 5 := tw_234
theorem kF_Le_157 : cw_kF "DagLedger" 157 tt_Re 5 := tw_255
theorem kF_Le_161 : cw_kF "DagLedger" 161 tt_Dg 3 := tw_186
theorem kF_Le_166 : cw_kF "DagLedger" 166 tt_Re 6 := tw_257
theorem kF_Le_170 : cw_kF "DagLedger" 170 tt_Bk 2 := tw_207
theorem kF_Le_177 : cw_kF "DagLedger" 177 tt_Di 6 := tw_136
theorem kF_Le_184 : cw_kF "DagLedger" 184 tt_Bk 1 := tw_205
theorem kF_Le_187 : cw_kF "DagLedger" 187 tt_Bk 4 := tw_210
theorem kF_Bo_9 : cw_kF "DagLedger$Board" 9 tt_Bo 0 := tw_94
theorem kF_Bo_15 : cw_kF "DagLedger$Board" 15 tt_Bo 1 := tw_97
theorem kF_Bo_18 : cw_kF "DagLedger$Board" 18 tt_Bo 2 := tw_100
theorem kF_Bo_21 : cw_kF "DagLedger$Board" 21 tt_Bo 3 := tw_103
theorem kF_Bk_9 : cw_kF "DagLedger$Book" 9 tt_Bk 1 := tw_204
theorem kF_Bk_15 : cw_kF "DagLedger$Book" 15 tt_Bk 4 := tw_209
theorem kF_Bk_18 : cw_kF "DagLedger$Book" 18 tt_Bk 0 := tw_203
theorem kF_Bk_28 : cw_kF "DagLedger$Book" 28 tt_Bk 3 := tw_208
theorem kF_Bk_32 : cw_kF "DagLedger$Book" 32 tt_Bk 2 := tw_206
theorem kF_Bk_36 : cw_kF "DagLedger$Book" 36 tt_Tr 2 := tw_39
theorem kF_Bk_41 : cw_kF "DagLedger$Book" 41 tt_Tr 0 := tw_35
theorem kF_Bk_44 : cw_kF "DagLedger$Book" 44 tt_Tr 1 := tw_37
theorem kF_Co_9 : cw_kF "DagLedger$Commits" 9 tt_Co 3 := tw_231
theorem kF_Co_15 : cw_kF "DagLedger$Commits" 15 tt_Co 4 := tw_232
theorem kF_Co_18 : cw_kF "DagLedger$Commits" 18 tt_Co 0 := tw_228
theorem kF_Co_22 : cw_kF "DagLedger$Commits" 22 tt_Co 1 := tw_229
theorem kF_Co_26 : cw_kF "DagLedger$Commits" 26 tt_Co 2 := tw_230
theorem kF_Co_38 : cw_kF "DagLedger$Commits" 38 tt_Co 5 := tw_233
theorem kF_Co_71 : cw_kF "DagLedger$Commits" 71 tt_Ve 3 := tw_69
theorem kF_Co_82 : cw_kF "DagLedger$Commits" 82 tt_Ve 4 := tw_72
theorem kF_Dg_9 : cw_kF "DagLedger$Dag" 9 tt_Dg 1 := tw_183
theorem kF_Dg_15 : cw_kF "DagLedger$Dag" 15 tt_Dg 2 := tw_184
theorem kF_Dg_18 : cw_kF "DagLedger$Dag" 18 tt_Dg 0 := tw_182
theorem kF_Dg_28 : cw_kF "DagLedger$Dag" 28 tt_Ve 1 := tw_62
theorem kF_Dg_37 : cw_kF "DagLedger$Dag" 37 tt_Ve 0 := tw_58
theorem kF_Dg_44 : cw_kF "DagLedger$Dag" 44 tt_Ve 2 := tw_66
theorem kF_Dg_47 : cw_kF "DagLedger$Dag" 47 tt_Dg 3 := tw_185
theorem kF_Di_9 : cw_kF "DagLedger$Disk" 9 tt_Di 0 := tw_126
theorem kF_Di_15 : cw_kF "DagLedger$Disk" 15 tt_Di 3 := tw_129
theorem kF_Di_18 : cw_kF "DagLedger$Disk" 18 tt_Di 4 := tw_131
theorem kF_Di_21 : cw_kF "DagLedger$Disk" 21 tt_Di 1 := tw_127
theorem kF_Di_25 : cw_kF "DagLedger$Disk" 25 tt_Di 2 := tw_128
theorem kF_No_9 : cw_kF "DagLedger$Notes" 9 tt_No 0 := tw_158
theorem kF_No_15 : cw_kF "DagLedger$Notes" 15 tt_No 1 := tw_159
theorem kF_No_18 : cw_kF "DagLedger$Notes" 18 tt_No 2 := tw_160
theorem kF_No_27 : cw_kF "DagLedger$Notes" 27 tt_No 3 := tw_162
theorem kF_Re_12 : cw_kF "DagLedger$Replica" 12 tt_Re 3 := tw_251
theorem kF_Re_21 : cw_kF "DagLedger$Replica" 21 tt_Re 4 := tw_253
theorem kF_Re_25 : cw_kF "DagLedger$Replica" 25 tt_Re 8 := tw_260
theorem kF_Re_29 : cw_kF "DagLedger$Replica" 29 tt_Re 0 := tw_248
theorem kF_Re_32 : cw_kF "DagLedger$Replica" 32 tt_Re 1 := tw_249
theorem kF_Re_36 : cw_kF "DagLedger$Replica" 36 tt_Re 2 := tw_250
theorem kF_Re_45 : cw_kF "DagLedger$Replica" 45 tt_Re 5 := tw_254
theorem kF_Re_54 : cw_kF "DagLedger$Replica" 54 tt_Re 6 := tw_256
theorem kF_Re_63 : cw_kF "DagLedger$Replica" 63 tt_Re 7 := tw_258
theorem kF_Re_67 : cw_kF "DagLedger$Replica" 67 tt_Re 11 := tw_266
theorem kF_Re_71 : cw_kF "DagLedger$Replica" 71 tt_Re 9 := tw_262
theorem kF_Re_74 : cw_kF "DagLedger$Replica" 74 tt_Re 10 := tw_264
theorem kF_Re_86 : cw_kF "DagLedger$Replica" 86 tt_Re 12 := tw_267
theorem kF_Re_92 : cw_kF "DagLedger$Replica" 92 tt_Di 6 := tw_135
theorem kF_Re_104 : cw_kF "DagLedger$Replica" 104 tt_Bo 2 := tw_101
theorem kF_Re_110 : cw_kF "DagLedger$Replica" 110 tt_Bo 1 := tw_98
theorem kF_Re_113 : cw_kF "DagLedger$Replica" 113 tt_Bo 0 := tw_95
theorem kF_Re_126 : cw_kF "DagLedger$Replica" 126 tt_Ve 0 := tw_59
theorem kF_Re_131 : cw_kF "DagLedger$Replica" 131 tt_Ve 1 := tw_63
theorem kF_Re_138 : cw_kF "DagLedger$Replica" 138 tt_Di 3 := tw_130
theorem kF_Re_163 : cw_kF "DagLedger$Replica" 163 tt_Di 4 := tw_132
theorem kF_Re_178 : cw_kF "DagLedger$Replica" 178 tt_No 3 := tw_163
theorem kF_Re_181 : cw_kF "DagLedger$Replica" 181 tt_No 2 := tw_161
theorem kF_Re_199 : cw_kF "DagLedger$Replica" 199 tt_Di 5 := tw_134
theorem kF_Tr_9 : cw_kF "DagLedger$Transfers" 9 tt_Tr 0 := tw_34
theorem kF_Tr_15 : cw_kF "DagLedger$Transfers" 15 tt_Tr 1 := tw_36
theorem kF_Tr_18 : cw_kF "DagLedger$Transfers" 18 tt_Tr 2 := tw_38
theorem kF_Tr_21 : cw_kF "DagLedger$Transfers" 21 tt_Tr 3 := tw_40
theorem kF_Ve_9 : cw_kF "DagLedger$Vertices" 9 tt_Ve 0 := tw_57
theorem kF_Ve_15 : cw_kF "DagLedger$Vertices" 15 tt_Ve 1 := tw_61
theorem kF_Ve_18 : cw_kF "DagLedger$Vertices" 18 tt_Ve 2 := tw_65
theorem kF_Ve_21 : cw_kF "DagLedger$Vertices" 21 tt_Ve 3 := tw_68
theorem kF_Ve_24 : cw_kF "DagLedger$Vertices" 24 tt_Ve 4 := tw_71
theorem kF_Ve_27 : cw_kF "DagLedger$Vertices" 27 tt_Ve 5 := tw_74
theorem kF_Mo_7 : cw_kF "DagLedgerModel" 7 tt_Mo 2 := tw_756
theorem kF_Mo_13 : cw_kF "DagLedgerModel" 13 tt_Mo 3 := tw_757
theorem kF_Mo_16 : cw_kF "DagLedgerModel" 16 tt_Mo 4 := tw_758
theorem kF_Mo_19 : cw_kF "DagLedgerModel" 19 tt_Mo 5 := tw_759
theorem kF_Mo_22 : cw_kF "DagLedgerModel" 22 tt_Mo 6 := tw_760
theorem kF_Mo_26 : cw_kF "DagLedgerModel" 26 tt_Mo 8 := tw_762
theorem kF_Mo_29 : cw_kF "DagLedgerModel" 29 tt_Mo 9 := tw_763
theorem kF_Mo_32 : cw_kF "DagLedgerModel" 32 tt_Mo 10 := tw_764
theorem kF_Mo_35 : cw_kF "DagLedgerModel" 35 tt_Mo 11 := tw_765
theorem kF_Mo_38 : cw_kF "DagLedgerModel" 38 tt_Mo 12 := tw_766
theorem kF_Mo_41 : cw_kF "DagLedgerModel" 41 tt_Mo 14 := tw_768
theorem kF_Mo_44 : cw_kF "DagLedgerModel" 44 tt_Mo 15 := tw_769
theorem kF_Mo_47 : cw_kF "DagLedgerModel" 47 tt_Mo 16 := tw_770
theorem kF_Mo_50 : cw_kF "DagLedgerModel" 50 tt_Mo 17 := tw_771
theorem kF_Mo_53 : cw_kF "DagLedgerModel" 53 tt_Mo 18 := tw_772
theorem kF_Mo_56 : cw_kF "DagLedgerModel" 56 tt_Mo 19 := tw_773
theorem kF_Mo_59 : cw_kF "DagLedgerModel" 59 tt_Mo 20 := tw_774
theorem kF_Mo_62 : cw_kF "DagLedgerModel" 62 tt_Mo 21 := tw_775
theorem kF_Mo_65 : cw_kF "DagLedgerModel" 65 tt_Mo 22 := tw_776
theorem kF_Mo_68 : cw_kF "DagLedgerModel" 68 tt_Mo 23 := tw_777
theorem kF_Mo_71 : cw_kF "DagLedgerModel" 71 tt_Mo 24 := tw_778
theorem kF_Mo_74 : cw_kF "DagLedgerModel" 74 tt_Mo 25 := tw_779
theorem kF_Mo_77 : cw_kF "DagLedgerModel" 77 tt_Mo 26 := tw_780
theorem kF_Mo_80 : cw_kF "DagLedgerModel" 80 tt_Mo 27 := tw_781
theorem kF_Mo_83 : cw_kF "DagLedgerModel" 83 tt_Mo 28 := tw_782
theorem kF_Mo_86 : cw_kF "DagLedgerModel" 86 tt_Mo 29 := tw_783
theorem kF_Mo_89 : cw_kF "DagLedgerModel" 89 tt_Mo 30 := tw_784
theorem kF_Mo_92 : cw_kF "DagLedgerModel" 92 tt_Mo 31 := tw_785
theorem kF_Mo_95 : cw_kF "DagLedgerModel" 95 tt_Mo 32 := tw_786
theorem kF_Mo_98 : cw_kF "DagLedgerModel" 98 tt_Mo 33 := tw_787
theorem kF_Mo_105 : cw_kF "DagLedgerModel" 105 tt_Mo 0 := tw_754
theorem kF_Mo_112 : cw_kF "DagLedgerModel" 112 tt_Mo 13 := tw_767
theorem kF_Mo_153 : cw_kF "DagLedgerModel" 153 tt_Mo 7 := tw_761
theorem kF_Mo_176 : cw_kF "DagLedgerModel" 176 tt_Mo 1 := tw_755
theorem kF_Mo_207 : cw_kF "DagLedgerModel" 207 tt_Mo 34 := tw_788
theorem kV_Le_43 : cw_kV "DagLedger" 43 yy_Le_upReplica cc_Le_upReplica 3 (some (.object "DagLedger$Replica")) 1 := ⟨tw_368, tw_370, ts_1, tw_1, tw_371, ⟨by decide, by decide, by decide +kernel⟩⟩
theorem kV_Le_47 : cw_kV "DagLedger" 47 yy_Tr_isFull cc_Tr_isFull 1 (some .boolean) 0 := ⟨tw_463, tw_464, tw_465, tw_2, tw_466, ⟨by decide, by decide, by decide +kernel⟩⟩
theorem kS_Le_51 : cw_kS "DagLedger" 51 yy_Le_isAccount cc_Le_isAccount 1 (some .boolean) 1 := ⟨tw_467, tw_468, tw_1, tw_469, ⟨by decide, by decide, by decide +kernel⟩⟩
theorem kV_Le_55 : cw_kV "DagLedger" 55 yy_Re_writeRecord cc_Re_writeRecord 1 (some .boolean) 0 := ⟨tw_470, tw_471, tw_472, tw_5, tw_473, ⟨by decide, by decide, by decide +kernel⟩⟩
theorem kV_Le_58 : cw_kV "DagLedger" 58 yy_Tr_add cc_Tr_add 4 (some .int) 3 := ⟨tw_496, tw_497, tw_498, tw_2, tw_499, ⟨by decide, by decide, by decide +kernel⟩⟩
theorem kV_Le_66 : cw_kV "DagLedger" 66 yy_Di_keepTransfer cc_Di_keepTransfer 2 none 1 := ⟨tw_500, tw_501, tw_502, tw_6, tw_503, ⟨by decide, by decide, by decide +kernel⟩⟩
theorem kV_Le_72 : cw_kV "DagLedger" 72 yy_Le_replicaOf cc_Le_replicaOf 2 (some (.object "DagLedger$Replica")) 1 := ⟨tw_372, tw_374, ts_2, tw_1, tw_375, ⟨by decide, by decide, by decide +kernel⟩⟩
theorem kV_Le_75 : cw_kV "DagLedger" 75 yy_Bo_has cc_Bo_has 2 (some .boolean) 1 := ⟨tw_351, tw_352, tw_353, tw_4, tw_354, ⟨by decide, by decide, by decide +kernel⟩⟩
theorem kV_Le_78 : cw_kV "DagLedger" 78 yy_Re_isUp cc_Re_isUp 1 (some .boolean) 0 := ⟨tw_443, tw_444, tw_445, tw_5, tw_446, ⟨by decide, by decide, by decide +kernel⟩⟩
theorem kV_Le_81 : cw_kV "DagLedger" 81 yy_Bo_isFull cc_Bo_isFull 1 (some .boolean) 0 := ⟨tw_327, tw_328, tw_329, tw_4, tw_330, ⟨by decide, by decide, by decide +kernel⟩⟩
theorem kV_Le_82 : cw_kV "DagLedger" 82 yy_Re_take cc_Re_take 4 none 1 := ⟨tw_511, tw_512, tw_513, tw_5, tw_514, ⟨by decide, by decide, by decide +kernel⟩⟩
theorem kV_Le_88 : cw_kV "DagLedger" 88 yy_Re_passTime cc_Re_passTime 1 none 0 := ⟨tw_662, tw_663, tw_664, tw_5, tw_665, ⟨by decide, by decide, by decide +kernel⟩⟩
theorem kV_Le_91 : cw_kV "DagLedger" 91 yy_Re_goDown cc_Re_goDown 1 none 0 := ⟨tw_676, tw_475, tw_476, tw_5, tw_477, ⟨by decide, by decide, by decide +kernel⟩⟩
theorem kV_Le_97 : cw_kV "DagLedger" 97 yy_Re_comeUp cc_Re_comeUp 1 none 0 := ⟨tw_684, tw_685, tw_686, tw_5, tw_687, ⟨by decide, by decide, by decide +kernel⟩⟩
theorem kV_Le_100 : cw_kV "DagLedger" 100 yy_Re_act cc_Re_act 2 none 0 := ⟨tw_692, tw_556, tw_557, tw_5, tw_558, ⟨by decide, by decide, by decide +kernel⟩⟩
theorem kV_Le_103 : cw_kV "DagLedger" 103 yy_Re_setCut cc_Re_setCut 2 none 1 := ⟨tw_700, tw_701, tw_702, tw_5, tw_703, ⟨by decide, by decide, by decide +kernel⟩⟩
theorem kV_Le_106 : cw_kV "DagLedger" 106 yy_Le_isTransferOrNone cc_Le_isTransferOrNone 2 (some .boolean) 1 := ⟨tw_315, tw_317, ts_0, tw_1, tw_318, ⟨by decide, by decide, by decide +kernel⟩⟩
theorem kV_Le_109 : cw_kV "DagLedger" 109 yy_Ve_isFull cc_Ve_isFull 1 (some .boolean) 0 := ⟨tw_323, tw_324, tw_325, tw_3, tw_326, ⟨by decide, by decide, by decide +kernel⟩⟩
theorem kV_Le_110 : cw_kV "DagLedger" 110 yy_Ve_add cc_Ve_add 6 (some .int) 5 := ⟨tw_331, tw_332, tw_333, tw_3, tw_334, ⟨by decide, by decide, by decide +kernel⟩⟩
theorem kV_Le_113 : cw_kV "DagLedger" 113 yy_Bo_post cc_Bo_post 4 (some .int) 3 := ⟨tw_335, tw_336, tw_337, tw_4, tw_338, ⟨by decide, by decide, by decide +kernel⟩⟩
theorem kV_Le_116 : cw_kV "DagLedger" 116 yy_Ve_has cc_Ve_has 2 (some .boolean) 1 := ⟨tw_343, tw_344, tw_345, tw_3, tw_346, ⟨by decide, by decide, by decide +kernel⟩⟩
theorem kV_Le_173 : cw_kV "DagLedger" 173 yy_Di_queueLength cc_Di_queueLength 1 (some .int) 0 := ⟨tw_718, tw_719, tw_720, tw_6, tw_721, ⟨by decide, by decide, by decide +kernel⟩⟩
theorem kV_Le_180 : cw_kV "DagLedger" 180 yy_Dg_find cc_Dg_find 3 (some .int) 2 := ⟨tw_729, tw_620, tw_621, tw_8, tw_622, ⟨by decide, by decide, by decide +kernel⟩⟩
theorem kV_Le_202 : cw_kV "DagLedger" 202 yy_Tr_has cc_Tr_has 2 (some .boolean) 1 := ⟨tw_319, tw_320, tw_321, tw_2, tw_322, ⟨by decide, by decide, by decide +kernel⟩⟩
theorem kS_Bk_22 : cw_kS "DagLedger$Book" 22 yy_Ar_fill cc_Ar_fill 4 none 2 := ⟨tw_202, tw_180, tw_9, tw_181, ⟨by decide, by decide, by decide +kernel⟩⟩
theorem kV_Co_30 : cw_kV "DagLedger$Commits" 30 yy_Co_nextRound cc_Co_nextRound 3 (some .int) 0 := ⟨tw_589, tw_591, ts_9, tw_11, tw_592, ⟨by decide, by decide, by decide +kernel⟩⟩
theorem kV_Co_34 : cw_kV "DagLedger$Commits" 34 yy_Co_leadersUnder cc_Co_leadersUnder 5 (some .int) 1 := ⟨tw_602, tw_604, ts_10, tw_11, tw_605, ⟨by decide, by decide, by decide +kernel⟩⟩
theorem kV_Co_49 : cw_kV "DagLedger$Commits" 49 yy_Co_emit cc_Co_emit 4 none 2 := ⟨tw_611, tw_613, ts_11, tw_11, tw_614, ⟨by decide, by decide, by decide +kernel⟩⟩
theorem kV_Co_53 : cw_kV "DagLedger$Commits" 53 yy_Dg_holds cc_Dg_holds 3 (some .boolean) 2 := ⟨tw_596, tw_570, tw_571, tw_8, tw_572, ⟨by decide, by decide, by decide +kernel⟩⟩
theorem kV_Co_58 : cw_kV "DagLedger$Commits" 58 yy_Dg_countStandingOn cc_Dg_countStandingOn 6 (some .int) 2 := ⟨tw_597, tw_598, tw_599, tw_8, tw_600, ⟨by decide, by decide, by decide +kernel⟩⟩
theorem kV_Co_62 : cw_kV "DagLedger$Commits" 62 yy_Dg_parentsOf cc_Dg_parentsOf 6 (some .int) 2 := ⟨tw_606, tw_607, tw_608, tw_8, tw_609, ⟨by decide, by decide, by decide +kernel⟩⟩
theorem kV_Co_65 : cw_kV "DagLedger$Commits" 65 yy_Co_emitRound cc_Co_emitRound 5 none 2 := ⟨tw_615, tw_617, ts_12, tw_11, tw_618, ⟨by decide, by decide, by decide +kernel⟩⟩
theorem kV_Co_68 : cw_kV "DagLedger$Commits" 68 yy_Dg_find cc_Dg_find 3 (some .int) 2 := ⟨tw_619, tw_620, tw_621, tw_8, tw_622, ⟨by decide, by decide, by decide +kernel⟩⟩
theorem kV_Co_76 : cw_kV "DagLedger$Commits" 76 yy_Bk_place cc_Bk_place 3 none 1 := ⟨tw_623, tw_624, tw_625, tw_10, tw_626, ⟨by decide, by decide, by decide +kernel⟩⟩
theorem kS_Co_85 : cw_kS "DagLedger$Commits" 85 yy_Ar_fill cc_Ar_fill 4 none 2 := ⟨tw_491, tw_180, tw_9, tw_181, ⟨by decide, by decide, by decide +kernel⟩⟩
theorem kS_Dg_22 : cw_kS "DagLedger$Dag" 22 yy_Ar_fill cc_Ar_fill 4 none 2 := ⟨tw_179, tw_180, tw_9, tw_181, ⟨by decide, by decide, by decide +kernel⟩⟩
theorem kV_Dg_33 : cw_kV "DagLedger$Dag" 33 yy_Ve_isWellFormed cc_Ve_isWellFormed 2 (some .boolean) 1 := ⟨tw_568, tw_520, tw_521, tw_3, tw_522, ⟨by decide, by decide, by decide +kernel⟩⟩
theorem kV_Dg_40 : cw_kV "DagLedger$Dag" 40 yy_Dg_holds cc_Dg_holds 3 (some .boolean) 2 := ⟨tw_569, tw_570, tw_571, tw_8, tw_572, ⟨by decide, by decide, by decide +kernel⟩⟩
theorem kS_No_21 : cw_kS "DagLedger$Notes" 21 yy_In_bitCount cc_In_bitCount 1 (some .int) 1 := ⟨tw_542, tw_524, tw_18, tw_525, ⟨by decide, by decide, by decide +kernel⟩⟩
theorem kS_No_31 : cw_kS "DagLedger$Notes" 31 yy_Ar_fill cc_Ar_fill 4 none 2 := ⟨tw_482, tw_180, tw_9, tw_181, ⟨by decide, by decide, by decide +kernel⟩⟩
theorem kV_Re_77 : cw_kV "DagLedger$Replica" 77 yy_No_clear cc_No_clear 1 none 0 := ⟨tw_478, tw_479, tw_480, tw_7, tw_481, ⟨by decide, by decide, by decide +kernel⟩⟩
theorem kV_Re_80 : cw_kV "DagLedger$Replica" 80 yy_Dg_clear cc_Dg_clear 1 none 0 := ⟨tw_483, tw_484, tw_485, tw_8, tw_486, ⟨by decide, by decide, by decide +kernel⟩⟩
theorem kV_Re_81 : cw_kV "DagLedger$Replica" 81 yy_Co_clear cc_Co_clear 1 none 0 := ⟨tw_487, tw_488, tw_489, tw_11, tw_490, ⟨by decide, by decide, by decide +kernel⟩⟩
theorem kV_Re_82 : cw_kV "DagLedger$Replica" 82 yy_Bk_clear cc_Bk_clear 1 none 0 := ⟨tw_492, tw_493, tw_494, tw_10, tw_495, ⟨by decide, by decide, by decide +kernel⟩⟩
theorem kV_Re_83 : cw_kV "DagLedger$Replica" 83 yy_Bk_open cc_Bk_open 1 none 0 := ⟨tw_688, tw_689, tw_690, tw_10, tw_691, ⟨by decide, by decide, by decide +kernel⟩⟩
theorem kV_Re_89 : cw_kV "DagLedger$Replica" 89 yy_Re_goDown cc_Re_goDown 1 none 0 := ⟨tw_474, tw_475, tw_476, tw_5, tw_477, ⟨by decide, by decide, by decide +kernel⟩⟩
theorem kS_Re_95 : cw_kS "DagLedger$Replica" 95 yy_Ma_min cc_Ma_min 2 (some .int) 2 := ⟨tw_666, tw_667, tw_19, tw_668, ⟨by decide, by decide, by decide +kernel⟩⟩
theorem kV_Re_101 : cw_kV "DagLedger$Replica" 101 yy_Re_act cc_Re_act 2 none 0 := ⟨tw_555, tw_556, tw_557, tw_5, tw_558, ⟨by decide, by decide, by decide +kernel⟩⟩
theorem kV_Re_116 : cw_kV "DagLedger$Replica" 116 yy_Re_takeSend cc_Re_takeSend 5 none 2 := ⟨tw_515, tw_517, ts_4, tw_5, tw_518, ⟨by decide, by decide, by decide +kernel⟩⟩
theorem kV_Re_120 : cw_kV "DagLedger$Replica" 120 yy_Re_takeEcho cc_Re_takeEcho 3 none 2 := ⟨tw_534, tw_536, ts_5, tw_5, tw_537, ⟨by decide, by decide, by decide +kernel⟩⟩
theorem kV_Re_123 : cw_kV "DagLedger$Replica" 123 yy_Re_takeReady cc_Re_takeReady 3 none 2 := ⟨tw_547, tw_549, ts_7, tw_5, tw_550, ⟨by decide, by decide, by decide +kernel⟩⟩
theorem kV_Re_134 : cw_kV "DagLedger$Replica" 134 yy_Ve_isWellFormed cc_Ve_isWellFormed 2 (some .boolean) 1 := ⟨tw_519, tw_520, tw_521, tw_3, tw_522, ⟨by decide, by decide, by decide +kernel⟩⟩
theorem kV_Re_145 : cw_kV "DagLedger$Replica" 145 yy_Re_writeRecord cc_Re_writeRecord 1 (some .boolean) 0 := ⟨tw_532, tw_471, tw_472, tw_5, tw_473, ⟨by decide, by decide, by decide +kernel⟩⟩
theorem kV_Re_149 : cw_kV "DagLedger$Replica" 149 yy_Bo_post cc_Bo_post 4 (some .int) 3 := ⟨tw_533, tw_336, tw_337, tw_4, tw_338, ⟨by decide, by decide, by decide +kernel⟩⟩
theorem kV_Re_153 : cw_kV "DagLedger$Replica" 153 yy_No_noteEcho cc_No_noteEcho 3 (some .int) 2 := ⟨tw_538, tw_539, tw_540, tw_7, tw_541, ⟨by decide, by decide, by decide +kernel⟩⟩
theorem kV_Re_156 : cw_kV "DagLedger$Replica" 156 yy_Re_becomeReady cc_Re_becomeReady 4 none 1 := ⟨tw_543, tw_545, ts_6, tw_5, tw_546, ⟨by decide, by decide, by decide +kernel⟩⟩
theorem kV_Re_160 : cw_kV "DagLedger$Replica" 160 yy_No_noteReady cc_No_noteReady 5 (some .int) 2 := ⟨tw_551, tw_552, tw_553, tw_7, tw_554, ⟨by decide, by decide, by decide +kernel⟩⟩
theorem kV_Re_166 : cw_kV "DagLedger$Replica" 166 yy_Re_isUp cc_Re_isUp 1 (some .boolean) 0 := ⟨tw_559, tw_444, tw_445, tw_5, tw_446, ⟨by decide, by decide, by decide +kernel⟩⟩
theorem kV_Re_169 : cw_kV "DagLedger$Replica" 169 yy_Re_insertNext cc_Re_insertNext 4 (some .boolean) 0 := ⟨tw_560, tw_562, ts_8, tw_5, tw_563, ⟨by decide, by decide, by decide +kernel⟩⟩
theorem kV_Re_172 : cw_kV "DagLedger$Replica" 172 yy_Co_commitNext cc_Co_commitNext 4 (some .boolean) 0 := ⟨tw_585, tw_586, tw_587, tw_11, tw_588, ⟨by decide, by decide, by decide +kernel⟩⟩
theorem kV_Re_175 : cw_kV "DagLedger$Replica" 175 yy_Re_advance cc_Re_advance 4 (some .boolean) 0 := ⟨tw_627, tw_629, ts_13, tw_5, tw_630, ⟨by decide, by decide, by decide +kernel⟩⟩
theorem kV_Re_184 : cw_kV "DagLedger$Replica" 184 yy_Dg_canTake cc_Dg_canTake 3 (some .boolean) 1 := ⟨tw_564, tw_565, tw_566, tw_8, tw_567, ⟨by decide, by decide, by decide +kernel⟩⟩
theorem kV_Re_187 : cw_kV "DagLedger$Replica" 187 yy_Ve_comesBefore cc_Ve_comesBefore 3 (some .boolean) 2 := ⟨tw_573, tw_574, tw_575, tw_3, tw_576, ⟨by decide, by decide, by decide +kernel⟩⟩
theorem kV_Re_190 : cw_kV "DagLedger$Replica" 190 yy_Dg_insert cc_Dg_insert 4 none 1 := ⟨tw_577, tw_578, tw_579, tw_8, tw_580, ⟨by decide, by decide, by decide +kernel⟩⟩
theorem kV_Re_193 : cw_kV "DagLedger$Replica" 193 yy_No_stopWaiting cc_No_stopWaiting 2 none 1 := ⟨tw_581, tw_582, tw_583, tw_7, tw_584, ⟨by decide, by decide, by decide +kernel⟩⟩
theorem kV_Re_196 : cw_kV "DagLedger$Replica" 196 yy_Re_mayAdvance cc_Re_mayAdvance 2 (some .boolean) 0 := ⟨tw_631, tw_633, ts_14, tw_5, tw_634, ⟨by decide, by decide, by decide +kernel⟩⟩
theorem kV_Re_202 : cw_kV "DagLedger$Replica" 202 yy_Dg_authorsOf cc_Dg_authorsOf 2 (some .int) 1 := ⟨tw_637, tw_638, tw_639, tw_8, tw_640, ⟨by decide, by decide, by decide +kernel⟩⟩
theorem kV_Re_206 : cw_kV "DagLedger$Replica" 206 yy_Di_nextOfQueue cc_Di_nextOfQueue 1 (some .int) 0 := ⟨tw_643, tw_644, tw_645, tw_6, tw_646, ⟨by decide, by decide, by decide +kernel⟩⟩
theorem kV_Re_210 : cw_kV "DagLedger$Replica" 210 yy_Ve_add cc_Ve_add 6 (some .int) 5 := ⟨tw_647, tw_332, tw_333, tw_3, tw_334, ⟨by decide, by decide, by decide +kernel⟩⟩
theorem kV_Re_214 : cw_kV "DagLedger$Replica" 214 yy_Ve_isFull cc_Ve_isFull 1 (some .boolean) 0 := ⟨tw_635, tw_324, tw_325, tw_3, tw_326, ⟨by decide, by decide, by decide +kernel⟩⟩
theorem kV_Re_217 : cw_kV "DagLedger$Replica" 217 yy_Dg_holds cc_Dg_holds 3 (some .boolean) 2 := ⟨tw_636, tw_570, tw_571, tw_8, tw_572, ⟨by decide, by decide, by decide +kernel⟩⟩
theorem kS_Re_220 : cw_kS "DagLedger$Replica" 220 yy_In_bitCount cc_In_bitCount 1 (some .int) 1 := ⟨tw_641, tw_524, tw_18, tw_525, ⟨by decide, by decide, by decide +kernel⟩⟩
theorem kS_Ve_31 : cw_kS "DagLedger$Vertices" 31 yy_In_bitCount cc_In_bitCount 1 (some .int) 1 := ⟨tw_523, tw_524, tw_18, tw_525, ⟨by decide, by decide, by decide +kernel⟩⟩
theorem kV_La_7 : cw_kV "DagLedgerLaw" 7 yy_Le_submit cc_Le_submit 7 (some .int) 4 := ⟨tw_364, tw_365, tw_366, tw_1, tw_367, ⟨by decide, by decide, by decide +kernel⟩⟩
theorem kV_La_17 : cw_kV "DagLedgerLaw" 17 yy_Le_deliver cc_Le_deliver 4 (some .boolean) 2 := ⟨tw_507, tw_508, tw_509, tw_1, tw_510, ⟨by decide, by decide, by decide +kernel⟩⟩
theorem kV_La_21 : cw_kV "DagLedgerLaw" 21 yy_Le_pump cc_Le_pump 5 (some .int) 2 := ⟨tw_651, tw_652, tw_653, tw_1, tw_654, ⟨by decide, by decide, by decide +kernel⟩⟩
theorem kV_La_25 : cw_kV "DagLedgerLaw" 25 yy_Le_tick cc_Le_tick 3 (some .boolean) 1 := ⟨tw_658, tw_659, tw_660, tw_1, tw_661, ⟨by decide, by decide, by decide +kernel⟩⟩
theorem kV_La_29 : cw_kV "DagLedgerLaw" 29 yy_Le_crash cc_Le_crash 3 (some .boolean) 1 := ⟨tw_672, tw_673, tw_674, tw_1, tw_675, ⟨by decide, by decide, by decide +kernel⟩⟩
theorem kV_La_32 : cw_kV "DagLedgerLaw" 32 yy_Le_restart cc_Le_restart 3 (some .boolean) 1 := ⟨tw_680, tw_681, tw_682, tw_1, tw_683, ⟨by decide, by decide, by decide +kernel⟩⟩
theorem kV_La_35 : cw_kV "DagLedgerLaw" 35 yy_Le_cut cc_Le_cut 4 (some .boolean) 2 := ⟨tw_696, tw_697, tw_698, tw_1, tw_699, ⟨by decide, by decide, by decide +kernel⟩⟩
theorem kV_La_38 : cw_kV "DagLedgerLaw" 38 yy_Le_corrupt cc_Le_corrupt 3 (some .boolean) 1 := ⟨tw_707, tw_708, tw_709, tw_1, tw_710, ⟨by decide, by decide, by decide +kernel⟩⟩
theorem kV_La_41 : cw_kV "DagLedgerLaw" 41 yy_Le_node cc_Le_node 4 (some .int) 2 := ⟨tw_714, tw_715, tw_716, tw_1, tw_717, ⟨by decide, by decide, by decide +kernel⟩⟩
theorem kV_La_44 : cw_kV "DagLedgerLaw" 44 yy_Le_dag cc_Le_dag 5 (some .int) 3 := ⟨tw_725, tw_726, tw_727, tw_1, tw_728, ⟨by decide, by decide, by decide +kernel⟩⟩
theorem kV_La_48 : cw_kV "DagLedgerLaw" 48 yy_Le_at cc_Le_at 4 (some .int) 2 := ⟨tw_733, tw_734, tw_735, tw_1, tw_736, ⟨by decide, by decide, by decide +kernel⟩⟩
theorem kV_La_51 : cw_kV "DagLedgerLaw" 51 yy_Le_balance cc_Le_balance 4 (some .int) 2 := ⟨tw_740, tw_741, tw_742, tw_1, tw_743, ⟨by decide, by decide, by decide +kernel⟩⟩
theorem kV_La_63 : cw_kV "DagLedgerLaw" 63 yy_Mo_submit cc_Mo_submit 5 (some .int) 4 := ⟨tw_865, tw_866, tw_867, tw_12, tw_868, ⟨by decide, by decide, by decide +kernel⟩⟩
theorem kV_La_64 : cw_kV "DagLedgerLaw" 64 yy_Mo_thrown cc_Mo_thrown 1 (some .int) 0 := ⟨tw_861, tw_862, tw_863, tw_12, tw_864, ⟨by decide, by decide, by decide +kernel⟩⟩
theorem kV_La_71 : cw_kV "DagLedgerLaw" 71 yy_Mo_deliver cc_Mo_deliver 3 (some .boolean) 2 := ⟨tw_884, tw_885, tw_886, tw_12, tw_887, ⟨by decide, by decide, by decide +kernel⟩⟩
theorem kV_La_74 : cw_kV "DagLedgerLaw" 74 yy_Mo_pump cc_Mo_pump 4 (some .int) 2 := ⟨tw_970, tw_971, tw_972, tw_12, tw_973, ⟨by decide, by decide, by decide +kernel⟩⟩
theorem kV_La_78 : cw_kV "DagLedgerLaw" 78 yy_Mo_tick cc_Mo_tick 2 (some .boolean) 1 := ⟨tw_974, tw_975, tw_976, tw_12, tw_977, ⟨by decide, by decide, by decide +kernel⟩⟩
theorem kV_La_81 : cw_kV "DagLedgerLaw" 81 yy_Mo_crash cc_Mo_crash 2 (some .boolean) 1 := ⟨tw_978, tw_979, tw_980, tw_12, tw_981, ⟨by decide, by decide, by decide +kernel⟩⟩
theorem kV_La_84 : cw_kV "DagLedgerLaw" 84 yy_Mo_restart cc_Mo_restart 2 (some .boolean) 1 := ⟨tw_982, tw_983, tw_984, tw_12, tw_985, ⟨by decide, by decide, by decide +kernel⟩⟩
theorem kV_La_87 : cw_kV "DagLedgerLaw" 87 yy_Mo_cut cc_Mo_cut 3 (some .boolean) 2 := ⟨tw_986, tw_987, tw_988, tw_12, tw_989, ⟨by decide, by decide, by decide +kernel⟩⟩
theorem kV_La_90 : cw_kV "DagLedgerLaw" 90 yy_Mo_corrupt cc_Mo_corrupt 2 (some .boolean) 1 := ⟨tw_990, tw_991, tw_992, tw_12, tw_993, ⟨by decide, by decide, by decide +kernel⟩⟩
theorem kV_La_91 : cw_kV "DagLedgerLaw" 91 yy_Le_forge cc_Le_forge 6 (some .int) 4 := ⟨tw_311, tw_312, tw_313, tw_1, tw_314, ⟨by decide, by decide, by decide +kernel⟩⟩
theorem kV_La_94 : cw_kV "DagLedgerLaw" 94 yy_Mo_forge cc_Mo_forge 6 (some .int) 4 := ⟨tw_998, tw_999, tw_1000, tw_12, tw_1001, ⟨by decide, by decide, by decide +kernel⟩⟩
theorem kV_La_95 : cw_kV "DagLedgerLaw" 95 yy_Le_send cc_Le_send 3 (some .int) 2 := ⟨tw_339, tw_340, tw_341, tw_1, tw_342, ⟨by decide, by decide, by decide +kernel⟩⟩
theorem kV_La_98 : cw_kV "DagLedgerLaw" 98 yy_Mo_send cc_Mo_send 3 (some .int) 2 := ⟨tw_1006, tw_1007, tw_1008, tw_12, tw_1009, ⟨by decide, by decide, by decide +kernel⟩⟩
theorem kV_La_99 : cw_kV "DagLedgerLaw" 99 yy_Le_message cc_Le_message 3 (some .int) 2 := ⟨tw_347, tw_348, tw_349, tw_1, tw_350, ⟨by decide, by decide, by decide +kernel⟩⟩
theorem kV_La_102 : cw_kV "DagLedgerLaw" 102 yy_Mo_message cc_Mo_message 3 (some .int) 2 := ⟨tw_1010, tw_1011, tw_1012, tw_12, tw_1013, ⟨by decide, by decide, by decide +kernel⟩⟩
theorem kV_La_103 : cw_kV "DagLedgerLaw" 103 yy_Le_vertex cc_Le_vertex 3 (some .int) 2 := ⟨tw_355, tw_356, tw_357, tw_1, tw_358, ⟨by decide, by decide, by decide +kernel⟩⟩
theorem kV_La_106 : cw_kV "DagLedgerLaw" 106 yy_Mo_vertex cc_Mo_vertex 3 (some .int) 2 := ⟨tw_1014, tw_1015, tw_1016, tw_12, tw_1017, ⟨by decide, by decide, by decide +kernel⟩⟩
theorem kV_La_109 : cw_kV "DagLedgerLaw" 109 yy_Mo_node cc_Mo_node 5 (some .int) 2 := ⟨tw_1018, tw_1019, tw_1020, tw_12, tw_1021, ⟨by decide, by decide, by decide +kernel⟩⟩
theorem kV_La_113 : cw_kV "DagLedgerLaw" 113 yy_Mo_dag cc_Mo_dag 4 (some .int) 3 := ⟨tw_1022, tw_1023, tw_1024, tw_12, tw_1025, ⟨by decide, by decide, by decide +kernel⟩⟩
theorem kV_La_116 : cw_kV "DagLedgerLaw" 116 yy_Mo_at cc_Mo_at 3 (some .int) 2 := ⟨tw_1026, tw_1027, tw_1028, tw_12, tw_1029, ⟨by decide, by decide, by decide +kernel⟩⟩
theorem kV_La_119 : cw_kV "DagLedgerLaw" 119 yy_Mo_balance cc_Mo_balance 3 (some .int) 2 := ⟨tw_1030, tw_1031, tw_1032, tw_12, tw_1033, ⟨by decide, by decide, by decide +kernel⟩⟩
theorem kV_Mo_101 : cw_kV "DagLedgerModel" 101 yy_Mo_fresh cc_Mo_fresh 3 none 1 := ⟨tw_750, tw_752, ts_15, tw_12, tw_753, ⟨by decide, by decide, by decide +kernel⟩⟩
theorem kV_Mo_109 : cw_kV "DagLedgerModel" 109 yy_Mo_fall cc_Mo_fall 2 none 1 := ⟨tw_880, tw_882, ts_18, tw_12, tw_883, ⟨by decide, by decide, by decide +kernel⟩⟩
theorem kS_Mo_115 : cw_kS "DagLedgerModel" 115 yy_Mo_ones cc_Mo_ones 1 (some .int) 1 := ⟨tw_904, tw_905, tw_12, tw_906, ⟨by decide, by decide, by decide +kernel⟩⟩
theorem kV_Mo_119 : cw_kV "DagLedgerModel" 119 yy_Mo_formed cc_Mo_formed 2 (some .boolean) 1 := ⟨tw_900, tw_902, ts_22, tw_12, tw_903, ⟨by decide, by decide, by decide +kernel⟩⟩
theorem kV_Mo_123 : cw_kV "DagLedgerModel" 123 yy_Mo_spot cc_Mo_spot 3 (some .int) 2 := ⟨tw_907, tw_909, ts_23, tw_12, tw_910, ⟨by decide, by decide, by decide +kernel⟩⟩
theorem kV_Mo_127 : cw_kV "DagLedgerModel" 127 yy_Mo_record cc_Mo_record 2 (some .boolean) 1 := ⟨tw_876, tw_878, ts_17, tw_12, tw_879, ⟨by decide, by decide, by decide +kernel⟩⟩
theorem kV_Mo_130 : cw_kV "DagLedgerModel" 130 yy_Mo_say cc_Mo_say 4 (some .int) 3 := ⟨tw_911, tw_913, ts_24, tw_12, tw_914, ⟨by decide, by decide, by decide +kernel⟩⟩
theorem kV_Mo_134 : cw_kV "DagLedgerModel" 134 yy_Mo_act cc_Mo_act 5 none 1 := ⟨tw_915, tw_917, ts_25, tw_12, tw_918, ⟨by decide, by decide, by decide +kernel⟩⟩
theorem kV_Mo_137 : cw_kV "DagLedgerModel" 137 yy_Mo_insertable cc_Mo_insertable 5 (some .int) 1 := ⟨tw_919, tw_921, ts_26, tw_12, tw_922, ⟨by decide, by decide, by decide +kernel⟩⟩
theorem kV_Mo_140 : cw_kV "DagLedgerModel" 140 yy_Mo_committable cc_Mo_committable 6 (some .int) 1 := ⟨tw_927, tw_929, ts_28, tw_12, tw_930, ⟨by decide, by decide, by decide +kernel⟩⟩
theorem kV_Mo_143 : cw_kV "DagLedgerModel" 143 yy_Mo_commit cc_Mo_commit 6 none 2 := ⟨tw_938, tw_940, ts_30, tw_12, tw_941, ⟨by decide, by decide, by decide +kernel⟩⟩
theorem kV_Mo_147 : cw_kV "DagLedgerModel" 147 yy_Mo_advances cc_Mo_advances 4 (some .boolean) 1 := ⟨tw_954, tw_956, ts_34, tw_12, tw_957, ⟨by decide, by decide, by decide +kernel⟩⟩
theorem kV_Mo_150 : cw_kV "DagLedgerModel" 150 yy_Mo_advance cc_Mo_advance 5 none 1 := ⟨tw_958, tw_960, ts_35, tw_12, tw_961, ⟨by decide, by decide, by decide +kernel⟩⟩
theorem kV_Mo_156 : cw_kV "DagLedgerModel" 156 yy_Mo_there cc_Mo_there 5 (some .int) 2 := ⟨tw_923, tw_925, ts_27, tw_12, tw_926, ⟨by decide, by decide, by decide +kernel⟩⟩
theorem kS_Mo_159 : cw_kS "DagLedgerModel" 159 yy_Mo_leader cc_Mo_leader 1 (some .int) 1 := ⟨tw_931, tw_932, tw_12, tw_933, ⟨by decide, by decide, by decide +kernel⟩⟩
theorem kV_Mo_162 : cw_kV "DagLedgerModel" 162 yy_Mo_hasLeader cc_Mo_hasLeader 3 (some .boolean) 2 := ⟨tw_934, tw_936, ts_29, tw_12, tw_937, ⟨by decide, by decide, by decide +kernel⟩⟩
theorem kV_Mo_166 : cw_kV "DagLedgerModel" 166 yy_Mo_spread cc_Mo_spread 6 none 3 := ⟨tw_942, tw_944, ts_31, tw_12, tw_945, ⟨by decide, by decide, by decide +kernel⟩⟩
theorem kV_Mo_170 : cw_kV "DagLedgerModel" 170 yy_Mo_emit cc_Mo_emit 6 none 2 := ⟨tw_946, tw_948, ts_32, tw_12, tw_949, ⟨by decide, by decide, by decide +kernel⟩⟩
theorem kV_Mo_173 : cw_kV "DagLedgerModel" 173 yy_Mo_place cc_Mo_place 5 none 2 := ⟨tw_950, tw_952, ts_33, tw_12, tw_953, ⟨by decide, by decide, by decide +kernel⟩⟩
theorem kV_Mo_179 : cw_kV "DagLedgerModel" 179 yy_Mo_queued cc_Mo_queued 4 (some .int) 2 := ⟨tw_962, tw_964, ts_36, tw_12, tw_965, ⟨by decide, by decide, by decide +kernel⟩⟩
theorem kV_Mo_182 : cw_kV "DagLedgerModel" 182 yy_Mo_make cc_Mo_make 6 (some .int) 5 := ⟨tw_966, tw_968, ts_37, tw_12, tw_969, ⟨by decide, by decide, by decide +kernel⟩⟩
theorem kS_Mo_186 : cw_kS "DagLedgerModel" 186 yy_Mo_in cc_Mo_in 3 (some .boolean) 3 := ⟨tw_873, tw_874, tw_12, tw_875, ⟨by decide, by decide, by decide +kernel⟩⟩
theorem kV_Mo_190 : cw_kV "DagLedgerModel" 190 yy_Mo_isNode cc_Mo_isNode 2 (some .boolean) 1 := ⟨tw_869, tw_871, ts_16, tw_12, tw_872, ⟨by decide, by decide, by decide +kernel⟩⟩
theorem kV_Mo_193 : cw_kV "DagLedgerModel" 193 yy_Mo_works cc_Mo_works 2 (some .boolean) 1 := ⟨tw_888, tw_890, ts_19, tw_12, tw_891, ⟨by decide, by decide, by decide +kernel⟩⟩
theorem kV_Mo_196 : cw_kV "DagLedgerModel" 196 yy_Mo_full cc_Mo_full 1 (some .boolean) 0 := ⟨tw_892, tw_894, ts_20, tw_12, tw_895, ⟨by decide, by decide, by decide +kernel⟩⟩
theorem kV_Mo_200 : cw_kV "DagLedgerModel" 200 yy_Mo_take cc_Mo_take 6 none 2 := ⟨tw_896, tw_898, ts_21, tw_12, tw_899, ⟨by decide, by decide, by decide +kernel⟩⟩
theorem kV_Mo_203 : cw_kV "DagLedgerModel" 203 yy_Mo_faulty cc_Mo_faulty 2 (some .int) 0 := ⟨tw_994, tw_996, ts_38, tw_12, tw_997, ⟨by decide, by decide, by decide +kernel⟩⟩
theorem kV_Mo_211 : cw_kV "DagLedgerModel" 211 yy_Mo_isTransfer cc_Mo_isTransfer 2 (some .boolean) 1 := ⟨tw_1002, tw_1004, ts_39, tw_12, tw_1005, ⟨by decide, by decide, by decide +kernel⟩⟩
theorem kS_Co_42 : cw_kSN "DagLedger$Commits" 42 yy_Le_contains cc_Le_contains 2 (some .boolean) 2 "DagLedger" := ⟨List.mem_of_getElem? (i := 8) rfl, tw_530, tw_1, tw_531, ⟨by decide, by decide, by decide +kernel⟩⟩
theorem kS_Co_46 : cw_kSN "DagLedger$Commits" 46 yy_Le_leaderOf cc_Le_leaderOf 1 (some .int) 1 "DagLedger" := ⟨List.mem_of_getElem? (i := 6) rfl, tw_594, tw_1, tw_595, ⟨by decide, by decide, by decide +kernel⟩⟩
theorem kS_Dg_51 : cw_kSN "DagLedger$Dag" 51 yy_Le_contains cc_Le_contains 2 (some .boolean) 2 "DagLedger" := ⟨List.mem_of_getElem? (i := 7) rfl, tw_530, tw_1, tw_531, ⟨by decide, by decide, by decide +kernel⟩⟩
theorem kS_Re_141 : cw_kSN "DagLedger$Replica" 141 yy_Le_contains cc_Le_contains 2 (some .boolean) 2 "DagLedger" := ⟨List.mem_of_getElem? (i := 5) rfl, tw_530, tw_1, tw_531, ⟨by decide, by decide, by decide +kernel⟩⟩
theorem kS_Re_225 : cw_kSN "DagLedger$Replica" 225 yy_Le_leaderOf cc_Le_leaderOf 1 (some .int) 1 "DagLedger" := ⟨List.mem_of_getElem? (i := 9) rfl, tw_594, tw_1, tw_595, ⟨by decide, by decide, by decide +kernel⟩⟩
theorem kC_In_265 : Cond.constant "java/lang/Integer" 265 1431655765 ∈ wd_tb := tw_526
theorem kC_In_266 : Cond.constant "java/lang/Integer" 266 858993459 ∈ wd_tb := tw_527
theorem kC_In_267 : Cond.constant "java/lang/Integer" 267 252645135 ∈ wd_tb := tw_528
