/-! the tables' words that instructions link, in small lists (by program) -/
theorem zi_pool_in {ws : List Cond} (ps : List Nat) (h : ws = ps.filterMap (fun i => lw_tbl[i]?)) : ∀ w ∈ ws, w ∈ lw_tbl := by
  intro w hw
  rw [h] at hw
  obtain ⟨i, -, hi⟩ := List.mem_filterMap.mp hw
  exact List.mem_of_getElem? hi
def zw_0 : List Cond := [.methodLink "LoopRounds$Layout" 3 objectInit, .instanceMethod objectInit, .code objectInit ⟨#[0xb1]⟩ 1 none, .classLink "LoopRounds$Layout" 9 "[[I", .arrayOver (.array .int), .arrayClass .int, .fieldLink "LoopRounds$Layout" 11 "LoopRounds$Layout" "bySign" "[[I", .fieldLink "LoopRounds$Layout" 16 "LoopRounds$Layout" "first" "[[I", .fieldLink "LoopRounds$Layout" 19 "LoopRounds$Layout" "last" "[[I", .fieldLink "LoopRounds$Layout" 22 "LoopRounds$Layout" "roots" "[[I", .fieldLink "LoopRounds$Layout" 25 "LoopRounds$Layout" "above" "[[I", .methodLink "LoopRounds$Piece" 3 objectInit, .fieldLink "LoopRounds$Piece" 9 "LoopRounds$Piece" "begun" "Z", .fieldLink "LoopRounds$Piece" 15 "LoopRounds$Piece" "ring" "I", .fieldLink "LoopRounds$Piece" 19 "LoopRounds$Piece" "count" "I", .classLink "LoopRounds$Piece" 22 "LoopRounds$Round"]
set_option maxRecDepth 100000 in
theorem zw_0_in : ∀ w ∈ zw_0, w ∈ lw_tbl := zi_pool_in [162, 70, 71, 163, 164, 120, 165, 167, 169, 171, 173, 79, 121, 124, 127, 80] (by decide +kernel)
def zw_1 : List Cond := [.arrayOver (.object "LoopRounds$Round"), .fieldLink "LoopRounds$Piece" 24 "LoopRounds$Piece" "rounds" "[LLoopRounds$Round;", .instantiable "LoopRounds$Round" 6, .initialized "LoopRounds$Round", .methodLinkNest "LoopRounds$Piece" 28 yX4_init "LoopRounds", .code yX4_init cX4_init 1 none, .instanceMethod yX4_init, .methodLink "LoopRounds$Plans" 3 objectInit, .fieldLink "LoopRounds$Plans" 9 "LoopRounds$Plans" "uses" "[I", .fieldLink "LoopRounds$Plans" 15 "LoopRounds$Plans" "makes" "[I", .fieldLink "LoopRounds$Plans" 18 "LoopRounds$Plans" "searchedFrom" "I", .fieldLink "LoopRounds$Plans" 22 "LoopRounds$Plans" "countedFrom" "I", .fieldLink "LoopRounds$Plans" 25 "LoopRounds$Plans" "rounds" "[I", .fieldLink "LoopRounds$Plans" 28 "LoopRounds$Plans" "cameFrom" "[I", .fieldLink "LoopRounds$Plans" 31 "LoopRounds$Plans" "cameBy" "[I", .fieldLink "LoopRounds$Plans" 34 "LoopRounds$Plans" "queue" "[I"]
set_option maxRecDepth 100000 in
theorem zw_1_in : ∀ w ∈ zw_1, w ∈ lw_tbl := zi_pool_in [81, 131, 82, 55, 83, 85, 84, 208, 215, 216, 217, 218, 219, 221, 222, 223] (by decide +kernel)
def zw_2 : List Cond := [.classLink "LoopRounds$Plans" 37 "[[J", .arrayOver (.array .long), .arrayClass .long, .fieldLink "LoopRounds$Plans" 39 "LoopRounds$Plans" "waysTo" "[[J", .fieldLinkNest "LoopRounds$Plans" 42 "LoopRounds" "USES" "[I" "LoopRounds", .fieldLinkNest "LoopRounds$Plans" 45 "LoopRounds" "MAKES" "[I" "LoopRounds", .methodLink "LoopRounds$Readings" 3 objectInit, .fieldLink "LoopRounds$Readings" 9 "LoopRounds$Readings" "count" "I", .fieldLink "LoopRounds$Readings" 15 "LoopRounds$Readings" "rounds" "[I", .fieldLink "LoopRounds$Readings" 19 "LoopRounds$Readings" "girths" "[I", .methodLink "LoopRounds$Round" 3 objectInit, .fieldLink "LoopRounds$Round" 9 "LoopRounds$Round" "signs" "[I", .methodLink "LoopRounds$Sheet" 3 objectInit, .fieldLink "LoopRounds$Sheet" 9 "LoopRounds$Sheet" "filled" "Z", .fieldLink "LoopRounds$Sheet" 15 "LoopRounds$Sheet" "lane" "I", .fieldLink "LoopRounds$Sheet" 19 "LoopRounds$Sheet" "size" "I"]
set_option maxRecDepth 100000 in
theorem zw_2_in : ∀ w ∈ zw_2, w ∈ lw_tbl := zi_pool_in [209, 210, 245, 224, 211, 213, 191, 192, 194, 195, 86, 98, 250, 251, 253, 255] (by decide +kernel)
def zw_3 : List Cond := [.fieldLink "LoopRounds$Sheet" 22 "LoopRounds$Sheet" "cells" "[I", .methodLink "LoopRounds$Text" 3 objectInit, .classLink "LoopRounds$Text" 9 "LoopRounds$Piece", .instantiable "LoopRounds$Piece" 4, .initialized "LoopRounds$Piece", .methodLink "LoopRounds$Text" 11 yX1_init, .code yX1_init cX1_init 2 none, .instanceMethod yX1_init, .fieldLink "LoopRounds$Text" 12 "LoopRounds$Text" "told" "LLoopRounds$Piece;", .fieldLink "LoopRounds$Text" 18 "LoopRounds$Text" "step" "I", .methodLink "LoopRounds" 5 objectInit, .classLink "LoopRounds" 11 "LoopRounds$Sheet", .arrayOver (.object "LoopRounds$Sheet"), .fieldLink "LoopRounds" 13 "LoopRounds" "sheets" "[LLoopRounds$Sheet;", .classLink "LoopRounds" 17 "LoopRounds$Piece", .methodLink "LoopRounds" 19 yX1_init]
set_option maxRecDepth 100000 in
theorem zw_3_in : ∀ w ∈ zw_3, w ∈ lw_tbl := zi_pool_in [256, 146, 147, 75, 54, 148, 78, 77, 149, 151, 69, 72, 73, 267, 74, 76] (by decide +kernel)
def zw_4 : List Cond := [.fieldLink "LoopRounds" 20 "LoopRounds" "work" "LLoopRounds$Piece;", .fieldLink "LoopRounds" 24 "LoopRounds" "trial" "LLoopRounds$Piece;", .classLink "LoopRounds" 27 "LoopRounds$Text", .instantiable "LoopRounds$Text" 2, .initialized "LoopRounds$Text", .methodLinkNest "LoopRounds" 29 yX6_init "LoopRounds", .code yX6_init cX6_init 1 none, .instanceMethod yX6_init, .fieldLink "LoopRounds" 30 "LoopRounds" "text" "LLoopRounds$Text;", .classLink "LoopRounds" 34 "LoopRounds$Layout", .instantiable "LoopRounds$Layout" 5, .initialized "LoopRounds$Layout", .methodLinkNest "LoopRounds" 36 yX0_init "LoopRounds", .code yX0_init cX0_init 1 none, .instanceMethod yX0_init, .fieldLink "LoopRounds" 37 "LoopRounds" "layout" "LLoopRounds$Layout;"]
set_option maxRecDepth 100000 in
theorem zw_4_in : ∀ w ∈ zw_4, w ∈ lw_tbl := zi_pool_in [268, 269, 141, 142, 56, 143, 145, 144, 270, 157, 158, 57, 159, 161, 160, 271] (by decide +kernel)
def zw_5 : List Cond := [.classLink "LoopRounds" 41 "LoopRounds$Readings", .instantiable "LoopRounds$Readings" 3, .initialized "LoopRounds$Readings", .methodLinkNest "LoopRounds" 43 yX3_init "LoopRounds", .code yX3_init cX3_init 1 none, .instanceMethod yX3_init, .fieldLink "LoopRounds" 44 "LoopRounds" "readings" "LLoopRounds$Readings;", .classLink "LoopRounds" 48 "LoopRounds$Plans", .instantiable "LoopRounds$Plans" 9, .initialized "LoopRounds$Plans", .methodLink "LoopRounds" 50 yX2_init, .code yX2_init cX2_init 3 none, .instanceMethod yX2_init, .fieldLink "LoopRounds" 51 "LoopRounds" "plans" "LLoopRounds$Plans;", .fieldLink "LoopRounds" 55 "LoopRounds" "traced" "I", .fieldLink "LoopRounds" 59 "LoopRounds" "latestFault" "I"]
set_option maxRecDepth 100000 in
theorem zw_5_in : ∀ w ∈ zw_5, w ∈ lw_tbl := zi_pool_in [186, 187, 58, 188, 190, 189, 272, 203, 204, 59, 205, 207, 206, 273, 274, 275] (by decide +kernel)
def zw_6 : List Cond := [.instantiable "LoopRounds$Sheet" 4, .initialized "LoopRounds$Sheet", .methodLinkNest "LoopRounds" 62 yX5_init "LoopRounds", .code yX5_init cX5_init 1 none, .instanceMethod yX5_init, .methodLink "LoopRoundsModel" 1 objectInit, .fieldLink "LoopRoundsModel" 9 "LoopRoundsModel" "sorts" "[I", .fieldLink "LoopRoundsModel" 13 "LoopRoundsModel" "sheetLong" "[I", .fieldLink "LoopRoundsModel" 16 "LoopRoundsModel" "cells" "[I", .fieldLink "LoopRoundsModel" 19 "LoopRoundsModel" "loops" "[I", .fieldLink "LoopRoundsModel" 22 "LoopRoundsModel" "kind" "[I", .fieldLink "LoopRoundsModel" 25 "LoopRoundsModel" "spun" "[I", .fieldLink "LoopRoundsModel" 28 "LoopRoundsModel" "many" "[I", .fieldLink "LoopRoundsModel" 31 "LoopRoundsModel" "signs" "[I", .fieldLink "LoopRoundsModel" 34 "LoopRoundsModel" "readKind" "[I", .fieldLink "LoopRoundsModel" 37 "LoopRoundsModel" "readSpun" "[I"]
set_option maxRecDepth 100000 in
theorem zw_6_in : ∀ w ∈ zw_6, w ∈ lw_tbl := zi_pool_in [246, 60, 247, 249, 248, 717, 720, 721, 722, 724, 725, 726, 727, 728, 732, 733] (by decide +kernel)
def zw_7 : List Cond := [.fieldLink "LoopRoundsModel" 40 "LoopRoundsModel" "readMany" "[I", .fieldLink "LoopRoundsModel" 43 "LoopRoundsModel" "readSigns" "[I", .fieldLink "LoopRoundsModel" 46 "LoopRoundsModel" "loopSign" "[I", .fieldLink "LoopRoundsModel" 49 "LoopRoundsModel" "firstIn" "[I", .fieldLink "LoopRoundsModel" 52 "LoopRoundsModel" "lastIn" "[I", .fieldLink "LoopRoundsModel" 55 "LoopRoundsModel" "standIn" "[I", .fieldLink "LoopRoundsModel" 58 "LoopRoundsModel" "roots" "[I", .fieldLink "LoopRoundsModel" 61 "LoopRoundsModel" "kept" "[I", .fieldLink "LoopRoundsModel" 64 "LoopRoundsModel" "one" "[I", .fieldLink "LoopRoundsModel" 67 "LoopRoundsModel" "plan" "[I", .fieldLink "LoopRoundsModel" 70 "LoopRoundsModel" "far" "[I", .fieldLink "LoopRoundsModel" 73 "LoopRoundsModel" "counts" "[J", .fieldLink "LoopRoundsModel" 77 "LoopRoundsModel" "countsThen" "[J", .fieldLink "LoopRoundsModel" 80 "LoopRoundsModel" "readRoundOf" "[I", .fieldLink "LoopRoundsModel" 83 "LoopRoundsModel" "readGirth" "[I", .classLink "LoopRoundsLaw" 7 "LoopRounds"]
set_option maxRecDepth 100000 in
theorem zw_7_in : ∀ w ∈ zw_7, w ∈ lw_tbl := zi_pool_in [734, 735, 736, 737, 738, 739, 740, 742, 743, 744, 745, 746, 747, 749, 750, 64] (by decide +kernel)
def zw_8 : List Cond := [.instantiable "LoopRounds" 9, .initialized "LoopRounds", .methodLink "LoopRoundsLaw" 9 yX7_init, .code yX7_init cX7_init 2 none, .instanceMethod yX7_init, .classLink "LoopRoundsLaw" 10 "LoopRoundsModel", .instantiable "LoopRoundsModel" 33, .initialized "LoopRoundsModel", .methodLink "LoopRoundsLaw" 12 yX8_init, .code yX8_init cX8_init 1 none, .instanceMethod yX8_init, .methodLink "LoopRoundsLaw" 13 yX7_piece, .code yX7_piece cX7_piece 9 (some .int), .instanceMethod yX7_piece, .selects "LoopRounds" yX7_piece yX7_piece, .methodLink "LoopRoundsLaw" 17 yX8_piece]
set_option maxRecDepth 100000 in
theorem zw_8_in : ∀ w ∈ zw_8, w ∈ lw_tbl := zi_pool_in [65, 53, 66, 68, 67, 712, 713, 61, 714, 716, 715, 295, 298, 296, 297, 818] (by decide +kernel)
def zw_9 : List Cond := [.code yX8_piece cX8_piece 9 (some .int), .instanceMethod yX8_piece, .selects "LoopRoundsModel" yX8_piece yX8_piece, .methodLink "LoopRoundsLaw" 18 yX7_ofRound, .code yX7_ofRound cX7_ofRound 4 (some .int), .instanceMethod yX7_ofRound, .selects "LoopRounds" yX7_ofRound yX7_ofRound, .methodLink "LoopRoundsLaw" 22 yX8_ofRound, .code yX8_ofRound cX8_ofRound 3 (some .int), .instanceMethod yX8_ofRound, .selects "LoopRoundsModel" yX8_ofRound yX8_ofRound, .methodLink "LoopRoundsLaw" 23 yX7_loops, .code yX7_loops cX7_loops 2 (some .int), .instanceMethod yX7_loops, .selects "LoopRounds" yX7_loops yX7_loops, .methodLink "LoopRoundsLaw" 27 yX8_loops]
set_option maxRecDepth 100000 in
theorem zw_9_in : ∀ w ∈ zw_9, w ∈ lw_tbl := zi_pool_in [821, 819, 820, 436, 439, 437, 438, 871, 874, 872, 873, 462, 465, 463, 464, 899] (by decide +kernel)
def zw_10 : List Cond := [.code yX8_loops cX8_loops 2 (some .int), .instanceMethod yX8_loops, .selects "LoopRoundsModel" yX8_loops yX8_loops, .methodLink "LoopRoundsLaw" 28 yX7_sign, .code yX7_sign cX7_sign 4 (some .int), .instanceMethod yX7_sign, .selects "LoopRounds" yX7_sign yX7_sign, .methodLink "LoopRoundsLaw" 31 yX8_sign, .code yX8_sign cX8_sign 3 (some .int), .instanceMethod yX8_sign, .selects "LoopRoundsModel" yX8_sign yX8_sign, .methodLink "LoopRoundsLaw" 32 yX7_loop, .code yX7_loop cX7_loop 5 (some .int), .instanceMethod yX7_loop, .selects "LoopRounds" yX7_loop yX7_loop, .methodLink "LoopRoundsLaw" 36 yX8_loop]
set_option maxRecDepth 100000 in
theorem zw_10_in : ∀ w ∈ zw_10, w ∈ lw_tbl := zi_pool_in [902, 900, 901, 468, 471, 469, 470, 907, 910, 908, 909, 476, 479, 477, 478, 911] (by decide +kernel)
def zw_11 : List Cond := [.code yX8_loop cX8_loop 5 (some .int), .instanceMethod yX8_loop, .selects "LoopRoundsModel" yX8_loop yX8_loop, .methodLink "LoopRoundsLaw" 37 yX7_spun, .code yX7_spun cX7_spun 5 (some .int), .instanceMethod yX7_spun, .selects "LoopRounds" yX7_spun yX7_spun, .methodLink "LoopRoundsLaw" 40 yX8_spun, .code yX8_spun cX8_spun 4 (some .int), .instanceMethod yX8_spun, .selects "LoopRoundsModel" yX8_spun yX8_spun, .methodLink "LoopRoundsLaw" 41 yX7_puton, .code yX7_puton cX7_puton 11 (some .int), .instanceMethod yX7_puton, .selects "LoopRounds" yX7_puton yX7_puton, .methodLink "LoopRoundsLaw" 45 yX8_puton]
set_option maxRecDepth 100000 in
theorem zw_11_in : ∀ w ∈ zw_11, w ∈ lw_tbl := zi_pool_in [914, 912, 913, 480, 483, 481, 482, 923, 926, 924, 925, 485, 488, 486, 487, 927] (by decide +kernel)
def zw_12 : List Cond := [.code yX8_puton cX8_puton 11 (some .int), .instanceMethod yX8_puton, .selects "LoopRoundsModel" yX8_puton yX8_puton, .methodLink "LoopRoundsLaw" 46 yX7_ravel, .code yX7_ravel cX7_ravel 2 (some .int), .instanceMethod yX7_ravel, .selects "LoopRounds" yX7_ravel yX7_ravel, .methodLink "LoopRoundsLaw" 49 yX8_ravel, .code yX8_ravel cX8_ravel 2 (some .int), .instanceMethod yX8_ravel, .selects "LoopRoundsModel" yX8_ravel yX8_ravel, .methodLink "LoopRoundsLaw" 50 yX7_day, .code yX7_day cX7_day 9 (some .int), .instanceMethod yX7_day, .selects "LoopRounds" yX7_day yX7_day, .methodLink "LoopRoundsLaw" 54 yX8_day]
set_option maxRecDepth 100000 in
theorem zw_12_in : ∀ w ∈ zw_12, w ∈ lw_tbl := zi_pool_in [930, 928, 929, 505, 508, 506, 507, 935, 938, 936, 937, 509, 512, 510, 511, 939] (by decide +kernel)
def zw_13 : List Cond := [.code yX8_day cX8_day 10 (some .int), .instanceMethod yX8_day, .selects "LoopRoundsModel" yX8_day yX8_day, .methodLink "LoopRoundsLaw" 55 yX7_fewest, .code yX7_fewest cX7_fewest 3 (some .int), .instanceMethod yX7_fewest, .selects "LoopRounds" yX7_fewest yX7_fewest, .methodLink "LoopRoundsLaw" 58 yX8_fewest, .code yX8_fewest cX8_fewest 7 (some .int), .instanceMethod yX8_fewest, .selects "LoopRoundsModel" yX8_fewest yX8_fewest, .methodLink "LoopRoundsLaw" 59 yX7_ways, .code yX7_ways cX7_ways 3 (some .long), .instanceMethod yX7_ways, .selects "LoopRounds" yX7_ways yX7_ways, .methodLink "LoopRoundsLaw" 63 yX8_ways]
set_option maxRecDepth 100000 in
theorem zw_13_in : ∀ w ∈ zw_13, w ∈ lw_tbl := zi_pool_in [942, 940, 941, 546, 549, 547, 548, 963, 966, 964, 965, 568, 571, 569, 570, 975] (by decide +kernel)
def zw_14 : List Cond := [.code yX8_ways cX8_ways 7 (some .long), .instanceMethod yX8_ways, .selects "LoopRoundsModel" yX8_ways yX8_ways, .methodLink "LoopRoundsLaw" 64 yX7_bare, .code yX7_bare cX7_bare 5 (some .int), .instanceMethod yX7_bare, .selects "LoopRounds" yX7_bare yX7_bare, .methodLink "LoopRoundsLaw" 67 yX8_bare, .code yX8_bare cX8_bare 4 (some .int), .instanceMethod yX8_bare, .selects "LoopRoundsModel" yX8_bare yX8_bare, .methodLink "LoopRoundsLaw" 68 yX7_reading, .code yX7_reading cX7_reading 4 (some .int), .instanceMethod yX7_reading, .selects "LoopRounds" yX7_reading yX7_reading, .methodLink "LoopRoundsLaw" 71 yX8_reading]
set_option maxRecDepth 100000 in
theorem zw_14_in : ∀ w ∈ zw_14, w ∈ lw_tbl := zi_pool_in [978, 976, 977, 584, 587, 585, 586, 980, 983, 981, 982, 588, 591, 589, 590, 984] (by decide +kernel)
def zw_15 : List Cond := [.code yX8_reading cX8_reading 3 (some .int), .instanceMethod yX8_reading, .selects "LoopRoundsModel" yX8_reading yX8_reading, .methodLink "LoopRoundsLaw" 72 yX7_back, .code yX7_back cX7_back 2 (some .int), .instanceMethod yX7_back, .selects "LoopRounds" yX7_back yX7_back, .methodLink "LoopRoundsLaw" 75 yX8_back, .code yX8_back cX8_back 2 (some .int), .instanceMethod yX8_back, .selects "LoopRoundsModel" yX8_back yX8_back, .methodLink "LoopRoundsLaw" 76 yX7_rings, .code yX7_rings cX7_rings 3 (some .int), .instanceMethod yX7_rings, .selects "LoopRounds" yX7_rings yX7_rings, .methodLink "LoopRoundsLaw" 80 yX8_rings]
set_option maxRecDepth 100000 in
theorem zw_15_in : ∀ w ∈ zw_15, w ∈ lw_tbl := zi_pool_in [987, 985, 986, 596, 599, 597, 598, 988, 991, 989, 990, 600, 603, 601, 602, 992] (by decide +kernel)
def zw_16 : List Cond := [.code yX8_rings cX8_rings 3 (some .int), .instanceMethod yX8_rings, .selects "LoopRoundsModel" yX8_rings yX8_rings, .methodLink "LoopRoundsLaw" 81 yX7_kinds, .code yX7_kinds cX7_kinds 5 (some .int), .instanceMethod yX7_kinds, .selects "LoopRounds" yX7_kinds yX7_kinds, .methodLink "LoopRoundsLaw" 84 yX8_kinds, .code yX8_kinds cX8_kinds 5 (some .int), .instanceMethod yX8_kinds, .selects "LoopRoundsModel" yX8_kinds yX8_kinds, .methodLink "LoopRoundsLaw" 85 yX7_signings, .code yX7_signings cX7_signings 6 (some .int), .instanceMethod yX7_signings, .selects "LoopRounds" yX7_signings yX7_signings, .methodLink "LoopRoundsLaw" 88 yX8_signings]
set_option maxRecDepth 100000 in
theorem zw_16_in : ∀ w ∈ zw_16, w ∈ lw_tbl := zi_pool_in [995, 993, 994, 614, 617, 615, 616, 1000, 1003, 1001, 1002, 618, 621, 619, 620, 1004] (by decide +kernel)
def zw_17 : List Cond := [.code yX8_signings cX8_signings 5 (some .int), .instanceMethod yX8_signings, .selects "LoopRoundsModel" yX8_signings yX8_signings, .methodLink "LoopRoundsLaw" 89 yX7_odds, .code yX7_odds cX7_odds 6 (some .long), .instanceMethod yX7_odds, .selects "LoopRounds" yX7_odds yX7_odds, .methodLink "LoopRoundsLaw" 92 yX8_odds, .code yX8_odds cX8_odds 5 (some .long), .instanceMethod yX8_odds, .selects "LoopRoundsModel" yX8_odds yX8_odds, .methodLink "LoopRoundsLaw" 93 yX7_sheet, .code yX7_sheet cX7_sheet 4 (some .int), .instanceMethod yX7_sheet, .selects "LoopRounds" yX7_sheet yX7_sheet, .methodLink "LoopRoundsLaw" 96 yX8_sheet]
set_option maxRecDepth 100000 in
theorem zw_17_in : ∀ w ∈ zw_17, w ∈ lw_tbl := zi_pool_in [1007, 1005, 1006, 622, 625, 623, 624, 1008, 1011, 1009, 1010, 629, 632, 630, 631, 1018] (by decide +kernel)
def zw_18 : List Cond := [.code yX8_sheet cX8_sheet 5 (some .int), .instanceMethod yX8_sheet, .selects "LoopRoundsModel" yX8_sheet yX8_sheet, .methodLink "LoopRoundsLaw" 97 yX7_lose, .code yX7_lose cX7_lose 3 (some .int), .instanceMethod yX7_lose, .selects "LoopRounds" yX7_lose yX7_lose, .methodLink "LoopRoundsLaw" 100 yX8_lose, .code yX8_lose cX8_lose 3 (some .int), .instanceMethod yX8_lose, .selects "LoopRoundsModel" yX8_lose yX8_lose, .methodLink "LoopRoundsLaw" 101 yX7_put, .code yX7_put cX7_put 5 (some .int), .instanceMethod yX7_put, .selects "LoopRounds" yX7_put yX7_put, .methodLink "LoopRoundsLaw" 104 yX8_put]
set_option maxRecDepth 100000 in
theorem zw_18_in : ∀ w ∈ zw_18, w ∈ lw_tbl := zi_pool_in [1021, 1019, 1020, 638, 641, 639, 640, 1022, 1025, 1023, 1024, 642, 645, 643, 644, 1026] (by decide +kernel)
def zw_19 : List Cond := [.code yX8_put cX8_put 4 (some .int), .instanceMethod yX8_put, .selects "LoopRoundsModel" yX8_put yX8_put, .methodLink "LoopRoundsLaw" 105 yX7_cell, .code yX7_cell cX7_cell 4 (some .long), .instanceMethod yX7_cell, .selects "LoopRounds" yX7_cell yX7_cell, .methodLink "LoopRoundsLaw" 109 yX8_cell, .code yX8_cell cX8_cell 4 (some .long), .instanceMethod yX8_cell, .selects "LoopRoundsModel" yX8_cell yX8_cell, .methodLink "LoopRoundsLaw" 110 yX7_copy, .code yX7_copy cX7_copy 8 (some .int), .instanceMethod yX7_copy, .selects "LoopRounds" yX7_copy yX7_copy, .methodLink "LoopRoundsLaw" 113 yX8_copy]
set_option maxRecDepth 100000 in
theorem zw_19_in : ∀ w ∈ zw_19, w ∈ lw_tbl := zi_pool_in [1029, 1027, 1028, 651, 654, 652, 653, 1030, 1033, 1031, 1032, 655, 658, 656, 657, 1038] (by decide +kernel)
def zw_20 : List Cond := [.code yX8_copy cX8_copy 10 (some .int), .instanceMethod yX8_copy, .selects "LoopRoundsModel" yX8_copy yX8_copy, .methodLink "LoopRoundsLaw" 114 yX7_tell, .code yX7_tell cX7_tell 3 (some .int), .instanceMethod yX7_tell, .selects "LoopRounds" yX7_tell yX7_tell, .methodLink "LoopRoundsLaw" 117 yX8_tell, .code yX8_tell cX8_tell 3 (some .int), .instanceMethod yX8_tell, .selects "LoopRoundsModel" yX8_tell yX8_tell, .methodLink "LoopRoundsLaw" 118 yX7_tug, .code yX7_tug cX7_tug 3 (some .int), .instanceMethod yX7_tug, .selects "LoopRounds" yX7_tug yX7_tug, .methodLink "LoopRoundsLaw" 121 yX8_tug]
set_option maxRecDepth 100000 in
theorem zw_20_in : ∀ w ∈ zw_20, w ∈ lw_tbl := zi_pool_in [1041, 1039, 1040, 660, 663, 661, 662, 1042, 1045, 1043, 1044, 680, 683, 681, 682, 1050] (by decide +kernel)
def zw_21 : List Cond := [.code yX8_tug cX8_tug 2 (some .int), .instanceMethod yX8_tug, .selects "LoopRoundsModel" yX8_tug yX8_tug, .methodLink "LoopRoundsLaw" 122 yX7_as, .code yX7_as cX7_as 4 (some .int), .instanceMethod yX7_as, .selects "LoopRounds" yX7_as yX7_as, .methodLink "LoopRoundsLaw" 125 yX8_as, .code yX8_as cX8_as 3 (some .int), .instanceMethod yX8_as, .selects "LoopRoundsModel" yX8_as yX8_as, .methodLink "LoopRoundsLaw" 126 yX7_trace, .code yX7_trace cX7_trace 1 (some .int), .instanceMethod yX7_trace, .selects "LoopRounds" yX7_trace yX7_trace, .methodLink "LoopRoundsLaw" 129 yX8_trace]
set_option maxRecDepth 100000 in
theorem zw_21_in : ∀ w ∈ zw_21, w ∈ lw_tbl := zi_pool_in [1053, 1051, 1052, 692, 695, 693, 694, 1054, 1057, 1055, 1056, 696, 699, 697, 698, 1058] (by decide +kernel)
def zw_22 : List Cond := [.code yX8_trace cX8_trace 1 (some .int), .instanceMethod yX8_trace, .selects "LoopRoundsModel" yX8_trace yX8_trace, .methodLink "LoopRoundsLaw" 130 yX7_fault, .code yX7_fault cX7_fault 1 (some .int), .instanceMethod yX7_fault, .selects "LoopRounds" yX7_fault yX7_fault, .methodLink "LoopRoundsLaw" 133 yX8_fault, .code yX8_fault cX8_fault 1 (some .int), .instanceMethod yX8_fault, .selects "LoopRoundsModel" yX8_fault yX8_fault, .methodLink "LoopRoundsLaw" 134 yX7_many, .code yX7_many cX7_many 2 (some .int), .instanceMethod yX7_many, .selects "LoopRounds" yX7_many yX7_many, .methodLink "LoopRoundsLaw" 137 yX8_many]
set_option maxRecDepth 100000 in
theorem zw_22_in : ∀ w ∈ zw_22, w ∈ lw_tbl := zi_pool_in [1061, 1059, 1060, 700, 703, 701, 702, 1062, 1065, 1063, 1064, 704, 707, 705, 706, 1066] (by decide +kernel)
def zw_23 : List Cond := [.code yX8_many cX8_many 4 (some .int), .instanceMethod yX8_many, .selects "LoopRoundsModel" yX8_many yX8_many, .fieldLink "LoopRounds$Layout" 28 "LoopRounds$Piece" "count" "I", .methodLink "LoopRounds$Layout" 34 yX1_at, .code yX1_at cX1_at 2 (some (.object "LoopRounds$Round")), .instanceMethod yX1_at, .selects "LoopRounds$Piece" yX1_at yX1_at, .methodLink "LoopRounds$Layout" 38 yX0_layRound, .code yX0_layRound cX0_layRound 9 none, .instanceMethod yX0_layRound, .selects "LoopRounds$Layout" yX0_layRound yX0_layRound, .methodLink "LoopRounds$Layout" 42 yJ7_fill_53178, .code yJ7_fill_53178 cJ7_fill_53178 4 none, .initialized "java/util/Arrays", .static yJ7_fill_53178]
set_option maxRecDepth 100000 in
theorem zw_23_in : ∀ w ∈ zw_23, w ∈ lw_tbl := zi_pool_in [1069, 1067, 1068, 129, 422, 363, 361, 362, 423, 426, 424, 425, 427, 429, 63, 428] (by decide +kernel)
def zw_24 : List Cond := [.fieldLink "LoopRounds$Layout" 48 "LoopRounds$Round" "times" "I", .fieldLink "LoopRounds$Layout" 53 "LoopRounds$Round" "signCount" "I", .fieldLink "LoopRounds$Layout" 56 "LoopRounds$Round" "signs" "[I", .fieldLinkNest "LoopRounds$Layout" 60 "LoopRounds" "MAKES" "[I" "LoopRounds", .methodLink "LoopRounds$Layout" 63 yX0_layLoop, .code yX0_layLoop cX0_layLoop 7 none, .instanceMethod yX0_layLoop, .selects "LoopRounds$Layout" yX0_layLoop yX0_layLoop, .fieldLinkNest "LoopRounds$Layout" 67 "LoopRounds" "USES" "[I" "LoopRounds", .methodLink "LoopRounds$Piece" 29 yX1_has, .code yX1_has cX1_has 2 (some .boolean), .instanceMethod yX1_has, .selects "LoopRounds$Piece" yX1_has yX1_has, .methodLink "LoopRounds$Piece" 33 yX1_spare, .code yX1_spare cX1_spare 1 (some (.object "LoopRounds$Round")), .instanceMethod yX1_spare]
set_option maxRecDepth 100000 in
theorem zw_24_in : ∀ w ∈ zw_24, w ∈ lw_tbl := zi_pool_in [101, 95, 99, 430, 431, 434, 433, 10, 435, 364, 367, 365, 366, 503, 348, 346] (by decide +kernel)
def zw_25 : List Cond := [.selects "LoopRounds$Piece" yX1_spare yX1_spare, .methodLink "LoopRounds$Piece" 37 yX1_loopsIn, .code yX1_loopsIn cX1_loopsIn 2 (some .int), .instanceMethod yX1_loopsIn, .selects "LoopRounds$Piece" yX1_loopsIn yX1_loopsIn, .methodLink "LoopRounds$Piece" 41 yX4_comesOutUpon, .code yX4_comesOutUpon cX4_comesOutUpon 5 (some .boolean), .instanceMethod yX4_comesOutUpon, .selects "LoopRounds$Round" yX4_comesOutUpon yX4_comesOutUpon, .methodLink "LoopRounds$Piece" 44 yX4_become, .code yX4_become cX4_become 2 none, .instanceMethod yX4_become, .selects "LoopRounds$Round" yX4_become yX4_become, .fieldLink "LoopRounds$Piece" 48 "LoopRounds$Round" "loopCount" "I", .methodLink "LoopRounds$Piece" 51 yX4_wide, .code yX4_wide cX4_wide 1 (some .int)]
set_option maxRecDepth 100000 in
theorem zw_25_in : ∀ w ∈ zw_25, w ∈ lw_tbl := zi_pool_in [347, 394, 397, 395, 396, 398, 401, 399, 400, 411, 414, 412, 413, 106, 454, 444] (by decide +kernel)
def zw_26 : List Cond := [.instanceMethod yX4_wide, .selects "LoopRounds$Round" yX4_wide yX4_wide, .methodLink "LoopRounds$Piece" 55 yX1_at, .methodLink "LoopRounds$Piece" 59 yX4_girth, .code yX4_girth cX4_girth 1 (some .int), .instanceMethod yX4_girth, .selects "LoopRounds$Round" yX4_girth yX4_girth, .methodLink "LoopRounds$Piece" 62 yX1_outOf, .code yX1_outOf cX1_outOf 4 (some .int), .instanceMethod yX1_outOf, .selects "LoopRounds$Piece" yX1_outOf yX1_outOf, .methodLink "LoopRounds$Piece" 65 yX1_ravelsLast, .code yX1_ravelsLast cX1_ravelsLast 1 (some .boolean), .instanceMethod yX1_ravelsLast, .selects "LoopRounds$Piece" yX1_ravelsLast yX1_ravelsLast, .methodLink "LoopRounds$Piece" 69 yX1_spinsMore]
set_option maxRecDepth 100000 in
theorem zw_26_in : ∀ w ∈ zw_26, w ∈ lw_tbl := zi_pool_in [442, 443, 459, 460, 448, 446, 447, 461, 453, 451, 452, 527, 530, 529, 12, 531] (by decide +kernel)
def zw_27 : List Cond := [.code yX1_spinsMore cX1_spinsMore 3 (some .boolean), .instanceMethod yX1_spinsMore, .selects "LoopRounds$Piece" yX1_spinsMore yX1_spinsMore, .methodLink "LoopRounds$Piece" 72 yX1_putsOnAlone, .code yX1_putsOnAlone cX1_putsOnAlone 3 (some .boolean), .instanceMethod yX1_putsOnAlone, .selects "LoopRounds$Piece" yX1_putsOnAlone yX1_putsOnAlone, .fieldLink "LoopRounds$Piece" 75 "LoopRounds$Round" "spun" "I", .methodLink "LoopRounds$Piece" 78 yX4_begin, .code yX4_begin cX4_begin 3 none, .instanceMethod yX4_begin, .selects "LoopRounds$Round" yX4_begin yX4_begin, .methodLink "LoopRounds$Piece" 82 yX4_addSign, .code yX4_addSign cX4_addSign 2 (some .boolean), .instanceMethod yX4_addSign, .selects "LoopRounds$Round" yX4_addSign yX4_addSign]
set_option maxRecDepth 100000 in
theorem zw_27_in : ∀ w ∈ zw_27, w ∈ lw_tbl := zi_pool_in [534, 533, 13, 535, 538, 537, 14, 93, 539, 352, 350, 351, 540, 385, 383, 384] (by decide +kernel)
def zw_28 : List Cond := [.methodLink "LoopRounds$Piece" 85 yX1_takesSpare, .code yX1_takesSpare cX1_takesSpare 2 (some .boolean), .instanceMethod yX1_takesSpare, .selects "LoopRounds$Piece" yX1_takesSpare yX1_takesSpare, .methodLinkNest "LoopRounds$Plans" 48 yX7_isNoLoopCount "LoopRounds", .code yX7_isNoLoopCount cX7_isNoLoopCount 1 (some .boolean), .static yX7_isNoLoopCount, .methodLink "LoopRounds$Plans" 52 yJ7_fill_53178, .methodLink "LoopRounds$Plans" 58 yX2_goOnFrom, .code yX2_goOnFrom cX2_goOnFrom 6 (some .int), .instanceMethod yX2_goOnFrom, .selects "LoopRounds$Plans" yX2_goOnFrom yX2_goOnFrom, .methodLinkNest "LoopRounds$Plans" 62 yX7_loopsUpon "LoopRounds", .code yX7_loopsUpon cX7_loopsUpon 4 (some .int), .static yX7_loopsUpon, .methodLink "LoopRounds$Plans" 66 yJ7_fill_d0a16]
set_option maxRecDepth 100000 in
theorem zw_28_in : ∀ w ∈ zw_28, w ∈ lw_tbl := zi_pool_in [541, 502, 500, 501, 557, 552, 551, 558, 559, 562, 561, 16, 563, 406, 405, 577] (by decide +kernel)
def zw_29 : List Cond := [.code yJ7_fill_d0a16 cJ7_fill_d0a16 5 none, .static yJ7_fill_d0a16, .methodLink "LoopRounds$Plans" 69 yX2_addWays, .code yX2_addWays cX2_addWays 7 none, .instanceMethod yX2_addWays, .selects "LoopRounds$Plans" yX2_addWays yX2_addWays, .methodLink "LoopRounds$Readings" 22 yX1_at, .methodLink "LoopRounds$Readings" 28 yX4_girth, .fieldLink "LoopRounds$Round" 15 "LoopRounds$Round" "kind" "I", .fieldLink "LoopRounds$Round" 19 "LoopRounds$Round" "spun" "I", .fieldLink "LoopRounds$Round" 22 "LoopRounds$Round" "signCount" "I", .methodLink "LoopRounds$Round" 25 arraycopyName, .native arraycopyName, .static arraycopyName, .initialized "java/lang/System", .fieldLink "LoopRounds$Round" 31 "LoopRounds$Round" "times" "I"]
set_option maxRecDepth 100000 in
theorem zw_29_in : ∀ w ∈ zw_29, w ∈ lw_tbl := zi_pool_in [579, 578, 580, 583, 582, 17, 612, 613, 87, 90, 94, 415, 417, 416, 62, 103] (by decide +kernel)
def zw_30 : List Cond := [.fieldLink "LoopRounds$Round" 34 "LoopRounds$Round" "loopCount" "I", .fieldLinkNest "LoopRounds$Round" 37 "LoopRounds" "USES" "[I" "LoopRounds", .fieldLinkNest "LoopRounds$Round" 40 "LoopRounds" "MAKES" "[I" "LoopRounds", .methodLinkNest "LoopRounds$Round" 43 yX7_loopsUpon "LoopRounds", .methodLink "LoopRounds$Round" 47 yX4_wide, .methodLink "LoopRounds$Sheet" 26 yJ7_fill_53178, .methodLink "LoopRounds$Sheet" 32 yX5_lacks, .code yX5_lacks cX5_lacks 3 (some .boolean), .instanceMethod yX5_lacks, .selects "LoopRounds$Sheet" yX5_lacks yX5_lacks, .fieldLink "LoopRounds$Text" 22 "LoopRounds$Piece" "begun" "Z", .fieldLink "LoopRounds$Text" 26 "LoopRounds$Piece" "count" "I", .methodLink "LoopRounds$Text" 29 yX5_at, .code yX5_at cX5_at 2 (some .int), .instanceMethod yX5_at, .selects "LoopRounds$Sheet" yX5_at yX5_at]
set_option maxRecDepth 100000 in
theorem zw_30_in : ∀ w ∈ zw_30, w ∈ lw_tbl := zi_pool_in [105, 402, 403, 404, 449, 637, 313, 316, 314, 315, 122, 128, 325, 328, 326, 327] (by decide +kernel)
def zw_31 : List Cond := [.methodLink "LoopRounds$Text" 35 yX6_takes, .code yX6_takes cX6_takes 2 (some .boolean), .instanceMethod yX6_takes, .selects "LoopRounds$Text" yX6_takes yX6_takes, .methodLink "LoopRounds$Text" 39 yX6_mayEnd, .code yX6_mayEnd cX6_mayEnd 2 (some .boolean), .instanceMethod yX6_mayEnd, .selects "LoopRounds$Text" yX6_mayEnd yX6_mayEnd, .methodLink "LoopRounds$Text" 43 yX6_goesOn, .code yX6_goesOn cX6_goesOn 3 (some .boolean), .instanceMethod yX6_goesOn, .selects "LoopRounds$Text" yX6_goesOn yX6_goesOn, .methodLink "LoopRounds$Text" 47 yX6_takesRing, .code yX6_takesRing cX6_takesRing 2 (some .boolean), .instanceMethod yX6_takesRing, .selects "LoopRounds$Text" yX6_takesRing yX6_takesRing]
set_option maxRecDepth 100000 in
theorem zw_31_in : ∀ w ∈ zw_31, w ∈ lw_tbl := zi_pool_in [329, 332, 331, 2, 386, 389, 388, 9, 333, 336, 335, 3, 337, 340, 339, 4] (by decide +kernel)
def zw_32 : List Cond := [.methodLink "LoopRounds$Text" 50 yX6_takesRound, .code yX6_takesRound cX6_takesRound 3 (some .boolean), .instanceMethod yX6_takesRound, .selects "LoopRounds$Text" yX6_takesRound yX6_takesRound, .methodLink "LoopRounds$Text" 53 yX6_kindOf, .code yX6_kindOf cX6_kindOf 1 (some .int), .static yX6_kindOf, .methodLink "LoopRounds$Text" 56 yX6_takesKind, .code yX6_takesKind cX6_takesKind 3 (some .boolean), .instanceMethod yX6_takesKind, .selects "LoopRounds$Text" yX6_takesKind yX6_takesKind, .methodLink "LoopRounds$Text" 59 yX6_takesSpun, .code yX6_takesSpun cX6_takesSpun 3 (some .boolean), .instanceMethod yX6_takesSpun, .selects "LoopRounds$Text" yX6_takesSpun yX6_takesSpun, .methodLink "LoopRounds$Text" 62 yX6_takesSign]
set_option maxRecDepth 100000 in
theorem zw_32_in : ∀ w ∈ zw_32, w ∈ lw_tbl := zi_pool_in [341, 344, 343, 5, 353, 355, 354, 356, 359, 358, 6, 368, 371, 370, 7, 375] (by decide +kernel)
def zw_33 : List Cond := [.code yX6_takesSign cX6_takesSign 4 (some .boolean), .instanceMethod yX6_takesSign, .selects "LoopRounds$Text" yX6_takesSign yX6_takesSign, .methodLink "LoopRounds$Text" 65 yX1_at, .fieldLink "LoopRounds$Text" 68 "LoopRounds$Round" "signCount" "I", .fieldLink "LoopRounds$Text" 73 "LoopRounds$Piece" "ring" "I", .methodLink "LoopRounds$Text" 76 yX1_spare, .methodLink "LoopRounds$Text" 80 yX4_begin, .fieldLink "LoopRounds$Text" 84 "LoopRounds$Round" "kind" "I", .methodLinkNest "LoopRounds$Text" 87 yX7_isNoSpun "LoopRounds", .code yX7_isNoSpun cX7_isNoSpun 1 (some .boolean), .static yX7_isNoSpun, .fieldLink "LoopRounds$Text" 90 "LoopRounds$Round" "spun" "I", .methodLink "LoopRounds$Text" 93 yX6_signOf, .code yX6_signOf cX6_signOf 1 (some .int), .static yX6_signOf]
set_option maxRecDepth 100000 in
theorem zw_33_in : ∀ w ∈ zw_33, w ∈ lw_tbl := zi_pool_in [378, 377, 8, 360, 97, 125, 345, 349, 89, 372, 374, 373, 92, 379, 381, 380] (by decide +kernel)
def zw_34 : List Cond := [.methodLink "LoopRounds$Text" 96 yX4_addSign, .methodLink "LoopRounds" 63 yX7_isNoSheet, .code yX7_isNoSheet cX7_isNoSheet 1 (some .boolean), .static yX7_isNoSheet, .methodLink "LoopRounds" 67 yX7_refused, .code yX7_refused cX7_refused 2 (some .int), .instanceMethod yX7_refused, .selects "LoopRounds" yX7_refused yX7_refused, .methodLink "LoopRounds" 71 yX7_isNoLane, .code yX7_isNoLane cX7_isNoLane 1 (some .boolean), .static yX7_isNoLane, .methodLink "LoopRounds" 74 yX5_faultOfTaking, .code yX5_faultOfTaking cX5_faultOfTaking 4 (some .int), .instanceMethod yX5_faultOfTaking, .selects "LoopRounds$Sheet" yX5_faultOfTaking yX5_faultOfTaking, .methodLink "LoopRounds" 78 yX7_faulted]
set_option maxRecDepth 100000 in
theorem zw_34_in : ∀ w ∈ zw_34, w ∈ lw_tbl := zi_pool_in [382, 299, 301, 300, 302, 305, 304, 0, 306, 308, 307, 309, 312, 310, 311, 317] (by decide +kernel)
def zw_35 : List Cond := [.code yX7_faulted cX7_faulted 2 (some .int), .instanceMethod yX7_faulted, .selects "LoopRounds" yX7_faulted yX7_faulted, .methodLink "LoopRounds" 81 yX6_firstFault, .code yX6_firstFault cX6_firstFault 5 (some .int), .instanceMethod yX6_firstFault, .selects "LoopRounds$Text" yX6_firstFault yX6_firstFault, .fieldLink "LoopRounds" 85 "LoopRounds$Text" "told" "LLoopRounds$Piece;", .methodLink "LoopRounds" 88 yX1_firstNotOut, .code yX1_firstNotOut cX1_firstNotOut 2 (some .int), .instanceMethod yX1_firstNotOut, .selects "LoopRounds$Piece" yX1_firstNotOut yX1_firstNotOut, .methodLink "LoopRounds" 92 yX1_become, .code yX1_become cX1_become 3 none, .instanceMethod yX1_become, .selects "LoopRounds$Piece" yX1_become yX1_become]
set_option maxRecDepth 100000 in
theorem zw_35_in : ∀ w ∈ zw_35, w ∈ lw_tbl := zi_pool_in [320, 319, 1, 321, 324, 322, 323, 150, 390, 393, 391, 392, 407, 410, 408, 409] (by decide +kernel)
def zw_36 : List Cond := [.fieldLink "LoopRounds" 96 "LoopRounds$Readings" "count" "I", .methodLink "LoopRounds" 99 yX0_layAll, .code yX0_layAll cX0_layAll 3 none, .instanceMethod yX0_layAll, .selects "LoopRounds$Layout" yX0_layAll yX0_layAll, .fieldLink "LoopRounds" 102 "LoopRounds$Piece" "count" "I", .methodLink "LoopRounds" 103 yX1_at, .fieldLink "LoopRounds" 107 "LoopRounds$Round" "kind" "I", .fieldLink "LoopRounds" 112 "LoopRounds$Round" "spun" "I", .methodLink "LoopRounds" 115 yX4_wide, .fieldLink "LoopRounds" 118 "LoopRounds$Round" "signCount" "I", .fieldLink "LoopRounds" 121 "LoopRounds$Round" "loopCount" "I", .fieldLink "LoopRounds" 124 "LoopRounds$Round" "times" "I", .methodLink "LoopRounds" 127 yX4_girth, .methodLink "LoopRounds" 130 yX1_outOf, .methodLink "LoopRounds" 133 yX1_curlOf]
set_option maxRecDepth 100000 in
theorem zw_36_in : ∀ w ∈ zw_36, w ∈ lw_tbl := zi_pool_in [193, 418, 421, 419, 420, 130, 440, 88, 91, 441, 96, 104, 102, 445, 450, 455] (by decide +kernel)
def zw_37 : List Cond := [.code yX1_curlOf cX1_curlOf 4 (some .int), .instanceMethod yX1_curlOf, .selects "LoopRounds$Piece" yX1_curlOf yX1_curlOf, .methodLink "LoopRounds" 136 yX1_has, .methodLink "LoopRounds" 139 yX1_loopsIn, .methodLink "LoopRounds" 142 yX4_hasPlace, .code yX4_hasPlace cX4_hasPlace 2 (some .boolean), .instanceMethod yX4_hasPlace, .selects "LoopRounds$Round" yX4_hasPlace yX4_hasPlace, .fieldLink "LoopRounds" 145 "LoopRounds$Round" "signs" "[I", .fieldLink "LoopRounds" 149 "LoopRounds$Layout" "bySign" "[[I", .fieldLink "LoopRounds" 153 "LoopRounds$Layout" "first" "[[I", .fieldLink "LoopRounds" 156 "LoopRounds$Layout" "last" "[[I", .fieldLink "LoopRounds" 159 "LoopRounds$Layout" "above" "[[I", .fieldLink "LoopRounds" 162 "LoopRounds$Layout" "roots" "[[I", .methodLink "LoopRounds" 165 yX7_isNoSpun]
set_option maxRecDepth 100000 in
theorem zw_37_in : ∀ w ∈ zw_37, w ∈ lw_tbl := zi_pool_in [458, 456, 457, 466, 467, 472, 475, 473, 474, 100, 166, 168, 170, 174, 172, 484] (by decide +kernel)
def zw_38 : List Cond := [.methodLink "LoopRounds" 168 yX7_isNoKind, .code yX7_isNoKind cX7_isNoKind 1 (some .boolean), .static yX7_isNoKind, .fieldLink "LoopRounds" 171 "LoopRounds$Piece" "begun" "Z", .methodLink "LoopRounds" 175 yX7_areSigns, .code yX7_areSigns cX7_areSigns 5 (some .boolean), .static yX7_areSigns, .methodLink "LoopRounds" 179 yX1_spare, .methodLink "LoopRounds" 183 yX4_begin, .methodLink "LoopRounds" 187 yX5_at, .methodLink "LoopRounds" 189 yX4_addSign, .methodLink "LoopRounds" 192 yX1_takesSpare, .methodLink "LoopRounds" 196 yX0_layRound, .methodLink "LoopRounds" 200 yX7_isNothingOfDay, .code yX7_isNothingOfDay cX7_isNothingOfDay 1 (some .boolean), .static yX7_isNothingOfDay]
set_option maxRecDepth 100000 in
theorem zw_38_in : ∀ w ∈ zw_38, w ∈ lw_tbl := zi_pool_in [489, 491, 490, 123, 492, 494, 493, 496, 497, 495, 498, 499, 504, 513, 515, 514] (by decide +kernel)
def zw_39 : List Cond := [.methodLink "LoopRounds" 203 yX7_areActs, .code yX7_areActs cX7_areActs 5 (some .boolean), .static yX7_areActs, .methodLink "LoopRounds" 206 yX7_firstWrong, .code yX7_firstWrong cX7_firstWrong 5 (some .int), .instanceMethod yX7_firstWrong, .selects "LoopRounds" yX7_firstWrong yX7_firstWrong, .methodLink "LoopRounds" 209 yX7_ofTrialDay, .code yX7_ofTrialDay cX7_ofTrialDay 3 (some .int), .instanceMethod yX7_ofTrialDay, .selects "LoopRounds" yX7_ofTrialDay yX7_ofTrialDay, .methodLink "LoopRounds" 212 yX7_isNoLoopCount, .methodLink "LoopRounds" 215 yX2_searchFrom, .code yX2_searchFrom cX2_searchFrom 4 none, .instanceMethod yX2_searchFrom, .selects "LoopRounds$Plans" yX2_searchFrom yX2_searchFrom]
set_option maxRecDepth 100000 in
theorem zw_39_in : ∀ w ∈ zw_39, w ∈ lw_tbl := zi_pool_in [516, 518, 517, 519, 522, 521, 11, 542, 545, 544, 15, 550, 553, 556, 554, 555] (by decide +kernel)
def zw_40 : List Cond := [.fieldLink "LoopRounds" 219 "LoopRounds$Plans" "rounds" "[I", .methodLink "LoopRounds" 222 yX2_planTo, .code yX2_planTo cX2_planTo 5 (some .int), .instanceMethod yX2_planTo, .selects "LoopRounds$Plans" yX2_planTo yX2_planTo, .constantLong "LoopRounds" 226 (-9223372036854775808), .methodLink "LoopRounds" 228 yX2_countFrom, .code yX2_countFrom cX2_countFrom 4 none, .instanceMethod yX2_countFrom, .selects "LoopRounds$Plans" yX2_countFrom yX2_countFrom, .fieldLink "LoopRounds" 231 "LoopRounds$Plans" "waysTo" "[[J", .methodLink "LoopRounds" 235 yX3_add, .code yX3_add cX3_add 3 (some .boolean), .instanceMethod yX3_add, .selects "LoopRounds$Readings" yX3_add yX3_add, .fieldLink "LoopRounds" 239 "LoopRounds$Piece" "ring" "I"]
set_option maxRecDepth 100000 in
theorem zw_40_in : ∀ w ∈ zw_40, w ∈ lw_tbl := zi_pool_in [220, 564, 567, 565, 566, 572, 573, 576, 574, 575, 225, 592, 595, 593, 594, 126] (by decide +kernel)
def zw_41 : List Cond := [.methodLink "LoopRounds" 242 yX7_bitIfTrialCanBe, .code yX7_bitIfTrialCanBe cX7_bitIfTrialCanBe 2 (some .int), .instanceMethod yX7_bitIfTrialCanBe, .selects "LoopRounds" yX7_bitIfTrialCanBe yX7_bitIfTrialCanBe, .methodLink "LoopRounds" 245 yX7_inLeastTerms, .code yX7_inLeastTerms cX7_inLeastTerms 3 (some .int), .static yX7_inLeastTerms, .methodLink "LoopRounds" 248 yX5_lay, .code yX5_lay cX5_lay 3 none, .instanceMethod yX5_lay, .selects "LoopRounds$Sheet" yX5_lay yX5_lay, .fieldLink "LoopRounds" 251 "LoopRounds$Sheet" "filled" "Z", .methodLink "LoopRounds" 254 yX5_lacks, .fieldLink "LoopRounds" 257 "LoopRounds$Sheet" "cells" "[I", .methodLink "LoopRounds" 260 yX5_cut, .code yX5_cut cX5_cut 2 (some .int)]
set_option maxRecDepth 100000 in
theorem zw_41_in : ∀ w ∈ zw_41, w ∈ lw_tbl := zi_pool_in [604, 607, 606, 18, 626, 628, 627, 633, 636, 634, 635, 252, 646, 257, 647, 650] (by decide +kernel)
def zw_42 : List Cond := [.instanceMethod yX5_cut, .selects "LoopRounds$Sheet" yX5_cut yX5_cut, .fieldLink "LoopRounds" 263 "LoopRounds$Sheet" "lane" "I", .methodLink "LoopRounds" 266 arraycopyName, .methodLink "LoopRounds" 272 yX7_tellTwined, .code yX7_tellTwined cX7_tellTwined 3 (some .int), .instanceMethod yX7_tellTwined, .selects "LoopRounds" yX7_tellTwined yX7_tellTwined, .methodLink "LoopRounds" 275 yX7_tellBrushed, .code yX7_tellBrushed cX7_tellBrushed 2 (some .int), .instanceMethod yX7_tellBrushed, .selects "LoopRounds" yX7_tellBrushed yX7_tellBrushed, .methodLink "LoopRounds" 278 yX7_tellPlain, .code yX7_tellPlain cX7_tellPlain 2 (some .int), .instanceMethod yX7_tellPlain, .selects "LoopRounds" yX7_tellPlain yX7_tellPlain]
set_option maxRecDepth 100000 in
theorem zw_42_in : ∀ w ∈ zw_42, w ∈ lw_tbl := zi_pool_in [648, 649, 254, 659, 664, 667, 666, 19, 672, 675, 674, 21, 676, 679, 678, 22] (by decide +kernel)
def zw_43 : List Cond := [.methodLink "LoopRounds" 281 yX7_tugTwined, .code yX7_tugTwined cX7_tugTwined 1 (some .int), .instanceMethod yX7_tugTwined, .selects "LoopRounds" yX7_tugTwined yX7_tugTwined, .methodLink "LoopRounds" 284 yX7_tugLent, .code yX7_tugLent cX7_tugLent 2 (some .int), .instanceMethod yX7_tugLent, .selects "LoopRounds" yX7_tugLent yX7_tugLent, .methodLink "LoopRounds" 287 yX1_loopsInAll, .code yX1_loopsInAll cX1_loopsInAll 3 (some .int), .instanceMethod yX1_loopsInAll, .selects "LoopRounds$Piece" yX1_loopsInAll yX1_loopsInAll, .methodLink "LoopRounds" 290 yX1_doesAct, .code yX1_doesAct cX1_doesAct 2 (some .boolean), .instanceMethod yX1_doesAct, .selects "LoopRounds$Piece" yX1_doesAct yX1_doesAct]
set_option maxRecDepth 100000 in
theorem zw_43_in : ∀ w ∈ zw_43, w ∈ lw_tbl := zi_pool_in [684, 687, 686, 23, 688, 691, 690, 24, 708, 711, 709, 710, 523, 526, 524, 525] (by decide +kernel)
def zw_44 : List Cond := [.methodLink "LoopRounds" 293 yX3_areSo, .code yX3_areSo cX3_areSo 4 (some .boolean), .instanceMethod yX3_areSo, .selects "LoopRounds$Readings" yX3_areSo yX3_areSo, .methodLink "LoopRounds" 297 yX7_leaveInTrace, .code yX7_leaveInTrace cX7_leaveInTrace 2 none, .instanceMethod yX7_leaveInTrace, .selects "LoopRounds" yX7_leaveInTrace yX7_leaveInTrace, .fieldLink "LoopRoundsModel" 86 "LoopRoundsModel" "fault" "I", .constantLong "LoopRoundsModel" 90 (-9223372036854775808), .methodLink "LoopRoundsModel" 92 yX8_within, .code yX8_within cX8_within 3 (some .boolean), .static yX8_within, .fieldLink "LoopRoundsModel" 96 "LoopRoundsModel" "rounds" "I", .fieldLink "LoopRoundsModel" 99 "LoopRoundsModel" "at" "I", .methodLink "LoopRoundsModel" 102 yX8_isSheet]
set_option maxRecDepth 100000 in
theorem zw_44_in : ∀ w ∈ zw_44, w ∈ lw_tbl := zi_pool_in [608, 611, 609, 610, 668, 671, 670, 20, 718, 979, 825, 827, 826, 723, 729, 822] (by decide +kernel)
def zw_45 : List Cond := [.code yX8_isSheet cX8_isSheet 1 (some .boolean), .static yX8_isSheet, .methodLink "LoopRoundsModel" 106 yX8_isSort, .code yX8_isSort cX8_isSort 1 (some .boolean), .static yX8_isSort, .methodLink "LoopRoundsModel" 109 yX8_against, .code yX8_against cX8_against 5 (some .int), .instanceMethod yX8_against, .selects "LoopRoundsModel" yX8_against yX8_against, .methodLink "LoopRoundsModel" 113 yX8_fails, .code yX8_fails cX8_fails 2 (some .int), .instanceMethod yX8_fails, .selects "LoopRoundsModel" yX8_fails yX8_fails, .methodLink "LoopRoundsModel" 117 yX8_readPiece, .code yX8_readPiece cX8_readPiece 2 (some .boolean), .instanceMethod yX8_readPiece]
set_option maxRecDepth 100000 in
theorem zw_45_in : ∀ w ∈ zw_45, w ∈ lw_tbl := zi_pool_in [824, 823, 828, 830, 829, 831, 834, 833, 25, 835, 838, 837, 26, 839, 842, 841] (by decide +kernel)
def zw_46 : List Cond := [.selects "LoopRoundsModel" yX8_readPiece yX8_readPiece, .fieldLink "LoopRoundsModel" 120 "LoopRoundsModel" "readRing" "I", .fieldLink "LoopRoundsModel" 123 "LoopRoundsModel" "readRounds" "I", .methodLink "LoopRoundsModel" 126 yX8_comesOut, .code yX8_comesOut cX8_comesOut 7 (some .int), .static yX8_comesOut, .methodLink "LoopRoundsModel" 130 yX8_takePiece, .code yX8_takePiece cX8_takePiece 3 none, .instanceMethod yX8_takePiece, .selects "LoopRoundsModel" yX8_takePiece yX8_takePiece, .fieldLink "LoopRoundsModel" 133 "LoopRoundsModel" "readings" "I", .methodLink "LoopRoundsModel" 136 yX8_isSign, .code yX8_isSign cX8_isSign 3 (some .boolean), .instanceMethod yX8_isSign, .selects "LoopRoundsModel" yX8_isSign yX8_isSign, .methodLink "LoopRoundsModel" 140 yX8_digit]
set_option maxRecDepth 100000 in
theorem zw_46_in : ∀ w ∈ zw_46, w ∈ lw_tbl := zi_pool_in [27, 731, 730, 858, 860, 859, 867, 870, 869, 31, 748, 843, 846, 845, 28, 847] (by decide +kernel)
def zw_47 : List Cond := [.code yX8_digit cX8_digit 4 (some .int), .instanceMethod yX8_digit, .selects "LoopRoundsModel" yX8_digit yX8_digit, .methodLink "LoopRoundsModel" 144 yX8_readRound, .code yX8_readRound cX8_readRound 4 (some .boolean), .instanceMethod yX8_readRound, .selects "LoopRoundsModel" yX8_readRound yX8_readRound, .methodLink "LoopRoundsModel" 147 yX8_signBy, .code yX8_signBy cX8_signBy 1 (some .int), .static yX8_signBy, .methodLink "LoopRoundsModel" 150 yX8_usedBy, .code yX8_usedBy cX8_usedBy 1 (some .int), .static yX8_usedBy, .methodLink "LoopRoundsModel" 153 yX8_madeBy, .code yX8_madeBy cX8_madeBy 1 (some .int), .static yX8_madeBy]
set_option maxRecDepth 100000 in
theorem zw_47_in : ∀ w ∈ zw_47, w ∈ lw_tbl := zi_pool_in [850, 849, 29, 851, 854, 853, 30, 855, 857, 856, 861, 863, 862, 864, 866, 865] (by decide +kernel)
def zw_48 : List Cond := [.methodLink "LoopRoundsModel" 156 yX8_wideOf, .code yX8_wideOf cX8_wideOf 2 (some .int), .instanceMethod yX8_wideOf, .selects "LoopRoundsModel" yX8_wideOf yX8_wideOf, .methodLink "LoopRoundsModel" 159 yX8_girthOf, .code yX8_girthOf cX8_girthOf 2 (some .int), .instanceMethod yX8_girthOf, .selects "LoopRoundsModel" yX8_girthOf yX8_girthOf, .methodLink "LoopRoundsModel" 162 yX8_outOf, .code yX8_outOf cX8_outOf 4 (some .int), .instanceMethod yX8_outOf, .selects "LoopRoundsModel" yX8_outOf yX8_outOf, .methodLink "LoopRoundsModel" 165 yX8_isRound, .code yX8_isRound cX8_isRound 2 (some .boolean), .instanceMethod yX8_isRound, .selects "LoopRoundsModel" yX8_isRound yX8_isRound]
set_option maxRecDepth 100000 in
theorem zw_48_in : ∀ w ∈ zw_48, w ∈ lw_tbl := zi_pool_in [879, 882, 881, 33, 887, 890, 889, 35, 891, 894, 893, 36, 875, 878, 877, 32] (by decide +kernel)
def zw_49 : List Cond := [.methodLink "LoopRoundsModel" 168 yX8_timesOf, .code yX8_timesOf cX8_timesOf 4 (some .int), .instanceMethod yX8_timesOf, .selects "LoopRoundsModel" yX8_timesOf yX8_timesOf, .methodLink "LoopRoundsModel" 171 yX8_curlOf, .code yX8_curlOf cX8_curlOf 3 (some .int), .instanceMethod yX8_curlOf, .selects "LoopRoundsModel" yX8_curlOf yX8_curlOf, .methodLink "LoopRoundsModel" 174 yX8_isPiece, .code yX8_isPiece cX8_isPiece 1 (some .boolean), .instanceMethod yX8_isPiece, .selects "LoopRoundsModel" yX8_isPiece yX8_isPiece, .methodLink "LoopRoundsModel" 178 yX8_writeLoop, .code yX8_writeLoop cX8_writeLoop 8 none, .instanceMethod yX8_writeLoop, .selects "LoopRoundsModel" yX8_writeLoop yX8_writeLoop]
set_option maxRecDepth 100000 in
theorem zw_49_in : ∀ w ∈ zw_49, w ∈ lw_tbl := zi_pool_in [883, 886, 885, 34, 895, 898, 897, 37, 903, 906, 905, 38, 919, 922, 921, 40] (by decide +kernel)
def zw_50 : List Cond := [.methodLink "LoopRoundsModel" 182 yX8_findLoops, .code yX8_findLoops cX8_findLoops 9 none, .instanceMethod yX8_findLoops, .selects "LoopRoundsModel" yX8_findLoops yX8_findLoops, .methodLink "LoopRoundsModel" 185 yX8_putRound, .code yX8_putRound cX8_putRound 5 none, .instanceMethod yX8_putRound, .selects "LoopRoundsModel" yX8_putRound yX8_putRound, .fieldLink "LoopRoundsModel" 188 "LoopRoundsModel" "keptRounds" "I", .methodLink "LoopRoundsModel" 191 yX8_does, .code yX8_does cX8_does 3 (some .boolean), .instanceMethod yX8_does, .selects "LoopRoundsModel" yX8_does yX8_does, .methodLink "LoopRoundsModel" 194 yX8_keep, .code yX8_keep cX8_keep 3 none, .instanceMethod yX8_keep]
set_option maxRecDepth 100000 in
theorem zw_50_in : ∀ w ∈ zw_50, w ∈ lw_tbl := zi_pool_in [915, 918, 917, 39, 931, 934, 933, 41, 741, 951, 954, 953, 44, 943, 946, 945] (by decide +kernel)
def zw_51 : List Cond := [.selects "LoopRoundsModel" yX8_keep yX8_keep, .methodLink "LoopRoundsModel" 197 yX8_goDay, .code yX8_goDay cX8_goDay 4 (some .int), .instanceMethod yX8_goDay, .selects "LoopRoundsModel" yX8_goDay yX8_goDay, .methodLink "LoopRoundsModel" 201 yX8_tellDay, .code yX8_tellDay cX8_tellDay 2 (some .int), .instanceMethod yX8_tellDay, .selects "LoopRoundsModel" yX8_tellDay yX8_tellDay, .methodLink "LoopRoundsModel" 204 yX8_putBack, .code yX8_putBack cX8_putBack 3 none, .instanceMethod yX8_putBack, .selects "LoopRoundsModel" yX8_putBack yX8_putBack, .methodLink "LoopRoundsModel" 207 yX8_comesByPlan, .code yX8_comesByPlan cX8_comesByPlan 3 (some .int), .instanceMethod yX8_comesByPlan]
set_option maxRecDepth 100000 in
theorem zw_51_in : ∀ w ∈ zw_51, w ∈ lw_tbl := zi_pool_in [42, 947, 950, 949, 43, 955, 958, 957, 45, 959, 962, 961, 46, 971, 974, 973] (by decide +kernel)
def zw_52 : List Cond := [.selects "LoopRoundsModel" yX8_comesByPlan yX8_comesByPlan, .methodLink "LoopRoundsModel" 210 yX8_findFar, .code yX8_findFar cX8_findFar 7 none, .instanceMethod yX8_findFar, .selects "LoopRoundsModel" yX8_findFar yX8_findFar, .methodLink "LoopRoundsModel" 214 yX8_areSo, .code yX8_areSo cX8_areSo 2 (some .boolean), .instanceMethod yX8_areSo, .selects "LoopRoundsModel" yX8_areSo yX8_areSo, .methodLink "LoopRoundsModel" 217 yX8_isOf, .code yX8_isOf cX8_isOf 2 (some .boolean), .static yX8_isOf, .methodLink "LoopRoundsModel" 220 yX8_inLeastTerms, .code yX8_inLeastTerms cX8_inLeastTerms 11 (some .long), .static yX8_inLeastTerms, .methodLink "LoopRoundsModel" 224 yX8_lost]
set_option maxRecDepth 100000 in
theorem zw_52_in : ∀ w ∈ zw_52, w ∈ lw_tbl := zi_pool_in [48, 967, 970, 969, 47, 996, 999, 998, 49, 1012, 1014, 1013, 1015, 1017, 1016, 1034] (by decide +kernel)
def zw_53 : List Cond := [.code yX8_lost cX8_lost 2 (some .long), .instanceMethod yX8_lost, .selects "LoopRoundsModel" yX8_lost yX8_lost, .fieldLink "LoopRoundsModel" 228 "LoopRoundsModel" "trace" "I", .methodLink "LoopRoundsModel" 231 yX8_begins, .code yX8_begins cX8_begins 2 none, .instanceMethod yX8_begins, .selects "LoopRoundsModel" yX8_begins yX8_begins]
set_option maxRecDepth 100000 in
theorem zw_53_in : ∀ w ∈ zw_53, w ∈ lw_tbl := zi_pool_in [1037, 1036, 50, 719, 1046, 1049, 1048, 51] (by decide +kernel)
def zi_pw (c : Nat) : List Cond := match c with
  | 0 => zw_0
  | 1 => zw_1
  | 2 => zw_2
  | 3 => zw_3
  | 4 => zw_4
  | 5 => zw_5
  | 6 => zw_6
  | 7 => zw_7
  | 8 => zw_8
  | 9 => zw_9
  | 10 => zw_10
  | 11 => zw_11
  | 12 => zw_12
  | 13 => zw_13
  | 14 => zw_14
  | 15 => zw_15
  | 16 => zw_16
  | 17 => zw_17
  | 18 => zw_18
  | 19 => zw_19
  | 20 => zw_20
  | 21 => zw_21
  | 22 => zw_22
  | 23 => zw_23
  | 24 => zw_24
  | 25 => zw_25
  | 26 => zw_26
  | 27 => zw_27
  | 28 => zw_28
  | 29 => zw_29
  | 30 => zw_30
  | 31 => zw_31
  | 32 => zw_32
  | 33 => zw_33
  | 34 => zw_34
  | 35 => zw_35
  | 36 => zw_36
  | 37 => zw_37
  | 38 => zw_38
  | 39 => zw_39
  | 40 => zw_40
  | 41 => zw_41
  | 42 => zw_42
  | 43 => zw_43
  | 44 => zw_44
  | 45 => zw_45
  | 46 => zw_46
  | 47 => zw_47
  | 48 => zw_48
  | 49 => zw_49
  | 50 => zw_50
  | 51 => zw_51
  | 52 => zw_52
  | 53 => zw_53
  | _ => []
theorem zi_pw_in (c : Nat) : ∀ w ∈ zi_pw c, w ∈ lw_tbl := by
  intro w hw
  unfold zi_pw at hw
  split at hw
  · exact zw_0_in w hw
  · exact zw_1_in w hw
  · exact zw_2_in w hw
  · exact zw_3_in w hw
  · exact zw_4_in w hw
  · exact zw_5_in w hw
  · exact zw_6_in w hw
  · exact zw_7_in w hw
  · exact zw_8_in w hw
  · exact zw_9_in w hw
  · exact zw_10_in w hw
  · exact zw_11_in w hw
  · exact zw_12_in w hw
  · exact zw_13_in w hw
  · exact zw_14_in w hw
  · exact zw_15_in w hw
  · exact zw_16_in w hw
  · exact zw_17_in w hw
  · exact zw_18_in w hw
  · exact zw_19_in w hw
  · exact zw_20_in w hw
  · exact zw_21_in w hw
  · exact zw_22_in w hw
  · exact zw_23_in w hw
  · exact zw_24_in w hw
  · exact zw_25_in w hw
  · exact zw_26_in w hw
  · exact zw_27_in w hw
  · exact zw_28_in w hw
  · exact zw_29_in w hw
  · exact zw_30_in w hw
  · exact zw_31_in w hw
  · exact zw_32_in w hw
  · exact zw_33_in w hw
  · exact zw_34_in w hw
  · exact zw_35_in w hw
  · exact zw_36_in w hw
  · exact zw_37_in w hw
  · exact zw_38_in w hw
  · exact zw_39_in w hw
  · exact zw_40_in w hw
  · exact zw_41_in w hw
  · exact zw_42_in w hw
  · exact zw_43_in w hw
  · exact zw_44_in w hw
  · exact zw_45_in w hw
  · exact zw_46_in w hw
  · exact zw_47_in w hw
  · exact zw_48_in w hw
  · exact zw_49_in w hw
  · exact zw_50_in w hw
  · exact zw_51_in w hw
  · exact zw_52_in w hw
  · exact zw_53_in w hw
  · cases hw
