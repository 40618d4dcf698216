/-! EVERY METHOD IS IN ORDER (by gen13.py) -/
set_option maxRecDepth 20000 in
theorem xk_L_hold : xTat xP xm_L_hold := xchk_ok (ps := [[759, 760], [], [], [], [], [], [761, 762, 763, 52], [], [750], [], [], [], [], [], []]) (by decide +kernel) rfl
set_option maxRecDepth 20000 in
theorem xk_L_person : xTat xP xm_L_person := xchk_ok (ps := [[773, 774, 775], [], [], [], [776, 777, 778, 52], [], [750], [], [], [], [], [], [], [], [], []]) (by decide +kernel) rfl
set_option maxRecDepth 20000 in
theorem xk_L_thing : xTat xP xm_L_thing := xchk_ok (ps := [[803, 760, 774, 775], [], [], [], [], [804, 805, 806, 52], [], [750], [], [], [], [], [], [], [], [], [], [], [], []]) (by decide +kernel) rfl
set_option maxRecDepth 20000 in
theorem xk_L_buy : xTat xP xm_L_buy := xchk_ok (ps := [[817, 760, 775], [], [], [], [818, 819, 820, 52], [], [750], [], [], [], [], [], [], [], [], []]) (by decide +kernel) rfl
set_option maxRecDepth 20000 in
theorem xk_L_take : xTat xP xm_L_take := xchk_ok (ps := [[839, 760, 775], [], [], [], [840, 841, 842, 52], [], [750], [], [], [], [], [], [], [], [], []]) (by decide +kernel) rfl
set_option maxRecDepth 20000 in
theorem xk_L_ruin : xTat xP xm_L_ruin := xchk_ok (ps := [[851, 760, 775], [], [], [], [852, 853, 854, 52], [], [750], [], [], [], [], [], [], [], [], []]) (by decide +kernel) rfl
set_option maxRecDepth 20000 in
theorem xk_L_sell : xTat xP xm_L_sell := xchk_ok (ps := [[864, 760, 774, 775], [], [], [], [], [], [], [865, 866, 867, 52], [], [750], [], [], [], [], [], [], [], [], [], [], [], []]) (by decide +kernel) rfl
set_option maxRecDepth 20000 in
theorem xk_L_pay : xTat xP xm_L_pay := xchk_ok (ps := [[886, 760, 775], [], [], [], [887, 888, 889, 52], [], [750], [], [], [], [], [], [], [], [], []]) (by decide +kernel) rfl
set_option maxRecDepth 20000 in
theorem xk_L_benchmark : xTat xP xm_L_benchmark := xchk_ok (ps := [[910, 774], [], [], [], [911, 912, 913, 52], [], [750], [], [], [], [], [], []]) (by decide +kernel) rfl
set_option maxRecDepth 20000 in
theorem xk_L_lease : xTat xP xm_L_lease := xchk_ok (ps := [[918, 760, 774, 775], [], [], [], [], [], [], [919, 920, 921, 52], [], [750], [], [], [], [], [], [], [], [], [], [], [], []]) (by decide +kernel) rfl
set_option maxRecDepth 20000 in
theorem xk_L_end : xTat xP xm_L_end := xchk_ok (ps := [[936, 760, 775], [], [], [], [], [937, 938, 939, 52], [], [750], [], [], [], [], [], [], [], [], []]) (by decide +kernel) rfl
set_option maxRecDepth 20000 in
theorem xk_L_venture : xTat xP xm_L_venture := xchk_ok (ps := [[944, 775], [], [], [945, 946, 947, 52], [], [750], [], [], [], [], [], []]) (by decide +kernel) rfl
set_option maxRecDepth 20000 in
theorem xk_L_join : xTat xP xm_L_join := xchk_ok (ps := [[956, 760, 774, 775], [], [], [], [], [], [], [957, 958, 959, 52], [], [750], [], [], [], [], [], [], [], [], [], [], [], []]) (by decide +kernel) rfl
set_option maxRecDepth 20000 in
theorem xk_L_result : xTat xP xm_L_result := xchk_ok (ps := [[975, 760, 774, 775], [], [], [], [], [], [976, 977, 978, 52], [], [750], [], [], [], [], [], [], [], [], [], [], [], []]) (by decide +kernel) rfl
set_option maxRecDepth 20000 in
theorem xk_L_buyOut : xTat xP xm_L_buyOut := xchk_ok (ps := [[1011, 760, 774, 775], [], [], [], [], [], [], [1012, 1013, 1014, 52], [], [750], [], [], [], [], [], [], [], [], [], [], [], []]) (by decide +kernel) rfl
set_option maxRecDepth 20000 in
theorem xk_L_deposit : xTat xP xm_L_deposit := xchk_ok (ps := [[1024, 760, 774, 775], [], [], [], [], [1025, 1026, 1027, 52], [], [750], [], [], [], [], [], [], [], [], [], [], [], []]) (by decide +kernel) rfl
set_option maxRecDepth 20000 in
theorem xk_L_share : xTat xP xm_L_share := xchk_ok (ps := [[1034, 774], [], [], [], [], [], [1035, 1036, 1037, 52], [], [750], [], [], [], [], [], []]) (by decide +kernel) rfl
set_option maxRecDepth 20000 in
theorem xk_L_firm : xTat xP xm_L_firm := xchk_ok (ps := [[1065, 774, 775], [], [], [], [], [], [], [], [], [1066, 1067, 1068, 52], [], [750], [], [], [], [], [], [], [], [], []]) (by decide +kernel) rfl
set_option maxRecDepth 20000 in
theorem xk_L_invest : xTat xP xm_L_invest := xchk_ok (ps := [[1078, 774, 775], [], [], [], [1079, 1080, 1081, 52], [], [750], [], [], [], [], [], [], [], [], []]) (by decide +kernel) rfl
set_option maxRecDepth 20000 in
theorem xk_L_dividend : xTat xP xm_L_dividend := xchk_ok (ps := [[1088, 760, 774, 775], [], [], [], [], [1089, 1090, 1091, 52], [], [750], [], [], [], [], [], [], [], [], [], [], [], []]) (by decide +kernel) rfl
set_option maxRecDepth 20000 in
theorem xk_L_pass : xTat xP xm_L_pass := xchk_ok (ps := [[1103, 774, 775], [], [], [], [1104, 1105, 1106, 52], [], [750], [], [], [], [], [], [], [], [], []]) (by decide +kernel) rfl
set_option maxRecDepth 20000 in
theorem xk_L_ofPerson : xTat xP xm_L_ofPerson := xchk_ok (ps := [[1140, 760, 774], [], [], [], [], [1141, 539, 540, 52], [], [750], [], [], [], [], [], [], [], [], []]) (by decide +kernel) rfl
set_option maxRecDepth 20000 in
theorem xk_L_ofThing : xTat xP xm_L_ofThing := xchk_ok (ps := [[1144, 760, 774], [], [], [], [], [1145, 603, 604, 52], [], [750], [], [], [], [], [], [], [], [], []]) (by decide +kernel) rfl
set_option maxRecDepth 20000 in
theorem xk_L_ofSale : xTat xP xm_L_ofSale := xchk_ok (ps := [[1148, 760, 774], [], [], [], [], [1149, 617, 618, 52], [], [750], [], [], [], [], [], [], [], [], []]) (by decide +kernel) rfl
set_option maxRecDepth 20000 in
theorem xk_L_ofLease : xTat xP xm_L_ofLease := xchk_ok (ps := [[1152, 760, 774], [], [], [], [], [1153, 639, 640, 52], [], [750], [], [], [], [], [], [], [], [], []]) (by decide +kernel) rfl
set_option maxRecDepth 20000 in
theorem xk_L_ofVenture : xTat xP xm_L_ofVenture := xchk_ok (ps := [[1156, 760, 774], [], [], [], [], [], [1157, 657, 658, 52], [], [750], [], [], [], [], [], [], [], [], []]) (by decide +kernel) rfl
set_option maxRecDepth 20000 in
theorem xk_L_ofFirm : xTat xP xm_L_ofFirm := xchk_ok (ps := [[1160, 760, 774], [], [], [], [], [1161, 684, 685, 52], [], [750], [], [], [], [], [], [], [], [], []]) (by decide +kernel) rfl
set_option maxRecDepth 20000 in
theorem xk_L_allowed : xTat xP xm_L_allowed := xchk_ok (ps := [[1164, 760, 774], [], [], [], [], [1165, 1166, 1167, 52], [], [], [], [], [750], [], [], [], [], [], [], [], [], []]) (by decide +kernel) rfl
set_option maxRecDepth 20000 in
theorem xk_L_house : xTat xP xm_L_house := xchk_ok (ps := [[1177, 774], [], [], [], [1178, 436, 437, 52], [], [750], [], [], [], [], [], []]) (by decide +kernel) rfl
set_option maxRecDepth 20000 in
theorem xk_L_tell : xTat xP xm_L_tell := xchk_ok (ps := [[1181, 760], [], [], [], [1182, 1183, 1184, 52], [751], [], [], [], [], [], []]) (by decide +kernel) rfl
set_option maxRecDepth 20000 in
theorem xk_L_pillars : xTat xP xm_L_pillars := xchk_ok (ps := [[1438, 760], [], [], [], [], [1439, 1440, 1441, 52], [], [750], [], [], [], [], [], []]) (by decide +kernel) rfl
set_option maxRecDepth 20000 in
theorem xk_L_best : xTat xP xm_L_best := xchk_ok (ps := [[1445, 774], [], [], [], [], [1446, 728, 729, 52], [], [750], [], [], [], [], [], []]) (by decide +kernel) rfl
set_option maxRecDepth 20000 in
theorem xk_L_wouldShare : xTat xP xm_L_wouldShare := xchk_ok (ps := [[1449, 760, 774], [], [], [], [], [1450, 1451, 1452, 52], [], [750], [], [], [], [], [], [], [], [], []]) (by decide +kernel) rfl
set_option maxRecDepth 20000 in
theorem xk_X0_init : xTat xP xm_X0_init := xchk_ok (ps := [[102], [], [103, 96, 97], [], [], [111], [104], [], [], [112], [105], [], [], [], [], [], [], [104], [], [], [], [], [], []]) (by decide +kernel) rfl
set_option maxRecDepth 20000 in
theorem xk_X0_vote : xTat xP xm_X0_vote := xchk_ok (ps := [[769], [], [], [], [104], [], [], [], [], [], [], [], [], [], [], [104], [], [], [], [], [], [], [], [], [], [], []]) (by decide +kernel) rfl
set_option maxRecDepth 20000 in
theorem xk_X0_votesFor : xTat xP xm_X0_votesFor := xchk_ok (ps := [[720], [], [104], [], [], [721, 722, 71], []]) (by decide +kernel) rfl
set_option maxRecDepth 20000 in
theorem xk_X0_isAllowedNow : xTat xP xm_X0_isAllowedNow := xchk_ok (ps := [[716], [], [], [717, 718, 719, 53], [], [], [], [], [], []]) (by decide +kernel) rfl
set_option maxRecDepth 20000 in
theorem xk_X0_wasAllowed : xTat xP xm_X0_wasAllowed := xchk_ok (ps := [[1174], [], [105], [], [], [], [], [], [], [], [], [], [], [], []]) (by decide +kernel) rfl
set_option maxRecDepth 20000 in
theorem xk_X0_endDay : xTat xP xm_X0_endDay := xchk_ok (ps := [[1113], [], [], [], [], [], [], [], [], [], [1114, 714, 715, 53], [], [], [], [], [], [], [], [], [], [], [105], [], [], [], [], []]) (by decide +kernel) rfl
set_option maxRecDepth 20000 in
theorem xk_X1_init : xTat xP xm_X1_init := xchk_ok (ps := [[319], [], [320, 96, 97], [], [], [321], [], [], [323], [], [], [325], [], [], [111], [327], [], [], [111], [328], [], [], [111], [329], [], [], [111], [331], [], [], [111], [332], []]) (by decide +kernel) rfl
set_option maxRecDepth 20000 in
theorem xk_X1_has : xTat xP xm_X1_has := xchk_ok (ps := [[690], [], [], [], [], [321], [], [], [], [], []]) (by decide +kernel) rfl
set_option maxRecDepth 20000 in
theorem xk_X1_isSet : xTat xP xm_X1_isSet := xchk_ok (ps := [[707], [], [], [], [], [], [321], [], [], [], [], [], []]) (by decide +kernel) rfl
set_option maxRecDepth 20000 in
theorem xk_X1_add : xTat xP xm_X1_add := xchk_ok (ps := [[1075], [], [327], [], [321], [], [], [], [328], [], [321], [], [], [], [], [321], [], [], [], [], [], [], [], [], [331], [], [], [], [], [331], [], [], [], [], [], [], [332], [], [], [], [], [332], [], [], [], [], [], [], [], [], [], [], [], [323], [], [], [323], [], [], [321], [], [], [], [321], []]) (by decide +kernel) rfl
set_option maxRecDepth 20000 in
theorem xk_X1_isClean : xTat xP xm_X1_isClean := xchk_ok (ps := [[695], [], [323], [], [], [], [], [], [], [], [], [], []]) (by decide +kernel) rfl
set_option maxRecDepth 20000 in
theorem xk_X1_isHeld : xTat xP xm_X1_isHeld := xchk_ok (ps := [[699], [], [325], [], [], [], [], [], [], [], [], [], []]) (by decide +kernel) rfl
set_option maxRecDepth 20000 in
theorem xk_X1_prices : xTat xP xm_X1_prices := xchk_ok (ps := [[703], [], [], [704, 705, 706, 60], [], [], [331], [], [], [], [], []]) (by decide +kernel) rfl
set_option maxRecDepth 20000 in
theorem xk_X1_gains : xTat xP xm_X1_gains := xchk_ok (ps := [[711], [], [], [704, 705, 706, 60], [], [], [332], [], [], [], [], []]) (by decide +kernel) rfl
set_option maxRecDepth 20000 in
theorem xk_X1_tainted : xTat xP xm_X1_tainted := xchk_ok (ps := [[1098], [], [327], [], [], [], [], [], [], [], [328], [], [], [], [], [], [], [], [], [], [], [327], [], [], [], [1099, 587, 52], [], [1100, 1005, 73, 1006], []]) (by decide +kernel) rfl
set_option maxRecDepth 20000 in
theorem xk_X1_bestHolding : xTat xP xm_X1_bestHolding := xchk_ok (ps := [[738], [], [], [], [], [], [], [], [321], [], [], [], [], [323], [], [], [], [], [], [331], [], [], [], [], [], [], [], [739, 740, 741, 60], [], [], [], [], [], [], []]) (by decide +kernel) rfl
set_option maxRecDepth 20000 in
theorem xk_X1_isBetter : xTat xP xm_X1_isBetter := xchk_ok (ps := [[742], [], [332], [], [], [], [332], [], [], [], [], [332], [], [], [], [332], [], [], [], [], [331], [], [], [], [331], [], [], [], [], [], [], []]) (by decide +kernel) rfl
set_option maxRecDepth 20000 in
theorem xk_X2_init : xTat xP xm_X2_init := xchk_ok (ps := [[225], [], [226, 96, 97], [], [], [227], [], [], [111], [229], [], [], [111], [231], [], [], [111], [232], [], [], [111], [234], [], [], [111], [235], [], [], [171], [236], [], [], [111], [238], [], [], [111], [240], [], [], [111], [242], []]) (by decide +kernel) rfl
set_option maxRecDepth 20000 in
theorem xk_X2_has : xTat xP xm_X2_has := xchk_ok (ps := [[645], [], [], [], [], [227], [], [], [], [], []]) (by decide +kernel) rfl
set_option maxRecDepth 20000 in
theorem xk_X2_add : xTat xP xm_X2_add := xchk_ok (ps := [[933], [], [229], [], [227], [], [], [], [231], [], [227], [], [], [], [232], [], [227], [], [], [], [234], [], [227], [], [], [], [235], [], [227], [], [], [], [238], [], [227], [], [], [], [], [], [], [227], [], [], [], [227], []]) (by decide +kernel) rfl
set_option maxRecDepth 20000 in
theorem xk_X2_close : xTat xP xm_X2_close := xchk_ok (ps := [[860], [], [], [861, 643, 644, 57], [], [], [236], [], [], [], []]) (by decide +kernel) rfl
set_option maxRecDepth 20000 in
theorem xk_X2_isDue : xTat xP xm_X2_isDue := xchk_ok (ps := [[1126], [], [236], [], [], [], [], [238], [], [], [], [], [], [], [], []]) (by decide +kernel) rfl
set_option maxRecDepth 20000 in
theorem xk_X2_collect : xTat xP xm_X2_collect := xchk_ok (ps := [[1130], [], [], [234], [], [], [1131, 894, 73, 895], [], [235], [], [], [1132, 1005, 73, 1006], [], [], [231], [], [], [], [], [], [], [], [], [238], [], [], [], [], [], [], [], [240], [], [], [], [], [], [], [], [242], [], [], [], [], [], [], [], []]) (by decide +kernel) rfl
set_option maxRecDepth 20000 in
theorem xk_X2_openOf : xTat xP xm_X2_openOf := xchk_ok (ps := [[592], [], [], [], [], [], [], [227], [], [], [], [236], [], [], [], [], [232], [], [], [], [], [], [], [], [], [], [], [], [], []]) (by decide +kernel) rfl
set_option maxRecDepth 20000 in
theorem xk_X2_countOpen : xTat xP xm_X2_countOpen := xchk_ok (ps := [[458], [], [], [], [], [], [], [227], [], [], [], [236], [], [], [], [], [], [], [], [], [], [], [], []]) (by decide +kernel) rfl
set_option maxRecDepth 20000 in
theorem xk_X3_init : xTat xP xm_X3_init := xchk_ok (ps := [[292], [], [293, 96, 97], [], [], [111], [294], [], [], [111], [296], [], [], [298], [], [], [300], [], [], [302], []]) (by decide +kernel) rfl
set_option maxRecDepth 20000 in
theorem xk_X3_endDay : xTat xP xm_X3_endDay := xchk_ok (ps := [[1118], [], [], [], [], [], [], [296], [], [], [], [], [294], [], [], [], [], [], [], []]) (by decide +kernel) rfl
set_option maxRecDepth 20000 in
theorem xk_X3_leftByManagement : xTat xP xm_X3_leftByManagement := xchk_ok (ps := [[1043], [], [], [], [302], [], [], [], [], []]) (by decide +kernel) rfl
set_option maxRecDepth 20000 in
theorem xk_X3_smoothed : xTat xP xm_X3_smoothed := xchk_ok (ps := [[1047], [], [], [], [], [], [], [300], [], [], [300], [], [], [], [300], [], [], [], [298], [1048, 1005, 73, 1006], [], []]) (by decide +kernel) rfl
set_option maxRecDepth 20000 in
theorem xk_X3_weights : xTat xP xm_X3_weights := xchk_ok (ps := [[1056], [], [], [], [], [], [], [], [], [], [296], [], [], [], [], [], [], [], [], []]) (by decide +kernel) rfl
set_option maxRecDepth 20000 in
theorem xk_X3_portionOf : xTat xP xm_X3_portionOf := xchk_ok (ps := [[1060], [], [], [], [296], [], [], [], [], [1061, 587, 52], [1062], [], [294], [], [], [], [1048, 1005, 73, 1006], []]) (by decide +kernel) rfl
set_option maxRecDepth 20000 in
theorem xk_X3_payOut : xTat xP xm_X3_payOut := xchk_ok (ps := [[1052], [], [1053, 1054, 1055, 59], [], [], [], [], [], [], [], [], [], [], [], [], [1057, 1058, 1059, 59], [], [], [294], [], [], [], [], [], [], [], [296], [], [], [], [], [], [], [], [], [], [], []]) (by decide +kernel) rfl
set_option maxRecDepth 20000 in
theorem xk_X3_deposits : xTat xP xm_X3_deposits := xchk_ok (ps := [[442], [], [], [], [], [], [], [], [], [], [294], [], [], [], [], [], [], [], []]) (by decide +kernel) rfl
set_option maxRecDepth 20000 in
theorem xk_X3_isInOrder : xTat xP xm_X3_isInOrder := xchk_ok (ps := [[388], [], [], [], [], [], [], [294], [], [], [], [], [], [], [], [], [298], [], [], [], [], []]) (by decide +kernel) rfl
set_option maxRecDepth 20000 in
theorem xk_X4_init : xTat xP xm_X4_init := xchk_ok (ps := [[117], [], [118, 96, 97], [], [], [119], [], [], [121], [], [], [111], [123], [], [123], [], [], [], []]) (by decide +kernel) rfl
set_option maxRecDepth 20000 in
theorem xk_X4_has : xTat xP xm_X4_has := xchk_ok (ps := [[545], [], [], [], [], [119], [], [], [], [], []]) (by decide +kernel) rfl
set_option maxRecDepth 20000 in
theorem xk_X4_open : xTat xP xm_X4_open := xchk_ok (ps := [[800], [], [123], [], [119], [], [], [], [], [119], [], [], [], [119], []]) (by decide +kernel) rfl
set_option maxRecDepth 20000 in
theorem xk_X4_add : xTat xP xm_X4_add := xchk_ok (ps := [[831], [], [], [], [832, 732, 52], [], [], [123], [], [], [], [], [], [], []]) (by decide +kernel) rfl
set_option maxRecDepth 20000 in
theorem xk_X4_move : xTat xP xm_X4_move := xchk_ok (ps := [[827], [], [], [], [], [828, 829, 830, 54], [], [], [], [828, 829, 830, 54], []]) (by decide +kernel) rfl
set_option maxRecDepth 20000 in
theorem xk_X4_giveAway : xTat xP xm_X4_giveAway := xchk_ok (ps := [[903], [], [], [], [], [828, 829, 830, 54], [], [], [121], [], [], [121], []]) (by decide +kernel) rfl
set_option maxRecDepth 20000 in
theorem xk_X4_giveAlms : xTat xP xm_X4_giveAlms := xchk_ok (ps := [[1136], [], [], [], [], [119], [], [], [123], [], [], [], [], [], [], [], [123], [], [], [], [], [1137, 901, 902, 54], [], [], []]) (by decide +kernel) rfl
set_option maxRecDepth 20000 in
theorem xk_X4_cashOfPeople : xTat xP xm_X4_cashOfPeople := xchk_ok (ps := [[466], [], [], [], [], [], [], [119], [], [], [], [123], [], [], [], [], [], [], [], []]) (by decide +kernel) rfl
set_option maxRecDepth 20000 in
theorem xk_X5_init : xTat xP xm_X5_init := xchk_ok (ps := [[176], [], [177, 96, 97], [], [], [178], [], [], [111], [180], [], [], [111], [182], [], [], [111], [184], [], [], [111], [185], [], [], [111], [187], [], [], [111], [189], [], [], [111], [191], [], [], [111], [193], [], [], [111], [194], [], [], [111], [196], []]) (by decide +kernel) rfl
set_option maxRecDepth 20000 in
theorem xk_X5_has : xTat xP xm_X5_has := xchk_ok (ps := [[623], [], [], [], [], [178], [], [], [], [], []]) (by decide +kernel) rfl
set_option maxRecDepth 20000 in
theorem xk_X5_add : xTat xP xm_X5_add := xchk_ok (ps := [[879], [], [180], [], [178], [], [], [], [182], [], [178], [], [], [], [184], [], [178], [], [], [], [185], [], [178], [], [], [], [], [], [], [], [], [], [187], [], [178], [], [], [], [189], [], [178], [], [], [], [193], [], [178], [], [], [], [], [178], [], [], [], [178], []]) (by decide +kernel) rfl
set_option maxRecDepth 20000 in
theorem xk_X5_isVoid : xTat xP xm_X5_isVoid := xchk_ok (ps := [[424], [], [187], [], [], [], [], [], [], []]) (by decide +kernel) rfl
set_option maxRecDepth 20000 in
theorem xk_X5_isDone : xTat xP xm_X5_isDone := xchk_ok (ps := [[454], [], [], [421, 422, 423, 56], [], [], [191], [], [], [], [189], [], [], [], [], [], [], []]) (by decide +kernel) rfl
set_option maxRecDepth 20000 in
theorem xk_X5_isOpen : xTat xP xm_X5_isOpen := xchk_ok (ps := [[573], [], [], [421, 422, 423, 56], [], [], [191], [], [], [], [189], [], [], [], [], [], [], []]) (by decide +kernel) rfl
set_option maxRecDepth 20000 in
theorem xk_X5_partsLeft : xTat xP xm_X5_partsLeft := xchk_ok (ps := [[569], [], [], [570, 571, 572, 56], [], [], [189], [], [], [], [191], [], [], [], [], [], []]) (by decide +kernel) rfl
set_option maxRecDepth 20000 in
theorem xk_X5_debt : xTat xP xm_X5_debt := xchk_ok (ps := [[581], [], [], [570, 571, 572, 56], [], [], [185], [], [], [], [191], [], [], [], [], [582, 583, 584, 56], [], [], [], [], []]) (by decide +kernel) rfl
set_option maxRecDepth 20000 in
theorem xk_X5_plainPart : xTat xP xm_X5_plainPart := xchk_ok (ps := [[585], [], [185], [], [], [], [], [], [189], [], [], [], [586, 587, 52], []]) (by decide +kernel) rfl
set_option maxRecDepth 20000 in
theorem xk_X5_nextPart : xTat xP xm_X5_nextPart := xchk_ok (ps := [[632], [], [], [566, 567, 568, 56], [], [], [], [], [582, 583, 584, 56], [], [], [], [578, 579, 580, 56], []]) (by decide +kernel) rfl
set_option maxRecDepth 20000 in
theorem xk_X5_nextDay : xTat xP xm_X5_nextDay := xchk_ok (ps := [[628], [], [], [570, 571, 572, 56], [], [], [193], [], [], [], [], [191], [], [], [], [], [], [], [], [], []]) (by decide +kernel) rfl
set_option maxRecDepth 20000 in
theorem xk_X5_rebate : xTat xP xm_X5_rebate := xchk_ok (ps := [[899], [], [184], [], [], [], [], [], [], [], [184], [], [], [], [], [586, 587, 52], [], [], []]) (by decide +kernel) rfl
set_option maxRecDepth 20000 in
theorem xk_X5_settlePart : xTat xP xm_X5_settlePart := xchk_ok (ps := [[907], [], [191], [], [], [], [], [], [], [], [194], [], [], [], [], [], [], [], [196], [], [], [], [], [], [], []]) (by decide +kernel) rfl
set_option maxRecDepth 20000 in
theorem xk_X5_partsLeftOf : xTat xP xm_X5_partsLeftOf := xchk_ok (ps := [[565], [], [], [], [], [], [], [178], [], [], [], [182], [], [], [], [], [], [], [566, 567, 568, 56], [], [], [], [], [], [], [], []]) (by decide +kernel) rfl
set_option maxRecDepth 20000 in
theorem xk_X5_debtOf : xTat xP xm_X5_debtOf := xchk_ok (ps := [[577], [], [], [], [], [], [], [178], [], [], [], [182], [], [], [], [], [], [], [578, 579, 580, 56], [], [], [], [], [], [], [], []]) (by decide +kernel) rfl
set_option maxRecDepth 20000 in
theorem xk_X5_countVoid : xTat xP xm_X5_countVoid := xchk_ok (ps := [[446], [], [], [], [], [], [], [178], [], [], [], [], [421, 422, 423, 56], [], [], [], [], [], [], [], [], [], []]) (by decide +kernel) rfl
set_option maxRecDepth 20000 in
theorem xk_X5_countDone : xTat xP xm_X5_countDone := xchk_ok (ps := [[450], [], [], [], [], [], [], [178], [], [], [], [], [451, 452, 453, 56], [], [], [], [], [], [], [], [], [], []]) (by decide +kernel) rfl
set_option maxRecDepth 20000 in
theorem xk_X5_allFees : xTat xP xm_X5_allFees := xchk_ok (ps := [[428], [], [], [], [], [], [], [178], [], [], [], [194], [], [], [], [], [], [], [], []]) (by decide +kernel) rfl
set_option maxRecDepth 20000 in
theorem xk_X5_isInOrder : xTat xP xm_X5_isInOrder := xchk_ok (ps := [[420], [], [], [], [], [178], [], [], [], [421, 422, 423, 56], [], [], [191], [], [], [], [], [], [], [], [], []]) (by decide +kernel) rfl
set_option maxRecDepth 20000 in
theorem xk_X6_init : xTat xP xm_X6_init := xchk_ok (ps := [[136], [], [137, 96, 97], [], [], [138], [], [], [111], [140], [], [], [111], [142], [], [], [171], [144], [], [], [171], [146], [], [], [111], [148], [], [], [111], [150], [], [], [111], [152], []]) (by decide +kernel) rfl
set_option maxRecDepth 20000 in
theorem xk_X6_has : xTat xP xm_X6_has := xchk_ok (ps := [[609], [], [], [], [], [138], [], [], [], [], []]) (by decide +kernel) rfl
set_option maxRecDepth 20000 in
theorem xk_X6_isLeased : xTat xP xm_X6_isLeased := xchk_ok (ps := [[416], [], [152], [], [], [], [], [], [], [], []]) (by decide +kernel) rfl
set_option maxRecDepth 20000 in
theorem xk_X6_add : xTat xP xm_X6_add := xchk_ok (ps := [[814], [], [140], [], [138], [], [], [], [142], [], [138], [], [], [], [144], [], [138], [], [], [], [150], [], [138], [], [], [], [152], [], [138], [], [], [], [], [138], [], [], [], [138], []]) (by decide +kernel) rfl
set_option maxRecDepth 20000 in
theorem xk_X6_acquire : xTat xP xm_X6_acquire := xchk_ok (ps := [[836], [], [148], [], [], [140], [], [], [], [], [150], [], [], [142], [], [], [], [], [142], [], [], [], [], [144], [], [], [], []]) (by decide +kernel) rfl
set_option maxRecDepth 20000 in
theorem xk_X6_handOver : xTat xP xm_X6_handOver := xchk_ok (ps := [[883], [], [142], [], [], [], [], [144], [], [], [], []]) (by decide +kernel) rfl
set_option maxRecDepth 20000 in
theorem xk_X6_ownedBy : xTat xP xm_X6_ownedBy := xchk_ok (ps := [[462], [], [], [], [], [], [], [138], [], [], [142], [], [], [], [], [], [], [], [], []]) (by decide +kernel) rfl
set_option maxRecDepth 20000 in
theorem xk_X6_heldByHouse : xTat xP xm_X6_heldByHouse := xchk_ok (ps := [[848], [], [], [], [], [], [], [138], [], [], [142], [], [], [], [], [], [144], [], [], [], [], [], [], [], []]) (by decide +kernel) rfl
set_option maxRecDepth 20000 in
theorem xk_X6_isInOrder : xTat xP xm_X6_isInOrder := xchk_ok (ps := [[412], [], [], [], [], [138], [], [], [], [413, 414, 415, 55], [], [], [142], [], [], [], [], [], [146], [], [], [], [], [], [], [], [], []]) (by decide +kernel) rfl
set_option maxRecDepth 20000 in
theorem xk_X7_init : xTat xP xm_X7_init := xchk_ok (ps := [[269], [], [270, 96, 97], [], [], [271], [], [], [171], [273], [], [], [111], [274], [], [], [111], [275], [], [], [111], [276], []]) (by decide +kernel) rfl
set_option maxRecDepth 20000 in
theorem xk_X7_has : xTat xP xm_X7_has := xchk_ok (ps := [[663], [], [], [], [], [271], [], [], [], [], []]) (by decide +kernel) rfl
set_option maxRecDepth 20000 in
theorem xk_X7_begin : xTat xP xm_X7_begin := xchk_ok (ps := [[953], [], [], [271], [], [], [], [271], []]) (by decide +kernel) rfl
set_option maxRecDepth 20000 in
theorem xk_X7_at : xTat xP xm_X7_at := xchk_ok (ps := [[404], [], [], [], [], [], []]) (by decide +kernel) rfl
set_option maxRecDepth 20000 in
theorem xk_X7_isPartner : xTat xP xm_X7_isPartner := xchk_ok (ps := [[965], [], [273], [], [], [], [401, 402, 403, 58], [], []]) (by decide +kernel) rfl
set_option maxRecDepth 20000 in
theorem xk_X7_capitalOf : xTat xP xm_X7_capitalOf := xchk_ok (ps := [[408], [], [274], [], [], [], [401, 402, 403, 58], [], []]) (by decide +kernel) rfl
set_option maxRecDepth 20000 in
theorem xk_X7_shareOf : xTat xP xm_X7_shareOf := xchk_ok (ps := [[400], [], [275], [], [], [], [401, 402, 403, 58], [], []]) (by decide +kernel) rfl
set_option maxRecDepth 20000 in
theorem xk_X7_gainOf : xTat xP xm_X7_gainOf := xchk_ok (ps := [[677], [], [276], [], [], [], [401, 402, 403, 58], [], []]) (by decide +kernel) rfl
set_option maxRecDepth 20000 in
theorem xk_X7_admit : xTat xP xm_X7_admit := xchk_ok (ps := [[972], [], [], [], [401, 402, 403, 58], [], [], [273], [], [], [], [], [274], [], [], [], [], [275], [], [], [], []]) (by decide +kernel) rfl
set_option maxRecDepth 20000 in
theorem xk_X7_addGain : xTat xP xm_X7_addGain := xchk_ok (ps := [[995], [], [276], [], [], [], [401, 402, 403, 58], [], [], [], [], [], []]) (by decide +kernel) rfl
set_option maxRecDepth 20000 in
theorem xk_X7_moveCapital : xTat xP xm_X7_moveCapital := xchk_ok (ps := [[1021], [], [274], [], [], [], [401, 402, 403, 58], [], [], [], [], [], [], [274], [], [], [], [401, 402, 403, 58], [], [], [], [], [], []]) (by decide +kernel) rfl
set_option maxRecDepth 20000 in
theorem xk_X7_bearLoss : xTat xP xm_X7_bearLoss := xchk_ok (ps := [[999], [], [], [1000, 1001, 1002, 58], [], [], [], [1004, 1005, 73, 1006], [], [], [], [], [], [], [], [], [], [], [], [], [], [405, 406, 407, 58], [], [], [], [1007, 587, 52], [], [], [274], [], [], [], [401, 402, 403, 58], [], [], [], [], [], [], [], [], [], [], [], [], [], [], [], [], [], [], [], [], [], [405, 406, 407, 58], [], [], [274], [], [], [], [401, 402, 403, 58], [], [], [], [], [], [], [], [], []]) (by decide +kernel) rfl
set_option maxRecDepth 20000 in
theorem xk_X7_capitals : xTat xP xm_X7_capitals := xchk_ok (ps := [[1003], [], [], [], [], [], [], [], [], [], [], [], [405, 406, 407, 58], [], [], [], [], [], []]) (by decide +kernel) rfl
set_option maxRecDepth 20000 in
theorem xk_X7_shares : xTat xP xm_X7_shares := xchk_ok (ps := [[396], [], [], [], [], [], [], [], [], [], [], [], [397, 398, 399, 58], [], [], [], [], [], []]) (by decide +kernel) rfl
set_option maxRecDepth 20000 in
theorem xk_X7_capitalEverywhere : xTat xP xm_X7_capitalEverywhere := xchk_ok (ps := [[596], [], [], [], [], [], [], [271], [], [], [], [], [], [405, 406, 407, 58], [], [], [], [], [], []]) (by decide +kernel) rfl
set_option maxRecDepth 20000 in
theorem xk_X7_isInOrder : xTat xP xm_X7_isInOrder := xchk_ok (ps := [[392], [], [], [], [], [271], [], [], [], [393, 394, 395, 58], [], [], [], [], [], [], [], [], [], [], [], [], [405, 406, 407, 58], [], [], [], [], [], [], [], [], []]) (by decide +kernel) rfl
set_option maxRecDepth 20000 in
theorem xk_X8_init : xTat xP xm_X8_init := xchk_ok (ps := [[94], [], [95, 96, 97], [], [98, 99, 53], [], [100, 101, 53], [350], [], [113, 114, 54], [], [115, 116, 54], [351], [], [132, 133, 55], [], [134, 135, 55], [352], [], [172, 173, 56], [], [174, 175, 56], [353], [], [221, 222, 57], [], [223, 224, 57], [354], [], [265, 266, 58], [], [267, 268, 58], [355], [], [288, 289, 59], [], [290, 291, 59], [356], [], [315, 316, 60], [], [317, 318, 60], [357], [], [], [358], [], [], [359], []]) (by decide +kernel) rfl
set_option maxRecDepth 20000 in
theorem xk_X8_hold : xTat xP xm_X8_hold := xchk_ok (ps := [[764], [], [], [], [731, 732, 52], [], [], [], [], [731, 732, 52], [], [546, 69, 556], [], [], [], [], [], [350], [], [], [], [766, 767, 768, 53], [], [350], [], [770, 718, 719, 53], []]) (by decide +kernel) rfl
set_option maxRecDepth 20000 in
theorem xk_X8_person : xTat xP xm_X8_person := xchk_ok (ps := [[779], [], [], [], [731, 732, 52], [], [467, 77, 509], [], [], [], [], [], [351], [120], [], [], [781, 78, 791], [], [], [], [], [], [351], [], [797, 798, 799, 54], []]) (by decide +kernel) rfl
set_option maxRecDepth 20000 in
theorem xk_X8_thing : xTat xP xm_X8_thing := xchk_ok (ps := [[807], [], [], [], [], [351], [], [542, 543, 544, 54], [], [546, 69, 556], [], [], [], [], [], [], [], [731, 732, 52], [], [467, 77, 509], [], [], [], [], [], [352], [139], [], [], [781, 78, 791], [], [], [], [], [], [352], [], [], [], [], [], [], [], [811, 812, 813, 55], []]) (by decide +kernel) rfl
set_option maxRecDepth 20000 in
theorem xk_X8_buy : xTat xP xm_X8_buy := xchk_ok (ps := [[821], [], [352], [], [606, 607, 608, 55], [], [546, 69, 556], [], [], [], [], [], [352], [143], [], [], [], [], [], [352], [147], [], [], [], [], [352], [], [822, 414, 415, 55], [], [781, 78, 791], [], [], [], [], [], [352], [141], [], [], [], [], [351], [], [], [352], [143], [], [], [], [824, 825, 826, 54], [], [352], [], [833, 834, 835, 55], [], []]) (by decide +kernel) rfl
set_option maxRecDepth 20000 in
theorem xk_X8_take : xTat xP xm_X8_take := xchk_ok (ps := [[843], [], [352], [], [606, 607, 608, 55], [], [546, 69, 556], [], [], [], [], [], [352], [143], [], [], [], [], [], [352], [145], [], [], [], [781, 78, 791], [], [], [], [], [], [352], [145], [], [], [], [], [352], [845, 846, 847, 55], []]) (by decide +kernel) rfl
set_option maxRecDepth 20000 in
theorem xk_X8_ruin : xTat xP xm_X8_ruin := xchk_ok (ps := [[855], [], [352], [], [606, 607, 608, 55], [], [546, 69, 556], [], [], [], [], [], [352], [147], [], [], [], [781, 78, 791], [], [], [], [], [], [354], [], [352], [153], [], [], [857, 858, 859, 57], [], [352], [153], [], [], [], [], [352], [147], [], [], [], [], [352], [141], [], [], []]) (by decide +kernel) rfl
set_option maxRecDepth 20000 in
theorem xk_X8_sell : xTat xP xm_X8_sell := xchk_ok (ps := [[868], [], [352], [], [606, 607, 608, 55], [], [], [351], [], [542, 543, 544, 54], [], [546, 69, 556], [], [], [], [], [], [], [], [731, 732, 52], [], [], [], [], [731, 732, 52], [], [467, 77, 509], [], [], [], [], [], [353], [179], [], [], [], [352], [], [822, 414, 415, 55], [], [781, 78, 791], [], [], [], [], [], [], [], [872, 874, 18, 52], [], [], [353], [], [], [], [352], [149], [], [], [], [], [], [], [358], [876, 877, 878, 56], [], [], [], [], [352], [], [], [880, 881, 882, 55], [], []]) (by decide +kernel) rfl
set_option maxRecDepth 20000 in
theorem xk_X8_pay : xTat xP xm_X8_pay := xchk_ok (ps := [[890], [], [353], [], [620, 621, 622, 56], [], [546, 69, 556], [], [], [], [], [], [353], [], [891, 571, 572, 56], [], [781, 78, 791], [], [], [], [], [], [353], [], [629, 630, 631, 56], [], [], [358], [], [353], [], [625, 626, 627, 56], [], [], [], [], [], [], [350], [], [713, 714, 715, 53], [], [], [], [], [], [], [], [893, 894, 73, 895], [], [], [], [], [], [], [], [350], [], [713, 714, 715, 53], [], [], [353], [], [], [896, 897, 898, 56], [], [], [], [], [353], [183], [], [], [], [], [351], [], [], [], [], [], [824, 825, 826, 54], [], [351], [], [], [900, 901, 902, 54], [], [353], [], [], [], [904, 905, 906, 56], [], [], [], []]) (by decide +kernel) rfl
set_option maxRecDepth 20000 in
theorem xk_X8_benchmark : xTat xP xm_X8_benchmark := xchk_ok (ps := [[914], [], [], [], [731, 732, 52], [], [467, 77, 509], [], [], [], [], [], [359], [], [], [], [359], [], []]) (by decide +kernel) rfl
set_option maxRecDepth 20000 in
theorem xk_X8_lease : xTat xP xm_X8_lease := xchk_ok (ps := [[922], [], [352], [], [606, 607, 608, 55], [], [], [351], [], [542, 543, 544, 54], [], [546, 69, 556], [], [], [], [], [], [], [], [731, 732, 52], [], [], [], [], [731, 732, 52], [], [], [], [], [467, 77, 509], [], [], [], [], [], [354], [228], [], [], [], [], [], [925, 927, 19, 52], [], [781, 78, 791], [], [], [], [], [], [354], [], [], [352], [141], [], [], [], [], [], [], [358], [930, 931, 932, 57], [], [], [352], [153], [], [], [], [], []]) (by decide +kernel) rfl
set_option maxRecDepth 20000 in
theorem xk_X8_end : xTat xP xm_X8_end := xchk_ok (ps := [[940], [], [354], [], [642, 643, 644, 57], [], [546, 69, 556], [], [], [], [], [], [354], [237], [], [], [], [781, 78, 791], [], [], [], [], [], [354], [], [857, 858, 859, 57], [], [354], [230], [], [], [], [], [352], [], [606, 607, 608, 55], [], [], [352], [153], [], [], [], [], [], [], [352], [], [], [354], [233], [], [], [880, 881, 882, 55], [], [354], [241], [], [], []]) (by decide +kernel) rfl
set_option maxRecDepth 20000 in
theorem xk_X8_venture : xTat xP xm_X8_venture := xchk_ok (ps := [[948], [], [355], [272], [], [], [781, 78, 791], [], [], [], [], [], [355], [950, 951, 952, 58], []]) (by decide +kernel) rfl
set_option maxRecDepth 20000 in
theorem xk_X8_join : xTat xP xm_X8_join := xchk_ok (ps := [[960], [], [355], [], [660, 661, 662, 58], [], [], [], [664, 666, 16, 52], [], [546, 69, 556], [], [], [], [], [], [], [], [731, 732, 52], [], [], [], [], [731, 732, 52], [], [467, 77, 509], [], [], [], [], [], [669, 670, 52], [], [], [355], [], [], [962, 963, 964, 58], [], [], [351], [124], [], [], [], [], [], [355], [], [966, 394, 395, 58], [], [], [], [], [781, 78, 791], [], [], [], [], [], [351], [], [], [], [968, 829, 830, 54], [], [355], [], [], [], [], [969, 970, 971, 58], [], [355], [], [966, 394, 395, 58], []]) (by decide +kernel) rfl
set_option maxRecDepth 20000 in
theorem xk_X8_result : xTat xP xm_X8_result := xchk_ok (ps := [[979], [], [355], [], [660, 661, 662, 58], [], [], [], [], [], [], [664, 666, 16, 52], [], [546, 69, 556], [], [], [], [], [], [], [], [731, 732, 52], [], [467, 77, 509], [], [], [], [], [], [], [], [], [355], [], [], [669, 670, 52], [962, 963, 964, 58], [], [781, 78, 791], [], [], [], [], [], [], [], [], [], [982, 984, 20, 52], [], [], [], [], [], [355], [], [], [], [996, 997, 998, 58], [], [], [351], [], [669, 670, 52], [], [968, 829, 830, 54], [], [355], [], [1008, 1001, 1002, 58], []]) (by decide +kernel) rfl
set_option maxRecDepth 20000 in
theorem xk_X8_buyOut : xTat xP xm_X8_buyOut := xchk_ok (ps := [[1015], [], [355], [], [660, 661, 662, 58], [], [], [], [664, 666, 16, 52], [], [], [], [664, 666, 16, 52], [], [546, 69, 556], [], [], [], [], [], [], [], [], [], [], [731, 732, 52], [], [467, 77, 509], [], [], [], [], [], [669, 670, 52], [], [], [669, 670, 52], [], [], [355], [], [], [962, 963, 964, 58], [], [], [355], [], [], [962, 963, 964, 58], [], [], [355], [], [], [672, 406, 407, 58], [], [], [], [351], [124], [], [], [], [], [781, 78, 791], [], [], [], [], [], [351], [], [], [], [824, 825, 826, 54], [], [355], [], [], [], [], [1018, 1019, 1020, 58], [], [355], [], [], [672, 406, 407, 58], []]) (by decide +kernel) rfl
set_option maxRecDepth 20000 in
theorem xk_X8_deposit : xTat xP xm_X8_deposit := xchk_ok (ps := [[1028], [], [351], [], [542, 543, 544, 54], [], [546, 69, 556], [], [], [], [], [], [], [], [], [], [731, 732, 52], [], [467, 77, 509], [], [], [], [], [], [], [], [351], [124], [], [], [], [], [], [], [], [], [], [], [], [356], [295], [], [], [], [], [], [1030], [731, 732, 52], [], [781, 78, 791], [], [], [], [], [], [351], [], [], [], [968, 829, 830, 54], [], [356], [295], [], [], [], [], [], [], [], [356], [295], [], [], []]) (by decide +kernel) rfl
set_option maxRecDepth 20000 in
theorem xk_X8_share : xTat xP xm_X8_share := xchk_ok (ps := [[1038], [], [], [], [731, 732, 52], [], [], [], [], [731, 732, 52], [], [], [], [], [731, 732, 52], [], [467, 77, 509], [], [], [], [], [], [356], [], [301], [], [356], [], [303], [], [356], [], [1040, 1041, 1042, 59], [], [], [356], [], [], [350], [], [713, 714, 715, 53], [1044, 1045, 1046, 59], [], [], [356], [], [299], [], [], [], [], [299], [], [356], [], [1049, 1050, 1051, 59], [], [], [351], [], [], [], [], [968, 829, 830, 54], [], [351], [], [122], [], [], [], [], [122], [], []]) (by decide +kernel) rfl
set_option maxRecDepth 20000 in
theorem xk_X8_firm : xTat xP xm_X8_firm := xchk_ok (ps := [[1069], [], [], [], [731, 732, 52], [], [], [], [], [731, 732, 52], [], [], [], [], [731, 732, 52], [], [], [], [], [731, 732, 52], [], [], [], [], [731, 732, 52], [], [], [], [], [731, 732, 52], [], [467, 77, 509], [], [], [], [], [], [357], [322], [], [], [781, 78, 791], [], [], [], [], [], [], [], [], [], [], [], [], [], [], [], [], [], [], [], [], [], [], [], [], [], [], [], [], [], [], [357], [], [], [], [], [], [1072, 1073, 1074, 60], []]) (by decide +kernel) rfl
set_option maxRecDepth 20000 in
theorem xk_X8_invest : xTat xP xm_X8_invest := xchk_ok (ps := [[1082], [], [357], [], [1083, 705, 706, 60], [], [467, 77, 509], [], [], [], [], [], [], [357], [324], [], [], [], [], [781, 78, 791], [], [], [], [], [], [351], [], [], [357], [], [357], [326], [700, 701, 702, 60], [], [357], [], [700, 701, 702, 60], [], [968, 829, 830, 54], [], [357], [], [326], [], [351], [124], [], [], []]) (by decide +kernel) rfl
set_option maxRecDepth 20000 in
theorem xk_X8_dividend : xTat xP xm_X8_dividend := xchk_ok (ps := [[1092], [], [357], [], [687, 688, 689, 60], [], [546, 69, 556], [], [], [], [], [], [], [], [731, 732, 52], [], [467, 77, 509], [], [], [], [], [], [357], [], [696, 697, 698, 60], [], [781, 78, 791], [], [], [], [], [], [357], [], [], [1095, 1096, 1097, 60], [], [], [351], [], [], [968, 829, 830, 54], [], [351], [], [], [900, 901, 902, 54], [], [357], [330], [], [], [], [], [], [], [], []]) (by decide +kernel) rfl
set_option maxRecDepth 20000 in
theorem xk_X8_pass : xTat xP xm_X8_pass := xchk_ok (ps := [[1107], [], [], [], [731, 732, 52], [], [467, 77, 509], [], [], [], [], [], [358], [], [], [], [], [781, 78, 791], [], [], [], [], [], [], [], [], [], [], [350], [], [358], [1110, 1111, 1112, 53], [], [356], [1115, 1116, 1117, 59], [], [], [358], [], [], [358], [], [1119, 1121, 22, 52], [], [358], [], [], [], [], [351], [1133, 1134, 1135, 54], [], [], [], [358], []]) (by decide +kernel) rfl
set_option maxRecDepth 20000 in
theorem xk_X8_ofPerson : xTat xP xm_X8_ofPerson := xchk_ok (ps := [[541], [], [351], [], [542, 543, 544, 54], [], [546, 69, 556], [], [], [], [], [], [], [], [351], [124], [], [], [], [], [352], [], [459, 460, 461, 55], [], [], [356], [295], [], [], [], [], [356], [297], [], [], [], [], [353], [], [562, 563, 564, 56], [], [], [353], [], [574, 575, 576, 56], [], [], [354], [], [589, 590, 591, 57], [], [], [355], [], [593, 594, 595, 58], [], [467, 77, 509], [], [], [], []]) (by decide +kernel) rfl
set_option maxRecDepth 20000 in
theorem xk_X8_ofThing : xTat xP xm_X8_ofThing := xchk_ok (ps := [[605], [], [352], [], [606, 607, 608, 55], [], [546, 69, 556], [], [], [], [], [], [], [], [352], [141], [], [], [], [], [352], [143], [], [], [], [], [352], [145], [], [], [], [], [], [], [], [], [352], [147], [], [], [], [], [], [], [], [], [352], [149], [], [], [], [], [352], [151], [], [], [], [], [352], [153], [], [], [], [467, 77, 509], [], [], [], []]) (by decide +kernel) rfl
set_option maxRecDepth 20000 in
theorem xk_X8_ofSale : xTat xP xm_X8_ofSale := xchk_ok (ps := [[619], [], [353], [], [620, 621, 622, 56], [], [546, 69, 556], [], [], [], [], [], [], [], [353], [181], [], [], [], [], [353], [183], [], [], [], [], [353], [186], [], [], [], [], [353], [188], [], [], [], [], [353], [190], [], [], [], [], [353], [192], [], [], [], [], [353], [], [625, 626, 627, 56], [], [], [353], [], [629, 630, 631, 56], [], [], [353], [195], [], [], [], [], [353], [197], [], [], [], [467, 77, 509], [], [], [], []]) (by decide +kernel) rfl
set_option maxRecDepth 20000 in
theorem xk_X8_ofLease : xTat xP xm_X8_ofLease := xchk_ok (ps := [[641], [], [354], [], [642, 643, 644, 57], [], [546, 69, 556], [], [], [], [], [], [], [], [354], [230], [], [], [], [], [354], [233], [], [], [], [], [354], [237], [], [], [], [], [], [], [], [], [354], [241], [], [], [], [], [354], [243], [], [], [], [], [354], [237], [], [], [], [], [], [], [354], [239], [], [], [], [467, 77, 509], [], [], [], []]) (by decide +kernel) rfl
set_option maxRecDepth 20000 in
theorem xk_X8_ofVenture : xTat xP xm_X8_ofVenture := xchk_ok (ps := [[659], [], [355], [], [660, 661, 662, 58], [], [], [], [664, 666, 16, 52], [], [546, 69, 556], [], [], [], [], [], [669, 670, 52], [], [], [], [], [355], [], [], [672, 406, 407, 58], [], [], [355], [], [], [673, 398, 399, 58], [], [], [355], [], [], [674, 675, 676, 58], [], [467, 77, 509], [], [], [], []]) (by decide +kernel) rfl
set_option maxRecDepth 20000 in
theorem xk_X8_ofFirm : xTat xP xm_X8_ofFirm := xchk_ok (ps := [[686], [], [357], [], [687, 688, 689, 60], [], [546, 69, 556], [], [], [], [], [], [], [], [357], [], [692, 693, 694, 60], [], [], [], [], [], [], [357], [], [696, 697, 698, 60], [], [], [], [], [], [], [357], [330], [], [], [], [], [357], [], [], [], [700, 701, 702, 60], [], [], [357], [], [], [], [708, 709, 710, 60], [], [467, 77, 509], [], [], [], []]) (by decide +kernel) rfl
set_option maxRecDepth 20000 in
theorem xk_X8_allowed : xTat xP xm_X8_allowed := xchk_ok (ps := [[1168], [], [], [], [731, 732, 52], [], [546, 69, 556], [], [], [], [], [], [], [], [358], [731, 732, 52], [], [467, 77, 509], [], [], [], [], [], [], [358], [], [], [350], [], [713, 714, 715, 53], [], [], [350], [], [], [1171, 1172, 1173, 53], []]) (by decide +kernel) rfl
set_option maxRecDepth 20000 in
theorem xk_X8_house : xTat xP xm_X8_house := xchk_ok (ps := [[438], [], [], [], [358], [], [], [351], [124], [], [], [], [], [351], [122], [], [], [356], [299], [], [], [356], [439, 440, 441, 59], [], [], [359], [], [], [353], [179], [], [], [353], [443, 444, 445, 56], [], [], [353], [447, 448, 449, 56], [], [], [354], [455, 456, 457, 57], [], [], [355], [272], [], [], [357], [326], [], [], [352], [], [459, 460, 461, 55], [], [], [351], [463, 464, 465, 54], [], [], [356], [301], [], [], [356], [303], [], [467, 77, 509], [], [], [], []]) (by decide +kernel) rfl
set_option maxRecDepth 20000 in
theorem xk_X8_tell : xTat xP xm_X8_tell := xchk_ok (ps := [[1185], [], [353], [], [620, 621, 622, 56], [], [546, 69, 556], [], [], [], [], [1186, 1187, 86], [], [1188, 1189, 86], [], [], [], [1218, 1219, 1220, 86], [], [1334, 1335, 1336, 86], [], [1218, 1219, 1220, 86], [], [353], [186], [], [], [1334, 1335, 1336, 86], [], [], [], [1218, 1219, 1220, 86], [], [353], [190], [], [], [1334, 1335, 1336, 86], [], [], [353], [], [1361, 422, 423, 56], [], [], [], [1218, 1219, 1220, 86], [], [], [], [353], [], [1363, 452, 453, 56], [], [], [], [1218, 1219, 1220, 86], [], [], [], [], [1218, 1219, 1220, 86], [], [353], [], [1366, 567, 568, 56], [1334, 1335, 1336, 86], [], [1218, 1219, 1220, 86], [], [], [1368, 1369, 1370, 86], []]) (by decide +kernel) rfl
set_option maxRecDepth 20000 in
theorem xk_X8_pillars : xTat xP xm_X8_pillars := xchk_ok (ps := [[1442], [], [352], [], [606, 607, 608, 55], [], [], [351], [], [542, 543, 544, 54], [], [546, 69, 556], [], [], [], [], [], [], [], [872, 874, 18, 52], []]) (by decide +kernel) rfl
set_option maxRecDepth 20000 in
theorem xk_X8_best : xTat xP xm_X8_best := xchk_ok (ps := [[730], [], [], [], [731, 732, 52], [], [467, 77, 509], [], [], [], [], [], [357], [], [735, 736, 737, 60], [], [], [], [], [], [], [357], [], [708, 709, 710, 60], []]) (by decide +kernel) rfl
set_option maxRecDepth 20000 in
theorem xk_X8_wouldShare : xTat xP xm_X8_wouldShare := xchk_ok (ps := [[1453], [], [351], [], [542, 543, 544, 54], [], [546, 69, 556], [], [], [], [], [], [], [], [731, 732, 52], [], [467, 77, 509], [], [], [], [], [], [356], [], [1040, 1041, 1042, 59], [], [], [356], [], [], [350], [], [713, 714, 715, 53], [1044, 1045, 1046, 59], [], [], [356], [], [], [], [356], [1455, 1054, 1055, 59], [1456, 1058, 1059, 59], []]) (by decide +kernel) rfl
set_option maxRecDepth 20000 in
theorem xk_X8_isSound : xTat xP xm_X8_isSound := xchk_ok (ps := [[384], [], [356], [385, 386, 387, 59], [], [], [355], [389, 390, 391, 58], [], [], [352], [409, 410, 411, 55], [], [], [353], [417, 418, 419, 56], [], [], [353], [425, 426, 427, 56], [], [351], [122], [], [], [], [], []]) (by decide +kernel) rfl
set_option maxRecDepth 20000 in
theorem xk_X8_digest : xTat xP xm_X8_digest := xchk_ok (ps := [[432], [433], [], [], [], [], [], [], [], [434], [], [], [], [435, 436, 437, 52], [], [], [], [], [], [], [], [534, 536, 10, 52], [], [], [], [598, 600, 11, 52], [], [], [], [612, 614, 12, 52], [], [], [], [634, 636, 13, 52], [], [], [], [648, 650, 14, 52], [], [], [], [679, 681, 17, 52], [], [], [], [], [], [], [], [434], [], [], [350], [], [713, 714, 715, 53], [], [], [], [], [], [], [], [], [], [], [434], [], [], [], [], [727, 728, 729, 52], [], [], [], [], [434], [], [], [], [], [727, 728, 729, 52], [], [], [], [], [434], [], [], [743, 382, 383, 52], [], [], [], [], [], [], []]) (by decide +kernel) rfl
set_option maxRecDepth 20000 in
theorem xk_X8_addPeople : xTat xP xm_X8_addPeople := xchk_ok (ps := [[537], [], [], [], [], [], [], [351], [120], [], [], [], [], [], [], [], [434], [], [], [], [], [538, 539, 540, 52], [], [], [], [], [], [], [], [], []]) (by decide +kernel) rfl
set_option maxRecDepth 20000 in
theorem xk_X8_addThings : xTat xP xm_X8_addThings := xchk_ok (ps := [[601], [], [], [], [], [], [], [352], [139], [], [], [], [], [], [], [], [434], [], [], [], [], [602, 603, 604, 52], [], [], [], [], [], [], [], [], []]) (by decide +kernel) rfl
set_option maxRecDepth 20000 in
theorem xk_X8_addSales : xTat xP xm_X8_addSales := xchk_ok (ps := [[615], [], [], [], [], [], [], [353], [179], [], [], [], [], [], [], [], [434], [], [], [], [], [616, 617, 618, 52], [], [], [], [], [], [], [], [], []]) (by decide +kernel) rfl
set_option maxRecDepth 20000 in
theorem xk_X8_addLeases : xTat xP xm_X8_addLeases := xchk_ok (ps := [[637], [], [], [], [], [], [], [354], [228], [], [], [], [], [], [], [], [434], [], [], [], [], [638, 639, 640, 52], [], [], [], [], [], [], [], [], []]) (by decide +kernel) rfl
set_option maxRecDepth 20000 in
theorem xk_X8_addVentures : xTat xP xm_X8_addVentures := xchk_ok (ps := [[651], [], [], [], [], [], [], [355], [272], [], [], [], [], [], [351], [120], [], [], [], [], [], [652, 654, 15, 52], [], [], [], [], [], [], [], [652, 654, 15, 52], [], [], [], [], []]) (by decide +kernel) rfl
set_option maxRecDepth 20000 in
theorem xk_X8_addPartner : xTat xP xm_X8_addPartner := xchk_ok (ps := [[655], [], [], [], [], [], [], [], [], [434], [], [], [], [], [], [656, 657, 658, 52], [], [], [], [], [], [], []]) (by decide +kernel) rfl
set_option maxRecDepth 20000 in
theorem xk_X8_addFirms : xTat xP xm_X8_addFirms := xchk_ok (ps := [[682], [], [], [], [], [], [], [357], [322], [], [], [], [], [], [], [], [434], [], [], [], [], [683, 684, 685, 52], [], [], [], [], [], [], [], [], []]) (by decide +kernel) rfl
set_option maxRecDepth 20000 in
theorem xk_X8_isIn : xTat xP xm_X8_isIn := xchk_ok (ps := [[733], [], [], [], [], [], [], [], [], [], []]) (by decide +kernel) rfl
set_option maxRecDepth 20000 in
theorem xk_X8_portion : xTat xP xm_X8_portion := xchk_ok (ps := [[588], [], [], [], [], [], [], [], [], [], [], [], [], []]) (by decide +kernel) rfl
set_option maxRecDepth 20000 in
theorem xk_X8_isParty : xTat xP xm_X8_isParty := xchk_ok (ps := [[667], [], [], [], [], [351], [], [542, 543, 544, 54], [], [], [], [], []]) (by decide +kernel) rfl
set_option maxRecDepth 20000 in
theorem xk_X8_placeOf : xTat xP xm_X8_placeOf := xchk_ok (ps := [[671], [], [], [], [], [], [], []]) (by decide +kernel) rfl
set_option maxRecDepth 20000 in
theorem xk_X8_missingPillars : xTat xP xm_X8_missingPillars := xchk_ok (ps := [[875], [], [], [], [352], [143], [], [], [], [], [], [], [], [], [], [], [352], [145], [], [], [], [], [350], [], [713, 714, 715, 53], [], [], [], [], [], [], [352], [147], [], [], [], [], [], [], [], [], [352], [151], [], [], [], [], [], [], [], [], [], []]) (by decide +kernel) rfl
set_option maxRecDepth 20000 in
theorem xk_X8_canLease : xTat xP xm_X8_canLease := xchk_ok (ps := [[928], [], [352], [143], [], [], [], [], [], [352], [145], [], [], [], [], [352], [147], [], [], [], [], [352], [], [822, 414, 415, 55], [], [], [352], [151], [], [], [], [], [], [350], [], [713, 714, 715, 53], [], [], [], [], []]) (by decide +kernel) rfl
set_option maxRecDepth 20000 in
theorem xk_X8_shareProfit : xTat xP xm_X8_shareProfit := xchk_ok (ps := [[985], [], [], [], [], [], [], [], [], [], [], [355], [], [], [673, 398, 399, 58], [], [986], [987, 587, 52], [], [], [], [], [], [988, 990, 21, 52], [], [], [], [], [], [], [], [], [], [], [988, 990, 21, 52], []]) (by decide +kernel) rfl
set_option maxRecDepth 20000 in
theorem xk_X8_creditProfit : xTat xP xm_X8_creditProfit := xchk_ok (ps := [[991], [], [355], [], [], [], [992, 993, 994, 58], [], [351], [], [], [968, 829, 830, 54], []]) (by decide +kernel) rfl
set_option maxRecDepth 20000 in
theorem xk_X8_collectRents : xTat xP xm_X8_collectRents := xchk_ok (ps := [[1122], [], [], [], [], [354], [228], [], [], [354], [], [], [358], [1123, 1124, 1125, 57], [], [], [354], [], [], [359], [1127, 1128, 1129, 57], [], [], [351], [], [354], [233], [], [], [], [], [824, 825, 826, 54], [], [], []]) (by decide +kernel) rfl
set_option maxRecDepth 20000 in
theorem xk_X9_init : xTat xP xm_X9_init := xchk_ok (ps := [[748], [], [749, 96, 97], []]) (by decide +kernel) rfl
set_option maxRecDepth 20000 in
theorem xk_X10_init : xTat xP xm_X10_init := xchk_ok (ps := [[1841], [], [1842, 96, 97], [], [], [1843], [], [], [1845], [], [], [1847], [], [], [1849], [], [], [1851], []]) (by decide +kernel) rfl
set_option maxRecDepth 20000 in
theorem xk_X11_init : xTat xP xm_X11_init := xchk_ok (ps := [[1770], [], [1771, 96, 97], [], [], [1772], [], [], [1774], [], [], [1776], [], [], [1778], [], [], [1780], [], [], [1782], [], [], [1784], []]) (by decide +kernel) rfl
set_option maxRecDepth 20000 in
theorem xk_X11_isOpen : xTat xP xm_X11_isOpen := xchk_ok (ps := [[1820], [], [1782], [], [], [1785], [], [1780], [], [], [], [], []]) (by decide +kernel) rfl
set_option maxRecDepth 20000 in
theorem xk_X11_part : xTat xP xm_X11_part := xchk_ok (ps := [[1824], [], [], [], [], [1780], [], [], [1776], [], [1780], [], [], [], [1776], [], [1776], [], [1780], [], [], [1780], [], [], [], [], []]) (by decide +kernel) rfl
set_option maxRecDepth 20000 in
theorem xk_X11_due : xTat xP xm_X11_due := xchk_ok (ps := [[1828], [], [1784], [], [], [1785], [], [], [], [], []]) (by decide +kernel) rfl
set_option maxRecDepth 20000 in
theorem xk_X11_left : xTat xP xm_X11_left := xchk_ok (ps := [[2001], [], [], [], [1785], [], [], [], [1780], [], [], [1782], [], [], [], [], [2002, 1822, 1823, 82], [], [], [], [], [], []]) (by decide +kernel) rfl
set_option maxRecDepth 20000 in
theorem xk_X12_init : xTat xP xm_X12_init := xchk_ok (ps := [[1694], [], [1695, 96, 97], [], [], [1700], [], [], [1704], [], [], [1696], [], [], [1698], []]) (by decide +kernel) rfl
set_option maxRecDepth 20000 in
theorem xk_X13_init : xTat xP xm_X13_init := xchk_ok (ps := [[1885], [], [1886, 96, 97], [], [], [171], [1887], [], [], [111], [1889], [], [], [111], [1891], [], [], [111], [1893], []]) (by decide +kernel) rfl
set_option maxRecDepth 20000 in
theorem xk_X13_all : xTat xP xm_X13_all := xchk_ok (ps := [[1922], [], [], [], [], [], [], [], [], [], [], [], [], [], [], [], [], [], [], [], [], [], [], [], []]) (by decide +kernel) rfl
set_option maxRecDepth 20000 in
theorem xk_X13_lose : xTat xP xm_X13_lose := xchk_ok (ps := [[1934], [], [], [1889], [1935, 1920, 1921, 84], [], [], [], [1936, 1005, 73, 1006], [], [], [111], [], [], [], [], [], [], [], [], [], [], [], [], [], [], [1889], [], [], [], [], [], [], [], [], [], [], [], [], [], [], [], [], [], [], [], [1889], [], [], [], [], [], [], [], [], [], [], [], [], [], [], [], [], [], [], [], [], [], [], [], [], [], [], [], [], [], [], [1889], [], [], [], [], [], [], [], [], [], [], []]) (by decide +kernel) rfl
set_option maxRecDepth 20000 in
theorem xk_X14_isIn : xTat xP xm_X14_isIn := xchk_ok (ps := [[1557], [], [], [], [], [], [], [], [], [], []]) (by decide +kernel) rfl
set_option maxRecDepth 20000 in
theorem xk_X14_one : xTat xP xm_X14_one := xchk_ok (ps := [[1568], [], [], [], [], [], []]) (by decide +kernel) rfl
set_option maxRecDepth 20000 in
theorem xk_X14_has : xTat xP xm_X14_has := xchk_ok (ps := [[1977], [], [], [], [], [], [], [], [], [], [], []]) (by decide +kernel) rfl
set_option maxRecDepth 20000 in
theorem xk_X14_init : xTat xP xm_X14_init := xchk_ok (ps := [[1461], [], [1462, 96, 97], [], [], [1496], [], [], [1497], [], [], [1498], [], [], [111], [1501], [], [], [111], [1502], [], [], [111], [1503], [], [1463, 1464, 64], [], [1465, 1466, 64], [1504], [], [1463, 1464, 64], [], [1465, 1466, 64], [1505], [], [1463, 1464, 64], [], [1465, 1466, 64], [1506], [], [1463, 1464, 64], [], [1465, 1466, 64], [1507], [], [1463, 1464, 64], [], [1465, 1466, 64], [1508], [], [1463, 1464, 64], [], [1465, 1466, 64], [1509], [], [1501], [], [], [], []]) (by decide +kernel) rfl
set_option maxRecDepth 20000 in
theorem xk_X14_thrown : xTat xP xm_X14_thrown := xchk_ok (ps := [[1550], [], [1492], []]) (by decide +kernel) rfl
set_option maxRecDepth 20000 in
theorem xk_X14_refuse : xTat xP xm_X14_refuse := xchk_ok (ps := [[1565], [], [], [], [1492], [], [], [], [1492], [], [1492], [], [], [], [], []]) (by decide +kernel) rfl
set_option maxRecDepth 20000 in
theorem xk_X14_start : xTat xP xm_X14_start := xchk_ok (ps := [[1561], [], [], [1492], [], [], [], [1562, 1564, 24, 61], []]) (by decide +kernel) rfl
set_option maxRecDepth 20000 in
theorem xk_X14_isNobody : xTat xP xm_X14_isNobody := xchk_ok (ps := [[1685], [], [], [], [1500], [], [], [1555, 1556, 61], [], [], [], [], []]) (by decide +kernel) rfl
set_option maxRecDepth 20000 in
theorem xk_X14_isNoThing : xTat xP xm_X14_isNoThing := xchk_ok (ps := [[1726], [], [], [], [1505], [1686, 1687, 1688, 64], [], [], [1555, 1556, 61], [], [], [], [], []]) (by decide +kernel) rfl
set_option maxRecDepth 20000 in
theorem xk_X14_forIt : xTat xP xm_X14_forIt := xchk_ok (ps := [[1626], [], [111], [], [], [], [], [], [], [], [], [], [], [], [], [], [], [], [], [], [], [], [], [], [], [1504], [1627, 1628, 1629, 64], [], [], [1651, 1655, 1657, 76], [], [], [1661, 1664, 1666, 76], [1673], [], [], [], [], [], [], [], [], [], [], [], [], [], [], [], [], [], [], [], [], [], [], [], [], [], [], [], [], [], [], [], [], [], [], [], [], [], [], [], [], [], [], [], []]) (by decide +kernel) rfl
set_option maxRecDepth 20000 in
theorem xk_X14_isAllowed : xTat xP xm_X14_isAllowed := xchk_ok (ps := [[1767], [], [], [], [1623, 1625, 28, 61], [], [], [], [], [], []]) (by decide +kernel) rfl
set_option maxRecDepth 20000 in
theorem xk_X14_hold : xTat xP xm_X14_hold := xchk_ok (ps := [[1554], [], [], [], [], [1555, 1556, 61], [], [], [], [], [1555, 1556, 61], [], [], [], [], [], [1558, 1560, 23, 61], [], [], [], [], [1504], [], [111], [], [], [], [1493], [], [], [], [], [], [], [], [], [], [], [], [], [1566, 1567, 61], [], [1569, 1570, 1571, 64], [], [], [], [], [1493], [1623, 1625, 28, 61], []]) (by decide +kernel) rfl
set_option maxRecDepth 20000 in
theorem xk_X14_person : xTat xP xm_X14_person := xchk_ok (ps := [[1677], [], [], [], [], [1555, 1556, 61], [], [], [], [], [], [1558, 1560, 23, 61], [], [], [], [1500], [], [], [], [], [], [], [1562, 1564, 24, 61], [], [], [], [], [1501], [], [1500], [], [], [], [], [1500], [], [], [1500], [], [1500], [], [], []]) (by decide +kernel) rfl
set_option maxRecDepth 20000 in
theorem xk_X14_thing : xTat xP xm_X14_thing := xchk_ok (ps := [[1681], [], [], [], [], [], [], [1682, 1684, 29, 61], [], [], [], [], [], [1558, 1560, 23, 61], [], [], [], [], [], [1555, 1556, 61], [], [], [], [], [], [1562, 1564, 24, 61], [], [], [], [1505], [1686, 1687, 1688, 64], [], [], [], [], [], [], [1562, 1564, 24, 61], [], [], [], [], [1505], [1690, 1691, 79], [], [], [], [], [], [], [], [], [1692, 1693, 79], [1569, 1570, 1571, 64], [], [], [1505], [1686, 1687, 1688, 64], [], [], []]) (by decide +kernel) rfl
set_option maxRecDepth 20000 in
theorem xk_X14_leaseOf : xTat xP xm_X14_leaseOf := xchk_ok (ps := [[1744], [], [], [], [], [1507], [1686, 1687, 1688, 64], [], [], [1507], [], [1727, 1728, 1729, 64], [1745], [1844], [], [], [], [1507], [], [1727, 1728, 1729, 64], [1745], [1853], [], [], [], [], [], [], []]) (by decide +kernel) rfl
set_option maxRecDepth 20000 in
theorem xk_X14_buy : xTat xP xm_X14_buy := xchk_ok (ps := [[1722], [], [], [], [1723, 1725, 30, 61], [], [1558, 1560, 23, 61], [], [], [], [], [1505], [], [1727, 1728, 1729, 64], [1690], [], [], [], [1699], [], [], [], [1702], [], [], [], [1741, 1743, 31, 61], [], [], [], [], [], [], [1562, 1564, 24, 61], [], [], [], [], [1501], [], [], [], [], [1697], [], [], [], [1699], [], [], [], [1501], [], [1699], [], [], [], [1697], [], [], [], [], [1697], [1703], [], [], [1699], [1705], [], [], [1699], [], [], [1701], [], [1697], []]) (by decide +kernel) rfl
set_option maxRecDepth 20000 in
theorem xk_X14_take : xTat xP xm_X14_take := xchk_ok (ps := [[1749], [], [], [], [1723, 1725, 30, 61], [], [1558, 1560, 23, 61], [], [], [], [1505], [], [1727, 1728, 1729, 64], [1690], [1699], [], [], [], [1505], [], [1727, 1728, 1729, 64], [1690], [1701], [], [], [], [], [], [1562, 1564, 24, 61], [], [], [], [], [1505], [], [1727, 1728, 1729, 64], [1690], [], [1701], [], [], [], [1505], [1627, 1628, 1629, 64], [], [], [1651, 1655, 1657, 76], [], [], [1661, 1664, 1666, 76], [1690], [], [], [], [1699], [], [], [], [1701], [], [], [], [], [1566, 1567, 61], [], [], [], [], []]) (by decide +kernel) rfl
set_option maxRecDepth 20000 in
theorem xk_X14_ruin : xTat xP xm_X14_ruin := xchk_ok (ps := [[1753], [], [], [], [1723, 1725, 30, 61], [], [1558, 1560, 23, 61], [], [], [], [1505], [], [1727, 1728, 1729, 64], [1690], [1702], [], [1562, 1564, 24, 61], [], [], [], [], [1505], [], [1727, 1728, 1729, 64], [1690], [], [1702], [], [], [1741, 1743, 31, 61], [], [], [], [1507], [], [], [1741, 1743, 31, 61], [1727, 1728, 1729, 64], [1745], [], [1853], [], [1505], [], [1727, 1728, 1729, 64], [1690], [1697], []]) (by decide +kernel) rfl
set_option maxRecDepth 20000 in
theorem xk_X14_missing : xTat xP xm_X14_missing := xchk_ok (ps := [[1763], [], [1699], [], [], [], [], [], [1566, 1567, 61], [], [1699], [], [], [], [1701], [], [], [], [], [1493], [1764, 1766, 33, 61], [], [], [], [], [1566, 1567, 61], [], [], [], [], [1702], [1566, 1567, 61], [], [], [], [], [1705], [], [], [], [], [], [1566, 1567, 61], [], [], [], []]) (by decide +kernel) rfl
set_option maxRecDepth 20000 in
theorem xk_X14_sell : xTat xP xm_X14_sell := xchk_ok (ps := [[1757], [], [], [], [1723, 1725, 30, 61], [], [], [], [1682, 1684, 29, 61], [], [], [], [], [], [1558, 1560, 23, 61], [], [], [], [], [], [1555, 1556, 61], [], [], [], [], [1555, 1556, 61], [], [], [], [], [], [1562, 1564, 24, 61], [], [], [], [1506], [1686, 1687, 1688, 64], [], [], [], [], [1741, 1743, 31, 61], [], [], [], [], [], [], [1562, 1564, 24, 61], [], [], [], [], [1505], [], [1727, 1728, 1729, 64], [1690], [], [1758, 1759, 82], [], [], [], [], [1703], [], [1703], [], [], [], [], [], [], [], [], [], [], [1760, 1762, 32, 61], [], [1493], [1768, 1769, 82], [], [], [1506], [], [1569, 1570, 1571, 64], [], [], [1783], [], [], [], [1810, 1811, 61], [], [1506], [1686, 1687, 1688, 64], [], [], []]) (by decide +kernel) rfl
set_option maxRecDepth 20000 in
theorem xk_X14_give : xTat xP xm_X14_give := xchk_ok (ps := [[1812], [], [], [1699], [], [], [1701], []]) (by decide +kernel) rfl
set_option maxRecDepth 20000 in
theorem xk_X14_pay : xTat xP xm_X14_pay := xchk_ok (ps := [[1816], [], [], [], [], [1506], [1686, 1687, 1688, 64], [], [], [1555, 1556, 61], [], [], [], [], [], [1558, 1560, 23, 61], [], [], [], [1506], [], [1727, 1728, 1729, 64], [1758], [1817, 1818, 1819, 82], [], [], [], [], [], [1562, 1564, 24, 61], [], [], [], [], [1506], [], [1727, 1728, 1729, 64], [1758], [], [], [], [1786], [1821, 1822, 1823, 82], [], [], [1493], [], [1825, 1826, 1827, 82], [], [], [], [], [], [], [], [], [1493], [1764, 1766, 33, 61], [], [], [], [], [], [], [], [1829, 894, 73, 895], [], [], [], [], [], [], [], [], [], [1493], [1764, 1766, 33, 61], [], [], [1779], [], [], [], [], [1779], [], [], [], [], [], [], [], [], [], [1786], [], [], [1786], [], [], [1787], [], [], [1787], [], [], [1788], [], [], [1788], [], [], [1494], [], [], [1494], [], [1501], [], [1775], [], [], [], [], [], [], [], [], [], [], [1501], [], [], [], [], [], [], [], [], [], [], [], []]) (by decide +kernel) rfl
set_option maxRecDepth 20000 in
theorem xk_X14_benchmark : xTat xP xm_X14_benchmark := xchk_ok (ps := [[1833], [], [], [], [], [1555, 1556, 61], [], [], [], [], [], [1558, 1560, 23, 61], [], [], [], [], [1496], [], [], [], [1496], [], []]) (by decide +kernel) rfl
set_option maxRecDepth 20000 in
theorem xk_X14_lease : xTat xP xm_X14_lease := xchk_ok (ps := [[1837], [], [], [], [1723, 1725, 30, 61], [], [], [], [1682, 1684, 29, 61], [], [], [], [], [], [1558, 1560, 23, 61], [], [], [], [], [], [1555, 1556, 61], [], [], [], [], [1555, 1556, 61], [], [], [], [], [], [1562, 1564, 24, 61], [], [], [], [], [1505], [], [1727, 1728, 1729, 64], [1690], [], [], [], [1507], [1686, 1687, 1688, 64], [], [], [], [1699], [], [], [], [1701], [], [], [1705], [], [], [], [], [], [1493], [1764, 1766, 33, 61], [], [], [1702], [], [], [], [1741, 1743, 31, 61], [], [], [], [], [], [], [1562, 1564, 24, 61], [], [], [], [], [1507], [1745, 1838, 83], [], [], [], [], [], [], [1493], [1839, 1840, 83], [1569, 1570, 1571, 64], [], [], [1507], [1686, 1687, 1688, 64], [], [], []]) (by decide +kernel) rfl
set_option maxRecDepth 20000 in
theorem xk_X14_end : xTat xP xm_X14_end := xchk_ok (ps := [[1876], [], [], [], [], [1507], [1686, 1687, 1688, 64], [], [], [1555, 1556, 61], [], [], [], [], [], [1558, 1560, 23, 61], [], [], [], [1507], [], [1727, 1728, 1729, 64], [1745], [1853], [], [1562, 1564, 24, 61], [], [], [], [], [1507], [], [1727, 1728, 1729, 64], [1745], [], [], [], [1853], [], [], [], [1505], [], [1844], [1727, 1728, 1729, 64], [1690], [], [1846], [1810, 1811, 61], [], [1854], []]) (by decide +kernel) rfl
set_option maxRecDepth 20000 in
theorem xk_X14_venture : xTat xP xm_X14_venture := xchk_ok (ps := [[1880], [], [], [1508], [1686, 1687, 1688, 64], [], [], [], [], [], [], [1558, 1560, 23, 61], [], [], [], [], [1508], [1881, 1882, 84], [], [1883, 1884, 84], [1569, 1570, 1571, 64], [], [], [1508], [1686, 1687, 1688, 64], [], [], []]) (by decide +kernel) rfl
set_option maxRecDepth 20000 in
theorem xk_X14_isNoVenture : xTat xP xm_X14_isNoVenture := xchk_ok (ps := [[1911], [], [], [], [1508], [1686, 1687, 1688, 64], [], [], [1555, 1556, 61], [], [], [], [], []]) (by decide +kernel) rfl
set_option maxRecDepth 20000 in
theorem xk_X14_isNoOne : xTat xP xm_X14_isNoOne := xchk_ok (ps := [[1915], [], [], [], [], [], [1682, 1684, 29, 61], [], [], [], [], []]) (by decide +kernel) rfl
set_option maxRecDepth 20000 in
theorem xk_X14_seat : xTat xP xm_X14_seat := xchk_ok (ps := [[1918], [], [], [], [], [], [], []]) (by decide +kernel) rfl
set_option maxRecDepth 20000 in
theorem xk_X14_join : xTat xP xm_X14_join := xchk_ok (ps := [[1907], [], [], [], [1908, 1910, 34, 61], [], [], [], [1912, 1914, 35, 61], [], [], [], [], [], [1558, 1560, 23, 61], [], [], [], [], [], [1555, 1556, 61], [], [], [], [], [1555, 1556, 61], [], [], [], [], [], [1562, 1564, 24, 61], [], [], [], [], [1508], [], [1727, 1728, 1729, 64], [1881], [], [], [1916, 1917, 61], [], [], [], [1888], [], [], [], [], [1501], [], [], [], [], [], [], [1892], [1919, 1920, 1921, 84], [], [], [], [], [], [], [], [], [1562, 1564, 24, 61], [], [], [], [], [1888], [], [], [], [], [1890], [], [], [], [], [1892], [], [], [], [], [1501], [], [], [], [], [], [], [], [], [1892], [1919, 1920, 1921, 84], []]) (by decide +kernel) rfl
set_option maxRecDepth 20000 in
theorem xk_X14_result : xTat xP xm_X14_result := xchk_ok (ps := [[1926], [], [], [], [1908, 1910, 34, 61], [], [], [], [], [], [], [1912, 1914, 35, 61], [], [], [], [], [], [1558, 1560, 23, 61], [], [], [], [], [], [1555, 1556, 61], [], [], [], [], [], [1562, 1564, 24, 61], [], [], [], [], [], [], [1508], [], [1727, 1728, 1729, 64], [1881], [1888], [], [1916, 1917, 61], [], [], [], [], [], [], [1562, 1564, 24, 61], [], [], [], [], [1508], [], [1727, 1728, 1729, 64], [1881], [], [], [], [], [], [], [1927, 1929, 36, 61], [], [], [], [], [], [], [], [1931, 1932, 1933, 84], [], [], [1501], [], [1916, 1917, 61], [], [], [], [], [], [], [], [1890], [1919, 1920, 1921, 84], []]) (by decide +kernel) rfl
set_option maxRecDepth 20000 in
theorem xk_X14_profit : xTat xP xm_X14_profit := xchk_ok (ps := [[1930], [], [], [], [], [], [], [], [], [], [], [], [], [], [], [1892], [], [], [], [], [], [], [], [], [], [], [], [1894], [], [], [], [], [], [], [], [1501], [], [], [], [], [], [], [], [], []]) (by decide +kernel) rfl
set_option maxRecDepth 20000 in
theorem xk_X14_buyOut : xTat xP xm_X14_buyOut := xchk_ok (ps := [[1940], [], [], [], [1908, 1910, 34, 61], [], [], [], [1912, 1914, 35, 61], [], [], [], [1912, 1914, 35, 61], [], [], [], [], [], [1558, 1560, 23, 61], [], [], [], [], [], [], [], [], [1555, 1556, 61], [], [], [], [], [], [1562, 1564, 24, 61], [], [], [], [], [1508], [], [1727, 1728, 1729, 64], [1881], [], [], [1916, 1917, 61], [], [], [1916, 1917, 61], [], [], [], [1888], [], [], [], [], [1888], [], [], [], [], [1890], [], [], [], [], [], [1501], [], [], [], [], [], [], [], [], [1562, 1564, 24, 61], [], [], [], [], [1890], [], [], [], [], [], [], [], [1890], [], [], [], [], [], [], [], [1501], [], [], [], [], [], [], [], [1501], [], [], [], [], [], [], [], [1890], [], [], []]) (by decide +kernel) rfl
set_option maxRecDepth 20000 in
theorem xk_X14_deposit : xTat xP xm_X14_deposit := xchk_ok (ps := [[1944], [], [], [], [1682, 1684, 29, 61], [], [1558, 1560, 23, 61], [], [], [], [], [], [], [], [1555, 1556, 61], [], [], [], [], [], [1562, 1564, 24, 61], [], [], [], [], [], [1501], [], [], [], [], [], [], [], [1502], [], [], [], [], [], [], [1502], [], [], [], [], [1945], [], [], [], [], [], [1562, 1564, 24, 61], [], [], [], [], [1502], [], [], [], [], [], [], [], [1501], [], [], [], [], [], [], [], [1502], [], [], []]) (by decide +kernel) rfl
set_option maxRecDepth 20000 in
theorem xk_X14_shared : xTat xP xm_X14_shared := xchk_ok (ps := [[1953], [], [111], [], [], [], [], [], [], [], [], [], [], [], [], [], [], [], [], [1493], [1764, 1766, 33, 61], [], [], [], [], [], [], [], [], [], [1495], [], [], [], [1954, 1005, 73, 1006], [], [], [], [], [], [], [], [], [], [1503], [], [], [], [], [], [], [], [], [], [], [], [], [], [], [], [], [], [], [], [], [], [], [], [], [], [], [1500], [], [], [], [], [], [], [], [1945], [], [1502], [], [], [], [], [], [], [1503], [], [], [], [], [], [], [], [1954, 1005, 73, 1006], [], [], [], [], [], [], [], [], [], [], [], [], [], [], [], [], [], [], [], [], [], [], []]) (by decide +kernel) rfl
set_option maxRecDepth 20000 in
theorem xk_X14_share : xTat xP xm_X14_share := xchk_ok (ps := [[1949], [], [], [], [], [1555, 1556, 61], [], [], [], [], [1555, 1556, 61], [], [], [], [], [1555, 1556, 61], [], [], [], [], [], [1558, 1560, 23, 61], [], [], [], [], [], [1497], [], [], [1498], [], [], [], [], [1950, 1952, 37, 61], [], [], [], [], [], [], [], [], [], [1502], [], [], [], [], [], [], [], [], [], [], [], [], [], [], [], [1503], [], [], [], [], [], [], [1501], [], [], [], [], [], [], [], [], [], [], [1495], [], [], [], [], [1495], [], [], [1494], [], [], [], [], [1494], [], []]) (by decide +kernel) rfl
set_option maxRecDepth 20000 in
theorem xk_X14_firm : xTat xP xm_X14_firm := xchk_ok (ps := [[1958], [], [], [], [], [1555, 1556, 61], [], [], [], [], [1555, 1556, 61], [], [], [], [], [1555, 1556, 61], [], [], [], [], [1555, 1556, 61], [], [], [], [], [1555, 1556, 61], [], [], [], [], [1555, 1556, 61], [], [], [], [], [], [1558, 1560, 23, 61], [], [], [], [1509], [1686, 1687, 1688, 64], [], [], [], [], [], [], [1562, 1564, 24, 61], [], [], [], [], [1509], [], [111], [], [], [], [], [], [], [], [], [], [], [], [], [], [], [], [], [], [], [], [], [], [], [], [], [], [], [], [], [1569, 1570, 1571, 64], [], [], [1509], [1686, 1687, 1688, 64], [], [], []]) (by decide +kernel) rfl
set_option maxRecDepth 20000 in
theorem xk_X14_isClean : xTat xP xm_X14_isClean := xchk_ok (ps := [[1970], [], [1509], [], [1727, 1728, 1729, 64], [1673], [], [], [], [], [], [], [], [], [], [], [], [], [], [], [], [], [], [], [], [], [], [], [], [], [], [], [], [], [], [], [], [], [], [], [], [], [], []]) (by decide +kernel) rfl
set_option maxRecDepth 20000 in
theorem xk_X14_clean : xTat xP xm_X14_clean := xchk_ok (ps := [[1966], [], [], [], [], [], [], [1509], [1686, 1687, 1688, 64], [], [], [], [], [1967, 1969, 39, 61], [1566, 1567, 61], [], [], [], [], [], [], [], []]) (by decide +kernel) rfl
set_option maxRecDepth 20000 in
theorem xk_X14_sumOf : xTat xP xm_X14_sumOf := xchk_ok (ps := [[1974], [], [], [], [], [], [], [1509], [1686, 1687, 1688, 64], [], [], [], [1975, 1976, 61], [], [], [], [1509], [], [1727, 1728, 1729, 64], [1673], [], [], [], [], [], [], [], []]) (by decide +kernel) rfl
set_option maxRecDepth 20000 in
theorem xk_X14_invest : xTat xP xm_X14_invest := xchk_ok (ps := [[1962], [], [], [], [], [], [1509], [1686, 1687, 1688, 64], [], [], [], [], [], [], [1558, 1560, 23, 61], [], [], [], [], [1963, 1965, 38, 61], [], [], [], [], [], [], [], [], [1562, 1564, 24, 61], [], [], [], [], [1501], [], [], [], [], [], [1499], [], [1971, 1973, 40, 61], [], [], [], [1971, 1973, 40, 61], [], [], [], [], [], [1499], [], [1501], [], [], []]) (by decide +kernel) rfl
set_option maxRecDepth 20000 in
theorem xk_X14_dividend : xTat xP xm_X14_dividend := xchk_ok (ps := [[1981], [], [], [], [], [1509], [1686, 1687, 1688, 64], [], [], [1555, 1556, 61], [], [], [], [], [], [1558, 1560, 23, 61], [], [], [], [], [], [1555, 1556, 61], [], [], [], [], [], [1562, 1564, 24, 61], [], [], [], [1499], [], [1975, 1976, 61], [], [], [], [], [], [1562, 1564, 24, 61], [], [], [], [], [1509], [], [1727, 1728, 1729, 64], [1673], [], [], [], [], [], [], [], [], [], [], [], [], [], [], [], [], [], [1954, 1005, 73, 1006], [], [], [], [], [], [], [], [], [], [], [1494], [], [], [1494], [], [1501], [], [], [], [], [], [], [], [], [], []]) (by decide +kernel) rfl
set_option maxRecDepth 20000 in
theorem xk_X14_rents : xTat xP xm_X14_rents := xchk_ok (ps := [[1989], [], [1507], [1627, 1628, 1629, 64], [], [], [1651, 1655, 1657, 76], [], [], [1661, 1664, 1666, 76], [1745], [], [], [1853], [], [], [1493], [], [1852], [], [], [], [], [], [], [1505], [], [1844], [1727, 1728, 1729, 64], [1690], [1697], [], [1850], [], [1848], [], [1496], [1829, 894, 73, 895], [1954, 1005, 73, 1006], [], [], [], [], [], [], [1854], [], [], [1854], [], [], [1855], [], [], [1855], [], [1501], [], [1846], [], [], [], [], [], [], [1501], [], [], [], [], [], [], [], []]) (by decide +kernel) rfl
set_option maxRecDepth 20000 in
theorem xk_X14_pass : xTat xP xm_X14_pass := xchk_ok (ps := [[1985], [], [], [], [], [1555, 1556, 61], [], [], [], [], [], [1558, 1560, 23, 61], [], [], [], [1493], [], [], [], [], [], [], [], [], [1562, 1564, 24, 61], [], [], [], [], [], [], [], [], [], [], [], [], [1500], [], [], [1503], [], [], [], [], [1502], [], [], [], [], [], [], [], [], [1493], [], [], [1493], [], [1986, 1988, 41, 61], [], [], [], [], [1500], [], [], [1493], [], [], [], [], [1501], [], [], [], [], [], [1501], [], [], [], [], [], [], [], [], [1501], [], [], [], [], [], [], [], [], [1494], [], [], [1494], [], [], [], [], [], [1493], []]) (by decide +kernel) rfl
set_option maxRecDepth 20000 in
theorem xk_X14_personTold : xTat xP xm_X14_personTold := xchk_ok (ps := [[1997], [], [], [], [], [], [], [], [], [], [], [], [1505], [1627, 1628, 1629, 64], [], [], [1651, 1655, 1657, 76], [], [], [1661, 1664, 1666, 76], [1690], [], [], [], [1699], [], [], [], [], [], [1566, 1567, 61], [], [], [], [], [1506], [1627, 1628, 1629, 64], [], [], [1651, 1655, 1657, 76], [], [], [1661, 1664, 1666, 76], [1758], [], [], [1775], [], [], [], [1783], [], [], [], [], [1781], [], [1786], [], [], [], [], [], [1998, 1999, 2000, 82], [], [], [], [], [1507], [1627, 1628, 1629, 64], [], [], [1651, 1655, 1657, 76], [], [], [1661, 1664, 1666, 76], [1745], [], [], [], [1846], [], [], [], [1853], [], [], [], [], [1566, 1567, 61], [], [], [], [], [1508], [1627, 1628, 1629, 64], [], [], [1651, 1655, 1657, 76], [], [], [1661, 1664, 1666, 76], [1881], [], [], [], [1890], [], [], [], [], [], [], [111], [], [], [], [1501], [], [], [], [], [], [], [], [], [], [], [1502], [], [], [], [], [], [], [1503], [], [], [], [], [], [], [], [], [], [], [], [], [], [], [], [], [], [], [], [], [], [], [], []]) (by decide +kernel) rfl
set_option maxRecDepth 20000 in
theorem xk_X14_ofPerson : xTat xP xm_X14_ofPerson := xchk_ok (ps := [[1993], [], [], [], [1682, 1684, 29, 61], [], [1558, 1560, 23, 61], [], [], [], [], [], [1555, 1556, 61], [], [], [], [], [], [1562, 1564, 24, 61], [], [], [], [], [], [], [1994, 1996, 42, 61], []]) (by decide +kernel) rfl
set_option maxRecDepth 20000 in
theorem xk_X14_thingTold : xTat xP xm_X14_thingTold := xchk_ok (ps := [[2010], [], [1505], [], [1727, 1728, 1729, 64], [1690], [], [], [111], [], [], [], [1697], [], [], [], [], [1699], [], [], [], [], [1701], [1566, 1567, 61], [], [], [], [], [1702], [1566, 1567, 61], [], [], [], [], [1703], [], [], [], [], [1705], [], [], [], [], [], [1741, 1743, 31, 61], [], [], [], [], [], []]) (by decide +kernel) rfl
set_option maxRecDepth 20000 in
theorem xk_X14_ofThing : xTat xP xm_X14_ofThing := xchk_ok (ps := [[2006], [], [], [], [1723, 1725, 30, 61], [], [1558, 1560, 23, 61], [], [], [], [], [], [1555, 1556, 61], [], [], [], [], [], [1562, 1564, 24, 61], [], [], [], [], [], [], [2007, 2009, 43, 61], []]) (by decide +kernel) rfl
set_option maxRecDepth 20000 in
theorem xk_X14_saleTold : xTat xP xm_X14_saleTold := xchk_ok (ps := [[2018], [], [1506], [], [1727, 1728, 1729, 64], [1758], [], [], [111], [], [], [], [1773], [], [], [], [], [1775], [], [], [], [], [1777], [], [], [], [], [1783], [], [], [], [], [1781], [], [], [], [], [1786], [], [], [], [], [1817, 1818, 1819, 82], [], [], [1825, 1826, 1827, 82], [], [], [], [], [], [], [1817, 1818, 1819, 82], [], [], [], [1786], [1821, 1822, 1823, 82], [], [], [], [], [], [], [1787], [], [], [], [], [1788], [], [], [], [], [], []]) (by decide +kernel) rfl
set_option maxRecDepth 20000 in
theorem xk_X14_ofSale : xTat xP xm_X14_ofSale := xchk_ok (ps := [[2014], [], [], [], [], [1506], [1686, 1687, 1688, 64], [], [], [1555, 1556, 61], [], [], [], [], [], [1558, 1560, 23, 61], [], [], [], [], [], [1555, 1556, 61], [], [], [], [], [], [1562, 1564, 24, 61], [], [], [], [], [], [], [2015, 2017, 44, 61], []]) (by decide +kernel) rfl
set_option maxRecDepth 20000 in
theorem xk_X14_leaseTold : xTat xP xm_X14_leaseTold := xchk_ok (ps := [[2026], [], [1507], [], [1727, 1728, 1729, 64], [1745], [], [], [111], [], [], [], [1844], [], [], [], [], [1846], [], [], [], [], [1853], [1566, 1567, 61], [], [], [], [], [1854], [], [], [], [], [1855], [], [], [], [], [1853], [], [], [], [], [1852], [], [], [1854], [], [], [], [], [], [], [], [], [], []]) (by decide +kernel) rfl
set_option maxRecDepth 20000 in
theorem xk_X14_ofLease : xTat xP xm_X14_ofLease := xchk_ok (ps := [[2022], [], [], [], [], [1507], [1686, 1687, 1688, 64], [], [], [1555, 1556, 61], [], [], [], [], [], [1558, 1560, 23, 61], [], [], [], [], [], [1555, 1556, 61], [], [], [], [], [], [1562, 1564, 24, 61], [], [], [], [], [], [], [2023, 2025, 45, 61], []]) (by decide +kernel) rfl
set_option maxRecDepth 20000 in
theorem xk_X14_ventureTold : xTat xP xm_X14_ventureTold := xchk_ok (ps := [[2034], [], [1508], [], [1727, 1728, 1729, 64], [1881], [], [], [], [], [1890], [], [], [], [], [], [], [], [1892], [], [], [], [], [1894], [], [], []]) (by decide +kernel) rfl
set_option maxRecDepth 20000 in
theorem xk_X14_ofVenture : xTat xP xm_X14_ofVenture := xchk_ok (ps := [[2030], [], [], [], [1908, 1910, 34, 61], [], [], [], [1912, 1914, 35, 61], [], [], [], [], [], [1558, 1560, 23, 61], [], [], [], [], [], [1555, 1556, 61], [], [], [], [], [], [1562, 1564, 24, 61], [], [], [], [], [], [], [1916, 1917, 61], [], [2031, 2033, 46, 61], []]) (by decide +kernel) rfl
set_option maxRecDepth 20000 in
theorem xk_X14_firmTold : xTat xP xm_X14_firmTold := xchk_ok (ps := [[2042], [], [1509], [], [1727, 1728, 1729, 64], [1673], [], [], [111], [], [], [], [], [1967, 1969, 39, 61], [1566, 1567, 61], [], [], [], [], [1499], [], [1975, 1976, 61], [1566, 1567, 61], [], [], [], [], [], [], [], [], [], [], [], [], [], [], [], [], [], [], [], [], [], [], [], []]) (by decide +kernel) rfl
set_option maxRecDepth 20000 in
theorem xk_X14_ofFirm : xTat xP xm_X14_ofFirm := xchk_ok (ps := [[2038], [], [], [], [], [1509], [1686, 1687, 1688, 64], [], [], [1555, 1556, 61], [], [], [], [], [], [1558, 1560, 23, 61], [], [], [], [], [], [1555, 1556, 61], [], [], [], [], [], [1562, 1564, 24, 61], [], [], [], [], [], [], [2039, 2041, 47, 61], []]) (by decide +kernel) rfl
set_option maxRecDepth 20000 in
theorem xk_X14_allowed : xTat xP xm_X14_allowed := xchk_ok (ps := [[2046], [], [], [], [], [1555, 1556, 61], [], [], [], [], [], [1558, 1560, 23, 61], [], [], [], [], [], [1493], [1555, 1556, 61], [], [], [], [], [], [1562, 1564, 24, 61], [], [], [], [], [1764, 1766, 33, 61], [], [], [], [], []]) (by decide +kernel) rfl
set_option maxRecDepth 20000 in
theorem xk_X14_houseTold : xTat xP xm_X14_houseTold := xchk_ok (ps := [[2054], [], [], [], [], [], [], [], [], [], [], [], [], [], [1502], [], [], [], [], [], [], [], [], [], [], [], [], [], [], [], [], [], [], [], [], [1506], [1627, 1628, 1629, 64], [], [], [1651, 1655, 1657, 76], [], [], [1661, 1664, 1666, 76], [1758], [], [], [], [1783], [], [], [], [], [1566, 1567, 61], [], [], [], [], [1783], [], [], [1786], [], [1781], [], [], [], [], [1566, 1567, 61], [], [], [], [], [1507], [1627, 1628, 1629, 64], [], [], [1651, 1655, 1657, 76], [], [], [1661, 1664, 1666, 76], [1745], [], [], [], [1853], [], [], [], [], [1566, 1567, 61], [], [], [], [], [1505], [1627, 1628, 1629, 64], [], [], [1651, 1655, 1657, 76], [], [], [1661, 1664, 1666, 76], [1690], [], [], [], [1699], [], [], [], [], [], [1566, 1567, 61], [], [], [], [], [], [], [], [1500], [], [], [], [1501], [], [], [], [], [], [], [], [111], [], [], [], [1493], [], [], [], [], [1501], [], [], [], [], [], [], [1494], [], [], [], [], [1495], [], [], [], [], [], [], [], [], [1496], [], [], [], [], [1506], [1686, 1687, 1688, 64], [], [], [], [], [], [], [], [], [], [], [], [], [], [], [], [], [1508], [1686, 1687, 1688, 64], [], [], [], [], [1499], [], [], [], [], [], [], [], [], [], [], [], [], [1497], [], [], [], [], [1498], [], [], [], [], [], []]) (by decide +kernel) rfl
set_option maxRecDepth 20000 in
theorem xk_X14_house : xTat xP xm_X14_house := xchk_ok (ps := [[2050], [], [], [], [], [1555, 1556, 61], [], [], [], [], [], [1558, 1560, 23, 61], [], [], [], [], [], [2051, 2053, 48, 61], []]) (by decide +kernel) rfl
set_option maxRecDepth 20000 in
theorem xk_X14_tell : xTat xP xm_X14_tell := xchk_ok (ps := [[2058], [], [], [], [], [1506], [1686, 1687, 1688, 64], [], [], [1555, 1556, 61], [], [], [], [], [], [1558, 1560, 23, 61], [], [], [], [], [1506], [], [1727, 1728, 1729, 64], [1758], [], [], [1783], [], [], [], [], [1786], [], [1781], [], [], [], [2062, 1187, 86], [], [2063, 1189, 86], [], [1781], [], [1786], [], [2064, 1335, 1336, 86], [], [2066, 1219, 1220, 86], [2067, 1369, 1370, 86], [], [2062, 1187, 86], [], [2063, 1189, 86], [], [2066, 1219, 1220, 86], [], [2064, 1335, 1336, 86], [], [2066, 1219, 1220, 86], [], [1777], [2064, 1335, 1336, 86], [], [2066, 1219, 1220, 86], [], [1781], [2064, 1335, 1336, 86], [], [2066, 1219, 1220, 86], [], [2066, 1219, 1220, 86], [2067, 1369, 1370, 86], []]) (by decide +kernel) rfl
set_option maxRecDepth 20000 in
theorem xk_X14_pillars : xTat xP xm_X14_pillars := xchk_ok (ps := [[2075], [], [], [], [1723, 1725, 30, 61], [], [], [], [1682, 1684, 29, 61], [], [], [], [], [], [1558, 1560, 23, 61], [], [], [], [], [], [1505], [], [1727, 1728, 1729, 64], [1690], [], [1760, 1762, 32, 61], []]) (by decide +kernel) rfl
set_option maxRecDepth 20000 in
theorem xk_X14_bestSet : xTat xP xm_X14_bestSet := xchk_ok (ps := [[2083], [], [1963, 1965, 38, 61], [], [], [], [], [], [], [], [], [1509], [1686, 1687, 1688, 64], [], [], [], [], [], [], [], [], [], [], [], [1971, 1973, 40, 61], [], [], [], [], [], [], [1971, 1973, 40, 61], [], [], [], [1971, 1973, 40, 61], [], [], [], [], [], [], [], [], [], [1971, 1973, 40, 61], [], [], [], [1971, 1973, 40, 61], [], [], [], [], [], [], []]) (by decide +kernel) rfl
set_option maxRecDepth 20000 in
theorem xk_X14_best : xTat xP xm_X14_best := xchk_ok (ps := [[2079], [], [], [], [], [1555, 1556, 61], [], [], [], [], [], [1558, 1560, 23, 61], [], [], [], [], [], [2080, 2082, 49, 61], [], [], [], [], [], [], [], [], [1971, 1973, 40, 61], []]) (by decide +kernel) rfl
set_option maxRecDepth 20000 in
theorem xk_X14_wouldShare : xTat xP xm_X14_wouldShare := xchk_ok (ps := [[2087], [], [], [], [1682, 1684, 29, 61], [], [1558, 1560, 23, 61], [], [], [], [], [], [1555, 1556, 61], [], [], [], [], [], [1562, 1564, 24, 61], [], [], [], [], [], [], [1497], [], [1498], [1950, 1952, 37, 61], [], [], []]) (by decide +kernel) rfl
set_option maxRecDepth 20000 in
theorem xk_X14_isWhole : xTat xP xm_X14_isWhole := xchk_ok (ps := [[2095], [], [], [], [1506], [1627, 1628, 1629, 64], [], [], [1651, 1655, 1657, 76], [], [], [1661, 1664, 1666, 76], [1758], [], [], [], [1787], [], [], [], [1783], [], [], [1786], [], [], [], [], [], [1508], [1627, 1628, 1629, 64], [], [], [1651, 1655, 1657, 76], [], [], [1661, 1664, 1666, 76], [1881], [], [], [], [1892], [1919, 1920, 1921, 84], [], [], [], [], [], [1890], [], [], [], [], [], [], [], [], [], [], [], [], [], [], [], [], [], [], [], [], [], [1507], [1627, 1628, 1629, 64], [], [], [1651, 1655, 1657, 76], [], [], [1661, 1664, 1666, 76], [1745], [], [], [1853], [], [], [1505], [], [1844], [1727, 1728, 1729, 64], [1690], [1699], [], [], [], [1505], [], [1844], [1727, 1728, 1729, 64], [1690], [1702], [], [], [], [], [], [1502], [], [], [], [], [], [], [], [], [], [], [], [], [], [], [], [], [], [], [], [], [1495], [], [], [], [1494], [], [], [], [], []]) (by decide +kernel) rfl
set_option maxRecDepth 20000 in
theorem xk_X14_isSound : xTat xP xm_X14_isSound := xchk_ok (ps := [[2091], [], [], [1492], [], [2092, 2094, 50, 61], []]) (by decide +kernel) rfl
set_option maxRecDepth 20000 in
theorem xk_X14_add : xTat xP xm_X14_add := xchk_ok (ps := [[2103], [], [2104], [], [], [], []]) (by decide +kernel) rfl
set_option maxRecDepth 20000 in
theorem xk_X14_digest : xTat xP xm_X14_digest := xchk_ok (ps := [[2099], [], [], [1492], [2100], [], [], [], [], [], [], [], [], [], [2051, 2053, 48, 61], [], [2101, 2102, 61], [], [], [], [], [], [], [], [1500], [], [], [], [], [], [], [], [], [], [], [1994, 1996, 42, 61], [], [2101, 2102, 61], [], [], [], [], [], [], [], [], [], [1505], [1686, 1687, 1688, 64], [], [], [], [], [], [], [], [], [], [], [2007, 2009, 43, 61], [], [2101, 2102, 61], [], [], [], [], [], [], [], [], [], [1506], [1686, 1687, 1688, 64], [], [], [], [], [], [], [], [], [], [], [2015, 2017, 44, 61], [], [2101, 2102, 61], [], [], [], [], [], [], [], [], [], [1507], [1686, 1687, 1688, 64], [], [], [], [], [], [], [], [], [], [], [2023, 2025, 45, 61], [], [2101, 2102, 61], [], [], [], [], [], [], [], [], [], [1508], [1686, 1687, 1688, 64], [], [], [], [], [], [1500], [], [], [], [], [], [], [], [], [], [], [], [2031, 2033, 46, 61], [], [2101, 2102, 61], [], [], [], [], [], [], [], [], [], [], [], [], [], [], [], [2031, 2033, 46, 61], [], [2101, 2102, 61], [], [], [], [], [], [], [], [], [], [1509], [1686, 1687, 1688, 64], [], [], [], [], [], [], [], [], [], [], [2039, 2041, 47, 61], [], [2101, 2102, 61], [], [], [], [], [], [], [], [], [], [], [], [], [], [], [1493], [1764, 1766, 33, 61], [1566, 1567, 61], [], [2101, 2102, 61], [], [], [], [], [], [2080, 2082, 49, 61], [], [], [], [], [], [1971, 1973, 40, 61], [], [2101, 2102, 61], [], [], [2101, 2102, 61], [], [], [], [2092, 2094, 50, 61], [1566, 1567, 61], [], [2101, 2102, 61], []]) (by decide +kernel) rfl
set_option maxRecDepth 20000 in
theorem xk_J5_init_d00df : xTat xP xm_J5_init_d00df := xchk_ok (ps := [[1193], [], [1194, 96, 97], [1195], [], [], [], [112], [1204], [], [], [1205], [], [], [], [1197, 1198, 88], [1204], [], [], [1205], []]) (by decide +kernel) rfl
set_option maxRecDepth 20000 in
theorem xk_J5_length_8abf5 : xTat xP xm_J5_length_8abf5 := xchk_ok (ps := [[1393], [], [1207], []]) (by decide +kernel) rfl
set_option maxRecDepth 20000 in
theorem xk_J5_ensureCapacityInternal_d00df : xTat xP xm_J5_ensureCapacityInternal_d00df := xchk_ok (ps := [[1232], [], [1204], [], [], [1205], [], [], [], [], [], [], [], [], [1204], [], [], [1233, 2109, 4, 1235, 85], [], [1205], [], [1246, 1247, 74], [1204], []]) (by decide +kernel) rfl
set_option maxRecDepth 20000 in
theorem xk_J5_newCapacity_0f7a4 : xTat xP xm_J5_newCapacity_0f7a4 := xchk_ok (ps := [[1236], [], [1204], [], [], [], [], [1205], [], [], [], [], [], [], [], [], [], [], [], [1205], [], [], [1237, 1238, 72], [], [], [1245], [], [], [], [], [], [], [], [], [1205], [], []]) (by decide +kernel) rfl
set_option maxRecDepth 20000 in
theorem xk_J5_inflate_da8c8 : xTat xP xm_J5_inflate_da8c8 := xchk_ok (ps := [[1312], [], [1260, 1262, 1263, 1261, 85], [], [], [], [1204], [], [1197, 1198, 88], [], [], [1204], [], [], [], [], [1207], [1313, 1314, 89], [], [], [1204], [], [], [1205], []]) (by decide +kernel) rfl
set_option maxRecDepth 20000 in
theorem xk_J5_append_cf1ce : xTat xP xm_J5_append_cf1ce := xchk_ok (ps := [[1224], [], [], [], [1225, 2107, 0, 1227, 85], [], [], [1291, 1292, 1293, 87], [], [], [], [1207], [], [], [1229, 2108, 1, 1231, 85], [], [], [1207], [], [1300, 2110, 5, 1302, 85], [], [], [1207], [], [], [1207], [], []]) (by decide +kernel) rfl
set_option maxRecDepth 20000 in
theorem xk_J5_appendNull_278bc : xTat xP xm_J5_appendNull_278bc := xchk_ok (ps := [[1228], [], [], [1207], [], [], [1229, 2108, 1, 1231, 85], [], [1207], [], [], [1204], [], [], [1260, 1262, 1263, 1261, 85], [], [], [], [], [], [], [], [], [], [], [], [], [], [], [], [], [], [], [], [], [], [], [], [], [], [], [], [], [1265, 1266, 88], [], [], [], [1207], [], []]) (by decide +kernel) rfl
set_option maxRecDepth 20000 in
theorem xk_J5_append_c97b9 : xTat xP xm_J5_append_c97b9 := xchk_ok (ps := [[1340], [], [1207], [], [], [], [1341, 1342, 71], [], [], [], [], [1229, 2108, 1, 1231, 85], [], [1260, 1262, 1263, 1261, 85], [], [], [], [], [1204], [1344, 1345, 71], [], [], [], [], [], [], [1204], [1351, 1352, 88], [], [], [], [1207], [], []]) (by decide +kernel) rfl
set_option maxRecDepth 20000 in
theorem xk_J5_getValue_6d5f1 : xTat xP xm_J5_getValue_6d5f1 := xchk_ok (ps := [[1385], [], [1204], []]) (by decide +kernel) rfl
set_option maxRecDepth 20000 in
theorem xk_J5_isLatin1_aae02 : xTat xP xm_J5_isLatin1_aae02 := xchk_ok (ps := [[1264], [1195], [], [], [1205], [], [], [], [], []]) (by decide +kernel) rfl
set_option maxRecDepth 20000 in
theorem xk_J5_inflateIfNeededFor_a7421 : xTat xP xm_J5_inflateIfNeededFor_a7421 := xchk_ok (ps := [[1307], [1195], [], [], [1205], [], [1308, 1296, 1297, 87], [], [], [1309, 2112, 2, 1311, 85], []]) (by decide +kernel) rfl
set_option maxRecDepth 20000 in
theorem xk_J5_putStringAt_47b60 : xTat xP xm_J5_putStringAt_47b60 := xchk_ok (ps := [[1303], [], [], [1304, 2111, 3, 1306, 85], [], [], [1204], [], [], [1205], [1328, 1329, 1330, 87], []]) (by decide +kernel) rfl
set_option maxRecDepth 20000 in
theorem xk_J6_getChars_ba4f3 : xTat xP xm_J6_getChars_ba4f3 := xchk_ok (ps := [[1346], [], [], [], [], [], [], [], [], [], [], [], [], [], [], [], [], [], [], [], [], [], [], [], [], [], [], [], [], [], [], [], [1347], [], [], [], [], [], [], [1349], [], [], [], [], [], [], [], [1347], [], [], [], [], [], [], [], [], [], [], [1349], [], [], [], [], [], [], [], [], [], [], [], [], []]) (by decide +kernel) rfl
set_option maxRecDepth 20000 in
theorem xk_J6_stringSize_0f7a4 : xTat xP xm_J6_stringSize_0f7a4 := xchk_ok (ps := [[1343], [], [], [], [], [], [], [], [], [], [], [], [], [], [], [], [], [], [], [], [], [], [], [], [], [], [], [], [], [], [], [], [], []]) (by decide +kernel) rfl
set_option maxRecDepth 20000 in
theorem xk_J6_bitCount_0f7a4 : xTat xP xm_J6_bitCount_0f7a4 := xchk_ok (ps := [[723], [], [], [], [], [724], [], [], [], [], [725], [], [], [], [], [725], [], [], [], [], [], [], [], [], [726], [], [], [], [], [], [], [], [], [], [], [], [], [], [], [], [], [], []]) (by decide +kernel) rfl
set_option maxRecDepth 20000 in
theorem xk_J0_init_81219 : xTat xP xm_J0_init_81219 := xchk_ok (ps := [[1376], [], [], [], [1377, 1378, 87], []]) (by decide +kernel) rfl
set_option maxRecDepth 20000 in
theorem xk_J0_length_8abf5 : xTat xP xm_J0_length_8abf5 := xchk_ok (ps := [[1294], [], [1425], [], [], [1295, 1296, 1297, 87], [], []]) (by decide +kernel) rfl
set_option maxRecDepth 20000 in
theorem xk_J0_getBytes_840e7 : xTat xP xm_J0_getBytes_840e7 := xchk_ok (ps := [[1331], [], [1295, 1296, 1297, 87], [], [], [], [1425], [], [], [], [], [], [], [1425], [], [1332, 1259, 1258, 75], [], [], [1425], [], [], [], [], [1425], [], [1333, 1314, 89], []]) (by decide +kernel) rfl
set_option maxRecDepth 20000 in
theorem xk_J0_init_db425 : xTat xP xm_J0_init_db425 := xchk_ok (ps := [[1379], [], [1380, 96, 97], [], [1381, 1383, 1384, 1382, 85], [], [], [1386, 1388, 1387, 1389, 1390, 86], [], [], [1394, 1262, 1263, 1261, 85], [], [], [], [1426], [], [], [], [], [1395, 1396, 74], [1425], [], [1299], [], [], [1206], [], [], [], [], [], [1412, 1413, 88], [1425], [], [], [1425], [], [1422, 1423, 88], [1426], [], [], [], [1426], [], [], [], [], [], [], [1395, 1396, 74], [1425], []]) (by decide +kernel) rfl
set_option maxRecDepth 20000 in
theorem xk_J0_coder_7d493 : xTat xP xm_J0_coder_7d493 := xchk_ok (ps := [[1298], [1299], [], [], [1426], [], [], []]) (by decide +kernel) rfl
set_option maxRecDepth 20000 in
theorem xk_J0_checkBoundsOffCount_cabcc : xTat xP xm_J0_checkBoundsOffCount_cabcc := xchk_ok (ps := [[1324], [], [], [], [1277], [1325, 1326, 81], []]) (by decide +kernel) rfl
set_option maxRecDepth 20000 in
theorem xk_J0_checkBoundsBeginEnd_23922 : xTat xP xm_J0_checkBoundsBeginEnd_23922 := xchk_ok (ps := [[1276], [], [], [], [1277], [1279, 1280, 81], [], []]) (by decide +kernel) rfl
set_option maxRecDepth 20000 in
theorem xk_J4_init_da8c8 : xTat xP xm_J4_init_da8c8 := xchk_ok (ps := [[1190], [], [], [1191, 1192, 85], []]) (by decide +kernel) rfl
set_option maxRecDepth 20000 in
theorem xk_J4_append_15ec4 : xTat xP xm_J4_append_15ec4 := xchk_ok (ps := [[1221], [], [], [1222, 2106, 1216, 1223, 85], [], [], []]) (by decide +kernel) rfl
set_option maxRecDepth 20000 in
theorem xk_J4_append_bf812 : xTat xP xm_J4_append_bf812 := xchk_ok (ps := [[1337], [], [], [1338, 2113, 1216, 1339, 85], [], [], []]) (by decide +kernel) rfl
set_option maxRecDepth 20000 in
theorem xk_J4_toString_0e30d : xTat xP xm_J4_toString_0e30d := xchk_ok (ps := [[1371], [1372, 1373, 87], [], [], [1374, 1375, 87], []]) (by decide +kernel) rfl
set_option maxRecDepth 20000 in
theorem xk_J4_length_8abf5 : xTat xP xm_J4_length_8abf5 := xchk_ok (ps := [[1391], [], [1392, 1388, 1216, 1387, 85], []]) (by decide +kernel) rfl
set_option maxRecDepth 20000 in
theorem xk_J1_inflate_0e8fd : xTat xP xm_J1_inflate_0e8fd := xchk_ok (ps := [[1315], [], [], [], [], [], [1316, 1317, 88], []]) (by decide +kernel) rfl
set_option maxRecDepth 20000 in
theorem xk_J2_newBytesFor_77867 : xTat xP xm_J2_newBytesFor_77867 := xchk_ok (ps := [[1199], [], [1200, 1201, 88], [112], []]) (by decide +kernel) rfl
set_option maxRecDepth 20000 in
theorem xk_J2_newBytesLength_0f7a4 : xTat xP xm_J2_newBytesLength_0f7a4 := xchk_ok (ps := [[1202], [], [], [], [], [], [], [], [1203], [], [], [], [], [], [], [], [], [], [], [], [], [1203], [], [], [], [], [], [], [], []]) (by decide +kernel) rfl
set_option maxRecDepth 20000 in
theorem xk_J2_putChar_b72d1 : xTat xP xm_J2_putChar_b72d1 := xchk_ok (ps := [[1284], [], [], [], [], [], [], [1271, 1272, 88], [], [], [], [], [], [], [], [], [], [], [], [], [], [], [], [], [], [], [], [], [], [], [], [], [], []]) (by decide +kernel) rfl
set_option maxRecDepth 20000 in
theorem xk_J2_getChar_3b067 : xTat xP xm_J2_getChar_3b067 := xchk_ok (ps := [[1420], [], [], [], [], [], [], [1271, 1272, 88], [], [], [], [], [], [], [], [], [], [], [], [], [], [], [], [], [], [], [], [], [], [], [], [], [], [], [], []]) (by decide +kernel) rfl
set_option maxRecDepth 20000 in
theorem xk_J2_length_9d52b : xTat xP xm_J2_length_9d52b := xchk_ok (ps := [[1273], [], [], [], [], []]) (by decide +kernel) rfl
set_option maxRecDepth 20000 in
theorem xk_J2_coderFromArrayLen_85cad : xTat xP xm_J2_coderFromArrayLen_85cad := xchk_ok (ps := [[1424], [], [], [], [], [], [], [], []]) (by decide +kernel) rfl
set_option maxRecDepth 20000 in
theorem xk_J2_compress_39247 : xTat xP xm_J2_compress_39247 := xchk_ok (ps := [[1414], [], [112], [], [], [], [], [], [], [1415, 1416, 88], [], [], [], [], [], [], [], [], [], [], [], [1200, 1201, 88], [1421, 1396, 74], [], [], [], [1418, 1419, 88], [], [], [], [], [], [], [], [1415, 1416, 88], [], [], [], [], [], []]) (by decide +kernel) rfl
set_option maxRecDepth 20000 in
theorem xk_J2_compress_5af95 : xTat xP xm_J2_compress_5af95 := xchk_ok (ps := [[1417], [], [], [], [1319, 1320, 88], [], [], [], [], [], [], [], [1418, 1419, 88], [], [], [], [], [], [], [], [], [], [], [], [], [], [], [], [], []]) (by decide +kernel) rfl
set_option maxRecDepth 20000 in
theorem xk_J2_getChars_46870 : xTat xP xm_J2_getChars_46870 := xchk_ok (ps := [[1353], [], [], [], [1268, 1269, 88], [], [], [], [1354, 1355, 88], [], [], [], [], [], [], [], [], [], [], [], []]) (by decide +kernel) rfl
set_option maxRecDepth 20000 in
theorem xk_J2_putCharsAt_cd4e5 : xTat xP xm_J2_putCharsAt_cd4e5 := xchk_ok (ps := [[1267], [], [], [], [], [], [], [], [1268, 1269, 88], [], [], [], [], [1282, 1283, 88], [], [], [], [], [1282, 1283, 88], [], [], [], [], [1282, 1283, 88], [], [], [], [], [1282, 1283, 88], [], [], [], [], [], [], [], [], [], [], []]) (by decide +kernel) rfl
set_option maxRecDepth 20000 in
theorem xk_J2_inflate_0e8fd : xTat xP xm_J2_inflate_0e8fd := xchk_ok (ps := [[1318], [], [], [], [1319, 1320, 88], [], [], [], [], [], [], [], [], [], [], [], [], [], [], [1282, 1283, 88], [], [], []]) (by decide +kernel) rfl
set_option maxRecDepth 20000 in
theorem xk_J2_getChars_ba4f3 : xTat xP xm_J2_getChars_ba4f3 := xchk_ok (ps := [[1356], [], [], [], [], [], [], [], [], [], [], [], [], [], [], [], [], [], [], [], [], [], [], [], [], [], [], [], [], [], [], [], [1357], [], [], [1282, 1283, 88], [], [], [], [1358], [], [], [1282, 1283, 88], [], [], [], [], [1357], [], [], [], [1282, 1283, 88], [], [], [], [], [], [], [1358], [], [], [], [1282, 1283, 88], [], [], [], [], [], [], [1282, 1283, 88], [], []]) (by decide +kernel) rfl
set_option maxRecDepth 20000 in
theorem xk_J2_checkBoundsBeginEnd_d044e : xTat xP xm_J2_checkBoundsBeginEnd_d044e := xchk_ok (ps := [[1270], [], [], [], [1271, 1272, 88], [1274, 1275, 87], []]) (by decide +kernel) rfl
set_option maxRecDepth 20000 in
theorem xk_J2_checkBoundsOffCount_d044e : xTat xP xm_J2_checkBoundsOffCount_d044e := xchk_ok (ps := [[1321], [], [], [], [1271, 1272, 88], [1322, 1323, 87], [], []]) (by decide +kernel) rfl
set_option maxRecDepth 20000 in
theorem xk_Jxa1e45_init_da8c8 : xTat xP xm_Jxa1e45_init_da8c8 := xchk_ok (ps := [[1473], [], [1474, 96, 97], []]) (by decide +kernel) rfl
set_option maxRecDepth 20000 in
theorem xk_Jxc12de_init_da8c8 : xTat xP xm_Jxc12de_init_da8c8 := xchk_ok (ps := [[1470], [], [1471, 1472, 62], [], [], [1481], []]) (by decide +kernel) rfl
set_option maxRecDepth 20000 in
theorem xk_Jx35411_init_45d68 : xTat xP xm_Jx35411_init_45d68 := xchk_ok (ps := [[1635], [], [], [1640], [], [1636, 96, 97], [], [], [1638], [], [], [1640], [1482, 1483], [1639], []]) (by decide +kernel) rfl
set_option maxRecDepth 20000 in
theorem xk_Jx35411_hasNext_aae02 : xTat xP xm_Jx35411_hasNext_aae02 := xchk_ok (ps := [[1659], [], [1637], [], [1640], [1479], [], [], [], [], []]) (by decide +kernel) rfl
set_option maxRecDepth 20000 in
theorem xk_Jx35411_next_0502b : xTat xP xm_Jx35411_next_0502b := xchk_ok (ps := [[1668], [], [1669, 1670, 1671, 76], [], [1637], [], [], [], [1640], [1479], [], [], [], [], [], [], [1640], [1478], [], [], [], [], [], [], [], [], [], [], [], [], [], [1637], [], [], [], [], [1638], [], []]) (by decide +kernel) rfl
set_option maxRecDepth 20000 in
theorem xk_Jx35411_checkForComodification_da8c8 : xTat xP xm_Jx35411_checkForComodification_da8c8 := xchk_ok (ps := [[1672], [], [1640], [1482, 1483], [], [1639], [], [], [], [], [], []]) (by decide +kernel) rfl
set_option maxRecDepth 20000 in
theorem xk_Jx4a65c_init_da8c8 : xTat xP xm_Jx4a65c_init_da8c8 := xchk_ok (ps := [[1467], [], [1468, 1469, 63], [], [1475], [1477], []]) (by decide +kernel) rfl
set_option maxRecDepth 20000 in
theorem xk_Jx4a65c_grow_92f84 : xTat xP xm_Jx4a65c_grow_92f84 := xchk_ok (ps := [[1584], [], [1477], [], [], [], [], [], [1477], [1475], [], [], [], [], [], [], [], [], [1585, 1238, 72], [], [], [], [1477], [], [1586, 1587, 74], [], [1477], [], [], [], [], [1621, 894, 73, 895], [1622], [], [1477], []]) (by decide +kernel) rfl
set_option maxRecDepth 20000 in
theorem xk_Jx4a65c_grow_d5877 : xTat xP xm_Jx4a65c_grow_d5877 := xchk_ok (ps := [[1580], [], [], [1480], [], [], [1581, 1583, 27, 64], []]) (by decide +kernel) rfl
set_option maxRecDepth 20000 in
theorem xk_Jx4a65c_size_8abf5 : xTat xP xm_Jx4a65c_size_8abf5 := xchk_ok (ps := [[1689], [], [1480], []]) (by decide +kernel) rfl
set_option maxRecDepth 20000 in
theorem xk_Jx4a65c_elementData_915e3 : xTat xP xm_Jx4a65c_elementData_915e3 := xchk_ok (ps := [[1740], [], [1477], [], [], []]) (by decide +kernel) rfl
set_option maxRecDepth 20000 in
theorem xk_Jx4a65c_get_915e3 : xTat xP xm_Jx4a65c_get_915e3 := xchk_ok (ps := [[1730], [], [], [1480], [1731, 1732, 80], [], [], [], [1737, 1738, 1739, 64], []]) (by decide +kernel) rfl
set_option maxRecDepth 20000 in
theorem xk_Jx4a65c_add_72be8 : xTat xP xm_Jx4a65c_add_72be8 := xchk_ok (ps := [[1576], [], [], [], [], [], [1577, 1579, 26, 64], [], [], [], [], [], [], [], [], [], [1480], []]) (by decide +kernel) rfl
set_option maxRecDepth 20000 in
theorem xk_Jx4a65c_add_9ea2d : xTat xP xm_Jx4a65c_add_9ea2d := xchk_ok (ps := [[1572], [], [], [1484, 1483], [], [], [1484, 1483], [], [], [], [1477], [], [1480], [1573, 1575, 25, 64], [], []]) (by decide +kernel) rfl
set_option maxRecDepth 20000 in
theorem xk_Jx4a65c_iterator_32c93 : xTat xP xm_Jx4a65c_iterator_32c93 := xchk_ok (ps := [[1630], [1631, 1632, 76], [], [], [1633, 1634, 76], []]) (by decide +kernel) rfl
set_option maxRecDepth 20000 in
theorem xk_J7_copyOf_1904c : xTat xP xm_J7_copyOf_1904c := xchk_ok (ps := [[1588], [], [], [], [1589, 2138, 1590, 1614], [1615, 1616, 74], []]) (by decide +kernel) rfl
set_option maxRecDepth 20000 in
theorem xk_J7_copyOf_6403c : xTat xP xm_J7_copyOf_6403c := xchk_ok (ps := [[1617], [], [1618], [], [], [1620], [], [], [], [], [], [1618], [], [], [], [], [], [], [], [], [1256, 1005, 73, 1006], [1257, 1259, 1258, 75], [], []]) (by decide +kernel) rfl
set_option maxRecDepth 20000 in
theorem xk_J7_copyOf_9075b : xTat xP xm_J7_copyOf_9075b := xchk_ok (ps := [[1248], [], [], [], [], [], [1249, 1250, 1251, 1252, 1253, 1254], [1255], [], [], [112], [], [], [], [], [], [], [], [], [1256, 1005, 73, 1006], [1257, 1259, 1258, 75], [], []]) (by decide +kernel) rfl
set_option maxRecDepth 20000 in
theorem xk_J7_checkLength_df160 : xTat xP xm_J7_checkLength_df160 := xchk_ok (ps := [[1403], [], [], [], [], [], [], [], [], [], [], [], [], [], [], [], [], [], []]) (by decide +kernel) rfl
set_option maxRecDepth 20000 in
theorem xk_J7_copyOfRange_39247 : xTat xP xm_J7_copyOfRange_39247 := xchk_ok (ps := [[1397], [], [], [], [], [], [], [], [], [], [1398, 1399, 74], [], [], [1249, 1250, 1251, 1252, 1253, 1254], [1255], []]) (by decide +kernel) rfl
set_option maxRecDepth 20000 in
theorem xk_J7_copyOfRangeByte_39247 : xTat xP xm_J7_copyOfRangeByte_39247 := xchk_ok (ps := [[1400], [], [], [1401, 1402, 74], [], [], [], [], [], [112], [], [], [], [], [], [], [], [], [], [], [1256, 1005, 73, 1006], [1257, 1259, 1258, 75], [], []]) (by decide +kernel) rfl
set_option maxRecDepth 20000 in
theorem xk_J15_checkIndex_7cf53 : xTat xP xm_J15_checkIndex_7cf53 := xchk_ok (ps := [[1733], [], [], [], [1734, 1735, 81], []]) (by decide +kernel) rfl
set_option maxRecDepth 20000 in
theorem xk_J8_newLength_cabcc : xTat xP xm_J8_newLength_cabcc := xchk_ok (ps := [[1239], [], [], [], [1240, 894, 73, 895], [], [], [], [], [], [], [1241], [], [], [], [], [], [1242, 1243, 72], []]) (by decide +kernel) rfl
set_option maxRecDepth 20000 in
theorem xk_J8_hugeLength_7cf53 : xTat xP xm_J8_hugeLength_7cf53 := xchk_ok (ps := [[1244], [], [], [], [], [], [], [], [], [], [], [], [], [], [], [], [], [], [], [], [], [], [], [], [], [], [1241], [], [1241], [], [], []]) (by decide +kernel) rfl
set_option maxRecDepth 20000 in
theorem xk_J3_checkIndex_8e157 : xTat xP xm_J3_checkIndex_8e157 := xchk_ok (ps := [[1736], [], [], [], [], [], [], [], [], [], [], [], []]) (by decide +kernel) rfl
set_option maxRecDepth 20000 in
theorem xk_J3_checkFromToIndex_8c36e : xTat xP xm_J3_checkFromToIndex_8c36e := xchk_ok (ps := [[1281], [], [], [], [], [], [], [], [], [], [], [], [], [], [], [], []]) (by decide +kernel) rfl
set_option maxRecDepth 20000 in
theorem xk_J3_checkFromIndexSize_8c36e : xTat xP xm_J3_checkFromIndexSize_8c36e := xchk_ok (ps := [[1327], [], [], [], [], [], [], [], [], [], [], [], [], [], [], [], [], [], [], []]) (by decide +kernel) rfl
theorem xP_tab : xTab xP := fun _ => (xite (xite (xite (xite (xite (xite (xite (xite xk_L_hold xk_L_hold) (xite xk_L_person (xite xk_L_thing xk_L_buy))) (xite (xite xk_L_take xk_L_ruin) (xite xk_L_sell (xite xk_L_pay xk_L_benchmark)))) (xite (xite (xite xk_L_lease xk_L_end) (xite xk_L_venture (xite xk_L_join xk_L_result))) (xite (xite xk_L_buyOut xk_L_deposit) (xite xk_L_share (xite xk_L_firm xk_L_invest))))) (xite (xite (xite (xite xk_L_dividend xk_L_pass) (xite xk_L_ofPerson (xite xk_L_ofThing xk_L_ofSale))) (xite (xite xk_L_ofLease xk_L_ofVenture) (xite xk_L_ofFirm (xite xk_L_allowed xk_L_house)))) (xite (xite (xite xk_L_tell xk_L_pillars) (xite xk_L_best (xite xk_L_wouldShare xk_X0_init))) (xite (xite xk_X0_vote xk_X0_votesFor) (xite xk_X0_isAllowedNow (xite xk_X0_wasAllowed xk_X0_endDay)))))) (xite (xite (xite (xite (xite xk_X1_init xk_X1_has) (xite xk_X1_isSet (xite xk_X1_add xk_X1_isClean))) (xite (xite xk_X1_isHeld xk_X1_prices) (xite xk_X1_gains (xite xk_X1_tainted xk_X1_bestHolding)))) (xite (xite (xite xk_X1_isBetter xk_X2_init) (xite xk_X2_has (xite xk_X2_add xk_X2_close))) (xite (xite xk_X2_isDue xk_X2_collect) (xite xk_X2_openOf (xite xk_X2_countOpen xk_X3_init))))) (xite (xite (xite (xite xk_X3_endDay xk_X3_leftByManagement) (xite xk_X3_smoothed (xite xk_X3_weights xk_X3_portionOf))) (xite (xite xk_X3_payOut xk_X3_deposits) (xite xk_X3_isInOrder (xite xk_X4_init xk_X4_has)))) (xite (xite (xite xk_X4_open xk_X4_add) (xite xk_X4_move (xite xk_X4_giveAway xk_X4_giveAlms))) (xite (xite xk_X4_cashOfPeople xk_X5_init) (xite xk_X5_has (xite xk_X5_add xk_X5_isVoid))))))) (xite (xite (xite (xite (xite (xite xk_X5_isDone xk_X5_isOpen) (xite xk_X5_partsLeft (xite xk_X5_debt xk_X5_plainPart))) (xite (xite xk_X5_nextPart xk_X5_nextDay) (xite xk_X5_rebate (xite xk_X5_settlePart xk_X5_partsLeftOf)))) (xite (xite (xite xk_X5_debtOf xk_X5_countVoid) (xite xk_X5_countDone (xite xk_X5_allFees xk_X5_isInOrder))) (xite (xite xk_X6_init xk_X6_has) (xite xk_X6_isLeased (xite xk_X6_add xk_X6_acquire))))) (xite (xite (xite (xite xk_X6_handOver xk_X6_ownedBy) (xite xk_X6_heldByHouse (xite xk_X6_isInOrder xk_X7_init))) (xite (xite xk_X7_has xk_X7_begin) (xite xk_X7_at (xite xk_X7_isPartner xk_X7_capitalOf)))) (xite (xite (xite xk_X7_shareOf xk_X7_gainOf) (xite xk_X7_admit (xite xk_X7_addGain xk_X7_moveCapital))) (xite (xite xk_X7_bearLoss xk_X7_capitals) (xite xk_X7_shares (xite xk_X7_capitalEverywhere xk_X7_isInOrder)))))) (xite (xite (xite (xite (xite xk_X8_init xk_X8_hold) (xite xk_X8_person (xite xk_X8_thing xk_X8_buy))) (xite (xite xk_X8_take xk_X8_ruin) (xite xk_X8_sell (xite xk_X8_pay xk_X8_benchmark)))) (xite (xite (xite xk_X8_lease xk_X8_end) (xite xk_X8_venture (xite xk_X8_join xk_X8_result))) (xite (xite xk_X8_buyOut xk_X8_deposit) (xite xk_X8_share (xite xk_X8_firm xk_X8_invest))))) (xite (xite (xite (xite xk_X8_dividend xk_X8_pass) (xite xk_X8_ofPerson (xite xk_X8_ofThing xk_X8_ofSale))) (xite (xite xk_X8_ofLease xk_X8_ofVenture) (xite xk_X8_ofFirm (xite xk_X8_allowed xk_X8_house)))) (xite (xite (xite xk_X8_tell xk_X8_pillars) (xite xk_X8_best (xite xk_X8_wouldShare xk_X8_isSound))) (xite (xite xk_X8_digest xk_X8_addPeople) (xite xk_X8_addThings (xite xk_X8_addSales xk_X8_addLeases)))))))) (xite (xite (xite (xite (xite (xite (xite xk_X8_addVentures xk_X8_addPartner) (xite xk_X8_addFirms (xite xk_X8_isIn xk_X8_portion))) (xite (xite xk_X8_isParty xk_X8_placeOf) (xite xk_X8_missingPillars (xite xk_X8_canLease xk_X8_shareProfit)))) (xite (xite (xite xk_X8_creditProfit xk_X8_collectRents) (xite xk_X9_init (xite xk_X10_init xk_X11_init))) (xite (xite xk_X11_isOpen xk_X11_part) (xite xk_X11_due (xite xk_X11_left xk_X12_init))))) (xite (xite (xite (xite xk_X13_init xk_X13_all) (xite xk_X13_lose (xite xk_X14_isIn xk_X14_one))) (xite (xite xk_X14_has xk_X14_init) (xite xk_X14_thrown (xite xk_X14_refuse xk_X14_start)))) (xite (xite (xite xk_X14_isNobody xk_X14_isNoThing) (xite xk_X14_forIt (xite xk_X14_isAllowed xk_X14_hold))) (xite (xite xk_X14_person xk_X14_thing) (xite xk_X14_leaseOf (xite xk_X14_buy xk_X14_take)))))) (xite (xite (xite (xite (xite xk_X14_ruin xk_X14_missing) (xite xk_X14_sell (xite xk_X14_give xk_X14_pay))) (xite (xite xk_X14_benchmark xk_X14_lease) (xite xk_X14_end (xite xk_X14_venture xk_X14_isNoVenture)))) (xite (xite (xite xk_X14_isNoOne xk_X14_seat) (xite xk_X14_join (xite xk_X14_result xk_X14_profit))) (xite (xite xk_X14_buyOut xk_X14_deposit) (xite xk_X14_shared (xite xk_X14_share xk_X14_firm))))) (xite (xite (xite (xite xk_X14_isClean xk_X14_clean) (xite xk_X14_sumOf (xite xk_X14_invest xk_X14_dividend))) (xite (xite xk_X14_rents xk_X14_pass) (xite xk_X14_personTold (xite xk_X14_ofPerson xk_X14_thingTold)))) (xite (xite (xite xk_X14_ofThing xk_X14_saleTold) (xite xk_X14_ofSale (xite xk_X14_leaseTold xk_X14_ofLease))) (xite (xite xk_X14_ventureTold xk_X14_ofVenture) (xite xk_X14_firmTold (xite xk_X14_ofFirm xk_X14_allowed))))))) (xite (xite (xite (xite (xite (xite xk_X14_houseTold xk_X14_house) (xite xk_X14_tell (xite xk_X14_pillars xk_X14_bestSet))) (xite (xite xk_X14_best xk_X14_wouldShare) (xite xk_X14_isWhole (xite xk_X14_isSound xk_X14_add)))) (xite (xite (xite xk_X14_digest xk_J5_init_d00df) (xite xk_J5_length_8abf5 (xite xk_J5_ensureCapacityInternal_d00df xk_J5_newCapacity_0f7a4))) (xite (xite xk_J5_inflate_da8c8 xk_J5_append_cf1ce) (xite xk_J5_appendNull_278bc (xite xk_J5_append_c97b9 xk_J5_getValue_6d5f1))))) (xite (xite (xite (xite xk_J5_isLatin1_aae02 xk_J5_inflateIfNeededFor_a7421) (xite xk_J5_putStringAt_47b60 (xite xk_J6_getChars_ba4f3 xk_J6_stringSize_0f7a4))) (xite (xite xk_J6_bitCount_0f7a4 xk_J0_init_81219) (xite xk_J0_length_8abf5 (xite xk_J0_getBytes_840e7 xk_J0_init_db425)))) (xite (xite (xite xk_J0_coder_7d493 xk_J0_checkBoundsOffCount_cabcc) (xite xk_J0_checkBoundsBeginEnd_23922 (xite xk_J4_init_da8c8 xk_J4_append_15ec4))) (xite (xite xk_J4_append_bf812 xk_J4_toString_0e30d) (xite xk_J4_length_8abf5 (xite xk_J1_inflate_0e8fd xk_J2_newBytesFor_77867)))))) (xite (xite (xite (xite (xite xk_J2_newBytesLength_0f7a4 xk_J2_putChar_b72d1) (xite xk_J2_getChar_3b067 (xite xk_J2_length_9d52b xk_J2_coderFromArrayLen_85cad))) (xite (xite xk_J2_compress_39247 xk_J2_compress_5af95) (xite xk_J2_getChars_46870 (xite xk_J2_putCharsAt_cd4e5 xk_J2_inflate_0e8fd)))) (xite (xite (xite xk_J2_getChars_ba4f3 xk_J2_checkBoundsBeginEnd_d044e) (xite xk_J2_checkBoundsOffCount_d044e (xite xk_Jxa1e45_init_da8c8 xk_Jxc12de_init_da8c8))) (xite (xite xk_Jx35411_init_45d68 xk_Jx35411_hasNext_aae02) (xite xk_Jx35411_next_0502b (xite xk_Jx35411_checkForComodification_da8c8 xk_Jx4a65c_init_da8c8))))) (xite (xite (xite (xite xk_Jx4a65c_grow_92f84 xk_Jx4a65c_grow_d5877) (xite xk_Jx4a65c_size_8abf5 (xite xk_Jx4a65c_elementData_915e3 xk_Jx4a65c_get_915e3))) (xite (xite xk_Jx4a65c_add_72be8 xk_Jx4a65c_add_9ea2d) (xite xk_Jx4a65c_iterator_32c93 (xite xk_J7_copyOf_1904c xk_J7_copyOf_6403c)))) (xite (xite (xite xk_J7_copyOf_9075b xk_J7_checkLength_df160) (xite xk_J7_copyOfRange_39247 (xite xk_J7_copyOfRangeByte_39247 xk_J15_checkIndex_7cf53))) (xite (xite xk_J8_newLength_cabcc xk_J8_hugeLength_7cf53) (xite xk_J3_checkIndex_8e157 (xite xk_J3_checkFromToIndex_8c36e xk_J3_checkFromIndexSize_8c36e)))))))))
