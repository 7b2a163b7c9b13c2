def f_law (n L : Nat) (xs : Nat → Int32) : Nat → Int32 → zH → Option Unit
  | 0, _, _ => none
  | N + 1, i, h => if ((Int32.ofNat L) - (4 : Int32)) < i then (some ()) else ((zsx L xs i).bind fun (v35 : Int32) => if (v35 &&& (31 : Int32)) = 0 then ((zsx L xs (i + (1 : Int32))).bind fun (v158 : Int32) => zb2 (f_L_begin n 0 v158 131 h) fun (r160 : Int32) (h160 : zH) => (zsx L xs (i + (1 : Int32))).bind fun (v171 : Int32) => zrc h160 123 6 <| zb2 (f_X6_begin n 123 v171 h160) fun (r172 : Int32) (h172 : zH) => zrc h172 123 6 <| (f_X6_thrown n 123 h172).bind fun (r178 : Int32) => if r178 = r160 then (zlet (f_law n L xs N (i + 4) h172) fun K205 => if r160 = 0 then ((zal h172 131 (0 : Int32)).bind fun (v195 : Int64) => if (lg_cmp v195 (Int32.toInt64 r172)) = 0 then (K205) else (none)) else (K205)) else (none)) else if (v35 &&& (31 : Int32)) = 1 then ((zsx L xs (i + (1 : Int32))).bind fun (v214 : Int32) => (zsx L xs (i + (2 : Int32))).bind fun (v220 : Int32) => zb2 (f_L_setTown n 0 v214 v220 131 h) fun (r222 : Int32) (h222 : zH) => (zsx L xs (i + (1 : Int32))).bind fun (v233 : Int32) => (zsx L xs (i + (2 : Int32))).bind fun (v239 : Int32) => zrc h222 123 6 <| zb2 (f_X6_setTown n 123 v233 v239 h222) fun (r240 : Int32) (h240 : zH) => zrc h240 123 6 <| (f_X6_thrown n 123 h240).bind fun (r246 : Int32) => if r246 = r222 then (zlet (f_law n L xs N (i + 4) h240) fun K273 => if r222 = 0 then ((zal h240 131 (0 : Int32)).bind fun (v263 : Int64) => if (lg_cmp v263 (Int32.toInt64 r240)) = 0 then (K273) else (none)) else (K273)) else (none)) else if (v35 &&& (31 : Int32)) = 2 then ((zsx L xs (i + (1 : Int32))).bind fun (v282 : Int32) => (zsx L xs (i + (2 : Int32))).bind fun (v288 : Int32) => (zsx L xs (i + (3 : Int32))).bind fun (v294 : Int32) => zb2 (f_L_start n 0 v282 v288 v294 131 h) fun (r296 : Int32) (h296 : zH) => (zsx L xs (i + (1 : Int32))).bind fun (v307 : Int32) => (zsx L xs (i + (2 : Int32))).bind fun (v313 : Int32) => (zsx L xs (i + (3 : Int32))).bind fun (v319 : Int32) => zrc h296 123 6 <| zb2 (f_X6_start n 123 v307 v313 v319 h296) fun (r320 : Int32) (h320 : zH) => zrc h320 123 6 <| (f_X6_thrown n 123 h320).bind fun (r326 : Int32) => if r326 = r296 then (zlet (f_law n L xs N (i + 4) h320) fun K353 => if r296 = 0 then ((zal h320 131 (0 : Int32)).bind fun (v343 : Int64) => if (lg_cmp v343 (Int32.toInt64 r320)) = 0 then (K353) else (none)) else (K353)) else (none)) else if (v35 &&& (31 : Int32)) = 3 then ((zsx L xs (i + (1 : Int32))).bind fun (v362 : Int32) => zb2 (f_L_buy n 0 v362 131 h) fun (r364 : Int32) (h364 : zH) => (zsx L xs (i + (1 : Int32))).bind fun (v375 : Int32) => zrc h364 123 6 <| zb2 (f_X6_buy n 123 v375 h364) fun (r376 : Int32) (h376 : zH) => zrc h376 123 6 <| (f_X6_thrown n 123 h376).bind fun (r382 : Int32) => if r382 = r364 then (zlet (f_law n L xs N (i + 4) h376) fun K409 => if r364 = 0 then ((zal h376 131 (0 : Int32)).bind fun (v399 : Int64) => if (lg_cmp v399 (Int32.toInt64 r376)) = 0 then (K409) else (none)) else (K409)) else (none)) else if (v35 &&& (31 : Int32)) = 4 then ((zsx L xs (i + (1 : Int32))).bind fun (v418 : Int32) => (zsx L xs (i + (2 : Int32))).bind fun (v424 : Int32) => zb2 (f_L_sell n 0 v418 v424 131 h) fun (r426 : Int32) (h426 : zH) => (zsx L xs (i + (1 : Int32))).bind fun (v437 : Int32) => (zsx L xs (i + (2 : Int32))).bind fun (v443 : Int32) => zrc h426 123 6 <| zb2 (f_X6_sell n 123 v437 v443 h426) fun (r444 : Int32) (h444 : zH) => zrc h444 123 6 <| (f_X6_thrown n 123 h444).bind fun (r450 : Int32) => if r450 = r426 then (zlet (f_law n L xs N (i + 4) h444) fun K477 => if r426 = 0 then ((zal h444 131 (0 : Int32)).bind fun (v467 : Int64) => if (lg_cmp v467 (Int32.toInt64 r444)) = 0 then (K477) else (none)) else (K477)) else (none)) else if (v35 &&& (31 : Int32)) = 5 then ((zsx L xs (i + (1 : Int32))).bind fun (v486 : Int32) => (zsx L xs (i + (2 : Int32))).bind fun (v492 : Int32) => zb2 (f_L_merge n 0 v486 v492 131 h) fun (r494 : Int32) (h494 : zH) => (zsx L xs (i + (1 : Int32))).bind fun (v505 : Int32) => (zsx L xs (i + (2 : Int32))).bind fun (v511 : Int32) => zrc h494 123 6 <| zb2 (f_X6_merge n 123 v505 v511 h494) fun (r512 : Int32) (h512 : zH) => zrc h512 123 6 <| (f_X6_thrown n 123 h512).bind fun (r518 : Int32) => if r518 = r494 then (zlet (f_law n L xs N (i + 4) h512) fun K545 => if r494 = 0 then ((zal h512 131 (0 : Int32)).bind fun (v535 : Int64) => if (lg_cmp v535 (Int32.toInt64 r512)) = 0 then (K545) else (none)) else (K545)) else (none)) else if (v35 &&& (31 : Int32)) = 6 then (zb2 (f_L_pass n 0 131 h) fun (r550 : Int32) (h550 : zH) => zrc h550 123 6 <| zb2 (f_X6_pass n 123 h550) fun (r556 : Int32) (h556 : zH) => zrc h556 123 6 <| (f_X6_thrown n 123 h556).bind fun (r562 : Int32) => if r562 = r550 then (zlet (f_law n L xs N (i + 4) h556) fun K589 => if r550 = 0 then ((zal h556 131 (0 : Int32)).bind fun (v579 : Int64) => if (lg_cmp v579 (Int32.toInt64 r556)) = 0 then (K589) else (none)) else (K589)) else (none)) else if (v35 &&& (31 : Int32)) = 7 then (zb2 (f_L_extend n 0 131 h) fun (r594 : Int32) (h594 : zH) => zrc h594 123 6 <| zb2 (f_X6_extend n 123 h594) fun (r600 : Int32) (h600 : zH) => zrc h600 123 6 <| (f_X6_thrown n 123 h600).bind fun (r606 : Int32) => if r606 = r594 then (zlet (f_law n L xs N (i + 4) h600) fun K633 => if r594 = 0 then ((zal h600 131 (0 : Int32)).bind fun (v623 : Int64) => if (lg_cmp v623 (Int32.toInt64 r600)) = 0 then (K633) else (none)) else (K633)) else (none)) else if (v35 &&& (31 : Int32)) = 8 then ((zsx L xs (i + (1 : Int32))).bind fun (v642 : Int32) => (zsx L xs (i + (2 : Int32))).bind fun (v648 : Int32) => (zsx L xs (i + (3 : Int32))).bind fun (v654 : Int32) => zlet (fun (s0_663 : Int32) => zb2 (f_L_operate n 0 v642 v648 s0_663 131 h) fun (r664 : Int32) (h664 : zH) => (zsx L xs (i + (1 : Int32))).bind fun (v675 : Int32) => (zsx L xs (i + (2 : Int32))).bind fun (v681 : Int32) => (zsx L xs (i + (3 : Int32))).bind fun (v687 : Int32) => zlet (fun (s0_696 : Int32) => zrc h664 123 6 <| zb2 (f_X6_operate n 123 v675 v681 s0_696 h664) fun (r696 : Int32) (h696 : zH) => zrc h696 123 6 <| (f_X6_thrown n 123 h696).bind fun (r702 : Int32) => if r702 = r664 then (zlet (f_law n L xs N (i + 4) h696) fun K729 => if r664 = 0 then ((zal h696 131 (0 : Int32)).bind fun (v719 : Int64) => if (lg_cmp v719 (Int32.toInt64 r696)) = 0 then (K729) else (none)) else (K729)) else (none)) fun K696 => if v687 = 0 then (K696 (0 : Int32)) else (K696 (1 : Int32))) fun K663 => if v654 = 0 then (K663 (0 : Int32)) else (K663 (1 : Int32))) else if (v35 &&& (31 : Int32)) = 9 then ((zsx L xs (i + (1 : Int32))).bind fun (v738 : Int32) => (zsx L xs (i + (2 : Int32))).bind fun (v744 : Int32) => zb2 (f_L_player n 0 v738 v744 131 h) fun (r746 : Int32) (h746 : zH) => (zsx L xs (i + (1 : Int32))).bind fun (v757 : Int32) => (zsx L xs (i + (2 : Int32))).bind fun (v763 : Int32) => zrc h746 123 6 <| zb2 (f_X6_player n 123 v757 v763 h746) fun (r764 : Int32) (h764 : zH) => zrc h764 123 6 <| (f_X6_thrown n 123 h764).bind fun (r770 : Int32) => if r770 = r746 then (zlet (f_law n L xs N (i + 4) h764) fun K797 => if r746 = 0 then ((zal h764 131 (0 : Int32)).bind fun (v787 : Int64) => if (lg_cmp v787 (Int32.toInt64 r764)) = 0 then (K797) else (none)) else (K797)) else (none)) else if (v35 &&& (31 : Int32)) = 10 then ((zsx L xs (i + (1 : Int32))).bind fun (v806 : Int32) => (zsx L xs (i + (2 : Int32))).bind fun (v812 : Int32) => zb2 (f_L_company n 0 v806 v812 131 h) fun (r814 : Int32) (h814 : zH) => (zsx L xs (i + (1 : Int32))).bind fun (v825 : Int32) => (zsx L xs (i + (2 : Int32))).bind fun (v831 : Int32) => zrc h814 123 6 <| zb2 (f_X6_company n 123 v825 v831 h814) fun (r832 : Int32) (h832 : zH) => zrc h832 123 6 <| (f_X6_thrown n 123 h832).bind fun (r838 : Int32) => if r838 = r814 then (zlet (f_law n L xs N (i + 4) h832) fun K865 => if r814 = 0 then ((zal h832 131 (0 : Int32)).bind fun (v855 : Int64) => if (lg_cmp v855 (Int32.toInt64 r832)) = 0 then (K865) else (none)) else (K865)) else (none)) else if (v35 &&& (31 : Int32)) = 11 then ((zsx L xs (i + (1 : Int32))).bind fun (v874 : Int32) => (zsx L xs (i + (2 : Int32))).bind fun (v880 : Int32) => zb2 (f_L_track n 0 v874 v880 131 h) fun (r882 : Int32) (h882 : zH) => (zsx L xs (i + (1 : Int32))).bind fun (v893 : Int32) => (zsx L xs (i + (2 : Int32))).bind fun (v899 : Int32) => zrc h882 123 6 <| zb2 (f_X6_track n 123 v893 v899 h882) fun (r900 : Int32) (h900 : zH) => zrc h900 123 6 <| (f_X6_thrown n 123 h900).bind fun (r906 : Int32) => if r906 = r882 then (zlet (f_law n L xs N (i + 4) h900) fun K933 => if r882 = 0 then ((zal h900 131 (0 : Int32)).bind fun (v923 : Int64) => if (lg_cmp v923 (Int32.toInt64 r900)) = 0 then (K933) else (none)) else (K933)) else (none)) else if (v35 &&& (31 : Int32)) = 12 then ((zsx L xs (i + (1 : Int32))).bind fun (v942 : Int32) => zb2 (f_L_value n 0 v942 131 h) fun (r944 : Int32) (h944 : zH) => (zsx L xs (i + (1 : Int32))).bind fun (v955 : Int32) => zrc h944 123 6 <| zb2 (f_X6_value n 123 v955 h944) fun (r956 : Int32) (h956 : zH) => zrc h956 123 6 <| (f_X6_thrown n 123 h956).bind fun (r962 : Int32) => if r962 = r944 then (zlet (f_law n L xs N (i + 4) h956) fun K989 => if r944 = 0 then ((zal h956 131 (0 : Int32)).bind fun (v979 : Int64) => if (lg_cmp v979 (Int32.toInt64 r956)) = 0 then (K989) else (none)) else (K989)) else (none)) else if (v35 &&& (31 : Int32)) = 13 then ((zsx L xs (i + (1 : Int32))).bind fun (v998 : Int32) => zb2 (f_L_town n 0 v998 131 h) fun (r1000 : Int32) (h1000 : zH) => (zsx L xs (i + (1 : Int32))).bind fun (v1011 : Int32) => zrc h1000 123 6 <| zb2 (f_X6_town n 123 v1011 h1000) fun (r1012 : Int32) (h1012 : zH) => zrc h1012 123 6 <| (f_X6_thrown n 123 h1012).bind fun (r1018 : Int32) => if r1018 = r1000 then (zlet (f_law n L xs N (i + 4) h1012) fun K1045 => if r1000 = 0 then ((zal h1012 131 (0 : Int32)).bind fun (v1035 : Int64) => if (lg_cmp v1035 (Int32.toInt64 r1012)) = 0 then (K1045) else (none)) else (K1045)) else (none)) else if (v35 &&& (31 : Int32)) = 14 then ((zsx L xs (i + (1 : Int32))).bind fun (v1054 : Int32) => (zsx L xs (i + (2 : Int32))).bind fun (v1060 : Int32) => zb2 (f_L_route n 0 v1054 v1060 131 h) fun (r1062 : Int32) (h1062 : zH) => (zsx L xs (i + (1 : Int32))).bind fun (v1073 : Int32) => (zsx L xs (i + (2 : Int32))).bind fun (v1079 : Int32) => zrc h1062 123 6 <| zb2 (f_X6_route n 123 v1073 v1079 h1062) fun (r1080 : Int32) (h1080 : zH) => zrc h1080 123 6 <| (f_X6_thrown n 123 h1080).bind fun (r1086 : Int32) => if r1086 = r1062 then (zlet (f_law n L xs N (i + 4) h1080) fun K1113 => if r1062 = 0 then ((zal h1080 131 (0 : Int32)).bind fun (v1103 : Int64) => if (lg_cmp v1103 (Int32.toInt64 r1080)) = 0 then (K1113) else (none)) else (K1113)) else (none)) else if (v35 &&& (31 : Int32)) = 15 then ((zsx L xs (i + (1 : Int32))).bind fun (v1122 : Int32) => (zsx L xs (i + (2 : Int32))).bind fun (v1128 : Int32) => (zsx L xs (i + (3 : Int32))).bind fun (v1134 : Int32) => zb2 (f_L_incomeWith n 0 v1122 v1128 v1134 131 h) fun (r1136 : Int32) (h1136 : zH) => (zsx L xs (i + (1 : Int32))).bind fun (v1147 : Int32) => (zsx L xs (i + (2 : Int32))).bind fun (v1153 : Int32) => (zsx L xs (i + (3 : Int32))).bind fun (v1159 : Int32) => zrc h1136 123 6 <| zb2 (f_X6_incomeWith n 123 v1147 v1153 v1159 h1136) fun (r1160 : Int32) (h1160 : zH) => zrc h1160 123 6 <| (f_X6_thrown n 123 h1160).bind fun (r1166 : Int32) => if r1166 = r1136 then (zlet (f_law n L xs N (i + 4) h1160) fun K1193 => if r1136 = 0 then ((zal h1160 131 (0 : Int32)).bind fun (v1183 : Int64) => if (lg_cmp v1183 (Int32.toInt64 r1160)) = 0 then (K1193) else (none)) else (K1193)) else (none)) else if (v35 &&& (31 : Int32)) = 16 then ((zsx L xs (i + (1 : Int32))).bind fun (v1202 : Int32) => zb2 (f_L_bestTrack n 0 v1202 131 h) fun (r1204 : Int32) (h1204 : zH) => (zsx L xs (i + (1 : Int32))).bind fun (v1215 : Int32) => zrc h1204 123 6 <| zb2 (f_X6_bestTrack n 123 v1215 h1204) fun (r1216 : Int32) (h1216 : zH) => zrc h1216 123 6 <| (f_X6_thrown n 123 h1216).bind fun (r1222 : Int32) => if r1222 = r1204 then (zlet (f_law n L xs N (i + 4) h1216) fun K1249 => if r1204 = 0 then ((zal h1216 131 (0 : Int32)).bind fun (v1239 : Int64) => if (lg_cmp v1239 (Int32.toInt64 r1216)) = 0 then (K1249) else (none)) else (K1249)) else (none)) else if (v35 &&& (31 : Int32)) = 17 then ((zsx L xs (i + (1 : Int32))).bind fun (v1258 : Int32) => zb2 (f_L_dividend n 0 v1258 131 h) fun (r1260 : Int32) (h1260 : zH) => (zsx L xs (i + (1 : Int32))).bind fun (v1271 : Int32) => zrc h1260 123 6 <| zb2 (f_X6_dividend n 123 v1271 h1260) fun (r1272 : Int32) (h1272 : zH) => zrc h1272 123 6 <| (f_X6_thrown n 123 h1272).bind fun (r1278 : Int32) => if r1278 = r1260 then (zlet (f_law n L xs N (i + 4) h1272) fun K1305 => if r1260 = 0 then ((zal h1272 131 (0 : Int32)).bind fun (v1295 : Int64) => if (lg_cmp v1295 (Int32.toInt64 r1272)) = 0 then (K1305) else (none)) else (K1305)) else (none)) else if (v35 &&& (31 : Int32)) = 18 then (zrc h 0 5 <| (f_X5_leader n 0 h).bind fun (r1309 : Int32) => zrc h 123 6 <| zb2 (f_X6_leader n 123 h) fun (r1313 : Int32) (h1313 : zH) => if r1309 = r1313 then (f_law n L xs N (i + 4) h1313) else (none)) else if (v35 &&& (31 : Int32)) = 19 then (zrc h 0 5 <| (f_X5_unsold n 0 h).bind fun (r1322 : UInt64) => zrc h 123 6 <| zb2 (f_X6_unsold n 123 h) fun (r1328 : UInt64) (h1328 : zH) => zlet (f_law n L xs N (i + 4) h1328) fun K1359 => if (Op.cmpValue (FP.dcmp r1322 r1328) .l) = 0 then (K1359) else (if (Op.cmpValue (FP.dcmp r1322 r1322) .l) = 0 then (none) else (if (Op.cmpValue (FP.dcmp r1328 r1328) .l) = 0 then (none) else (K1359)))) else if (v35 &&& (31 : Int32)) = 20 then ((zsx L xs (i + (1 : Int32))).bind fun (v1368 : Int32) => zb2 (f_L_append n 0 v1368 131 h) fun (r1370 : Int32) (h1370 : zH) => (zsx L xs (i + (1 : Int32))).bind fun (v1381 : Int32) => zrc h1370 123 6 <| zb2 (f_X6_append n 123 v1381 h1370) fun (r1382 : Int32) (h1382 : zH) => zrc h1382 123 6 <| (f_X6_thrown n 123 h1382).bind fun (r1388 : Int32) => if r1388 = r1370 then (zlet (f_law n L xs N (i + 4) h1382) fun K1415 => if r1370 = 0 then ((zal h1382 131 (0 : Int32)).bind fun (v1405 : Int64) => if (lg_cmp v1405 (Int32.toInt64 r1382)) = 0 then (K1415) else (none)) else (K1415)) else (none)) else if (v35 &&& (31 : Int32)) = 21 then (zrc h 0 5 <| zb2 (f_X5_clearText n 0 h) fun (r1419 : Int32) (h1419 : zH) => zrc h1419 123 6 <| zb2 (f_X6_clearText n 123 h1419) fun (r1423 : Int32) (h1423 : zH) => if r1419 = r1423 then (f_law n L xs N (i + 4) h1423) else (none)) else if (v35 &&& (31 : Int32)) = 22 then (zrc h 0 5 <| zb2 (f_X5_play n 0 h) fun (r1432 : Int32) (h1432 : zH) => zrc h1432 123 6 <| zb2 (f_X6_play n 123 h1432) fun (r1436 : Int32) (h1436 : zH) => if r1432 = r1436 then (f_law n L xs N (i + 4) h1436) else (none)) else if (v35 &&& (31 : Int32)) = 23 then (zb2 (f_L_undo n 0 131 h) fun (r1446 : Int32) (h1446 : zH) => zrc h1446 123 6 <| zb2 (f_X6_undo n 123 h1446) fun (r1452 : Int32) (h1452 : zH) => zrc h1452 123 6 <| (f_X6_thrown n 123 h1452).bind fun (r1458 : Int32) => if r1458 = r1446 then (zlet (f_law n L xs N (i + 4) h1452) fun K1485 => if r1446 = 0 then ((zal h1452 131 (0 : Int32)).bind fun (v1475 : Int64) => if (lg_cmp v1475 (Int32.toInt64 r1452)) = 0 then (K1485) else (none)) else (K1485)) else (none)) else if (v35 &&& (31 : Int32)) = 24 then (zrc h 0 5 <| zb2 (f_X5_digest n 0 h) fun (r1489 : Int64) (h1489 : zH) => zrc h1489 123 6 <| zb2 (f_X6_digest n 123 h1489) fun (r1493 : Int64) (h1493 : zH) => if (lg_cmp r1489 r1493) = 0 then (f_law n L xs N (i + 4) h1493) else (none)) else (f_law n L xs N (i + 4) h))
set_option maxRecDepth 100000 in
set_option maxHeartbeats 40000000 in
theorem c_law_loop {B : Nat} {Z : zC} {Q : Unit → State → Prop} {b L : Nat} {xs : Nat → Int32} (C : zOk B Z cL_law RL (zR 1000 616119 7247748) 9) (hX : va_X b L xs Z.1.2.2.2.2 Z.1.2.2.2.2.heap) (hbl : b < Z.1.2.2.2.2.heap.size) (hbB : ¬ B ≤ b) (hlz : Z.1.2.1.stackTraces = false) (hret : ∀ lv h z, z.1 ≤ 616119 → z.2.1 ≤ 7247748 → zJ B Z Q (some ()) 1509 lv [.int 1] h z) (n : Nat) : ∀ N, N ≤ 1000 → ∀ i h, zJ B Z Q (f_law n L xs N i h) 23 [(0, .ref b), (1, .ref (B + 0)), (2, .ref (B + 123)), (3, .ref (B + 131)), (4, .int i)] [] h (zl Z N) := by
  intro N
  induction N with
  | zero => intro _ i h; exact z_none
  | succ N ih =>
    intro hN i h
    rw [show f_law n L xs (N + 1) i h = if ((Int32.ofNat L) - (4 : Int32)) < i then (some ()) else ((zsx L xs i).bind fun (v35 : Int32) => if (v35 &&& (31 : Int32)) = 0 then ((zsx L xs (i + (1 : Int32))).bind fun (v158 : Int32) => zb2 (f_L_begin n 0 v158 131 h) fun (r160 : Int32) (h160 : zH) => (zsx L xs (i + (1 : Int32))).bind fun (v171 : Int32) => zrc h160 123 6 <| zb2 (f_X6_begin n 123 v171 h160) fun (r172 : Int32) (h172 : zH) => zrc h172 123 6 <| (f_X6_thrown n 123 h172).bind fun (r178 : Int32) => if r178 = r160 then (zlet (f_law n L xs N (i + 4) h172) fun K205 => if r160 = 0 then ((zal h172 131 (0 : Int32)).bind fun (v195 : Int64) => if (lg_cmp v195 (Int32.toInt64 r172)) = 0 then (K205) else (none)) else (K205)) else (none)) else if (v35 &&& (31 : Int32)) = 1 then ((zsx L xs (i + (1 : Int32))).bind fun (v214 : Int32) => (zsx L xs (i + (2 : Int32))).bind fun (v220 : Int32) => zb2 (f_L_setTown n 0 v214 v220 131 h) fun (r222 : Int32) (h222 : zH) => (zsx L xs (i + (1 : Int32))).bind fun (v233 : Int32) => (zsx L xs (i + (2 : Int32))).bind fun (v239 : Int32) => zrc h222 123 6 <| zb2 (f_X6_setTown n 123 v233 v239 h222) fun (r240 : Int32) (h240 : zH) => zrc h240 123 6 <| (f_X6_thrown n 123 h240).bind fun (r246 : Int32) => if r246 = r222 then (zlet (f_law n L xs N (i + 4) h240) fun K273 => if r222 = 0 then ((zal h240 131 (0 : Int32)).bind fun (v263 : Int64) => if (lg_cmp v263 (Int32.toInt64 r240)) = 0 then (K273) else (none)) else (K273)) else (none)) else if (v35 &&& (31 : Int32)) = 2 then ((zsx L xs (i + (1 : Int32))).bind fun (v282 : Int32) => (zsx L xs (i + (2 : Int32))).bind fun (v288 : Int32) => (zsx L xs (i + (3 : Int32))).bind fun (v294 : Int32) => zb2 (f_L_start n 0 v282 v288 v294 131 h) fun (r296 : Int32) (h296 : zH) => (zsx L xs (i + (1 : Int32))).bind fun (v307 : Int32) => (zsx L xs (i + (2 : Int32))).bind fun (v313 : Int32) => (zsx L xs (i + (3 : Int32))).bind fun (v319 : Int32) => zrc h296 123 6 <| zb2 (f_X6_start n 123 v307 v313 v319 h296) fun (r320 : Int32) (h320 : zH) => zrc h320 123 6 <| (f_X6_thrown n 123 h320).bind fun (r326 : Int32) => if r326 = r296 then (zlet (f_law n L xs N (i + 4) h320) fun K353 => if r296 = 0 then ((zal h320 131 (0 : Int32)).bind fun (v343 : Int64) => if (lg_cmp v343 (Int32.toInt64 r320)) = 0 then (K353) else (none)) else (K353)) else (none)) else if (v35 &&& (31 : Int32)) = 3 then ((zsx L xs (i + (1 : Int32))).bind fun (v362 : Int32) => zb2 (f_L_buy n 0 v362 131 h) fun (r364 : Int32) (h364 : zH) => (zsx L xs (i + (1 : Int32))).bind fun (v375 : Int32) => zrc h364 123 6 <| zb2 (f_X6_buy n 123 v375 h364) fun (r376 : Int32) (h376 : zH) => zrc h376 123 6 <| (f_X6_thrown n 123 h376).bind fun (r382 : Int32) => if r382 = r364 then (zlet (f_law n L xs N (i + 4) h376) fun K409 => if r364 = 0 then ((zal h376 131 (0 : Int32)).bind fun (v399 : Int64) => if (lg_cmp v399 (Int32.toInt64 r376)) = 0 then (K409) else (none)) else (K409)) else (none)) else if (v35 &&& (31 : Int32)) = 4 then ((zsx L xs (i + (1 : Int32))).bind fun (v418 : Int32) => (zsx L xs (i + (2 : Int32))).bind fun (v424 : Int32) => zb2 (f_L_sell n 0 v418 v424 131 h) fun (r426 : Int32) (h426 : zH) => (zsx L xs (i + (1 : Int32))).bind fun (v437 : Int32) => (zsx L xs (i + (2 : Int32))).bind fun (v443 : Int32) => zrc h426 123 6 <| zb2 (f_X6_sell n 123 v437 v443 h426) fun (r444 : Int32) (h444 : zH) => zrc h444 123 6 <| (f_X6_thrown n 123 h444).bind fun (r450 : Int32) => if r450 = r426 then (zlet (f_law n L xs N (i + 4) h444) fun K477 => if r426 = 0 then ((zal h444 131 (0 : Int32)).bind fun (v467 : Int64) => if (lg_cmp v467 (Int32.toInt64 r444)) = 0 then (K477) else (none)) else (K477)) else (none)) else if (v35 &&& (31 : Int32)) = 5 then ((zsx L xs (i + (1 : Int32))).bind fun (v486 : Int32) => (zsx L xs (i + (2 : Int32))).bind fun (v492 : Int32) => zb2 (f_L_merge n 0 v486 v492 131 h) fun (r494 : Int32) (h494 : zH) => (zsx L xs (i + (1 : Int32))).bind fun (v505 : Int32) => (zsx L xs (i + (2 : Int32))).bind fun (v511 : Int32) => zrc h494 123 6 <| zb2 (f_X6_merge n 123 v505 v511 h494) fun (r512 : Int32) (h512 : zH) => zrc h512 123 6 <| (f_X6_thrown n 123 h512).bind fun (r518 : Int32) => if r518 = r494 then (zlet (f_law n L xs N (i + 4) h512) fun K545 => if r494 = 0 then ((zal h512 131 (0 : Int32)).bind fun (v535 : Int64) => if (lg_cmp v535 (Int32.toInt64 r512)) = 0 then (K545) else (none)) else (K545)) else (none)) else if (v35 &&& (31 : Int32)) = 6 then (zb2 (f_L_pass n 0 131 h) fun (r550 : Int32) (h550 : zH) => zrc h550 123 6 <| zb2 (f_X6_pass n 123 h550) fun (r556 : Int32) (h556 : zH) => zrc h556 123 6 <| (f_X6_thrown n 123 h556).bind fun (r562 : Int32) => if r562 = r550 then (zlet (f_law n L xs N (i + 4) h556) fun K589 => if r550 = 0 then ((zal h556 131 (0 : Int32)).bind fun (v579 : Int64) => if (lg_cmp v579 (Int32.toInt64 r556)) = 0 then (K589) else (none)) else (K589)) else (none)) else if (v35 &&& (31 : Int32)) = 7 then (zb2 (f_L_extend n 0 131 h) fun (r594 : Int32) (h594 : zH) => zrc h594 123 6 <| zb2 (f_X6_extend n 123 h594) fun (r600 : Int32) (h600 : zH) => zrc h600 123 6 <| (f_X6_thrown n 123 h600).bind fun (r606 : Int32) => if r606 = r594 then (zlet (f_law n L xs N (i + 4) h600) fun K633 => if r594 = 0 then ((zal h600 131 (0 : Int32)).bind fun (v623 : Int64) => if (lg_cmp v623 (Int32.toInt64 r600)) = 0 then (K633) else (none)) else (K633)) else (none)) else if (v35 &&& (31 : Int32)) = 8 then ((zsx L xs (i + (1 : Int32))).bind fun (v642 : Int32) => (zsx L xs (i + (2 : Int32))).bind fun (v648 : Int32) => (zsx L xs (i + (3 : Int32))).bind fun (v654 : Int32) => zlet (fun (s0_663 : Int32) => zb2 (f_L_operate n 0 v642 v648 s0_663 131 h) fun (r664 : Int32) (h664 : zH) => (zsx L xs (i + (1 : Int32))).bind fun (v675 : Int32) => (zsx L xs (i + (2 : Int32))).bind fun (v681 : Int32) => (zsx L xs (i + (3 : Int32))).bind fun (v687 : Int32) => zlet (fun (s0_696 : Int32) => zrc h664 123 6 <| zb2 (f_X6_operate n 123 v675 v681 s0_696 h664) fun (r696 : Int32) (h696 : zH) => zrc h696 123 6 <| (f_X6_thrown n 123 h696).bind fun (r702 : Int32) => if r702 = r664 then (zlet (f_law n L xs N (i + 4) h696) fun K729 => if r664 = 0 then ((zal h696 131 (0 : Int32)).bind fun (v719 : Int64) => if (lg_cmp v719 (Int32.toInt64 r696)) = 0 then (K729) else (none)) else (K729)) else (none)) fun K696 => if v687 = 0 then (K696 (0 : Int32)) else (K696 (1 : Int32))) fun K663 => if v654 = 0 then (K663 (0 : Int32)) else (K663 (1 : Int32))) else if (v35 &&& (31 : Int32)) = 9 then ((zsx L xs (i + (1 : Int32))).bind fun (v738 : Int32) => (zsx L xs (i + (2 : Int32))).bind fun (v744 : Int32) => zb2 (f_L_player n 0 v738 v744 131 h) fun (r746 : Int32) (h746 : zH) => (zsx L xs (i + (1 : Int32))).bind fun (v757 : Int32) => (zsx L xs (i + (2 : Int32))).bind fun (v763 : Int32) => zrc h746 123 6 <| zb2 (f_X6_player n 123 v757 v763 h746) fun (r764 : Int32) (h764 : zH) => zrc h764 123 6 <| (f_X6_thrown n 123 h764).bind fun (r770 : Int32) => if r770 = r746 then (zlet (f_law n L xs N (i + 4) h764) fun K797 => if r746 = 0 then ((zal h764 131 (0 : Int32)).bind fun (v787 : Int64) => if (lg_cmp v787 (Int32.toInt64 r764)) = 0 then (K797) else (none)) else (K797)) else (none)) else if (v35 &&& (31 : Int32)) = 10 then ((zsx L xs (i + (1 : Int32))).bind fun (v806 : Int32) => (zsx L xs (i + (2 : Int32))).bind fun (v812 : Int32) => zb2 (f_L_company n 0 v806 v812 131 h) fun (r814 : Int32) (h814 : zH) => (zsx L xs (i + (1 : Int32))).bind fun (v825 : Int32) => (zsx L xs (i + (2 : Int32))).bind fun (v831 : Int32) => zrc h814 123 6 <| zb2 (f_X6_company n 123 v825 v831 h814) fun (r832 : Int32) (h832 : zH) => zrc h832 123 6 <| (f_X6_thrown n 123 h832).bind fun (r838 : Int32) => if r838 = r814 then (zlet (f_law n L xs N (i + 4) h832) fun K865 => if r814 = 0 then ((zal h832 131 (0 : Int32)).bind fun (v855 : Int64) => if (lg_cmp v855 (Int32.toInt64 r832)) = 0 then (K865) else (none)) else (K865)) else (none)) else if (v35 &&& (31 : Int32)) = 11 then ((zsx L xs (i + (1 : Int32))).bind fun (v874 : Int32) => (zsx L xs (i + (2 : Int32))).bind fun (v880 : Int32) => zb2 (f_L_track n 0 v874 v880 131 h) fun (r882 : Int32) (h882 : zH) => (zsx L xs (i + (1 : Int32))).bind fun (v893 : Int32) => (zsx L xs (i + (2 : Int32))).bind fun (v899 : Int32) => zrc h882 123 6 <| zb2 (f_X6_track n 123 v893 v899 h882) fun (r900 : Int32) (h900 : zH) => zrc h900 123 6 <| (f_X6_thrown n 123 h900).bind fun (r906 : Int32) => if r906 = r882 then (zlet (f_law n L xs N (i + 4) h900) fun K933 => if r882 = 0 then ((zal h900 131 (0 : Int32)).bind fun (v923 : Int64) => if (lg_cmp v923 (Int32.toInt64 r900)) = 0 then (K933) else (none)) else (K933)) else (none)) else if (v35 &&& (31 : Int32)) = 12 then ((zsx L xs (i + (1 : Int32))).bind fun (v942 : Int32) => zb2 (f_L_value n 0 v942 131 h) fun (r944 : Int32) (h944 : zH) => (zsx L xs (i + (1 : Int32))).bind fun (v955 : Int32) => zrc h944 123 6 <| zb2 (f_X6_value n 123 v955 h944) fun (r956 : Int32) (h956 : zH) => zrc h956 123 6 <| (f_X6_thrown n 123 h956).bind fun (r962 : Int32) => if r962 = r944 then (zlet (f_law n L xs N (i + 4) h956) fun K989 => if r944 = 0 then ((zal h956 131 (0 : Int32)).bind fun (v979 : Int64) => if (lg_cmp v979 (Int32.toInt64 r956)) = 0 then (K989) else (none)) else (K989)) else (none)) else if (v35 &&& (31 : Int32)) = 13 then ((zsx L xs (i + (1 : Int32))).bind fun (v998 : Int32) => zb2 (f_L_town n 0 v998 131 h) fun (r1000 : Int32) (h1000 : zH) => (zsx L xs (i + (1 : Int32))).bind fun (v1011 : Int32) => zrc h1000 123 6 <| zb2 (f_X6_town n 123 v1011 h1000) fun (r1012 : Int32) (h1012 : zH) => zrc h1012 123 6 <| (f_X6_thrown n 123 h1012).bind fun (r1018 : Int32) => if r1018 = r1000 then (zlet (f_law n L xs N (i + 4) h1012) fun K1045 => if r1000 = 0 then ((zal h1012 131 (0 : Int32)).bind fun (v1035 : Int64) => if (lg_cmp v1035 (Int32.toInt64 r1012)) = 0 then (K1045) else (none)) else (K1045)) else (none)) else if (v35 &&& (31 : Int32)) = 14 then ((zsx L xs (i + (1 : Int32))).bind fun (v1054 : Int32) => (zsx L xs (i + (2 : Int32))).bind fun (v1060 : Int32) => zb2 (f_L_route n 0 v1054 v1060 131 h) fun (r1062 : Int32) (h1062 : zH) => (zsx L xs (i + (1 : Int32))).bind fun (v1073 : Int32) => (zsx L xs (i + (2 : Int32))).bind fun (v1079 : Int32) => zrc h1062 123 6 <| zb2 (f_X6_route n 123 v1073 v1079 h1062) fun (r1080 : Int32) (h1080 : zH) => zrc h1080 123 6 <| (f_X6_thrown n 123 h1080).bind fun (r1086 : Int32) => if r1086 = r1062 then (zlet (f_law n L xs N (i + 4) h1080) fun K1113 => if r1062 = 0 then ((zal h1080 131 (0 : Int32)).bind fun (v1103 : Int64) => if (lg_cmp v1103 (Int32.toInt64 r1080)) = 0 then (K1113) else (none)) else (K1113)) else (none)) else if (v35 &&& (31 : Int32)) = 15 then ((zsx L xs (i + (1 : Int32))).bind fun (v1122 : Int32) => (zsx L xs (i + (2 : Int32))).bind fun (v1128 : Int32) => (zsx L xs (i + (3 : Int32))).bind fun (v1134 : Int32) => zb2 (f_L_incomeWith n 0 v1122 v1128 v1134 131 h) fun (r1136 : Int32) (h1136 : zH) => (zsx L xs (i + (1 : Int32))).bind fun (v1147 : Int32) => (zsx L xs (i + (2 : Int32))).bind fun (v1153 : Int32) => (zsx L xs (i + (3 : Int32))).bind fun (v1159 : Int32) => zrc h1136 123 6 <| zb2 (f_X6_incomeWith n 123 v1147 v1153 v1159 h1136) fun (r1160 : Int32) (h1160 : zH) => zrc h1160 123 6 <| (f_X6_thrown n 123 h1160).bind fun (r1166 : Int32) => if r1166 = r1136 then (zlet (f_law n L xs N (i + 4) h1160) fun K1193 => if r1136 = 0 then ((zal h1160 131 (0 : Int32)).bind fun (v1183 : Int64) => if (lg_cmp v1183 (Int32.toInt64 r1160)) = 0 then (K1193) else (none)) else (K1193)) else (none)) else if (v35 &&& (31 : Int32)) = 16 then ((zsx L xs (i + (1 : Int32))).bind fun (v1202 : Int32) => zb2 (f_L_bestTrack n 0 v1202 131 h) fun (r1204 : Int32) (h1204 : zH) => (zsx L xs (i + (1 : Int32))).bind fun (v1215 : Int32) => zrc h1204 123 6 <| zb2 (f_X6_bestTrack n 123 v1215 h1204) fun (r1216 : Int32) (h1216 : zH) => zrc h1216 123 6 <| (f_X6_thrown n 123 h1216).bind fun (r1222 : Int32) => if r1222 = r1204 then (zlet (f_law n L xs N (i + 4) h1216) fun K1249 => if r1204 = 0 then ((zal h1216 131 (0 : Int32)).bind fun (v1239 : Int64) => if (lg_cmp v1239 (Int32.toInt64 r1216)) = 0 then (K1249) else (none)) else (K1249)) else (none)) else if (v35 &&& (31 : Int32)) = 17 then ((zsx L xs (i + (1 : Int32))).bind fun (v1258 : Int32) => zb2 (f_L_dividend n 0 v1258 131 h) fun (r1260 : Int32) (h1260 : zH) => (zsx L xs (i + (1 : Int32))).bind fun (v1271 : Int32) => zrc h1260 123 6 <| zb2 (f_X6_dividend n 123 v1271 h1260) fun (r1272 : Int32) (h1272 : zH) => zrc h1272 123 6 <| (f_X6_thrown n 123 h1272).bind fun (r1278 : Int32) => if r1278 = r1260 then (zlet (f_law n L xs N (i + 4) h1272) fun K1305 => if r1260 = 0 then ((zal h1272 131 (0 : Int32)).bind fun (v1295 : Int64) => if (lg_cmp v1295 (Int32.toInt64 r1272)) = 0 then (K1305) else (none)) else (K1305)) else (none)) else if (v35 &&& (31 : Int32)) = 18 then (zrc h 0 5 <| (f_X5_leader n 0 h).bind fun (r1309 : Int32) => zrc h 123 6 <| zb2 (f_X6_leader n 123 h) fun (r1313 : Int32) (h1313 : zH) => if r1309 = r1313 then (f_law n L xs N (i + 4) h1313) else (none)) else if (v35 &&& (31 : Int32)) = 19 then (zrc h 0 5 <| (f_X5_unsold n 0 h).bind fun (r1322 : UInt64) => zrc h 123 6 <| zb2 (f_X6_unsold n 123 h) fun (r1328 : UInt64) (h1328 : zH) => zlet (f_law n L xs N (i + 4) h1328) fun K1359 => if (Op.cmpValue (FP.dcmp r1322 r1328) .l) = 0 then (K1359) else (if (Op.cmpValue (FP.dcmp r1322 r1322) .l) = 0 then (none) else (if (Op.cmpValue (FP.dcmp r1328 r1328) .l) = 0 then (none) else (K1359)))) else if (v35 &&& (31 : Int32)) = 20 then ((zsx L xs (i + (1 : Int32))).bind fun (v1368 : Int32) => zb2 (f_L_append n 0 v1368 131 h) fun (r1370 : Int32) (h1370 : zH) => (zsx L xs (i + (1 : Int32))).bind fun (v1381 : Int32) => zrc h1370 123 6 <| zb2 (f_X6_append n 123 v1381 h1370) fun (r1382 : Int32) (h1382 : zH) => zrc h1382 123 6 <| (f_X6_thrown n 123 h1382).bind fun (r1388 : Int32) => if r1388 = r1370 then (zlet (f_law n L xs N (i + 4) h1382) fun K1415 => if r1370 = 0 then ((zal h1382 131 (0 : Int32)).bind fun (v1405 : Int64) => if (lg_cmp v1405 (Int32.toInt64 r1382)) = 0 then (K1415) else (none)) else (K1415)) else (none)) else if (v35 &&& (31 : Int32)) = 21 then (zrc h 0 5 <| zb2 (f_X5_clearText n 0 h) fun (r1419 : Int32) (h1419 : zH) => zrc h1419 123 6 <| zb2 (f_X6_clearText n 123 h1419) fun (r1423 : Int32) (h1423 : zH) => if r1419 = r1423 then (f_law n L xs N (i + 4) h1423) else (none)) else if (v35 &&& (31 : Int32)) = 22 then (zrc h 0 5 <| zb2 (f_X5_play n 0 h) fun (r1432 : Int32) (h1432 : zH) => zrc h1432 123 6 <| zb2 (f_X6_play n 123 h1432) fun (r1436 : Int32) (h1436 : zH) => if r1432 = r1436 then (f_law n L xs N (i + 4) h1436) else (none)) else if (v35 &&& (31 : Int32)) = 23 then (zb2 (f_L_undo n 0 131 h) fun (r1446 : Int32) (h1446 : zH) => zrc h1446 123 6 <| zb2 (f_X6_undo n 123 h1446) fun (r1452 : Int32) (h1452 : zH) => zrc h1452 123 6 <| (f_X6_thrown n 123 h1452).bind fun (r1458 : Int32) => if r1458 = r1446 then (zlet (f_law n L xs N (i + 4) h1452) fun K1485 => if r1446 = 0 then ((zal h1452 131 (0 : Int32)).bind fun (v1475 : Int64) => if (lg_cmp v1475 (Int32.toInt64 r1452)) = 0 then (K1485) else (none)) else (K1485)) else (none)) else if (v35 &&& (31 : Int32)) = 24 then (zrc h 0 5 <| zb2 (f_X5_digest n 0 h) fun (r1489 : Int64) (h1489 : zH) => zrc h1489 123 6 <| zb2 (f_X6_digest n 123 h1489) fun (r1493 : Int64) (h1493 : zH) => if (lg_cmp r1489 r1493) = 0 then (f_law n L xs N (i + 4) h1493) else (none)) else (f_law n L xs N (i + 4) h)) from rfl]
    refine z_iload (pc := 23) C (zD D_L_law_0 13 rfl) 4 rfl ?_
    refine z_aload_n (pc := 25) C (zD D_L_law_0 14 rfl) rfl 0 rfl ?_
    refine z_slen (pc := 26) C hX hbl hbB (zD D_L_law_0 15 rfl) ?_
    refine z_iconst (pc := 27) (v := 4) C (zD D_L_law_0 16 rfl) (by decide) ?_
    refine z_isub (pc := 28) C (zD D_L_law_0 17 rfl) ?_
    refine z_icmp_gt (pc := 29) C (zD D_L_law_0 18 rfl) (tgt := 1508) (by decide) (fun _ => ?_) (fun _ => ?_)
    · refine z_iconst (pc := 1508) (v := 1) C (zD D_L_law_14 45 rfl) (by decide) ?_
      exact hret _ _ _ (zl_A (Z := Z) (N := N + 1)).1 (zl_A (Z := Z) (N := N + 1)).2
    · refine z_aload_n (pc := 32) C (zD D_L_law_0 19 rfl) rfl 0 rfl ?_
      refine z_iload (pc := 33) C (zD D_L_law_0 20 rfl) 4 rfl ?_
      refine z_sld (pc := 35) C hX hbl hbB (zD D_L_law_0 21 rfl) (fun v35 => ?_)
      refine z_bipush (pc := 36) (v := 31) C (zD D_L_law_0 22 rfl) (by decide) ?_
      refine z_iand (pc := 38) C (zD D_L_law_0 23 rfl) ?_
      refine z_ite (fun c0 => ?_) (fun c0 => ?_)
      · refine z_tblIn (pc := 39) C (zD D_L_law_0 24 rfl) (by rw [c0]; decide) (by rw [c0]; decide) (by rw [c0]; rfl) (tgt := 152) (by decide) ?_
        refine z_aload_n (pc := 152) C (zD D_L_law_0 25 rfl) rfl 1 rfl ?_
        refine z_aload_n (pc := 153) C (zD D_L_law_0 26 rfl) rfl 0 rfl ?_
        refine z_iload (pc := 154) C (zD D_L_law_0 27 rfl) 4 rfl ?_
        refine z_iconst (pc := 156) (v := 1) C (zD D_L_law_0 28 rfl) (by decide) ?_
        refine z_iadd (pc := 157) C (zD D_L_law_0 29 rfl) ?_
        refine z_sld (pc := 158) C hX hbl hbB (zD D_L_law_0 30 rfl) (fun v158 => ?_)
        refine z_aload_n (pc := 159) C (zD D_L_law_0 31 rfl) rfl 3 rfl ?_
        refine z_callW (pc := 160) (z' := zlb Z (N + 1)) (As := [.ref (B + 0), .int v158, .ref (B + 131)]) C [] (c_L_begin _ hlz _ _ _ n 0 v158 131 h) zn_L_begin (by decide) (by decide) (zl_B (Z := Z) (N := N + 1)) q_113 q_114 q_115 q_116 rfl rfl rfl (zD D_L_law_0 32 rfl) rfl (fun r160 h160 => ?_)
        refine z_istore (pc := 163) (lv' := [(5, .int r160), (0, .ref b), (1, .ref (B + 0)), (2, .ref (B + 123)), (3, .ref (B + 131)), (4, .int i)]) C (zD D_L_law_0 33 rfl) (by decide) rfl ?_
        refine z_aload_n (pc := 165) C (zD D_L_law_0 34 rfl) rfl 3 rfl ?_
        refine z_aload_n (pc := 166) C (zD D_L_law_0 35 rfl) rfl 1 rfl ?_
        refine z_iload (pc := 167) C (zD D_L_law_0 36 rfl) 5 rfl ?_
        refine z_iconst (pc := 169) (v := 1) C (zD D_L_law_0 37 rfl) (by decide) ?_
        refine z_iadd (pc := 170) C (zD D_L_law_0 38 rfl) ?_
        refine z_sld (pc := 171) C hX hbl hbB (zD D_L_law_0 39 rfl) (fun v171 => ?_)
        refine z_cvI (pc := 172) (As := [.int v171]) C [] (c_X6_begin _ _ _ _ n 123 v171 h160) zn_X6_begin (by decide) (by decide) (zl_B (Z := Z) (N := N + 1)) zc6 rfl q_148 q_149 q_150 q_5 q_151 rfl rfl rfl (zD D_L_law_0 40 rfl) (fun r172 h172 => ?_)
        refine z_istore (pc := 175) (lv' := [(6, .int r172), (5, .int r160), (0, .ref b), (1, .ref (B + 0)), (2, .ref (B + 123)), (3, .ref (B + 131)), (4, .int i)]) C (zD D_L_law_0 41 rfl) (by decide) rfl ?_
        refine z_aload_n (pc := 177) C (zD D_L_law_0 42 rfl) rfl 4 rfl ?_
        refine z_cvR (pc := 178) (As := []) C [] (c_X6_thrown _ _ _ _ n 123 h172) zn_X6_thrown (by decide) (by decide) (zl_B (Z := Z) (N := N + 1)) zc6 rfl q_165 q_166 q_167 q_5 q_168 rfl rfl rfl (zD D_L_law_0 43 rfl) (fun r178 => ?_)
        refine z_iload (pc := 181) C (zD D_L_law_0 44 rfl) 1 rfl ?_
        refine z_icmp_eq (pc := 183) C (zD D_L_law_0 45 rfl) (tgt := 188) (by decide) (fun _ => ?_) (fun _ => ?_)
        · refine z_iload (pc := 188) C (zD D_L_law_0 48 rfl) 1 rfl ?_
          refine z_letg (fun K205 => zJ B Z Q (K205) 205 [(0, .ref b), (1, .ref (B + 0)), (2, .ref (B + 123)), (3, .ref (B + 131)), (4, .int i)] [] h172 (zlb Z (N + 1))) ?_ (fun K205 hK205 => ?_)
          · refine z_goto (pc := 205) C (zD D_L_law_0 59 rfl) (tgt := 1502) (by decide) ?_
            refine z_BC hN ?_
            refine z_iinc (pc := 1502) (lv' := [(4, .int (i + 4)), (0, .ref b), (1, .ref (B + 0)), (2, .ref (B + 123)), (3, .ref (B + 131))]) C (zD D_L_law_14 43 rfl) 4 rfl (v := i + 4) rfl (by decide) rfl ?_
            refine z_goto (pc := 1505) C (zD D_L_law_14 44 rfl) (tgt := 23) (by decide) ?_
            refine z_sub [1, 2, 3, 4, 0] (lv' := [(0, .ref b), (1, .ref (B + 0)), (2, .ref (B + 123)), (3, .ref (B + 131)), (4, .int (i + 4))]) rfl ?_
            exact ih (Nat.le_of_lt hN) (i + 4) h172
          refine z_if_ne (pc := 190) C (zD D_L_law_0 49 rfl) (tgt := 205) (by decide) (fun _ => ?_) (fun _ => ?_)
          · refine z_sub [2, 3, 4, 5, 6] (lv' := [(0, .ref b), (1, .ref (B + 0)), (2, .ref (B + 123)), (3, .ref (B + 131)), (4, .int i)]) rfl ?_
            exact hK205
          · refine z_aload_n (pc := 193) C (zD D_L_law_0 50 rfl) rfl 5 rfl ?_
            refine z_iconst (pc := 194) (v := 0) C (zD D_L_law_0 51 rfl) (by decide) ?_
            refine z_alload (pc := 195) C (zD D_L_law_0 52 rfl) (fun v195 => ?_)
            refine z_iload (pc := 196) C (zD D_L_law_0 53 rfl) 0 rfl ?_
            refine z_i2l (pc := 198) C (zD D_L_law_0 54 rfl) ?_
            refine z_lcmp (pc := 199) C (zD D_L_law_0 55 rfl) ?_
            refine z_if_eq (pc := 200) C (zD D_L_law_0 56 rfl) (tgt := 205) (by decide) (fun _ => ?_) (fun _ => ?_)
            · refine z_sub [2, 3, 4, 5, 6] (lv' := [(0, .ref b), (1, .ref (B + 0)), (2, .ref (B + 123)), (3, .ref (B + 131)), (4, .int i)]) rfl ?_
              exact hK205
            · refine z_iconst (pc := 203) (v := 0) C (zD D_L_law_0 57 rfl) (by decide) ?_
              exact z_none
        · refine z_iconst (pc := 186) (v := 0) C (zD D_L_law_0 46 rfl) (by decide) ?_
          exact z_none
      refine z_ite (fun c1 => ?_) (fun c1 => ?_)
      · refine z_tblIn (pc := 39) C (zD D_L_law_0 24 rfl) (by rw [c1]; decide) (by rw [c1]; decide) (by rw [c1]; rfl) (tgt := 208) (by decide) ?_
        refine z_aload_n (pc := 208) C (zD D_L_law_1 0 rfl) rfl 1 rfl ?_
        refine z_aload_n (pc := 209) C (zD D_L_law_1 1 rfl) rfl 0 rfl ?_
        refine z_iload (pc := 210) C (zD D_L_law_1 2 rfl) 4 rfl ?_
        refine z_iconst (pc := 212) (v := 1) C (zD D_L_law_1 3 rfl) (by decide) ?_
        refine z_iadd (pc := 213) C (zD D_L_law_1 4 rfl) ?_
        refine z_sld (pc := 214) C hX hbl hbB (zD D_L_law_1 5 rfl) (fun v214 => ?_)
        refine z_aload_n (pc := 215) C (zD D_L_law_1 6 rfl) rfl 0 rfl ?_
        refine z_iload (pc := 216) C (zD D_L_law_1 7 rfl) 4 rfl ?_
        refine z_iconst (pc := 218) (v := 2) C (zD D_L_law_1 8 rfl) (by decide) ?_
        refine z_iadd (pc := 219) C (zD D_L_law_1 9 rfl) ?_
        refine z_sld (pc := 220) C hX hbl hbB (zD D_L_law_1 10 rfl) (fun v220 => ?_)
        refine z_aload_n (pc := 221) C (zD D_L_law_1 11 rfl) rfl 3 rfl ?_
        refine z_callW (pc := 222) (z' := zlb Z (N + 1)) (As := [.ref (B + 0), .int v214, .int v220, .ref (B + 131)]) C [] (c_L_setTown _ hlz _ _ _ n 0 v214 v220 131 h) zn_L_setTown (by decide) (by decide) (zl_B (Z := Z) (N := N + 1)) q_169 q_170 q_115 q_171 rfl rfl rfl (zD D_L_law_1 12 rfl) rfl (fun r222 h222 => ?_)
        refine z_istore (pc := 225) (lv' := [(5, .int r222), (0, .ref b), (1, .ref (B + 0)), (2, .ref (B + 123)), (3, .ref (B + 131)), (4, .int i)]) C (zD D_L_law_1 13 rfl) (by decide) rfl ?_
        refine z_aload_n (pc := 227) C (zD D_L_law_1 14 rfl) rfl 3 rfl ?_
        refine z_aload_n (pc := 228) C (zD D_L_law_1 15 rfl) rfl 1 rfl ?_
        refine z_iload (pc := 229) C (zD D_L_law_1 16 rfl) 5 rfl ?_
        refine z_iconst (pc := 231) (v := 1) C (zD D_L_law_1 17 rfl) (by decide) ?_
        refine z_iadd (pc := 232) C (zD D_L_law_1 18 rfl) ?_
        refine z_sld (pc := 233) C hX hbl hbB (zD D_L_law_1 19 rfl) (fun v233 => ?_)
        refine z_aload_n (pc := 234) C (zD D_L_law_1 20 rfl) rfl 1 rfl ?_
        refine z_iload (pc := 235) C (zD D_L_law_1 21 rfl) 5 rfl ?_
        refine z_iconst (pc := 237) (v := 2) C (zD D_L_law_1 22 rfl) (by decide) ?_
        refine z_iadd (pc := 238) C (zD D_L_law_1 23 rfl) ?_
        refine z_sld (pc := 239) C hX hbl hbB (zD D_L_law_1 24 rfl) (fun v239 => ?_)
        refine z_cvI (pc := 240) (As := [.int v233, .int v239]) C [] (c_X6_setTown _ _ _ _ n 123 v233 v239 h222) zn_X6_setTown (by decide) (by decide) (zl_B (Z := Z) (N := N + 1)) zc6 rfl q_184 q_185 q_186 q_5 q_187 rfl rfl rfl (zD D_L_law_1 25 rfl) (fun r240 h240 => ?_)
        refine z_istore (pc := 243) (lv' := [(6, .int r240), (5, .int r222), (0, .ref b), (1, .ref (B + 0)), (2, .ref (B + 123)), (3, .ref (B + 131)), (4, .int i)]) C (zD D_L_law_1 26 rfl) (by decide) rfl ?_
        refine z_aload_n (pc := 245) C (zD D_L_law_1 27 rfl) rfl 4 rfl ?_
        refine z_cvR (pc := 246) (As := []) C [] (c_X6_thrown _ _ _ _ n 123 h240) zn_X6_thrown (by decide) (by decide) (zl_B (Z := Z) (N := N + 1)) zc6 rfl q_165 q_166 q_167 q_5 q_168 rfl rfl rfl (zD D_L_law_1 28 rfl) (fun r246 => ?_)
        refine z_iload (pc := 249) C (zD D_L_law_1 29 rfl) 1 rfl ?_
        refine z_icmp_eq (pc := 251) C (zD D_L_law_1 30 rfl) (tgt := 256) (by decide) (fun _ => ?_) (fun _ => ?_)
        · refine z_iload (pc := 256) C (zD D_L_law_1 33 rfl) 1 rfl ?_
          refine z_letg (fun K273 => zJ B Z Q (K273) 273 [(0, .ref b), (1, .ref (B + 0)), (2, .ref (B + 123)), (3, .ref (B + 131)), (4, .int i)] [] h240 (zlb Z (N + 1))) ?_ (fun K273 hK273 => ?_)
          · refine z_goto (pc := 273) C (zD D_L_law_1 44 rfl) (tgt := 1502) (by decide) ?_
            refine z_BC hN ?_
            refine z_iinc (pc := 1502) (lv' := [(4, .int (i + 4)), (0, .ref b), (1, .ref (B + 0)), (2, .ref (B + 123)), (3, .ref (B + 131))]) C (zD D_L_law_14 43 rfl) 4 rfl (v := i + 4) rfl (by decide) rfl ?_
            refine z_goto (pc := 1505) C (zD D_L_law_14 44 rfl) (tgt := 23) (by decide) ?_
            refine z_sub [1, 2, 3, 4, 0] (lv' := [(0, .ref b), (1, .ref (B + 0)), (2, .ref (B + 123)), (3, .ref (B + 131)), (4, .int (i + 4))]) rfl ?_
            exact ih (Nat.le_of_lt hN) (i + 4) h240
          refine z_if_ne (pc := 258) C (zD D_L_law_1 34 rfl) (tgt := 273) (by decide) (fun _ => ?_) (fun _ => ?_)
          · refine z_sub [2, 3, 4, 5, 6] (lv' := [(0, .ref b), (1, .ref (B + 0)), (2, .ref (B + 123)), (3, .ref (B + 131)), (4, .int i)]) rfl ?_
            exact hK273
          · refine z_aload_n (pc := 261) C (zD D_L_law_1 35 rfl) rfl 5 rfl ?_
            refine z_iconst (pc := 262) (v := 0) C (zD D_L_law_1 36 rfl) (by decide) ?_
            refine z_alload (pc := 263) C (zD D_L_law_1 37 rfl) (fun v263 => ?_)
            refine z_iload (pc := 264) C (zD D_L_law_1 38 rfl) 0 rfl ?_
            refine z_i2l (pc := 266) C (zD D_L_law_1 39 rfl) ?_
            refine z_lcmp (pc := 267) C (zD D_L_law_1 40 rfl) ?_
            refine z_if_eq (pc := 268) C (zD D_L_law_1 41 rfl) (tgt := 273) (by decide) (fun _ => ?_) (fun _ => ?_)
            · refine z_sub [2, 3, 4, 5, 6] (lv' := [(0, .ref b), (1, .ref (B + 0)), (2, .ref (B + 123)), (3, .ref (B + 131)), (4, .int i)]) rfl ?_
              exact hK273
            · refine z_iconst (pc := 271) (v := 0) C (zD D_L_law_1 42 rfl) (by decide) ?_
              exact z_none
        · refine z_iconst (pc := 254) (v := 0) C (zD D_L_law_1 31 rfl) (by decide) ?_
          exact z_none
      refine z_ite (fun c2 => ?_) (fun c2 => ?_)
      · refine z_tblIn (pc := 39) C (zD D_L_law_0 24 rfl) (by rw [c2]; decide) (by rw [c2]; decide) (by rw [c2]; rfl) (tgt := 276) (by decide) ?_
        refine z_aload_n (pc := 276) C (zD D_L_law_1 45 rfl) rfl 1 rfl ?_
        refine z_aload_n (pc := 277) C (zD D_L_law_1 46 rfl) rfl 0 rfl ?_
        refine z_iload (pc := 278) C (zD D_L_law_1 47 rfl) 4 rfl ?_
        refine z_iconst (pc := 280) (v := 1) C (zD D_L_law_1 48 rfl) (by decide) ?_
        refine z_iadd (pc := 281) C (zD D_L_law_1 49 rfl) ?_
        refine z_sld (pc := 282) C hX hbl hbB (zD D_L_law_1 50 rfl) (fun v282 => ?_)
        refine z_aload_n (pc := 283) C (zD D_L_law_1 51 rfl) rfl 0 rfl ?_
        refine z_iload (pc := 284) C (zD D_L_law_1 52 rfl) 4 rfl ?_
        refine z_iconst (pc := 286) (v := 2) C (zD D_L_law_1 53 rfl) (by decide) ?_
        refine z_iadd (pc := 287) C (zD D_L_law_1 54 rfl) ?_
        refine z_sld (pc := 288) C hX hbl hbB (zD D_L_law_1 55 rfl) (fun v288 => ?_)
        refine z_aload_n (pc := 289) C (zD D_L_law_1 56 rfl) rfl 0 rfl ?_
        refine z_iload (pc := 290) C (zD D_L_law_1 57 rfl) 4 rfl ?_
        refine z_iconst (pc := 292) (v := 3) C (zD D_L_law_1 58 rfl) (by decide) ?_
        refine z_iadd (pc := 293) C (zD D_L_law_1 59 rfl) ?_
        refine z_sld (pc := 294) C hX hbl hbB (zD D_L_law_2 0 rfl) (fun v294 => ?_)
        refine z_aload_n (pc := 295) C (zD D_L_law_2 1 rfl) rfl 3 rfl ?_
        refine z_callW (pc := 296) (z' := zlb Z (N + 1)) (As := [.ref (B + 0), .int v282, .int v288, .int v294, .ref (B + 131)]) C [] (c_L_start _ hlz _ _ _ n 0 v282 v288 v294 131 h) zn_L_start (by decide) (by decide) (zl_B (Z := Z) (N := N + 1)) q_191 q_192 q_115 q_193 rfl rfl rfl (zD D_L_law_2 2 rfl) rfl (fun r296 h296 => ?_)
        refine z_istore (pc := 299) (lv' := [(5, .int r296), (0, .ref b), (1, .ref (B + 0)), (2, .ref (B + 123)), (3, .ref (B + 131)), (4, .int i)]) C (zD D_L_law_2 3 rfl) (by decide) rfl ?_
        refine z_aload_n (pc := 301) C (zD D_L_law_2 4 rfl) rfl 3 rfl ?_
        refine z_aload_n (pc := 302) C (zD D_L_law_2 5 rfl) rfl 1 rfl ?_
        refine z_iload (pc := 303) C (zD D_L_law_2 6 rfl) 5 rfl ?_
        refine z_iconst (pc := 305) (v := 1) C (zD D_L_law_2 7 rfl) (by decide) ?_
        refine z_iadd (pc := 306) C (zD D_L_law_2 8 rfl) ?_
        refine z_sld (pc := 307) C hX hbl hbB (zD D_L_law_2 9 rfl) (fun v307 => ?_)
        refine z_aload_n (pc := 308) C (zD D_L_law_2 10 rfl) rfl 1 rfl ?_
        refine z_iload (pc := 309) C (zD D_L_law_2 11 rfl) 5 rfl ?_
        refine z_iconst (pc := 311) (v := 2) C (zD D_L_law_2 12 rfl) (by decide) ?_
        refine z_iadd (pc := 312) C (zD D_L_law_2 13 rfl) ?_
        refine z_sld (pc := 313) C hX hbl hbB (zD D_L_law_2 14 rfl) (fun v313 => ?_)
        refine z_aload_n (pc := 314) C (zD D_L_law_2 15 rfl) rfl 1 rfl ?_
        refine z_iload (pc := 315) C (zD D_L_law_2 16 rfl) 5 rfl ?_
        refine z_iconst (pc := 317) (v := 3) C (zD D_L_law_2 17 rfl) (by decide) ?_
        refine z_iadd (pc := 318) C (zD D_L_law_2 18 rfl) ?_
        refine z_sld (pc := 319) C hX hbl hbB (zD D_L_law_2 19 rfl) (fun v319 => ?_)
        refine z_cvI (pc := 320) (As := [.int v307, .int v313, .int v319]) C [] (c_X6_start _ _ _ _ n 123 v307 v313 v319 h296) zn_X6_start (by decide) (by decide) (zl_B (Z := Z) (N := N + 1)) zc6 rfl q_245 q_246 q_247 q_5 q_248 rfl rfl rfl (zD D_L_law_2 20 rfl) (fun r320 h320 => ?_)
        refine z_istore (pc := 323) (lv' := [(6, .int r320), (5, .int r296), (0, .ref b), (1, .ref (B + 0)), (2, .ref (B + 123)), (3, .ref (B + 131)), (4, .int i)]) C (zD D_L_law_2 21 rfl) (by decide) rfl ?_
        refine z_aload_n (pc := 325) C (zD D_L_law_2 22 rfl) rfl 4 rfl ?_
        refine z_cvR (pc := 326) (As := []) C [] (c_X6_thrown _ _ _ _ n 123 h320) zn_X6_thrown (by decide) (by decide) (zl_B (Z := Z) (N := N + 1)) zc6 rfl q_165 q_166 q_167 q_5 q_168 rfl rfl rfl (zD D_L_law_2 23 rfl) (fun r326 => ?_)
        refine z_iload (pc := 329) C (zD D_L_law_2 24 rfl) 1 rfl ?_
        refine z_icmp_eq (pc := 331) C (zD D_L_law_2 25 rfl) (tgt := 336) (by decide) (fun _ => ?_) (fun _ => ?_)
        · refine z_iload (pc := 336) C (zD D_L_law_2 28 rfl) 1 rfl ?_
          refine z_letg (fun K353 => zJ B Z Q (K353) 353 [(0, .ref b), (1, .ref (B + 0)), (2, .ref (B + 123)), (3, .ref (B + 131)), (4, .int i)] [] h320 (zlb Z (N + 1))) ?_ (fun K353 hK353 => ?_)
          · refine z_goto (pc := 353) C (zD D_L_law_2 39 rfl) (tgt := 1502) (by decide) ?_
            refine z_BC hN ?_
            refine z_iinc (pc := 1502) (lv' := [(4, .int (i + 4)), (0, .ref b), (1, .ref (B + 0)), (2, .ref (B + 123)), (3, .ref (B + 131))]) C (zD D_L_law_14 43 rfl) 4 rfl (v := i + 4) rfl (by decide) rfl ?_
            refine z_goto (pc := 1505) C (zD D_L_law_14 44 rfl) (tgt := 23) (by decide) ?_
            refine z_sub [1, 2, 3, 4, 0] (lv' := [(0, .ref b), (1, .ref (B + 0)), (2, .ref (B + 123)), (3, .ref (B + 131)), (4, .int (i + 4))]) rfl ?_
            exact ih (Nat.le_of_lt hN) (i + 4) h320
          refine z_if_ne (pc := 338) C (zD D_L_law_2 29 rfl) (tgt := 353) (by decide) (fun _ => ?_) (fun _ => ?_)
          · refine z_sub [2, 3, 4, 5, 6] (lv' := [(0, .ref b), (1, .ref (B + 0)), (2, .ref (B + 123)), (3, .ref (B + 131)), (4, .int i)]) rfl ?_
            exact hK353
          · refine z_aload_n (pc := 341) C (zD D_L_law_2 30 rfl) rfl 5 rfl ?_
            refine z_iconst (pc := 342) (v := 0) C (zD D_L_law_2 31 rfl) (by decide) ?_
            refine z_alload (pc := 343) C (zD D_L_law_2 32 rfl) (fun v343 => ?_)
            refine z_iload (pc := 344) C (zD D_L_law_2 33 rfl) 0 rfl ?_
            refine z_i2l (pc := 346) C (zD D_L_law_2 34 rfl) ?_
            refine z_lcmp (pc := 347) C (zD D_L_law_2 35 rfl) ?_
            refine z_if_eq (pc := 348) C (zD D_L_law_2 36 rfl) (tgt := 353) (by decide) (fun _ => ?_) (fun _ => ?_)
            · refine z_sub [2, 3, 4, 5, 6] (lv' := [(0, .ref b), (1, .ref (B + 0)), (2, .ref (B + 123)), (3, .ref (B + 131)), (4, .int i)]) rfl ?_
              exact hK353
            · refine z_iconst (pc := 351) (v := 0) C (zD D_L_law_2 37 rfl) (by decide) ?_
              exact z_none
        · refine z_iconst (pc := 334) (v := 0) C (zD D_L_law_2 26 rfl) (by decide) ?_
          exact z_none
      refine z_ite (fun c3 => ?_) (fun c3 => ?_)
      · refine z_tblIn (pc := 39) C (zD D_L_law_0 24 rfl) (by rw [c3]; decide) (by rw [c3]; decide) (by rw [c3]; rfl) (tgt := 356) (by decide) ?_
        refine z_aload_n (pc := 356) C (zD D_L_law_2 40 rfl) rfl 1 rfl ?_
        refine z_aload_n (pc := 357) C (zD D_L_law_2 41 rfl) rfl 0 rfl ?_
        refine z_iload (pc := 358) C (zD D_L_law_2 42 rfl) 4 rfl ?_
        refine z_iconst (pc := 360) (v := 1) C (zD D_L_law_2 43 rfl) (by decide) ?_
        refine z_iadd (pc := 361) C (zD D_L_law_2 44 rfl) ?_
        refine z_sld (pc := 362) C hX hbl hbB (zD D_L_law_2 45 rfl) (fun v362 => ?_)
        refine z_aload_n (pc := 363) C (zD D_L_law_2 46 rfl) rfl 3 rfl ?_
        refine z_callW (pc := 364) (z' := zlb Z (N + 1)) (As := [.ref (B + 0), .int v362, .ref (B + 131)]) C [] (c_L_buy _ hlz _ _ _ n 0 v362 131 h) zn_L_buy (by decide) (by decide) (zl_B (Z := Z) (N := N + 1)) q_300 q_301 q_115 q_302 rfl rfl rfl (zD D_L_law_2 47 rfl) rfl (fun r364 h364 => ?_)
        refine z_istore (pc := 367) (lv' := [(5, .int r364), (0, .ref b), (1, .ref (B + 0)), (2, .ref (B + 123)), (3, .ref (B + 131)), (4, .int i)]) C (zD D_L_law_2 48 rfl) (by decide) rfl ?_
        refine z_aload_n (pc := 369) C (zD D_L_law_2 49 rfl) rfl 3 rfl ?_
        refine z_aload_n (pc := 370) C (zD D_L_law_2 50 rfl) rfl 1 rfl ?_
        refine z_iload (pc := 371) C (zD D_L_law_2 51 rfl) 5 rfl ?_
        refine z_iconst (pc := 373) (v := 1) C (zD D_L_law_2 52 rfl) (by decide) ?_
        refine z_iadd (pc := 374) C (zD D_L_law_2 53 rfl) ?_
        refine z_sld (pc := 375) C hX hbl hbB (zD D_L_law_2 54 rfl) (fun v375 => ?_)
        refine z_cvI (pc := 376) (As := [.int v375]) C [] (c_X6_buy _ _ _ _ n 123 v375 h364) zn_X6_buy (by decide) (by decide) (zl_B (Z := Z) (N := N + 1)) zc6 rfl q_319 q_320 q_321 q_5 q_322 rfl rfl rfl (zD D_L_law_2 55 rfl) (fun r376 h376 => ?_)
        refine z_istore (pc := 379) (lv' := [(6, .int r376), (5, .int r364), (0, .ref b), (1, .ref (B + 0)), (2, .ref (B + 123)), (3, .ref (B + 131)), (4, .int i)]) C (zD D_L_law_2 56 rfl) (by decide) rfl ?_
        refine z_aload_n (pc := 381) C (zD D_L_law_2 57 rfl) rfl 4 rfl ?_
        refine z_cvR (pc := 382) (As := []) C [] (c_X6_thrown _ _ _ _ n 123 h376) zn_X6_thrown (by decide) (by decide) (zl_B (Z := Z) (N := N + 1)) zc6 rfl q_165 q_166 q_167 q_5 q_168 rfl rfl rfl (zD D_L_law_2 58 rfl) (fun r382 => ?_)
        refine z_iload (pc := 385) C (zD D_L_law_2 59 rfl) 1 rfl ?_
        refine z_icmp_eq (pc := 387) C (zD D_L_law_3 0 rfl) (tgt := 392) (by decide) (fun _ => ?_) (fun _ => ?_)
        · refine z_iload (pc := 392) C (zD D_L_law_3 3 rfl) 1 rfl ?_
          refine z_letg (fun K409 => zJ B Z Q (K409) 409 [(0, .ref b), (1, .ref (B + 0)), (2, .ref (B + 123)), (3, .ref (B + 131)), (4, .int i)] [] h376 (zlb Z (N + 1))) ?_ (fun K409 hK409 => ?_)
          · refine z_goto (pc := 409) C (zD D_L_law_3 14 rfl) (tgt := 1502) (by decide) ?_
            refine z_BC hN ?_
            refine z_iinc (pc := 1502) (lv' := [(4, .int (i + 4)), (0, .ref b), (1, .ref (B + 0)), (2, .ref (B + 123)), (3, .ref (B + 131))]) C (zD D_L_law_14 43 rfl) 4 rfl (v := i + 4) rfl (by decide) rfl ?_
            refine z_goto (pc := 1505) C (zD D_L_law_14 44 rfl) (tgt := 23) (by decide) ?_
            refine z_sub [1, 2, 3, 4, 0] (lv' := [(0, .ref b), (1, .ref (B + 0)), (2, .ref (B + 123)), (3, .ref (B + 131)), (4, .int (i + 4))]) rfl ?_
            exact ih (Nat.le_of_lt hN) (i + 4) h376
          refine z_if_ne (pc := 394) C (zD D_L_law_3 4 rfl) (tgt := 409) (by decide) (fun _ => ?_) (fun _ => ?_)
          · refine z_sub [2, 3, 4, 5, 6] (lv' := [(0, .ref b), (1, .ref (B + 0)), (2, .ref (B + 123)), (3, .ref (B + 131)), (4, .int i)]) rfl ?_
            exact hK409
          · refine z_aload_n (pc := 397) C (zD D_L_law_3 5 rfl) rfl 5 rfl ?_
            refine z_iconst (pc := 398) (v := 0) C (zD D_L_law_3 6 rfl) (by decide) ?_
            refine z_alload (pc := 399) C (zD D_L_law_3 7 rfl) (fun v399 => ?_)
            refine z_iload (pc := 400) C (zD D_L_law_3 8 rfl) 0 rfl ?_
            refine z_i2l (pc := 402) C (zD D_L_law_3 9 rfl) ?_
            refine z_lcmp (pc := 403) C (zD D_L_law_3 10 rfl) ?_
            refine z_if_eq (pc := 404) C (zD D_L_law_3 11 rfl) (tgt := 409) (by decide) (fun _ => ?_) (fun _ => ?_)
            · refine z_sub [2, 3, 4, 5, 6] (lv' := [(0, .ref b), (1, .ref (B + 0)), (2, .ref (B + 123)), (3, .ref (B + 131)), (4, .int i)]) rfl ?_
              exact hK409
            · refine z_iconst (pc := 407) (v := 0) C (zD D_L_law_3 12 rfl) (by decide) ?_
              exact z_none
        · refine z_iconst (pc := 390) (v := 0) C (zD D_L_law_3 1 rfl) (by decide) ?_
          exact z_none
      refine z_ite (fun c4 => ?_) (fun c4 => ?_)
      · refine z_tblIn (pc := 39) C (zD D_L_law_0 24 rfl) (by rw [c4]; decide) (by rw [c4]; decide) (by rw [c4]; rfl) (tgt := 412) (by decide) ?_
        refine z_aload_n (pc := 412) C (zD D_L_law_3 15 rfl) rfl 1 rfl ?_
        refine z_aload_n (pc := 413) C (zD D_L_law_3 16 rfl) rfl 0 rfl ?_
        refine z_iload (pc := 414) C (zD D_L_law_3 17 rfl) 4 rfl ?_
        refine z_iconst (pc := 416) (v := 1) C (zD D_L_law_3 18 rfl) (by decide) ?_
        refine z_iadd (pc := 417) C (zD D_L_law_3 19 rfl) ?_
        refine z_sld (pc := 418) C hX hbl hbB (zD D_L_law_3 20 rfl) (fun v418 => ?_)
        refine z_aload_n (pc := 419) C (zD D_L_law_3 21 rfl) rfl 0 rfl ?_
        refine z_iload (pc := 420) C (zD D_L_law_3 22 rfl) 4 rfl ?_
        refine z_iconst (pc := 422) (v := 2) C (zD D_L_law_3 23 rfl) (by decide) ?_
        refine z_iadd (pc := 423) C (zD D_L_law_3 24 rfl) ?_
        refine z_sld (pc := 424) C hX hbl hbB (zD D_L_law_3 25 rfl) (fun v424 => ?_)
        refine z_aload_n (pc := 425) C (zD D_L_law_3 26 rfl) rfl 3 rfl ?_
        refine z_callW (pc := 426) (z' := zlb Z (N + 1)) (As := [.ref (B + 0), .int v418, .int v424, .ref (B + 131)]) C [] (c_L_sell _ hlz _ _ _ n 0 v418 v424 131 h) zn_L_sell (by decide) (by decide) (zl_B (Z := Z) (N := N + 1)) q_335 q_336 q_115 q_337 rfl rfl rfl (zD D_L_law_3 27 rfl) rfl (fun r426 h426 => ?_)
        refine z_istore (pc := 429) (lv' := [(5, .int r426), (0, .ref b), (1, .ref (B + 0)), (2, .ref (B + 123)), (3, .ref (B + 131)), (4, .int i)]) C (zD D_L_law_3 28 rfl) (by decide) rfl ?_
        refine z_aload_n (pc := 431) C (zD D_L_law_3 29 rfl) rfl 3 rfl ?_
        refine z_aload_n (pc := 432) C (zD D_L_law_3 30 rfl) rfl 1 rfl ?_
        refine z_iload (pc := 433) C (zD D_L_law_3 31 rfl) 5 rfl ?_
        refine z_iconst (pc := 435) (v := 1) C (zD D_L_law_3 32 rfl) (by decide) ?_
        refine z_iadd (pc := 436) C (zD D_L_law_3 33 rfl) ?_
        refine z_sld (pc := 437) C hX hbl hbB (zD D_L_law_3 34 rfl) (fun v437 => ?_)
        refine z_aload_n (pc := 438) C (zD D_L_law_3 35 rfl) rfl 1 rfl ?_
        refine z_iload (pc := 439) C (zD D_L_law_3 36 rfl) 5 rfl ?_
        refine z_iconst (pc := 441) (v := 2) C (zD D_L_law_3 37 rfl) (by decide) ?_
        refine z_iadd (pc := 442) C (zD D_L_law_3 38 rfl) ?_
        refine z_sld (pc := 443) C hX hbl hbB (zD D_L_law_3 39 rfl) (fun v443 => ?_)
        refine z_cvI (pc := 444) (As := [.int v437, .int v443]) C [] (c_X6_sell _ _ _ _ n 123 v437 v443 h426) zn_X6_sell (by decide) (by decide) (zl_B (Z := Z) (N := N + 1)) zc6 rfl q_357 q_358 q_359 q_5 q_360 rfl rfl rfl (zD D_L_law_3 40 rfl) (fun r444 h444 => ?_)
        refine z_istore (pc := 447) (lv' := [(6, .int r444), (5, .int r426), (0, .ref b), (1, .ref (B + 0)), (2, .ref (B + 123)), (3, .ref (B + 131)), (4, .int i)]) C (zD D_L_law_3 41 rfl) (by decide) rfl ?_
        refine z_aload_n (pc := 449) C (zD D_L_law_3 42 rfl) rfl 4 rfl ?_
        refine z_cvR (pc := 450) (As := []) C [] (c_X6_thrown _ _ _ _ n 123 h444) zn_X6_thrown (by decide) (by decide) (zl_B (Z := Z) (N := N + 1)) zc6 rfl q_165 q_166 q_167 q_5 q_168 rfl rfl rfl (zD D_L_law_3 43 rfl) (fun r450 => ?_)
        refine z_iload (pc := 453) C (zD D_L_law_3 44 rfl) 1 rfl ?_
        refine z_icmp_eq (pc := 455) C (zD D_L_law_3 45 rfl) (tgt := 460) (by decide) (fun _ => ?_) (fun _ => ?_)
        · refine z_iload (pc := 460) C (zD D_L_law_3 48 rfl) 1 rfl ?_
          refine z_letg (fun K477 => zJ B Z Q (K477) 477 [(0, .ref b), (1, .ref (B + 0)), (2, .ref (B + 123)), (3, .ref (B + 131)), (4, .int i)] [] h444 (zlb Z (N + 1))) ?_ (fun K477 hK477 => ?_)
          · refine z_goto (pc := 477) C (zD D_L_law_3 59 rfl) (tgt := 1502) (by decide) ?_
            refine z_BC hN ?_
            refine z_iinc (pc := 1502) (lv' := [(4, .int (i + 4)), (0, .ref b), (1, .ref (B + 0)), (2, .ref (B + 123)), (3, .ref (B + 131))]) C (zD D_L_law_14 43 rfl) 4 rfl (v := i + 4) rfl (by decide) rfl ?_
            refine z_goto (pc := 1505) C (zD D_L_law_14 44 rfl) (tgt := 23) (by decide) ?_
            refine z_sub [1, 2, 3, 4, 0] (lv' := [(0, .ref b), (1, .ref (B + 0)), (2, .ref (B + 123)), (3, .ref (B + 131)), (4, .int (i + 4))]) rfl ?_
            exact ih (Nat.le_of_lt hN) (i + 4) h444
          refine z_if_ne (pc := 462) C (zD D_L_law_3 49 rfl) (tgt := 477) (by decide) (fun _ => ?_) (fun _ => ?_)
          · refine z_sub [2, 3, 4, 5, 6] (lv' := [(0, .ref b), (1, .ref (B + 0)), (2, .ref (B + 123)), (3, .ref (B + 131)), (4, .int i)]) rfl ?_
            exact hK477
          · refine z_aload_n (pc := 465) C (zD D_L_law_3 50 rfl) rfl 5 rfl ?_
            refine z_iconst (pc := 466) (v := 0) C (zD D_L_law_3 51 rfl) (by decide) ?_
            refine z_alload (pc := 467) C (zD D_L_law_3 52 rfl) (fun v467 => ?_)
            refine z_iload (pc := 468) C (zD D_L_law_3 53 rfl) 0 rfl ?_
            refine z_i2l (pc := 470) C (zD D_L_law_3 54 rfl) ?_
            refine z_lcmp (pc := 471) C (zD D_L_law_3 55 rfl) ?_
            refine z_if_eq (pc := 472) C (zD D_L_law_3 56 rfl) (tgt := 477) (by decide) (fun _ => ?_) (fun _ => ?_)
            · refine z_sub [2, 3, 4, 5, 6] (lv' := [(0, .ref b), (1, .ref (B + 0)), (2, .ref (B + 123)), (3, .ref (B + 131)), (4, .int i)]) rfl ?_
              exact hK477
            · refine z_iconst (pc := 475) (v := 0) C (zD D_L_law_3 57 rfl) (by decide) ?_
              exact z_none
        · refine z_iconst (pc := 458) (v := 0) C (zD D_L_law_3 46 rfl) (by decide) ?_
          exact z_none
      refine z_ite (fun c5 => ?_) (fun c5 => ?_)
      · refine z_tblIn (pc := 39) C (zD D_L_law_0 24 rfl) (by rw [c5]; decide) (by rw [c5]; decide) (by rw [c5]; rfl) (tgt := 480) (by decide) ?_
        refine z_aload_n (pc := 480) C (zD D_L_law_4 0 rfl) rfl 1 rfl ?_
        refine z_aload_n (pc := 481) C (zD D_L_law_4 1 rfl) rfl 0 rfl ?_
        refine z_iload (pc := 482) C (zD D_L_law_4 2 rfl) 4 rfl ?_
        refine z_iconst (pc := 484) (v := 1) C (zD D_L_law_4 3 rfl) (by decide) ?_
        refine z_iadd (pc := 485) C (zD D_L_law_4 4 rfl) ?_
        refine z_sld (pc := 486) C hX hbl hbB (zD D_L_law_4 5 rfl) (fun v486 => ?_)
        refine z_aload_n (pc := 487) C (zD D_L_law_4 6 rfl) rfl 0 rfl ?_
        refine z_iload (pc := 488) C (zD D_L_law_4 7 rfl) 4 rfl ?_
        refine z_iconst (pc := 490) (v := 2) C (zD D_L_law_4 8 rfl) (by decide) ?_
        refine z_iadd (pc := 491) C (zD D_L_law_4 9 rfl) ?_
        refine z_sld (pc := 492) C hX hbl hbB (zD D_L_law_4 10 rfl) (fun v492 => ?_)
        refine z_aload_n (pc := 493) C (zD D_L_law_4 11 rfl) rfl 3 rfl ?_
        refine z_callW (pc := 494) (z' := zlb Z (N + 1)) (As := [.ref (B + 0), .int v486, .int v492, .ref (B + 131)]) C [] (c_L_merge _ hlz _ _ _ n 0 v486 v492 131 h) zn_L_merge (by decide) (by decide) (zl_B (Z := Z) (N := N + 1)) q_373 q_374 q_115 q_375 rfl rfl rfl (zD D_L_law_4 12 rfl) rfl (fun r494 h494 => ?_)
        refine z_istore (pc := 497) (lv' := [(5, .int r494), (0, .ref b), (1, .ref (B + 0)), (2, .ref (B + 123)), (3, .ref (B + 131)), (4, .int i)]) C (zD D_L_law_4 13 rfl) (by decide) rfl ?_
        refine z_aload_n (pc := 499) C (zD D_L_law_4 14 rfl) rfl 3 rfl ?_
        refine z_aload_n (pc := 500) C (zD D_L_law_4 15 rfl) rfl 1 rfl ?_
        refine z_iload (pc := 501) C (zD D_L_law_4 16 rfl) 5 rfl ?_
        refine z_iconst (pc := 503) (v := 1) C (zD D_L_law_4 17 rfl) (by decide) ?_
        refine z_iadd (pc := 504) C (zD D_L_law_4 18 rfl) ?_
        refine z_sld (pc := 505) C hX hbl hbB (zD D_L_law_4 19 rfl) (fun v505 => ?_)
        refine z_aload_n (pc := 506) C (zD D_L_law_4 20 rfl) rfl 1 rfl ?_
        refine z_iload (pc := 507) C (zD D_L_law_4 21 rfl) 5 rfl ?_
        refine z_iconst (pc := 509) (v := 2) C (zD D_L_law_4 22 rfl) (by decide) ?_
        refine z_iadd (pc := 510) C (zD D_L_law_4 23 rfl) ?_
        refine z_sld (pc := 511) C hX hbl hbB (zD D_L_law_4 24 rfl) (fun v511 => ?_)
        refine z_cvI (pc := 512) (As := [.int v505, .int v511]) C [] (c_X6_merge _ _ _ _ n 123 v505 v511 h494) zn_X6_merge (by decide) (by decide) (zl_B (Z := Z) (N := N + 1)) zc6 rfl q_393 q_394 q_395 q_5 q_396 rfl rfl rfl (zD D_L_law_4 25 rfl) (fun r512 h512 => ?_)
        refine z_istore (pc := 515) (lv' := [(6, .int r512), (5, .int r494), (0, .ref b), (1, .ref (B + 0)), (2, .ref (B + 123)), (3, .ref (B + 131)), (4, .int i)]) C (zD D_L_law_4 26 rfl) (by decide) rfl ?_
        refine z_aload_n (pc := 517) C (zD D_L_law_4 27 rfl) rfl 4 rfl ?_
        refine z_cvR (pc := 518) (As := []) C [] (c_X6_thrown _ _ _ _ n 123 h512) zn_X6_thrown (by decide) (by decide) (zl_B (Z := Z) (N := N + 1)) zc6 rfl q_165 q_166 q_167 q_5 q_168 rfl rfl rfl (zD D_L_law_4 28 rfl) (fun r518 => ?_)
        refine z_iload (pc := 521) C (zD D_L_law_4 29 rfl) 1 rfl ?_
        refine z_icmp_eq (pc := 523) C (zD D_L_law_4 30 rfl) (tgt := 528) (by decide) (fun _ => ?_) (fun _ => ?_)
        · refine z_iload (pc := 528) C (zD D_L_law_4 33 rfl) 1 rfl ?_
          refine z_letg (fun K545 => zJ B Z Q (K545) 545 [(0, .ref b), (1, .ref (B + 0)), (2, .ref (B + 123)), (3, .ref (B + 131)), (4, .int i)] [] h512 (zlb Z (N + 1))) ?_ (fun K545 hK545 => ?_)
          · refine z_goto (pc := 545) C (zD D_L_law_4 44 rfl) (tgt := 1502) (by decide) ?_
            refine z_BC hN ?_
            refine z_iinc (pc := 1502) (lv' := [(4, .int (i + 4)), (0, .ref b), (1, .ref (B + 0)), (2, .ref (B + 123)), (3, .ref (B + 131))]) C (zD D_L_law_14 43 rfl) 4 rfl (v := i + 4) rfl (by decide) rfl ?_
            refine z_goto (pc := 1505) C (zD D_L_law_14 44 rfl) (tgt := 23) (by decide) ?_
            refine z_sub [1, 2, 3, 4, 0] (lv' := [(0, .ref b), (1, .ref (B + 0)), (2, .ref (B + 123)), (3, .ref (B + 131)), (4, .int (i + 4))]) rfl ?_
            exact ih (Nat.le_of_lt hN) (i + 4) h512
          refine z_if_ne (pc := 530) C (zD D_L_law_4 34 rfl) (tgt := 545) (by decide) (fun _ => ?_) (fun _ => ?_)
          · refine z_sub [2, 3, 4, 5, 6] (lv' := [(0, .ref b), (1, .ref (B + 0)), (2, .ref (B + 123)), (3, .ref (B + 131)), (4, .int i)]) rfl ?_
            exact hK545
          · refine z_aload_n (pc := 533) C (zD D_L_law_4 35 rfl) rfl 5 rfl ?_
            refine z_iconst (pc := 534) (v := 0) C (zD D_L_law_4 36 rfl) (by decide) ?_
            refine z_alload (pc := 535) C (zD D_L_law_4 37 rfl) (fun v535 => ?_)
            refine z_iload (pc := 536) C (zD D_L_law_4 38 rfl) 0 rfl ?_
            refine z_i2l (pc := 538) C (zD D_L_law_4 39 rfl) ?_
            refine z_lcmp (pc := 539) C (zD D_L_law_4 40 rfl) ?_
            refine z_if_eq (pc := 540) C (zD D_L_law_4 41 rfl) (tgt := 545) (by decide) (fun _ => ?_) (fun _ => ?_)
            · refine z_sub [2, 3, 4, 5, 6] (lv' := [(0, .ref b), (1, .ref (B + 0)), (2, .ref (B + 123)), (3, .ref (B + 131)), (4, .int i)]) rfl ?_
              exact hK545
            · refine z_iconst (pc := 543) (v := 0) C (zD D_L_law_4 42 rfl) (by decide) ?_
              exact z_none
        · refine z_iconst (pc := 526) (v := 0) C (zD D_L_law_4 31 rfl) (by decide) ?_
          exact z_none
      refine z_ite (fun c6 => ?_) (fun c6 => ?_)
      · refine z_tblIn (pc := 39) C (zD D_L_law_0 24 rfl) (by rw [c6]; decide) (by rw [c6]; decide) (by rw [c6]; rfl) (tgt := 548) (by decide) ?_
        refine z_aload_n (pc := 548) C (zD D_L_law_4 45 rfl) rfl 1 rfl ?_
        refine z_aload_n (pc := 549) C (zD D_L_law_4 46 rfl) rfl 3 rfl ?_
        refine z_callW (pc := 550) (z' := zlb Z (N + 1)) (As := [.ref (B + 0), .ref (B + 131)]) C [] (c_L_pass _ hlz _ _ _ n 0 131 h) zn_L_pass (by decide) (by decide) (zl_B (Z := Z) (N := N + 1)) q_409 q_410 q_115 q_411 rfl rfl rfl (zD D_L_law_4 47 rfl) rfl (fun r550 h550 => ?_)
        refine z_istore (pc := 553) (lv' := [(5, .int r550), (0, .ref b), (1, .ref (B + 0)), (2, .ref (B + 123)), (3, .ref (B + 131)), (4, .int i)]) C (zD D_L_law_4 48 rfl) (by decide) rfl ?_
        refine z_aload_n (pc := 555) C (zD D_L_law_4 49 rfl) rfl 3 rfl ?_
        refine z_cvI (pc := 556) (As := []) C [] (c_X6_pass _ _ _ _ n 123 h550) zn_X6_pass (by decide) (by decide) (zl_B (Z := Z) (N := N + 1)) zc6 rfl q_433 q_434 q_435 q_5 q_436 rfl rfl rfl (zD D_L_law_4 50 rfl) (fun r556 h556 => ?_)
        refine z_istore (pc := 559) (lv' := [(6, .int r556), (5, .int r550), (0, .ref b), (1, .ref (B + 0)), (2, .ref (B + 123)), (3, .ref (B + 131)), (4, .int i)]) C (zD D_L_law_4 51 rfl) (by decide) rfl ?_
        refine z_aload_n (pc := 561) C (zD D_L_law_4 52 rfl) rfl 4 rfl ?_
        refine z_cvR (pc := 562) (As := []) C [] (c_X6_thrown _ _ _ _ n 123 h556) zn_X6_thrown (by decide) (by decide) (zl_B (Z := Z) (N := N + 1)) zc6 rfl q_165 q_166 q_167 q_5 q_168 rfl rfl rfl (zD D_L_law_4 53 rfl) (fun r562 => ?_)
        refine z_iload (pc := 565) C (zD D_L_law_4 54 rfl) 1 rfl ?_
        refine z_icmp_eq (pc := 567) C (zD D_L_law_4 55 rfl) (tgt := 572) (by decide) (fun _ => ?_) (fun _ => ?_)
        · refine z_iload (pc := 572) C (zD D_L_law_4 58 rfl) 1 rfl ?_
          refine z_letg (fun K589 => zJ B Z Q (K589) 589 [(0, .ref b), (1, .ref (B + 0)), (2, .ref (B + 123)), (3, .ref (B + 131)), (4, .int i)] [] h556 (zlb Z (N + 1))) ?_ (fun K589 hK589 => ?_)
          · refine z_goto (pc := 589) C (zD D_L_law_5 9 rfl) (tgt := 1502) (by decide) ?_
            refine z_BC hN ?_
            refine z_iinc (pc := 1502) (lv' := [(4, .int (i + 4)), (0, .ref b), (1, .ref (B + 0)), (2, .ref (B + 123)), (3, .ref (B + 131))]) C (zD D_L_law_14 43 rfl) 4 rfl (v := i + 4) rfl (by decide) rfl ?_
            refine z_goto (pc := 1505) C (zD D_L_law_14 44 rfl) (tgt := 23) (by decide) ?_
            refine z_sub [1, 2, 3, 4, 0] (lv' := [(0, .ref b), (1, .ref (B + 0)), (2, .ref (B + 123)), (3, .ref (B + 131)), (4, .int (i + 4))]) rfl ?_
            exact ih (Nat.le_of_lt hN) (i + 4) h556
          refine z_if_ne (pc := 574) C (zD D_L_law_4 59 rfl) (tgt := 589) (by decide) (fun _ => ?_) (fun _ => ?_)
          · refine z_sub [2, 3, 4, 5, 6] (lv' := [(0, .ref b), (1, .ref (B + 0)), (2, .ref (B + 123)), (3, .ref (B + 131)), (4, .int i)]) rfl ?_
            exact hK589
          · refine z_aload_n (pc := 577) C (zD D_L_law_5 0 rfl) rfl 5 rfl ?_
            refine z_iconst (pc := 578) (v := 0) C (zD D_L_law_5 1 rfl) (by decide) ?_
            refine z_alload (pc := 579) C (zD D_L_law_5 2 rfl) (fun v579 => ?_)
            refine z_iload (pc := 580) C (zD D_L_law_5 3 rfl) 0 rfl ?_
            refine z_i2l (pc := 582) C (zD D_L_law_5 4 rfl) ?_
            refine z_lcmp (pc := 583) C (zD D_L_law_5 5 rfl) ?_
            refine z_if_eq (pc := 584) C (zD D_L_law_5 6 rfl) (tgt := 589) (by decide) (fun _ => ?_) (fun _ => ?_)
            · refine z_sub [2, 3, 4, 5, 6] (lv' := [(0, .ref b), (1, .ref (B + 0)), (2, .ref (B + 123)), (3, .ref (B + 131)), (4, .int i)]) rfl ?_
              exact hK589
            · refine z_iconst (pc := 587) (v := 0) C (zD D_L_law_5 7 rfl) (by decide) ?_
              exact z_none
        · refine z_iconst (pc := 570) (v := 0) C (zD D_L_law_4 56 rfl) (by decide) ?_
          exact z_none
      refine z_ite (fun c7 => ?_) (fun c7 => ?_)
      · refine z_tblIn (pc := 39) C (zD D_L_law_0 24 rfl) (by rw [c7]; decide) (by rw [c7]; decide) (by rw [c7]; rfl) (tgt := 592) (by decide) ?_
        refine z_aload_n (pc := 592) C (zD D_L_law_5 10 rfl) rfl 1 rfl ?_
        refine z_aload_n (pc := 593) C (zD D_L_law_5 11 rfl) rfl 3 rfl ?_
        refine z_callW (pc := 594) (z' := zlb Z (N + 1)) (As := [.ref (B + 0), .ref (B + 131)]) C [] (c_L_extend _ hlz _ _ _ n 0 131 h) zn_L_extend (by decide) (by decide) (zl_B (Z := Z) (N := N + 1)) q_453 q_454 q_115 q_455 rfl rfl rfl (zD D_L_law_5 12 rfl) rfl (fun r594 h594 => ?_)
        refine z_istore (pc := 597) (lv' := [(5, .int r594), (0, .ref b), (1, .ref (B + 0)), (2, .ref (B + 123)), (3, .ref (B + 131)), (4, .int i)]) C (zD D_L_law_5 13 rfl) (by decide) rfl ?_
        refine z_aload_n (pc := 599) C (zD D_L_law_5 14 rfl) rfl 3 rfl ?_
        refine z_cvI (pc := 600) (As := []) C [] (c_X6_extend _ _ _ _ n 123 h594) zn_X6_extend (by decide) (by decide) (zl_B (Z := Z) (N := N + 1)) zc6 rfl q_477 q_478 q_479 q_5 q_480 rfl rfl rfl (zD D_L_law_5 15 rfl) (fun r600 h600 => ?_)
        refine z_istore (pc := 603) (lv' := [(6, .int r600), (5, .int r594), (0, .ref b), (1, .ref (B + 0)), (2, .ref (B + 123)), (3, .ref (B + 131)), (4, .int i)]) C (zD D_L_law_5 16 rfl) (by decide) rfl ?_
        refine z_aload_n (pc := 605) C (zD D_L_law_5 17 rfl) rfl 4 rfl ?_
        refine z_cvR (pc := 606) (As := []) C [] (c_X6_thrown _ _ _ _ n 123 h600) zn_X6_thrown (by decide) (by decide) (zl_B (Z := Z) (N := N + 1)) zc6 rfl q_165 q_166 q_167 q_5 q_168 rfl rfl rfl (zD D_L_law_5 18 rfl) (fun r606 => ?_)
        refine z_iload (pc := 609) C (zD D_L_law_5 19 rfl) 1 rfl ?_
        refine z_icmp_eq (pc := 611) C (zD D_L_law_5 20 rfl) (tgt := 616) (by decide) (fun _ => ?_) (fun _ => ?_)
        · refine z_iload (pc := 616) C (zD D_L_law_5 23 rfl) 1 rfl ?_
          refine z_letg (fun K633 => zJ B Z Q (K633) 633 [(0, .ref b), (1, .ref (B + 0)), (2, .ref (B + 123)), (3, .ref (B + 131)), (4, .int i)] [] h600 (zlb Z (N + 1))) ?_ (fun K633 hK633 => ?_)
          · refine z_goto (pc := 633) C (zD D_L_law_5 34 rfl) (tgt := 1502) (by decide) ?_
            refine z_BC hN ?_
            refine z_iinc (pc := 1502) (lv' := [(4, .int (i + 4)), (0, .ref b), (1, .ref (B + 0)), (2, .ref (B + 123)), (3, .ref (B + 131))]) C (zD D_L_law_14 43 rfl) 4 rfl (v := i + 4) rfl (by decide) rfl ?_
            refine z_goto (pc := 1505) C (zD D_L_law_14 44 rfl) (tgt := 23) (by decide) ?_
            refine z_sub [1, 2, 3, 4, 0] (lv' := [(0, .ref b), (1, .ref (B + 0)), (2, .ref (B + 123)), (3, .ref (B + 131)), (4, .int (i + 4))]) rfl ?_
            exact ih (Nat.le_of_lt hN) (i + 4) h600
          refine z_if_ne (pc := 618) C (zD D_L_law_5 24 rfl) (tgt := 633) (by decide) (fun _ => ?_) (fun _ => ?_)
          · refine z_sub [2, 3, 4, 5, 6] (lv' := [(0, .ref b), (1, .ref (B + 0)), (2, .ref (B + 123)), (3, .ref (B + 131)), (4, .int i)]) rfl ?_
            exact hK633
          · refine z_aload_n (pc := 621) C (zD D_L_law_5 25 rfl) rfl 5 rfl ?_
            refine z_iconst (pc := 622) (v := 0) C (zD D_L_law_5 26 rfl) (by decide) ?_
            refine z_alload (pc := 623) C (zD D_L_law_5 27 rfl) (fun v623 => ?_)
            refine z_iload (pc := 624) C (zD D_L_law_5 28 rfl) 0 rfl ?_
            refine z_i2l (pc := 626) C (zD D_L_law_5 29 rfl) ?_
            refine z_lcmp (pc := 627) C (zD D_L_law_5 30 rfl) ?_
            refine z_if_eq (pc := 628) C (zD D_L_law_5 31 rfl) (tgt := 633) (by decide) (fun _ => ?_) (fun _ => ?_)
            · refine z_sub [2, 3, 4, 5, 6] (lv' := [(0, .ref b), (1, .ref (B + 0)), (2, .ref (B + 123)), (3, .ref (B + 131)), (4, .int i)]) rfl ?_
              exact hK633
            · refine z_iconst (pc := 631) (v := 0) C (zD D_L_law_5 32 rfl) (by decide) ?_
              exact z_none
        · refine z_iconst (pc := 614) (v := 0) C (zD D_L_law_5 21 rfl) (by decide) ?_
          exact z_none
      refine z_ite (fun c8 => ?_) (fun c8 => ?_)
      · refine z_tblIn (pc := 39) C (zD D_L_law_0 24 rfl) (by rw [c8]; decide) (by rw [c8]; decide) (by rw [c8]; rfl) (tgt := 636) (by decide) ?_
        refine z_aload_n (pc := 636) C (zD D_L_law_5 35 rfl) rfl 1 rfl ?_
        refine z_aload_n (pc := 637) C (zD D_L_law_5 36 rfl) rfl 0 rfl ?_
        refine z_iload (pc := 638) C (zD D_L_law_5 37 rfl) 4 rfl ?_
        refine z_iconst (pc := 640) (v := 1) C (zD D_L_law_5 38 rfl) (by decide) ?_
        refine z_iadd (pc := 641) C (zD D_L_law_5 39 rfl) ?_
        refine z_sld (pc := 642) C hX hbl hbB (zD D_L_law_5 40 rfl) (fun v642 => ?_)
        refine z_aload_n (pc := 643) C (zD D_L_law_5 41 rfl) rfl 0 rfl ?_
        refine z_iload (pc := 644) C (zD D_L_law_5 42 rfl) 4 rfl ?_
        refine z_iconst (pc := 646) (v := 2) C (zD D_L_law_5 43 rfl) (by decide) ?_
        refine z_iadd (pc := 647) C (zD D_L_law_5 44 rfl) ?_
        refine z_sld (pc := 648) C hX hbl hbB (zD D_L_law_5 45 rfl) (fun v648 => ?_)
        refine z_aload_n (pc := 649) C (zD D_L_law_5 46 rfl) rfl 0 rfl ?_
        refine z_iload (pc := 650) C (zD D_L_law_5 47 rfl) 4 rfl ?_
        refine z_iconst (pc := 652) (v := 3) C (zD D_L_law_5 48 rfl) (by decide) ?_
        refine z_iadd (pc := 653) C (zD D_L_law_5 49 rfl) ?_
        refine z_sld (pc := 654) C hX hbl hbB (zD D_L_law_5 50 rfl) (fun v654 => ?_)
        refine z_letg (fun K663 => ∀ (s0_663 : Int32), zJ B Z Q (K663 s0_663) 663 [(0, .ref b), (1, .ref (B + 0)), (2, .ref (B + 123)), (3, .ref (B + 131)), (4, .int i)] [.int s0_663, .int v648, .int v642, .ref (B + 0)] h (zl Z (N + 1))) (fun s0_663 => ?_) (fun K663 hK663 => ?_)
        · refine z_aload_n (pc := 663) C (zD D_L_law_5 55 rfl) rfl 3 rfl ?_
          refine z_callW (pc := 664) (z' := zlb Z (N + 1)) (As := [.ref (B + 0), .int v642, .int v648, .int s0_663, .ref (B + 131)]) C [] (c_L_operate _ hlz _ _ _ n 0 v642 v648 s0_663 131 h) zn_L_operate (by decide) (by decide) (zl_B (Z := Z) (N := N + 1)) q_485 q_486 q_115 q_487 rfl rfl rfl (zD D_L_law_5 56 rfl) rfl (fun r664 h664 => ?_)
          refine z_istore (pc := 667) (lv' := [(5, .int r664), (0, .ref b), (1, .ref (B + 0)), (2, .ref (B + 123)), (3, .ref (B + 131)), (4, .int i)]) C (zD D_L_law_5 57 rfl) (by decide) rfl ?_
          refine z_aload_n (pc := 669) C (zD D_L_law_5 58 rfl) rfl 3 rfl ?_
          refine z_aload_n (pc := 670) C (zD D_L_law_5 59 rfl) rfl 1 rfl ?_
          refine z_iload (pc := 671) C (zD D_L_law_6 0 rfl) 5 rfl ?_
          refine z_iconst (pc := 673) (v := 1) C (zD D_L_law_6 1 rfl) (by decide) ?_
          refine z_iadd (pc := 674) C (zD D_L_law_6 2 rfl) ?_
          refine z_sld (pc := 675) C hX hbl hbB (zD D_L_law_6 3 rfl) (fun v675 => ?_)
          refine z_aload_n (pc := 676) C (zD D_L_law_6 4 rfl) rfl 1 rfl ?_
          refine z_iload (pc := 677) C (zD D_L_law_6 5 rfl) 5 rfl ?_
          refine z_iconst (pc := 679) (v := 2) C (zD D_L_law_6 6 rfl) (by decide) ?_
          refine z_iadd (pc := 680) C (zD D_L_law_6 7 rfl) ?_
          refine z_sld (pc := 681) C hX hbl hbB (zD D_L_law_6 8 rfl) (fun v681 => ?_)
          refine z_aload_n (pc := 682) C (zD D_L_law_6 9 rfl) rfl 1 rfl ?_
          refine z_iload (pc := 683) C (zD D_L_law_6 10 rfl) 5 rfl ?_
          refine z_iconst (pc := 685) (v := 3) C (zD D_L_law_6 11 rfl) (by decide) ?_
          refine z_iadd (pc := 686) C (zD D_L_law_6 12 rfl) ?_
          refine z_sld (pc := 687) C hX hbl hbB (zD D_L_law_6 13 rfl) (fun v687 => ?_)
          refine z_letg (fun K696 => ∀ (s0_696 : Int32), zJ B Z Q (K696 s0_696) 696 [(0, .ref b), (1, .ref (B + 0)), (2, .ref (B + 123)), (3, .ref (B + 131)), (4, .int i), (5, .int r664)] [.int s0_696, .int v681, .int v675, .ref (B + 123)] h664 (zlb Z (N + 1))) (fun s0_696 => ?_) (fun K696 hK696 => ?_)
          · refine z_cvI (pc := 696) (As := [.int v675, .int v681, .int s0_696]) C [] (c_X6_operate _ _ _ _ n 123 v675 v681 s0_696 h664) zn_X6_operate (by decide) (by decide) (zl_B (Z := Z) (N := N + 1)) zc6 rfl q_581 q_582 q_583 q_5 q_584 rfl rfl rfl (zD D_L_law_6 18 rfl) (fun r696 h696 => ?_)
            refine z_istore (pc := 699) (lv' := [(6, .int r696), (0, .ref b), (1, .ref (B + 0)), (2, .ref (B + 123)), (3, .ref (B + 131)), (4, .int i), (5, .int r664)]) C (zD D_L_law_6 19 rfl) (by decide) rfl ?_
            refine z_aload_n (pc := 701) C (zD D_L_law_6 20 rfl) rfl 3 rfl ?_
            refine z_cvR (pc := 702) (As := []) C [] (c_X6_thrown _ _ _ _ n 123 h696) zn_X6_thrown (by decide) (by decide) (zl_B (Z := Z) (N := N + 1)) zc6 rfl q_165 q_166 q_167 q_5 q_168 rfl rfl rfl (zD D_L_law_6 21 rfl) (fun r702 => ?_)
            refine z_iload (pc := 705) C (zD D_L_law_6 22 rfl) 6 rfl ?_
            refine z_icmp_eq (pc := 707) C (zD D_L_law_6 23 rfl) (tgt := 712) (by decide) (fun _ => ?_) (fun _ => ?_)
            · refine z_iload (pc := 712) C (zD D_L_law_6 26 rfl) 6 rfl ?_
              refine z_letg (fun K729 => zJ B Z Q (K729) 729 [(0, .ref b), (1, .ref (B + 0)), (2, .ref (B + 123)), (3, .ref (B + 131)), (4, .int i)] [] h696 (zlb Z (N + 1))) ?_ (fun K729 hK729 => ?_)
              · refine z_goto (pc := 729) C (zD D_L_law_6 37 rfl) (tgt := 1502) (by decide) ?_
                refine z_BC hN ?_
                refine z_iinc (pc := 1502) (lv' := [(4, .int (i + 4)), (0, .ref b), (1, .ref (B + 0)), (2, .ref (B + 123)), (3, .ref (B + 131))]) C (zD D_L_law_14 43 rfl) 4 rfl (v := i + 4) rfl (by decide) rfl ?_
                refine z_goto (pc := 1505) C (zD D_L_law_14 44 rfl) (tgt := 23) (by decide) ?_
                refine z_sub [1, 2, 3, 4, 0] (lv' := [(0, .ref b), (1, .ref (B + 0)), (2, .ref (B + 123)), (3, .ref (B + 131)), (4, .int (i + 4))]) rfl ?_
                exact ih (Nat.le_of_lt hN) (i + 4) h696
              refine z_if_ne (pc := 714) C (zD D_L_law_6 27 rfl) (tgt := 729) (by decide) (fun _ => ?_) (fun _ => ?_)
              · refine z_sub [1, 2, 3, 4, 5] (lv' := [(0, .ref b), (1, .ref (B + 0)), (2, .ref (B + 123)), (3, .ref (B + 131)), (4, .int i)]) rfl ?_
                exact hK729
              · refine z_aload_n (pc := 717) C (zD D_L_law_6 28 rfl) rfl 4 rfl ?_
                refine z_iconst (pc := 718) (v := 0) C (zD D_L_law_6 29 rfl) (by decide) ?_
                refine z_alload (pc := 719) C (zD D_L_law_6 30 rfl) (fun v719 => ?_)
                refine z_iload (pc := 720) C (zD D_L_law_6 31 rfl) 0 rfl ?_
                refine z_i2l (pc := 722) C (zD D_L_law_6 32 rfl) ?_
                refine z_lcmp (pc := 723) C (zD D_L_law_6 33 rfl) ?_
                refine z_if_eq (pc := 724) C (zD D_L_law_6 34 rfl) (tgt := 729) (by decide) (fun _ => ?_) (fun _ => ?_)
                · refine z_sub [1, 2, 3, 4, 5] (lv' := [(0, .ref b), (1, .ref (B + 0)), (2, .ref (B + 123)), (3, .ref (B + 131)), (4, .int i)]) rfl ?_
                  exact hK729
                · refine z_iconst (pc := 727) (v := 0) C (zD D_L_law_6 35 rfl) (by decide) ?_
                  exact z_none
            · refine z_iconst (pc := 710) (v := 0) C (zD D_L_law_6 24 rfl) (by decide) ?_
              exact z_none
          refine z_if_eq (pc := 688) C (zD D_L_law_6 14 rfl) (tgt := 695) (by decide) (fun _ => ?_) (fun _ => ?_)
          · refine z_iconst (pc := 695) (v := 0) C (zD D_L_law_6 17 rfl) (by decide) ?_
            refine z_sub [1, 2, 3, 4, 5, 0] (lv' := [(0, .ref b), (1, .ref (B + 0)), (2, .ref (B + 123)), (3, .ref (B + 131)), (4, .int i), (5, .int r664)]) rfl ?_
            exact hK696 (0 : Int32)
          · refine z_iconst (pc := 691) (v := 1) C (zD D_L_law_6 15 rfl) (by decide) ?_
            refine z_goto (pc := 692) C (zD D_L_law_6 16 rfl) (tgt := 696) (by decide) ?_
            refine z_sub [1, 2, 3, 4, 5, 0] (lv' := [(0, .ref b), (1, .ref (B + 0)), (2, .ref (B + 123)), (3, .ref (B + 131)), (4, .int i), (5, .int r664)]) rfl ?_
            exact hK696 (1 : Int32)
        refine z_if_eq (pc := 655) C (zD D_L_law_5 51 rfl) (tgt := 662) (by decide) (fun _ => ?_) (fun _ => ?_)
        · refine z_iconst (pc := 662) (v := 0) C (zD D_L_law_5 54 rfl) (by decide) ?_
          exact hK663 (0 : Int32)
        · refine z_iconst (pc := 658) (v := 1) C (zD D_L_law_5 52 rfl) (by decide) ?_
          refine z_goto (pc := 659) C (zD D_L_law_5 53 rfl) (tgt := 663) (by decide) ?_
          exact hK663 (1 : Int32)
      refine z_ite (fun c9 => ?_) (fun c9 => ?_)
      · refine z_tblIn (pc := 39) C (zD D_L_law_0 24 rfl) (by rw [c9]; decide) (by rw [c9]; decide) (by rw [c9]; rfl) (tgt := 732) (by decide) ?_
        refine z_aload_n (pc := 732) C (zD D_L_law_6 38 rfl) rfl 1 rfl ?_
        refine z_aload_n (pc := 733) C (zD D_L_law_6 39 rfl) rfl 0 rfl ?_
        refine z_iload (pc := 734) C (zD D_L_law_6 40 rfl) 4 rfl ?_
        refine z_iconst (pc := 736) (v := 1) C (zD D_L_law_6 41 rfl) (by decide) ?_
        refine z_iadd (pc := 737) C (zD D_L_law_6 42 rfl) ?_
        refine z_sld (pc := 738) C hX hbl hbB (zD D_L_law_6 43 rfl) (fun v738 => ?_)
        refine z_aload_n (pc := 739) C (zD D_L_law_6 44 rfl) rfl 0 rfl ?_
        refine z_iload (pc := 740) C (zD D_L_law_6 45 rfl) 4 rfl ?_
        refine z_iconst (pc := 742) (v := 2) C (zD D_L_law_6 46 rfl) (by decide) ?_
        refine z_iadd (pc := 743) C (zD D_L_law_6 47 rfl) ?_
        refine z_sld (pc := 744) C hX hbl hbB (zD D_L_law_6 48 rfl) (fun v744 => ?_)
        refine z_aload_n (pc := 745) C (zD D_L_law_6 49 rfl) rfl 3 rfl ?_
        refine z_callW (pc := 746) (z' := zlb Z (N + 1)) (As := [.ref (B + 0), .int v738, .int v744, .ref (B + 131)]) C [] (c_L_player _ hlz _ _ _ n 0 v738 v744 131 h) zn_L_player (by decide) (by decide) (zl_B (Z := Z) (N := N + 1)) q_642 q_643 q_115 q_644 rfl rfl rfl (zD D_L_law_6 50 rfl) rfl (fun r746 h746 => ?_)
        refine z_istore (pc := 749) (lv' := [(5, .int r746), (0, .ref b), (1, .ref (B + 0)), (2, .ref (B + 123)), (3, .ref (B + 131)), (4, .int i)]) C (zD D_L_law_6 51 rfl) (by decide) rfl ?_
        refine z_aload_n (pc := 751) C (zD D_L_law_6 52 rfl) rfl 3 rfl ?_
        refine z_aload_n (pc := 752) C (zD D_L_law_6 53 rfl) rfl 1 rfl ?_
        refine z_iload (pc := 753) C (zD D_L_law_6 54 rfl) 5 rfl ?_
        refine z_iconst (pc := 755) (v := 1) C (zD D_L_law_6 55 rfl) (by decide) ?_
        refine z_iadd (pc := 756) C (zD D_L_law_6 56 rfl) ?_
        refine z_sld (pc := 757) C hX hbl hbB (zD D_L_law_6 57 rfl) (fun v757 => ?_)
        refine z_aload_n (pc := 758) C (zD D_L_law_6 58 rfl) rfl 1 rfl ?_
        refine z_iload (pc := 759) C (zD D_L_law_6 59 rfl) 5 rfl ?_
        refine z_iconst (pc := 761) (v := 2) C (zD D_L_law_7 0 rfl) (by decide) ?_
        refine z_iadd (pc := 762) C (zD D_L_law_7 1 rfl) ?_
        refine z_sld (pc := 763) C hX hbl hbB (zD D_L_law_7 2 rfl) (fun v763 => ?_)
        refine z_cvI (pc := 764) (As := [.int v757, .int v763]) C [] (c_X6_player _ _ _ _ n 123 v757 v763 h746) zn_X6_player (by decide) (by decide) (zl_B (Z := Z) (N := N + 1)) zc6 rfl q_659 q_660 q_661 q_5 q_662 rfl rfl rfl (zD D_L_law_7 3 rfl) (fun r764 h764 => ?_)
        refine z_istore (pc := 767) (lv' := [(6, .int r764), (5, .int r746), (0, .ref b), (1, .ref (B + 0)), (2, .ref (B + 123)), (3, .ref (B + 131)), (4, .int i)]) C (zD D_L_law_7 4 rfl) (by decide) rfl ?_
        refine z_aload_n (pc := 769) C (zD D_L_law_7 5 rfl) rfl 4 rfl ?_
        refine z_cvR (pc := 770) (As := []) C [] (c_X6_thrown _ _ _ _ n 123 h764) zn_X6_thrown (by decide) (by decide) (zl_B (Z := Z) (N := N + 1)) zc6 rfl q_165 q_166 q_167 q_5 q_168 rfl rfl rfl (zD D_L_law_7 6 rfl) (fun r770 => ?_)
        refine z_iload (pc := 773) C (zD D_L_law_7 7 rfl) 1 rfl ?_
        refine z_icmp_eq (pc := 775) C (zD D_L_law_7 8 rfl) (tgt := 780) (by decide) (fun _ => ?_) (fun _ => ?_)
        · refine z_iload (pc := 780) C (zD D_L_law_7 11 rfl) 1 rfl ?_
          refine z_letg (fun K797 => zJ B Z Q (K797) 797 [(0, .ref b), (1, .ref (B + 0)), (2, .ref (B + 123)), (3, .ref (B + 131)), (4, .int i)] [] h764 (zlb Z (N + 1))) ?_ (fun K797 hK797 => ?_)
          · refine z_goto (pc := 797) C (zD D_L_law_7 22 rfl) (tgt := 1502) (by decide) ?_
            refine z_BC hN ?_
            refine z_iinc (pc := 1502) (lv' := [(4, .int (i + 4)), (0, .ref b), (1, .ref (B + 0)), (2, .ref (B + 123)), (3, .ref (B + 131))]) C (zD D_L_law_14 43 rfl) 4 rfl (v := i + 4) rfl (by decide) rfl ?_
            refine z_goto (pc := 1505) C (zD D_L_law_14 44 rfl) (tgt := 23) (by decide) ?_
            refine z_sub [1, 2, 3, 4, 0] (lv' := [(0, .ref b), (1, .ref (B + 0)), (2, .ref (B + 123)), (3, .ref (B + 131)), (4, .int (i + 4))]) rfl ?_
            exact ih (Nat.le_of_lt hN) (i + 4) h764
          refine z_if_ne (pc := 782) C (zD D_L_law_7 12 rfl) (tgt := 797) (by decide) (fun _ => ?_) (fun _ => ?_)
          · refine z_sub [2, 3, 4, 5, 6] (lv' := [(0, .ref b), (1, .ref (B + 0)), (2, .ref (B + 123)), (3, .ref (B + 131)), (4, .int i)]) rfl ?_
            exact hK797
          · refine z_aload_n (pc := 785) C (zD D_L_law_7 13 rfl) rfl 5 rfl ?_
            refine z_iconst (pc := 786) (v := 0) C (zD D_L_law_7 14 rfl) (by decide) ?_
            refine z_alload (pc := 787) C (zD D_L_law_7 15 rfl) (fun v787 => ?_)
            refine z_iload (pc := 788) C (zD D_L_law_7 16 rfl) 0 rfl ?_
            refine z_i2l (pc := 790) C (zD D_L_law_7 17 rfl) ?_
            refine z_lcmp (pc := 791) C (zD D_L_law_7 18 rfl) ?_
            refine z_if_eq (pc := 792) C (zD D_L_law_7 19 rfl) (tgt := 797) (by decide) (fun _ => ?_) (fun _ => ?_)
            · refine z_sub [2, 3, 4, 5, 6] (lv' := [(0, .ref b), (1, .ref (B + 0)), (2, .ref (B + 123)), (3, .ref (B + 131)), (4, .int i)]) rfl ?_
              exact hK797
            · refine z_iconst (pc := 795) (v := 0) C (zD D_L_law_7 20 rfl) (by decide) ?_
              exact z_none
        · refine z_iconst (pc := 778) (v := 0) C (zD D_L_law_7 9 rfl) (by decide) ?_
          exact z_none
      refine z_ite (fun c10 => ?_) (fun c10 => ?_)
      · refine z_tblIn (pc := 39) C (zD D_L_law_0 24 rfl) (by rw [c10]; decide) (by rw [c10]; decide) (by rw [c10]; rfl) (tgt := 800) (by decide) ?_
        refine z_aload_n (pc := 800) C (zD D_L_law_7 23 rfl) rfl 1 rfl ?_
        refine z_aload_n (pc := 801) C (zD D_L_law_7 24 rfl) rfl 0 rfl ?_
        refine z_iload (pc := 802) C (zD D_L_law_7 25 rfl) 4 rfl ?_
        refine z_iconst (pc := 804) (v := 1) C (zD D_L_law_7 26 rfl) (by decide) ?_
        refine z_iadd (pc := 805) C (zD D_L_law_7 27 rfl) ?_
        refine z_sld (pc := 806) C hX hbl hbB (zD D_L_law_7 28 rfl) (fun v806 => ?_)
        refine z_aload_n (pc := 807) C (zD D_L_law_7 29 rfl) rfl 0 rfl ?_
        refine z_iload (pc := 808) C (zD D_L_law_7 30 rfl) 4 rfl ?_
        refine z_iconst (pc := 810) (v := 2) C (zD D_L_law_7 31 rfl) (by decide) ?_
        refine z_iadd (pc := 811) C (zD D_L_law_7 32 rfl) ?_
        refine z_sld (pc := 812) C hX hbl hbB (zD D_L_law_7 33 rfl) (fun v812 => ?_)
        refine z_aload_n (pc := 813) C (zD D_L_law_7 34 rfl) rfl 3 rfl ?_
        refine z_callW (pc := 814) (z' := zlb Z (N + 1)) (As := [.ref (B + 0), .int v806, .int v812, .ref (B + 131)]) C [] (c_L_company _ hlz _ _ _ n 0 v806 v812 131 h) zn_L_company (by decide) (by decide) (zl_B (Z := Z) (N := N + 1)) q_679 q_680 q_115 q_681 rfl rfl rfl (zD D_L_law_7 35 rfl) rfl (fun r814 h814 => ?_)
        refine z_istore (pc := 817) (lv' := [(5, .int r814), (0, .ref b), (1, .ref (B + 0)), (2, .ref (B + 123)), (3, .ref (B + 131)), (4, .int i)]) C (zD D_L_law_7 36 rfl) (by decide) rfl ?_
        refine z_aload_n (pc := 819) C (zD D_L_law_7 37 rfl) rfl 3 rfl ?_
        refine z_aload_n (pc := 820) C (zD D_L_law_7 38 rfl) rfl 1 rfl ?_
        refine z_iload (pc := 821) C (zD D_L_law_7 39 rfl) 5 rfl ?_
        refine z_iconst (pc := 823) (v := 1) C (zD D_L_law_7 40 rfl) (by decide) ?_
        refine z_iadd (pc := 824) C (zD D_L_law_7 41 rfl) ?_
        refine z_sld (pc := 825) C hX hbl hbB (zD D_L_law_7 42 rfl) (fun v825 => ?_)
        refine z_aload_n (pc := 826) C (zD D_L_law_7 43 rfl) rfl 1 rfl ?_
        refine z_iload (pc := 827) C (zD D_L_law_7 44 rfl) 5 rfl ?_
        refine z_iconst (pc := 829) (v := 2) C (zD D_L_law_7 45 rfl) (by decide) ?_
        refine z_iadd (pc := 830) C (zD D_L_law_7 46 rfl) ?_
        refine z_sld (pc := 831) C hX hbl hbB (zD D_L_law_7 47 rfl) (fun v831 => ?_)
        refine z_cvI (pc := 832) (As := [.int v825, .int v831]) C [] (c_X6_company _ _ _ _ n 123 v825 v831 h814) zn_X6_company (by decide) (by decide) (zl_B (Z := Z) (N := N + 1)) zc6 rfl q_694 q_695 q_696 q_5 q_697 rfl rfl rfl (zD D_L_law_7 48 rfl) (fun r832 h832 => ?_)
        refine z_istore (pc := 835) (lv' := [(6, .int r832), (5, .int r814), (0, .ref b), (1, .ref (B + 0)), (2, .ref (B + 123)), (3, .ref (B + 131)), (4, .int i)]) C (zD D_L_law_7 49 rfl) (by decide) rfl ?_
        refine z_aload_n (pc := 837) C (zD D_L_law_7 50 rfl) rfl 4 rfl ?_
        refine z_cvR (pc := 838) (As := []) C [] (c_X6_thrown _ _ _ _ n 123 h832) zn_X6_thrown (by decide) (by decide) (zl_B (Z := Z) (N := N + 1)) zc6 rfl q_165 q_166 q_167 q_5 q_168 rfl rfl rfl (zD D_L_law_7 51 rfl) (fun r838 => ?_)
        refine z_iload (pc := 841) C (zD D_L_law_7 52 rfl) 1 rfl ?_
        refine z_icmp_eq (pc := 843) C (zD D_L_law_7 53 rfl) (tgt := 848) (by decide) (fun _ => ?_) (fun _ => ?_)
        · refine z_iload (pc := 848) C (zD D_L_law_7 56 rfl) 1 rfl ?_
          refine z_letg (fun K865 => zJ B Z Q (K865) 865 [(0, .ref b), (1, .ref (B + 0)), (2, .ref (B + 123)), (3, .ref (B + 131)), (4, .int i)] [] h832 (zlb Z (N + 1))) ?_ (fun K865 hK865 => ?_)
          · refine z_goto (pc := 865) C (zD D_L_law_8 7 rfl) (tgt := 1502) (by decide) ?_
            refine z_BC hN ?_
            refine z_iinc (pc := 1502) (lv' := [(4, .int (i + 4)), (0, .ref b), (1, .ref (B + 0)), (2, .ref (B + 123)), (3, .ref (B + 131))]) C (zD D_L_law_14 43 rfl) 4 rfl (v := i + 4) rfl (by decide) rfl ?_
            refine z_goto (pc := 1505) C (zD D_L_law_14 44 rfl) (tgt := 23) (by decide) ?_
            refine z_sub [1, 2, 3, 4, 0] (lv' := [(0, .ref b), (1, .ref (B + 0)), (2, .ref (B + 123)), (3, .ref (B + 131)), (4, .int (i + 4))]) rfl ?_
            exact ih (Nat.le_of_lt hN) (i + 4) h832
          refine z_if_ne (pc := 850) C (zD D_L_law_7 57 rfl) (tgt := 865) (by decide) (fun _ => ?_) (fun _ => ?_)
          · refine z_sub [2, 3, 4, 5, 6] (lv' := [(0, .ref b), (1, .ref (B + 0)), (2, .ref (B + 123)), (3, .ref (B + 131)), (4, .int i)]) rfl ?_
            exact hK865
          · refine z_aload_n (pc := 853) C (zD D_L_law_7 58 rfl) rfl 5 rfl ?_
            refine z_iconst (pc := 854) (v := 0) C (zD D_L_law_7 59 rfl) (by decide) ?_
            refine z_alload (pc := 855) C (zD D_L_law_8 0 rfl) (fun v855 => ?_)
            refine z_iload (pc := 856) C (zD D_L_law_8 1 rfl) 0 rfl ?_
            refine z_i2l (pc := 858) C (zD D_L_law_8 2 rfl) ?_
            refine z_lcmp (pc := 859) C (zD D_L_law_8 3 rfl) ?_
            refine z_if_eq (pc := 860) C (zD D_L_law_8 4 rfl) (tgt := 865) (by decide) (fun _ => ?_) (fun _ => ?_)
            · refine z_sub [2, 3, 4, 5, 6] (lv' := [(0, .ref b), (1, .ref (B + 0)), (2, .ref (B + 123)), (3, .ref (B + 131)), (4, .int i)]) rfl ?_
              exact hK865
            · refine z_iconst (pc := 863) (v := 0) C (zD D_L_law_8 5 rfl) (by decide) ?_
              exact z_none
        · refine z_iconst (pc := 846) (v := 0) C (zD D_L_law_7 54 rfl) (by decide) ?_
          exact z_none
      refine z_ite (fun c11 => ?_) (fun c11 => ?_)
      · refine z_tblIn (pc := 39) C (zD D_L_law_0 24 rfl) (by rw [c11]; decide) (by rw [c11]; decide) (by rw [c11]; rfl) (tgt := 868) (by decide) ?_
        refine z_aload_n (pc := 868) C (zD D_L_law_8 8 rfl) rfl 1 rfl ?_
        refine z_aload_n (pc := 869) C (zD D_L_law_8 9 rfl) rfl 0 rfl ?_
        refine z_iload (pc := 870) C (zD D_L_law_8 10 rfl) 4 rfl ?_
        refine z_iconst (pc := 872) (v := 1) C (zD D_L_law_8 11 rfl) (by decide) ?_
        refine z_iadd (pc := 873) C (zD D_L_law_8 12 rfl) ?_
        refine z_sld (pc := 874) C hX hbl hbB (zD D_L_law_8 13 rfl) (fun v874 => ?_)
        refine z_aload_n (pc := 875) C (zD D_L_law_8 14 rfl) rfl 0 rfl ?_
        refine z_iload (pc := 876) C (zD D_L_law_8 15 rfl) 4 rfl ?_
        refine z_iconst (pc := 878) (v := 2) C (zD D_L_law_8 16 rfl) (by decide) ?_
        refine z_iadd (pc := 879) C (zD D_L_law_8 17 rfl) ?_
        refine z_sld (pc := 880) C hX hbl hbB (zD D_L_law_8 18 rfl) (fun v880 => ?_)
        refine z_aload_n (pc := 881) C (zD D_L_law_8 19 rfl) rfl 3 rfl ?_
        refine z_callW (pc := 882) (z' := zlb Z (N + 1)) (As := [.ref (B + 0), .int v874, .int v880, .ref (B + 131)]) C [] (c_L_track _ hlz _ _ _ n 0 v874 v880 131 h) zn_L_track (by decide) (by decide) (zl_B (Z := Z) (N := N + 1)) q_702 q_703 q_115 q_704 rfl rfl rfl (zD D_L_law_8 20 rfl) rfl (fun r882 h882 => ?_)
        refine z_istore (pc := 885) (lv' := [(5, .int r882), (0, .ref b), (1, .ref (B + 0)), (2, .ref (B + 123)), (3, .ref (B + 131)), (4, .int i)]) C (zD D_L_law_8 21 rfl) (by decide) rfl ?_
        refine z_aload_n (pc := 887) C (zD D_L_law_8 22 rfl) rfl 3 rfl ?_
        refine z_aload_n (pc := 888) C (zD D_L_law_8 23 rfl) rfl 1 rfl ?_
        refine z_iload (pc := 889) C (zD D_L_law_8 24 rfl) 5 rfl ?_
        refine z_iconst (pc := 891) (v := 1) C (zD D_L_law_8 25 rfl) (by decide) ?_
        refine z_iadd (pc := 892) C (zD D_L_law_8 26 rfl) ?_
        refine z_sld (pc := 893) C hX hbl hbB (zD D_L_law_8 27 rfl) (fun v893 => ?_)
        refine z_aload_n (pc := 894) C (zD D_L_law_8 28 rfl) rfl 1 rfl ?_
        refine z_iload (pc := 895) C (zD D_L_law_8 29 rfl) 5 rfl ?_
        refine z_iconst (pc := 897) (v := 2) C (zD D_L_law_8 30 rfl) (by decide) ?_
        refine z_iadd (pc := 898) C (zD D_L_law_8 31 rfl) ?_
        refine z_sld (pc := 899) C hX hbl hbB (zD D_L_law_8 32 rfl) (fun v899 => ?_)
        refine z_cvI (pc := 900) (As := [.int v893, .int v899]) C [] (c_X6_track _ _ _ _ n 123 v893 v899 h882) zn_X6_track (by decide) (by decide) (zl_B (Z := Z) (N := N + 1)) zc6 rfl q_710 q_711 q_712 q_5 q_713 rfl rfl rfl (zD D_L_law_8 33 rfl) (fun r900 h900 => ?_)
        refine z_istore (pc := 903) (lv' := [(6, .int r900), (5, .int r882), (0, .ref b), (1, .ref (B + 0)), (2, .ref (B + 123)), (3, .ref (B + 131)), (4, .int i)]) C (zD D_L_law_8 34 rfl) (by decide) rfl ?_
        refine z_aload_n (pc := 905) C (zD D_L_law_8 35 rfl) rfl 4 rfl ?_
        refine z_cvR (pc := 906) (As := []) C [] (c_X6_thrown _ _ _ _ n 123 h900) zn_X6_thrown (by decide) (by decide) (zl_B (Z := Z) (N := N + 1)) zc6 rfl q_165 q_166 q_167 q_5 q_168 rfl rfl rfl (zD D_L_law_8 36 rfl) (fun r906 => ?_)
        refine z_iload (pc := 909) C (zD D_L_law_8 37 rfl) 1 rfl ?_
        refine z_icmp_eq (pc := 911) C (zD D_L_law_8 38 rfl) (tgt := 916) (by decide) (fun _ => ?_) (fun _ => ?_)
        · refine z_iload (pc := 916) C (zD D_L_law_8 41 rfl) 1 rfl ?_
          refine z_letg (fun K933 => zJ B Z Q (K933) 933 [(0, .ref b), (1, .ref (B + 0)), (2, .ref (B + 123)), (3, .ref (B + 131)), (4, .int i)] [] h900 (zlb Z (N + 1))) ?_ (fun K933 hK933 => ?_)
          · refine z_goto (pc := 933) C (zD D_L_law_8 52 rfl) (tgt := 1502) (by decide) ?_
            refine z_BC hN ?_
            refine z_iinc (pc := 1502) (lv' := [(4, .int (i + 4)), (0, .ref b), (1, .ref (B + 0)), (2, .ref (B + 123)), (3, .ref (B + 131))]) C (zD D_L_law_14 43 rfl) 4 rfl (v := i + 4) rfl (by decide) rfl ?_
            refine z_goto (pc := 1505) C (zD D_L_law_14 44 rfl) (tgt := 23) (by decide) ?_
            refine z_sub [1, 2, 3, 4, 0] (lv' := [(0, .ref b), (1, .ref (B + 0)), (2, .ref (B + 123)), (3, .ref (B + 131)), (4, .int (i + 4))]) rfl ?_
            exact ih (Nat.le_of_lt hN) (i + 4) h900
          refine z_if_ne (pc := 918) C (zD D_L_law_8 42 rfl) (tgt := 933) (by decide) (fun _ => ?_) (fun _ => ?_)
          · refine z_sub [2, 3, 4, 5, 6] (lv' := [(0, .ref b), (1, .ref (B + 0)), (2, .ref (B + 123)), (3, .ref (B + 131)), (4, .int i)]) rfl ?_
            exact hK933
          · refine z_aload_n (pc := 921) C (zD D_L_law_8 43 rfl) rfl 5 rfl ?_
            refine z_iconst (pc := 922) (v := 0) C (zD D_L_law_8 44 rfl) (by decide) ?_
            refine z_alload (pc := 923) C (zD D_L_law_8 45 rfl) (fun v923 => ?_)
            refine z_iload (pc := 924) C (zD D_L_law_8 46 rfl) 0 rfl ?_
            refine z_i2l (pc := 926) C (zD D_L_law_8 47 rfl) ?_
            refine z_lcmp (pc := 927) C (zD D_L_law_8 48 rfl) ?_
            refine z_if_eq (pc := 928) C (zD D_L_law_8 49 rfl) (tgt := 933) (by decide) (fun _ => ?_) (fun _ => ?_)
            · refine z_sub [2, 3, 4, 5, 6] (lv' := [(0, .ref b), (1, .ref (B + 0)), (2, .ref (B + 123)), (3, .ref (B + 131)), (4, .int i)]) rfl ?_
              exact hK933
            · refine z_iconst (pc := 931) (v := 0) C (zD D_L_law_8 50 rfl) (by decide) ?_
              exact z_none
        · refine z_iconst (pc := 914) (v := 0) C (zD D_L_law_8 39 rfl) (by decide) ?_
          exact z_none
      refine z_ite (fun c12 => ?_) (fun c12 => ?_)
      · refine z_tblIn (pc := 39) C (zD D_L_law_0 24 rfl) (by rw [c12]; decide) (by rw [c12]; decide) (by rw [c12]; rfl) (tgt := 936) (by decide) ?_
        refine z_aload_n (pc := 936) C (zD D_L_law_8 53 rfl) rfl 1 rfl ?_
        refine z_aload_n (pc := 937) C (zD D_L_law_8 54 rfl) rfl 0 rfl ?_
        refine z_iload (pc := 938) C (zD D_L_law_8 55 rfl) 4 rfl ?_
        refine z_iconst (pc := 940) (v := 1) C (zD D_L_law_8 56 rfl) (by decide) ?_
        refine z_iadd (pc := 941) C (zD D_L_law_8 57 rfl) ?_
        refine z_sld (pc := 942) C hX hbl hbB (zD D_L_law_8 58 rfl) (fun v942 => ?_)
        refine z_aload_n (pc := 943) C (zD D_L_law_8 59 rfl) rfl 3 rfl ?_
        refine z_callW (pc := 944) (z' := zlb Z (N + 1)) (As := [.ref (B + 0), .int v942, .ref (B + 131)]) C [] (c_L_value _ hlz _ _ _ n 0 v942 131 h) zn_L_value (by decide) (by decide) (zl_B (Z := Z) (N := N + 1)) q_714 q_715 q_115 q_716 rfl rfl rfl (zD D_L_law_9 0 rfl) rfl (fun r944 h944 => ?_)
        refine z_istore (pc := 947) (lv' := [(5, .int r944), (0, .ref b), (1, .ref (B + 0)), (2, .ref (B + 123)), (3, .ref (B + 131)), (4, .int i)]) C (zD D_L_law_9 1 rfl) (by decide) rfl ?_
        refine z_aload_n (pc := 949) C (zD D_L_law_9 2 rfl) rfl 3 rfl ?_
        refine z_aload_n (pc := 950) C (zD D_L_law_9 3 rfl) rfl 1 rfl ?_
        refine z_iload (pc := 951) C (zD D_L_law_9 4 rfl) 5 rfl ?_
        refine z_iconst (pc := 953) (v := 1) C (zD D_L_law_9 5 rfl) (by decide) ?_
        refine z_iadd (pc := 954) C (zD D_L_law_9 6 rfl) ?_
        refine z_sld (pc := 955) C hX hbl hbB (zD D_L_law_9 7 rfl) (fun v955 => ?_)
        refine z_cvI (pc := 956) (As := [.int v955]) C [] (c_X6_value _ _ _ _ n 123 v955 h944) zn_X6_value (by decide) (by decide) (zl_B (Z := Z) (N := N + 1)) zc6 rfl q_733 q_734 q_735 q_5 q_736 rfl rfl rfl (zD D_L_law_9 8 rfl) (fun r956 h956 => ?_)
        refine z_istore (pc := 959) (lv' := [(6, .int r956), (5, .int r944), (0, .ref b), (1, .ref (B + 0)), (2, .ref (B + 123)), (3, .ref (B + 131)), (4, .int i)]) C (zD D_L_law_9 9 rfl) (by decide) rfl ?_
        refine z_aload_n (pc := 961) C (zD D_L_law_9 10 rfl) rfl 4 rfl ?_
        refine z_cvR (pc := 962) (As := []) C [] (c_X6_thrown _ _ _ _ n 123 h956) zn_X6_thrown (by decide) (by decide) (zl_B (Z := Z) (N := N + 1)) zc6 rfl q_165 q_166 q_167 q_5 q_168 rfl rfl rfl (zD D_L_law_9 11 rfl) (fun r962 => ?_)
        refine z_iload (pc := 965) C (zD D_L_law_9 12 rfl) 1 rfl ?_
        refine z_icmp_eq (pc := 967) C (zD D_L_law_9 13 rfl) (tgt := 972) (by decide) (fun _ => ?_) (fun _ => ?_)
        · refine z_iload (pc := 972) C (zD D_L_law_9 16 rfl) 1 rfl ?_
          refine z_letg (fun K989 => zJ B Z Q (K989) 989 [(0, .ref b), (1, .ref (B + 0)), (2, .ref (B + 123)), (3, .ref (B + 131)), (4, .int i)] [] h956 (zlb Z (N + 1))) ?_ (fun K989 hK989 => ?_)
          · refine z_goto (pc := 989) C (zD D_L_law_9 27 rfl) (tgt := 1502) (by decide) ?_
            refine z_BC hN ?_
            refine z_iinc (pc := 1502) (lv' := [(4, .int (i + 4)), (0, .ref b), (1, .ref (B + 0)), (2, .ref (B + 123)), (3, .ref (B + 131))]) C (zD D_L_law_14 43 rfl) 4 rfl (v := i + 4) rfl (by decide) rfl ?_
            refine z_goto (pc := 1505) C (zD D_L_law_14 44 rfl) (tgt := 23) (by decide) ?_
            refine z_sub [1, 2, 3, 4, 0] (lv' := [(0, .ref b), (1, .ref (B + 0)), (2, .ref (B + 123)), (3, .ref (B + 131)), (4, .int (i + 4))]) rfl ?_
            exact ih (Nat.le_of_lt hN) (i + 4) h956
          refine z_if_ne (pc := 974) C (zD D_L_law_9 17 rfl) (tgt := 989) (by decide) (fun _ => ?_) (fun _ => ?_)
          · refine z_sub [2, 3, 4, 5, 6] (lv' := [(0, .ref b), (1, .ref (B + 0)), (2, .ref (B + 123)), (3, .ref (B + 131)), (4, .int i)]) rfl ?_
            exact hK989
          · refine z_aload_n (pc := 977) C (zD D_L_law_9 18 rfl) rfl 5 rfl ?_
            refine z_iconst (pc := 978) (v := 0) C (zD D_L_law_9 19 rfl) (by decide) ?_
            refine z_alload (pc := 979) C (zD D_L_law_9 20 rfl) (fun v979 => ?_)
            refine z_iload (pc := 980) C (zD D_L_law_9 21 rfl) 0 rfl ?_
            refine z_i2l (pc := 982) C (zD D_L_law_9 22 rfl) ?_
            refine z_lcmp (pc := 983) C (zD D_L_law_9 23 rfl) ?_
            refine z_if_eq (pc := 984) C (zD D_L_law_9 24 rfl) (tgt := 989) (by decide) (fun _ => ?_) (fun _ => ?_)
            · refine z_sub [2, 3, 4, 5, 6] (lv' := [(0, .ref b), (1, .ref (B + 0)), (2, .ref (B + 123)), (3, .ref (B + 131)), (4, .int i)]) rfl ?_
              exact hK989
            · refine z_iconst (pc := 987) (v := 0) C (zD D_L_law_9 25 rfl) (by decide) ?_
              exact z_none
        · refine z_iconst (pc := 970) (v := 0) C (zD D_L_law_9 14 rfl) (by decide) ?_
          exact z_none
      refine z_ite (fun c13 => ?_) (fun c13 => ?_)
      · refine z_tblIn (pc := 39) C (zD D_L_law_0 24 rfl) (by rw [c13]; decide) (by rw [c13]; decide) (by rw [c13]; rfl) (tgt := 992) (by decide) ?_
        refine z_aload_n (pc := 992) C (zD D_L_law_9 28 rfl) rfl 1 rfl ?_
        refine z_aload_n (pc := 993) C (zD D_L_law_9 29 rfl) rfl 0 rfl ?_
        refine z_iload (pc := 994) C (zD D_L_law_9 30 rfl) 4 rfl ?_
        refine z_iconst (pc := 996) (v := 1) C (zD D_L_law_9 31 rfl) (by decide) ?_
        refine z_iadd (pc := 997) C (zD D_L_law_9 32 rfl) ?_
        refine z_sld (pc := 998) C hX hbl hbB (zD D_L_law_9 33 rfl) (fun v998 => ?_)
        refine z_aload_n (pc := 999) C (zD D_L_law_9 34 rfl) rfl 3 rfl ?_
        refine z_callW (pc := 1000) (z' := zlb Z (N + 1)) (As := [.ref (B + 0), .int v998, .ref (B + 131)]) C [] (c_L_town _ hlz _ _ _ n 0 v998 131 h) zn_L_town (by decide) (by decide) (zl_B (Z := Z) (N := N + 1)) q_749 q_750 q_115 q_751 rfl rfl rfl (zD D_L_law_9 35 rfl) rfl (fun r1000 h1000 => ?_)
        refine z_istore (pc := 1003) (lv' := [(5, .int r1000), (0, .ref b), (1, .ref (B + 0)), (2, .ref (B + 123)), (3, .ref (B + 131)), (4, .int i)]) C (zD D_L_law_9 36 rfl) (by decide) rfl ?_
        refine z_aload_n (pc := 1005) C (zD D_L_law_9 37 rfl) rfl 3 rfl ?_
        refine z_aload_n (pc := 1006) C (zD D_L_law_9 38 rfl) rfl 1 rfl ?_
        refine z_iload (pc := 1007) C (zD D_L_law_9 39 rfl) 5 rfl ?_
        refine z_iconst (pc := 1009) (v := 1) C (zD D_L_law_9 40 rfl) (by decide) ?_
        refine z_iadd (pc := 1010) C (zD D_L_law_9 41 rfl) ?_
        refine z_sld (pc := 1011) C hX hbl hbB (zD D_L_law_9 42 rfl) (fun v1011 => ?_)
        refine z_cvI (pc := 1012) (As := [.int v1011]) C [] (c_X6_town _ _ _ _ n 123 v1011 h1000) zn_X6_town (by decide) (by decide) (zl_B (Z := Z) (N := N + 1)) zc6 rfl q_756 q_757 q_758 q_5 q_759 rfl rfl rfl (zD D_L_law_9 43 rfl) (fun r1012 h1012 => ?_)
        refine z_istore (pc := 1015) (lv' := [(6, .int r1012), (5, .int r1000), (0, .ref b), (1, .ref (B + 0)), (2, .ref (B + 123)), (3, .ref (B + 131)), (4, .int i)]) C (zD D_L_law_9 44 rfl) (by decide) rfl ?_
        refine z_aload_n (pc := 1017) C (zD D_L_law_9 45 rfl) rfl 4 rfl ?_
        refine z_cvR (pc := 1018) (As := []) C [] (c_X6_thrown _ _ _ _ n 123 h1012) zn_X6_thrown (by decide) (by decide) (zl_B (Z := Z) (N := N + 1)) zc6 rfl q_165 q_166 q_167 q_5 q_168 rfl rfl rfl (zD D_L_law_9 46 rfl) (fun r1018 => ?_)
        refine z_iload (pc := 1021) C (zD D_L_law_9 47 rfl) 1 rfl ?_
        refine z_icmp_eq (pc := 1023) C (zD D_L_law_9 48 rfl) (tgt := 1028) (by decide) (fun _ => ?_) (fun _ => ?_)
        · refine z_iload (pc := 1028) C (zD D_L_law_9 51 rfl) 1 rfl ?_
          refine z_letg (fun K1045 => zJ B Z Q (K1045) 1045 [(0, .ref b), (1, .ref (B + 0)), (2, .ref (B + 123)), (3, .ref (B + 131)), (4, .int i)] [] h1012 (zlb Z (N + 1))) ?_ (fun K1045 hK1045 => ?_)
          · refine z_goto (pc := 1045) C (zD D_L_law_10 2 rfl) (tgt := 1502) (by decide) ?_
            refine z_BC hN ?_
            refine z_iinc (pc := 1502) (lv' := [(4, .int (i + 4)), (0, .ref b), (1, .ref (B + 0)), (2, .ref (B + 123)), (3, .ref (B + 131))]) C (zD D_L_law_14 43 rfl) 4 rfl (v := i + 4) rfl (by decide) rfl ?_
            refine z_goto (pc := 1505) C (zD D_L_law_14 44 rfl) (tgt := 23) (by decide) ?_
            refine z_sub [1, 2, 3, 4, 0] (lv' := [(0, .ref b), (1, .ref (B + 0)), (2, .ref (B + 123)), (3, .ref (B + 131)), (4, .int (i + 4))]) rfl ?_
            exact ih (Nat.le_of_lt hN) (i + 4) h1012
          refine z_if_ne (pc := 1030) C (zD D_L_law_9 52 rfl) (tgt := 1045) (by decide) (fun _ => ?_) (fun _ => ?_)
          · refine z_sub [2, 3, 4, 5, 6] (lv' := [(0, .ref b), (1, .ref (B + 0)), (2, .ref (B + 123)), (3, .ref (B + 131)), (4, .int i)]) rfl ?_
            exact hK1045
          · refine z_aload_n (pc := 1033) C (zD D_L_law_9 53 rfl) rfl 5 rfl ?_
            refine z_iconst (pc := 1034) (v := 0) C (zD D_L_law_9 54 rfl) (by decide) ?_
            refine z_alload (pc := 1035) C (zD D_L_law_9 55 rfl) (fun v1035 => ?_)
            refine z_iload (pc := 1036) C (zD D_L_law_9 56 rfl) 0 rfl ?_
            refine z_i2l (pc := 1038) C (zD D_L_law_9 57 rfl) ?_
            refine z_lcmp (pc := 1039) C (zD D_L_law_9 58 rfl) ?_
            refine z_if_eq (pc := 1040) C (zD D_L_law_9 59 rfl) (tgt := 1045) (by decide) (fun _ => ?_) (fun _ => ?_)
            · refine z_sub [2, 3, 4, 5, 6] (lv' := [(0, .ref b), (1, .ref (B + 0)), (2, .ref (B + 123)), (3, .ref (B + 131)), (4, .int i)]) rfl ?_
              exact hK1045
            · refine z_iconst (pc := 1043) (v := 0) C (zD D_L_law_10 0 rfl) (by decide) ?_
              exact z_none
        · refine z_iconst (pc := 1026) (v := 0) C (zD D_L_law_9 49 rfl) (by decide) ?_
          exact z_none
      refine z_ite (fun c14 => ?_) (fun c14 => ?_)
      · refine z_tblIn (pc := 39) C (zD D_L_law_0 24 rfl) (by rw [c14]; decide) (by rw [c14]; decide) (by rw [c14]; rfl) (tgt := 1048) (by decide) ?_
        refine z_aload_n (pc := 1048) C (zD D_L_law_10 3 rfl) rfl 1 rfl ?_
        refine z_aload_n (pc := 1049) C (zD D_L_law_10 4 rfl) rfl 0 rfl ?_
        refine z_iload (pc := 1050) C (zD D_L_law_10 5 rfl) 4 rfl ?_
        refine z_iconst (pc := 1052) (v := 1) C (zD D_L_law_10 6 rfl) (by decide) ?_
        refine z_iadd (pc := 1053) C (zD D_L_law_10 7 rfl) ?_
        refine z_sld (pc := 1054) C hX hbl hbB (zD D_L_law_10 8 rfl) (fun v1054 => ?_)
        refine z_aload_n (pc := 1055) C (zD D_L_law_10 9 rfl) rfl 0 rfl ?_
        refine z_iload (pc := 1056) C (zD D_L_law_10 10 rfl) 4 rfl ?_
        refine z_iconst (pc := 1058) (v := 2) C (zD D_L_law_10 11 rfl) (by decide) ?_
        refine z_iadd (pc := 1059) C (zD D_L_law_10 12 rfl) ?_
        refine z_sld (pc := 1060) C hX hbl hbB (zD D_L_law_10 13 rfl) (fun v1060 => ?_)
        refine z_aload_n (pc := 1061) C (zD D_L_law_10 14 rfl) rfl 3 rfl ?_
        refine z_callW (pc := 1062) (z' := zlb Z (N + 1)) (As := [.ref (B + 0), .int v1054, .int v1060, .ref (B + 131)]) C [] (c_L_route _ hlz _ _ _ n 0 v1054 v1060 131 h) zn_L_route (by decide) (by decide) (zl_B (Z := Z) (N := N + 1)) q_760 q_761 q_115 q_762 rfl rfl rfl (zD D_L_law_10 15 rfl) rfl (fun r1062 h1062 => ?_)
        refine z_istore (pc := 1065) (lv' := [(5, .int r1062), (0, .ref b), (1, .ref (B + 0)), (2, .ref (B + 123)), (3, .ref (B + 131)), (4, .int i)]) C (zD D_L_law_10 16 rfl) (by decide) rfl ?_
        refine z_aload_n (pc := 1067) C (zD D_L_law_10 17 rfl) rfl 3 rfl ?_
        refine z_aload_n (pc := 1068) C (zD D_L_law_10 18 rfl) rfl 1 rfl ?_
        refine z_iload (pc := 1069) C (zD D_L_law_10 19 rfl) 5 rfl ?_
        refine z_iconst (pc := 1071) (v := 1) C (zD D_L_law_10 20 rfl) (by decide) ?_
        refine z_iadd (pc := 1072) C (zD D_L_law_10 21 rfl) ?_
        refine z_sld (pc := 1073) C hX hbl hbB (zD D_L_law_10 22 rfl) (fun v1073 => ?_)
        refine z_aload_n (pc := 1074) C (zD D_L_law_10 23 rfl) rfl 1 rfl ?_
        refine z_iload (pc := 1075) C (zD D_L_law_10 24 rfl) 5 rfl ?_
        refine z_iconst (pc := 1077) (v := 2) C (zD D_L_law_10 25 rfl) (by decide) ?_
        refine z_iadd (pc := 1078) C (zD D_L_law_10 26 rfl) ?_
        refine z_sld (pc := 1079) C hX hbl hbB (zD D_L_law_10 27 rfl) (fun v1079 => ?_)
        refine z_cvI (pc := 1080) (As := [.int v1073, .int v1079]) C [] (c_X6_route _ _ _ _ n 123 v1073 v1079 h1062) zn_X6_route (by decide) (by decide) (zl_B (Z := Z) (N := N + 1)) zc6 rfl q_775 q_776 q_777 q_5 q_778 rfl rfl rfl (zD D_L_law_10 28 rfl) (fun r1080 h1080 => ?_)
        refine z_istore (pc := 1083) (lv' := [(6, .int r1080), (5, .int r1062), (0, .ref b), (1, .ref (B + 0)), (2, .ref (B + 123)), (3, .ref (B + 131)), (4, .int i)]) C (zD D_L_law_10 29 rfl) (by decide) rfl ?_
        refine z_aload_n (pc := 1085) C (zD D_L_law_10 30 rfl) rfl 4 rfl ?_
        refine z_cvR (pc := 1086) (As := []) C [] (c_X6_thrown _ _ _ _ n 123 h1080) zn_X6_thrown (by decide) (by decide) (zl_B (Z := Z) (N := N + 1)) zc6 rfl q_165 q_166 q_167 q_5 q_168 rfl rfl rfl (zD D_L_law_10 31 rfl) (fun r1086 => ?_)
        refine z_iload (pc := 1089) C (zD D_L_law_10 32 rfl) 1 rfl ?_
        refine z_icmp_eq (pc := 1091) C (zD D_L_law_10 33 rfl) (tgt := 1096) (by decide) (fun _ => ?_) (fun _ => ?_)
        · refine z_iload (pc := 1096) C (zD D_L_law_10 36 rfl) 1 rfl ?_
          refine z_letg (fun K1113 => zJ B Z Q (K1113) 1113 [(0, .ref b), (1, .ref (B + 0)), (2, .ref (B + 123)), (3, .ref (B + 131)), (4, .int i)] [] h1080 (zlb Z (N + 1))) ?_ (fun K1113 hK1113 => ?_)
          · refine z_goto (pc := 1113) C (zD D_L_law_10 47 rfl) (tgt := 1502) (by decide) ?_
            refine z_BC hN ?_
            refine z_iinc (pc := 1502) (lv' := [(4, .int (i + 4)), (0, .ref b), (1, .ref (B + 0)), (2, .ref (B + 123)), (3, .ref (B + 131))]) C (zD D_L_law_14 43 rfl) 4 rfl (v := i + 4) rfl (by decide) rfl ?_
            refine z_goto (pc := 1505) C (zD D_L_law_14 44 rfl) (tgt := 23) (by decide) ?_
            refine z_sub [1, 2, 3, 4, 0] (lv' := [(0, .ref b), (1, .ref (B + 0)), (2, .ref (B + 123)), (3, .ref (B + 131)), (4, .int (i + 4))]) rfl ?_
            exact ih (Nat.le_of_lt hN) (i + 4) h1080
          refine z_if_ne (pc := 1098) C (zD D_L_law_10 37 rfl) (tgt := 1113) (by decide) (fun _ => ?_) (fun _ => ?_)
          · refine z_sub [2, 3, 4, 5, 6] (lv' := [(0, .ref b), (1, .ref (B + 0)), (2, .ref (B + 123)), (3, .ref (B + 131)), (4, .int i)]) rfl ?_
            exact hK1113
          · refine z_aload_n (pc := 1101) C (zD D_L_law_10 38 rfl) rfl 5 rfl ?_
            refine z_iconst (pc := 1102) (v := 0) C (zD D_L_law_10 39 rfl) (by decide) ?_
            refine z_alload (pc := 1103) C (zD D_L_law_10 40 rfl) (fun v1103 => ?_)
            refine z_iload (pc := 1104) C (zD D_L_law_10 41 rfl) 0 rfl ?_
            refine z_i2l (pc := 1106) C (zD D_L_law_10 42 rfl) ?_
            refine z_lcmp (pc := 1107) C (zD D_L_law_10 43 rfl) ?_
            refine z_if_eq (pc := 1108) C (zD D_L_law_10 44 rfl) (tgt := 1113) (by decide) (fun _ => ?_) (fun _ => ?_)
            · refine z_sub [2, 3, 4, 5, 6] (lv' := [(0, .ref b), (1, .ref (B + 0)), (2, .ref (B + 123)), (3, .ref (B + 131)), (4, .int i)]) rfl ?_
              exact hK1113
            · refine z_iconst (pc := 1111) (v := 0) C (zD D_L_law_10 45 rfl) (by decide) ?_
              exact z_none
        · refine z_iconst (pc := 1094) (v := 0) C (zD D_L_law_10 34 rfl) (by decide) ?_
          exact z_none
      refine z_ite (fun c15 => ?_) (fun c15 => ?_)
      · refine z_tblIn (pc := 39) C (zD D_L_law_0 24 rfl) (by rw [c15]; decide) (by rw [c15]; decide) (by rw [c15]; rfl) (tgt := 1116) (by decide) ?_
        refine z_aload_n (pc := 1116) C (zD D_L_law_10 48 rfl) rfl 1 rfl ?_
        refine z_aload_n (pc := 1117) C (zD D_L_law_10 49 rfl) rfl 0 rfl ?_
        refine z_iload (pc := 1118) C (zD D_L_law_10 50 rfl) 4 rfl ?_
        refine z_iconst (pc := 1120) (v := 1) C (zD D_L_law_10 51 rfl) (by decide) ?_
        refine z_iadd (pc := 1121) C (zD D_L_law_10 52 rfl) ?_
        refine z_sld (pc := 1122) C hX hbl hbB (zD D_L_law_10 53 rfl) (fun v1122 => ?_)
        refine z_aload_n (pc := 1123) C (zD D_L_law_10 54 rfl) rfl 0 rfl ?_
        refine z_iload (pc := 1124) C (zD D_L_law_10 55 rfl) 4 rfl ?_
        refine z_iconst (pc := 1126) (v := 2) C (zD D_L_law_10 56 rfl) (by decide) ?_
        refine z_iadd (pc := 1127) C (zD D_L_law_10 57 rfl) ?_
        refine z_sld (pc := 1128) C hX hbl hbB (zD D_L_law_10 58 rfl) (fun v1128 => ?_)
        refine z_aload_n (pc := 1129) C (zD D_L_law_10 59 rfl) rfl 0 rfl ?_
        refine z_iload (pc := 1130) C (zD D_L_law_11 0 rfl) 4 rfl ?_
        refine z_iconst (pc := 1132) (v := 3) C (zD D_L_law_11 1 rfl) (by decide) ?_
        refine z_iadd (pc := 1133) C (zD D_L_law_11 2 rfl) ?_
        refine z_sld (pc := 1134) C hX hbl hbB (zD D_L_law_11 3 rfl) (fun v1134 => ?_)
        refine z_aload_n (pc := 1135) C (zD D_L_law_11 4 rfl) rfl 3 rfl ?_
        refine z_callW (pc := 1136) (z' := zlb Z (N + 1)) (As := [.ref (B + 0), .int v1122, .int v1128, .int v1134, .ref (B + 131)]) C [] (c_L_incomeWith _ hlz _ _ _ n 0 v1122 v1128 v1134 131 h) zn_L_incomeWith (by decide) (by decide) (zl_B (Z := Z) (N := N + 1)) q_779 q_780 q_115 q_781 rfl rfl rfl (zD D_L_law_11 5 rfl) rfl (fun r1136 h1136 => ?_)
        refine z_istore (pc := 1139) (lv' := [(5, .int r1136), (0, .ref b), (1, .ref (B + 0)), (2, .ref (B + 123)), (3, .ref (B + 131)), (4, .int i)]) C (zD D_L_law_11 6 rfl) (by decide) rfl ?_
        refine z_aload_n (pc := 1141) C (zD D_L_law_11 7 rfl) rfl 3 rfl ?_
        refine z_aload_n (pc := 1142) C (zD D_L_law_11 8 rfl) rfl 1 rfl ?_
        refine z_iload (pc := 1143) C (zD D_L_law_11 9 rfl) 5 rfl ?_
        refine z_iconst (pc := 1145) (v := 1) C (zD D_L_law_11 10 rfl) (by decide) ?_
        refine z_iadd (pc := 1146) C (zD D_L_law_11 11 rfl) ?_
        refine z_sld (pc := 1147) C hX hbl hbB (zD D_L_law_11 12 rfl) (fun v1147 => ?_)
        refine z_aload_n (pc := 1148) C (zD D_L_law_11 13 rfl) rfl 1 rfl ?_
        refine z_iload (pc := 1149) C (zD D_L_law_11 14 rfl) 5 rfl ?_
        refine z_iconst (pc := 1151) (v := 2) C (zD D_L_law_11 15 rfl) (by decide) ?_
        refine z_iadd (pc := 1152) C (zD D_L_law_11 16 rfl) ?_
        refine z_sld (pc := 1153) C hX hbl hbB (zD D_L_law_11 17 rfl) (fun v1153 => ?_)
        refine z_aload_n (pc := 1154) C (zD D_L_law_11 18 rfl) rfl 1 rfl ?_
        refine z_iload (pc := 1155) C (zD D_L_law_11 19 rfl) 5 rfl ?_
        refine z_iconst (pc := 1157) (v := 3) C (zD D_L_law_11 20 rfl) (by decide) ?_
        refine z_iadd (pc := 1158) C (zD D_L_law_11 21 rfl) ?_
        refine z_sld (pc := 1159) C hX hbl hbB (zD D_L_law_11 22 rfl) (fun v1159 => ?_)
        refine z_cvI (pc := 1160) (As := [.int v1147, .int v1153, .int v1159]) C [] (c_X6_incomeWith _ _ _ _ n 123 v1147 v1153 v1159 h1136) zn_X6_incomeWith (by decide) (by decide) (zl_B (Z := Z) (N := N + 1)) zc6 rfl q_790 q_791 q_792 q_5 q_793 rfl rfl rfl (zD D_L_law_11 23 rfl) (fun r1160 h1160 => ?_)
        refine z_istore (pc := 1163) (lv' := [(6, .int r1160), (5, .int r1136), (0, .ref b), (1, .ref (B + 0)), (2, .ref (B + 123)), (3, .ref (B + 131)), (4, .int i)]) C (zD D_L_law_11 24 rfl) (by decide) rfl ?_
        refine z_aload_n (pc := 1165) C (zD D_L_law_11 25 rfl) rfl 4 rfl ?_
        refine z_cvR (pc := 1166) (As := []) C [] (c_X6_thrown _ _ _ _ n 123 h1160) zn_X6_thrown (by decide) (by decide) (zl_B (Z := Z) (N := N + 1)) zc6 rfl q_165 q_166 q_167 q_5 q_168 rfl rfl rfl (zD D_L_law_11 26 rfl) (fun r1166 => ?_)
        refine z_iload (pc := 1169) C (zD D_L_law_11 27 rfl) 1 rfl ?_
        refine z_icmp_eq (pc := 1171) C (zD D_L_law_11 28 rfl) (tgt := 1176) (by decide) (fun _ => ?_) (fun _ => ?_)
        · refine z_iload (pc := 1176) C (zD D_L_law_11 31 rfl) 1 rfl ?_
          refine z_letg (fun K1193 => zJ B Z Q (K1193) 1193 [(0, .ref b), (1, .ref (B + 0)), (2, .ref (B + 123)), (3, .ref (B + 131)), (4, .int i)] [] h1160 (zlb Z (N + 1))) ?_ (fun K1193 hK1193 => ?_)
          · refine z_goto (pc := 1193) C (zD D_L_law_11 42 rfl) (tgt := 1502) (by decide) ?_
            refine z_BC hN ?_
            refine z_iinc (pc := 1502) (lv' := [(4, .int (i + 4)), (0, .ref b), (1, .ref (B + 0)), (2, .ref (B + 123)), (3, .ref (B + 131))]) C (zD D_L_law_14 43 rfl) 4 rfl (v := i + 4) rfl (by decide) rfl ?_
            refine z_goto (pc := 1505) C (zD D_L_law_14 44 rfl) (tgt := 23) (by decide) ?_
            refine z_sub [1, 2, 3, 4, 0] (lv' := [(0, .ref b), (1, .ref (B + 0)), (2, .ref (B + 123)), (3, .ref (B + 131)), (4, .int (i + 4))]) rfl ?_
            exact ih (Nat.le_of_lt hN) (i + 4) h1160
          refine z_if_ne (pc := 1178) C (zD D_L_law_11 32 rfl) (tgt := 1193) (by decide) (fun _ => ?_) (fun _ => ?_)
          · refine z_sub [2, 3, 4, 5, 6] (lv' := [(0, .ref b), (1, .ref (B + 0)), (2, .ref (B + 123)), (3, .ref (B + 131)), (4, .int i)]) rfl ?_
            exact hK1193
          · refine z_aload_n (pc := 1181) C (zD D_L_law_11 33 rfl) rfl 5 rfl ?_
            refine z_iconst (pc := 1182) (v := 0) C (zD D_L_law_11 34 rfl) (by decide) ?_
            refine z_alload (pc := 1183) C (zD D_L_law_11 35 rfl) (fun v1183 => ?_)
            refine z_iload (pc := 1184) C (zD D_L_law_11 36 rfl) 0 rfl ?_
            refine z_i2l (pc := 1186) C (zD D_L_law_11 37 rfl) ?_
            refine z_lcmp (pc := 1187) C (zD D_L_law_11 38 rfl) ?_
            refine z_if_eq (pc := 1188) C (zD D_L_law_11 39 rfl) (tgt := 1193) (by decide) (fun _ => ?_) (fun _ => ?_)
            · refine z_sub [2, 3, 4, 5, 6] (lv' := [(0, .ref b), (1, .ref (B + 0)), (2, .ref (B + 123)), (3, .ref (B + 131)), (4, .int i)]) rfl ?_
              exact hK1193
            · refine z_iconst (pc := 1191) (v := 0) C (zD D_L_law_11 40 rfl) (by decide) ?_
              exact z_none
        · refine z_iconst (pc := 1174) (v := 0) C (zD D_L_law_11 29 rfl) (by decide) ?_
          exact z_none
      refine z_ite (fun c16 => ?_) (fun c16 => ?_)
      · refine z_tblIn (pc := 39) C (zD D_L_law_0 24 rfl) (by rw [c16]; decide) (by rw [c16]; decide) (by rw [c16]; rfl) (tgt := 1196) (by decide) ?_
        refine z_aload_n (pc := 1196) C (zD D_L_law_11 43 rfl) rfl 1 rfl ?_
        refine z_aload_n (pc := 1197) C (zD D_L_law_11 44 rfl) rfl 0 rfl ?_
        refine z_iload (pc := 1198) C (zD D_L_law_11 45 rfl) 4 rfl ?_
        refine z_iconst (pc := 1200) (v := 1) C (zD D_L_law_11 46 rfl) (by decide) ?_
        refine z_iadd (pc := 1201) C (zD D_L_law_11 47 rfl) ?_
        refine z_sld (pc := 1202) C hX hbl hbB (zD D_L_law_11 48 rfl) (fun v1202 => ?_)
        refine z_aload_n (pc := 1203) C (zD D_L_law_11 49 rfl) rfl 3 rfl ?_
        refine z_callW (pc := 1204) (z' := zlb Z (N + 1)) (As := [.ref (B + 0), .int v1202, .ref (B + 131)]) C [] (c_L_bestTrack _ hlz _ _ _ n 0 v1202 131 h) zn_L_bestTrack (by decide) (by decide) (zl_B (Z := Z) (N := N + 1)) q_798 q_799 q_115 q_800 rfl rfl rfl (zD D_L_law_11 50 rfl) rfl (fun r1204 h1204 => ?_)
        refine z_istore (pc := 1207) (lv' := [(5, .int r1204), (0, .ref b), (1, .ref (B + 0)), (2, .ref (B + 123)), (3, .ref (B + 131)), (4, .int i)]) C (zD D_L_law_11 51 rfl) (by decide) rfl ?_
        refine z_aload_n (pc := 1209) C (zD D_L_law_11 52 rfl) rfl 3 rfl ?_
        refine z_aload_n (pc := 1210) C (zD D_L_law_11 53 rfl) rfl 1 rfl ?_
        refine z_iload (pc := 1211) C (zD D_L_law_11 54 rfl) 5 rfl ?_
        refine z_iconst (pc := 1213) (v := 1) C (zD D_L_law_11 55 rfl) (by decide) ?_
        refine z_iadd (pc := 1214) C (zD D_L_law_11 56 rfl) ?_
        refine z_sld (pc := 1215) C hX hbl hbB (zD D_L_law_11 57 rfl) (fun v1215 => ?_)
        refine z_cvI (pc := 1216) (As := [.int v1215]) C [] (c_X6_bestTrack _ _ _ _ n 123 v1215 h1204) zn_X6_bestTrack (by decide) (by decide) (zl_B (Z := Z) (N := N + 1)) zc6 rfl q_810 q_811 q_812 q_5 q_813 rfl rfl rfl (zD D_L_law_11 58 rfl) (fun r1216 h1216 => ?_)
        refine z_istore (pc := 1219) (lv' := [(6, .int r1216), (5, .int r1204), (0, .ref b), (1, .ref (B + 0)), (2, .ref (B + 123)), (3, .ref (B + 131)), (4, .int i)]) C (zD D_L_law_11 59 rfl) (by decide) rfl ?_
        refine z_aload_n (pc := 1221) C (zD D_L_law_12 0 rfl) rfl 4 rfl ?_
        refine z_cvR (pc := 1222) (As := []) C [] (c_X6_thrown _ _ _ _ n 123 h1216) zn_X6_thrown (by decide) (by decide) (zl_B (Z := Z) (N := N + 1)) zc6 rfl q_165 q_166 q_167 q_5 q_168 rfl rfl rfl (zD D_L_law_12 1 rfl) (fun r1222 => ?_)
        refine z_iload (pc := 1225) C (zD D_L_law_12 2 rfl) 1 rfl ?_
        refine z_icmp_eq (pc := 1227) C (zD D_L_law_12 3 rfl) (tgt := 1232) (by decide) (fun _ => ?_) (fun _ => ?_)
        · refine z_iload (pc := 1232) C (zD D_L_law_12 6 rfl) 1 rfl ?_
          refine z_letg (fun K1249 => zJ B Z Q (K1249) 1249 [(0, .ref b), (1, .ref (B + 0)), (2, .ref (B + 123)), (3, .ref (B + 131)), (4, .int i)] [] h1216 (zlb Z (N + 1))) ?_ (fun K1249 hK1249 => ?_)
          · refine z_goto (pc := 1249) C (zD D_L_law_12 17 rfl) (tgt := 1502) (by decide) ?_
            refine z_BC hN ?_
            refine z_iinc (pc := 1502) (lv' := [(4, .int (i + 4)), (0, .ref b), (1, .ref (B + 0)), (2, .ref (B + 123)), (3, .ref (B + 131))]) C (zD D_L_law_14 43 rfl) 4 rfl (v := i + 4) rfl (by decide) rfl ?_
            refine z_goto (pc := 1505) C (zD D_L_law_14 44 rfl) (tgt := 23) (by decide) ?_
            refine z_sub [1, 2, 3, 4, 0] (lv' := [(0, .ref b), (1, .ref (B + 0)), (2, .ref (B + 123)), (3, .ref (B + 131)), (4, .int (i + 4))]) rfl ?_
            exact ih (Nat.le_of_lt hN) (i + 4) h1216
          refine z_if_ne (pc := 1234) C (zD D_L_law_12 7 rfl) (tgt := 1249) (by decide) (fun _ => ?_) (fun _ => ?_)
          · refine z_sub [2, 3, 4, 5, 6] (lv' := [(0, .ref b), (1, .ref (B + 0)), (2, .ref (B + 123)), (3, .ref (B + 131)), (4, .int i)]) rfl ?_
            exact hK1249
          · refine z_aload_n (pc := 1237) C (zD D_L_law_12 8 rfl) rfl 5 rfl ?_
            refine z_iconst (pc := 1238) (v := 0) C (zD D_L_law_12 9 rfl) (by decide) ?_
            refine z_alload (pc := 1239) C (zD D_L_law_12 10 rfl) (fun v1239 => ?_)
            refine z_iload (pc := 1240) C (zD D_L_law_12 11 rfl) 0 rfl ?_
            refine z_i2l (pc := 1242) C (zD D_L_law_12 12 rfl) ?_
            refine z_lcmp (pc := 1243) C (zD D_L_law_12 13 rfl) ?_
            refine z_if_eq (pc := 1244) C (zD D_L_law_12 14 rfl) (tgt := 1249) (by decide) (fun _ => ?_) (fun _ => ?_)
            · refine z_sub [2, 3, 4, 5, 6] (lv' := [(0, .ref b), (1, .ref (B + 0)), (2, .ref (B + 123)), (3, .ref (B + 131)), (4, .int i)]) rfl ?_
              exact hK1249
            · refine z_iconst (pc := 1247) (v := 0) C (zD D_L_law_12 15 rfl) (by decide) ?_
              exact z_none
        · refine z_iconst (pc := 1230) (v := 0) C (zD D_L_law_12 4 rfl) (by decide) ?_
          exact z_none
      refine z_ite (fun c17 => ?_) (fun c17 => ?_)
      · refine z_tblIn (pc := 39) C (zD D_L_law_0 24 rfl) (by rw [c17]; decide) (by rw [c17]; decide) (by rw [c17]; rfl) (tgt := 1252) (by decide) ?_
        refine z_aload_n (pc := 1252) C (zD D_L_law_12 18 rfl) rfl 1 rfl ?_
        refine z_aload_n (pc := 1253) C (zD D_L_law_12 19 rfl) rfl 0 rfl ?_
        refine z_iload (pc := 1254) C (zD D_L_law_12 20 rfl) 4 rfl ?_
        refine z_iconst (pc := 1256) (v := 1) C (zD D_L_law_12 21 rfl) (by decide) ?_
        refine z_iadd (pc := 1257) C (zD D_L_law_12 22 rfl) ?_
        refine z_sld (pc := 1258) C hX hbl hbB (zD D_L_law_12 23 rfl) (fun v1258 => ?_)
        refine z_aload_n (pc := 1259) C (zD D_L_law_12 24 rfl) rfl 3 rfl ?_
        refine z_callW (pc := 1260) (z' := zlb Z (N + 1)) (As := [.ref (B + 0), .int v1258, .ref (B + 131)]) C [] (c_L_dividend _ hlz _ _ _ n 0 v1258 131 h) zn_L_dividend (by decide) (by decide) (zl_B (Z := Z) (N := N + 1)) q_814 q_815 q_115 q_816 rfl rfl rfl (zD D_L_law_12 25 rfl) rfl (fun r1260 h1260 => ?_)
        refine z_istore (pc := 1263) (lv' := [(5, .int r1260), (0, .ref b), (1, .ref (B + 0)), (2, .ref (B + 123)), (3, .ref (B + 131)), (4, .int i)]) C (zD D_L_law_12 26 rfl) (by decide) rfl ?_
        refine z_aload_n (pc := 1265) C (zD D_L_law_12 27 rfl) rfl 3 rfl ?_
        refine z_aload_n (pc := 1266) C (zD D_L_law_12 28 rfl) rfl 1 rfl ?_
        refine z_iload (pc := 1267) C (zD D_L_law_12 29 rfl) 5 rfl ?_
        refine z_iconst (pc := 1269) (v := 1) C (zD D_L_law_12 30 rfl) (by decide) ?_
        refine z_iadd (pc := 1270) C (zD D_L_law_12 31 rfl) ?_
        refine z_sld (pc := 1271) C hX hbl hbB (zD D_L_law_12 32 rfl) (fun v1271 => ?_)
        refine z_cvI (pc := 1272) (As := [.int v1271]) C [] (c_X6_dividend _ _ _ _ n 123 v1271 h1260) zn_X6_dividend (by decide) (by decide) (zl_B (Z := Z) (N := N + 1)) zc6 rfl q_821 q_822 q_823 q_5 q_824 rfl rfl rfl (zD D_L_law_12 33 rfl) (fun r1272 h1272 => ?_)
        refine z_istore (pc := 1275) (lv' := [(6, .int r1272), (5, .int r1260), (0, .ref b), (1, .ref (B + 0)), (2, .ref (B + 123)), (3, .ref (B + 131)), (4, .int i)]) C (zD D_L_law_12 34 rfl) (by decide) rfl ?_
        refine z_aload_n (pc := 1277) C (zD D_L_law_12 35 rfl) rfl 4 rfl ?_
        refine z_cvR (pc := 1278) (As := []) C [] (c_X6_thrown _ _ _ _ n 123 h1272) zn_X6_thrown (by decide) (by decide) (zl_B (Z := Z) (N := N + 1)) zc6 rfl q_165 q_166 q_167 q_5 q_168 rfl rfl rfl (zD D_L_law_12 36 rfl) (fun r1278 => ?_)
        refine z_iload (pc := 1281) C (zD D_L_law_12 37 rfl) 1 rfl ?_
        refine z_icmp_eq (pc := 1283) C (zD D_L_law_12 38 rfl) (tgt := 1288) (by decide) (fun _ => ?_) (fun _ => ?_)
        · refine z_iload (pc := 1288) C (zD D_L_law_12 41 rfl) 1 rfl ?_
          refine z_letg (fun K1305 => zJ B Z Q (K1305) 1305 [(0, .ref b), (1, .ref (B + 0)), (2, .ref (B + 123)), (3, .ref (B + 131)), (4, .int i)] [] h1272 (zlb Z (N + 1))) ?_ (fun K1305 hK1305 => ?_)
          · refine z_goto (pc := 1305) C (zD D_L_law_12 52 rfl) (tgt := 1502) (by decide) ?_
            refine z_BC hN ?_
            refine z_iinc (pc := 1502) (lv' := [(4, .int (i + 4)), (0, .ref b), (1, .ref (B + 0)), (2, .ref (B + 123)), (3, .ref (B + 131))]) C (zD D_L_law_14 43 rfl) 4 rfl (v := i + 4) rfl (by decide) rfl ?_
            refine z_goto (pc := 1505) C (zD D_L_law_14 44 rfl) (tgt := 23) (by decide) ?_
            refine z_sub [1, 2, 3, 4, 0] (lv' := [(0, .ref b), (1, .ref (B + 0)), (2, .ref (B + 123)), (3, .ref (B + 131)), (4, .int (i + 4))]) rfl ?_
            exact ih (Nat.le_of_lt hN) (i + 4) h1272
          refine z_if_ne (pc := 1290) C (zD D_L_law_12 42 rfl) (tgt := 1305) (by decide) (fun _ => ?_) (fun _ => ?_)
          · refine z_sub [2, 3, 4, 5, 6] (lv' := [(0, .ref b), (1, .ref (B + 0)), (2, .ref (B + 123)), (3, .ref (B + 131)), (4, .int i)]) rfl ?_
            exact hK1305
          · refine z_aload_n (pc := 1293) C (zD D_L_law_12 43 rfl) rfl 5 rfl ?_
            refine z_iconst (pc := 1294) (v := 0) C (zD D_L_law_12 44 rfl) (by decide) ?_
            refine z_alload (pc := 1295) C (zD D_L_law_12 45 rfl) (fun v1295 => ?_)
            refine z_iload (pc := 1296) C (zD D_L_law_12 46 rfl) 0 rfl ?_
            refine z_i2l (pc := 1298) C (zD D_L_law_12 47 rfl) ?_
            refine z_lcmp (pc := 1299) C (zD D_L_law_12 48 rfl) ?_
            refine z_if_eq (pc := 1300) C (zD D_L_law_12 49 rfl) (tgt := 1305) (by decide) (fun _ => ?_) (fun _ => ?_)
            · refine z_sub [2, 3, 4, 5, 6] (lv' := [(0, .ref b), (1, .ref (B + 0)), (2, .ref (B + 123)), (3, .ref (B + 131)), (4, .int i)]) rfl ?_
              exact hK1305
            · refine z_iconst (pc := 1303) (v := 0) C (zD D_L_law_12 50 rfl) (by decide) ?_
              exact z_none
        · refine z_iconst (pc := 1286) (v := 0) C (zD D_L_law_12 39 rfl) (by decide) ?_
          exact z_none
      refine z_ite (fun c18 => ?_) (fun c18 => ?_)
      · refine z_tblIn (pc := 39) C (zD D_L_law_0 24 rfl) (by rw [c18]; decide) (by rw [c18]; decide) (by rw [c18]; rfl) (tgt := 1308) (by decide) ?_
        refine z_aload_n (pc := 1308) C (zD D_L_law_12 53 rfl) rfl 1 rfl ?_
        refine z_cvR (pc := 1309) (As := []) C [] (c_X5_leader _ _ _ _ n 0 h) zn_X5_leader (by decide) (by decide) (zl_A (Z := Z) (N := N + 1)) zc5 rfl q_825 q_826 q_827 q_2 q_828 rfl rfl rfl (zD D_L_law_12 54 rfl) (fun r1309 => ?_)
        refine z_aload_n (pc := 1312) C (zD D_L_law_12 55 rfl) rfl 2 rfl ?_
        refine z_cvI (pc := 1313) (As := []) C [.int r1309] (c_X6_leader _ _ _ _ n 123 h) zn_X6_leader (by decide) (by decide) (zl_A (Z := Z) (N := N + 1)) zc6 rfl q_829 q_830 q_831 q_5 q_832 rfl rfl rfl (zD D_L_law_12 56 rfl) (fun r1313 h1313 => ?_)
        refine z_icmp_eq (pc := 1316) C (zD D_L_law_12 57 rfl) (tgt := 1502) (by decide) (fun _ => ?_) (fun _ => ?_)
        · refine z_AC ?_
          refine z_iinc (pc := 1502) (lv' := [(4, .int (i + 4)), (0, .ref b), (1, .ref (B + 0)), (2, .ref (B + 123)), (3, .ref (B + 131))]) C (zD D_L_law_14 43 rfl) 4 rfl (v := i + 4) rfl (by decide) rfl ?_
          refine z_goto (pc := 1505) C (zD D_L_law_14 44 rfl) (tgt := 23) (by decide) ?_
          refine z_sub [1, 2, 3, 4, 0] (lv' := [(0, .ref b), (1, .ref (B + 0)), (2, .ref (B + 123)), (3, .ref (B + 131)), (4, .int (i + 4))]) rfl ?_
          exact ih (Nat.le_of_lt hN) (i + 4) h1313
        · refine z_iconst (pc := 1319) (v := 0) C (zD D_L_law_12 58 rfl) (by decide) ?_
          exact z_none
      refine z_ite (fun c19 => ?_) (fun c19 => ?_)
      · refine z_tblIn (pc := 39) C (zD D_L_law_0 24 rfl) (by rw [c19]; decide) (by rw [c19]; decide) (by rw [c19]; rfl) (tgt := 1321) (by decide) ?_
        refine z_aload_n (pc := 1321) C (zD D_L_law_13 0 rfl) rfl 1 rfl ?_
        refine z_cvD (pc := 1322) (As := []) C [] (c_X5_unsold _ _ _ _ n 0 h) zn_X5_unsold (by decide) (by decide) (zl_A (Z := Z) (N := N + 1)) zc5 rfl q_833 q_834 q_835 q_2 q_836 rfl rfl rfl (zD D_L_law_13 1 rfl) (fun r1322 => ?_)
        refine z_dstore (pc := 1325) (lv' := [(5, .double r1322), (0, .ref b), (1, .ref (B + 0)), (2, .ref (B + 123)), (3, .ref (B + 131)), (4, .int i)]) C (zD D_L_law_13 2 rfl) (by decide) rfl ?_
        refine z_aload_n (pc := 1327) C (zD D_L_law_13 3 rfl) rfl 3 rfl ?_
        refine z_cvE (pc := 1328) (As := []) C [] (c_X6_unsold _ _ _ _ n 123 h) zn_X6_unsold (by decide) (by decide) (zl_A (Z := Z) (N := N + 1)) zc6 rfl q_842 q_843 q_844 q_5 q_845 rfl rfl rfl (zD D_L_law_13 4 rfl) (fun r1328 h1328 => ?_)
        refine z_dstore (pc := 1331) (lv' := [(7, .double r1328), (5, .double r1322), (0, .ref b), (1, .ref (B + 0)), (2, .ref (B + 123)), (3, .ref (B + 131)), (4, .int i)]) C (zD D_L_law_13 5 rfl) (by decide) rfl ?_
        refine z_dload (pc := 1333) C (zD D_L_law_13 6 rfl) 1 rfl ?_
        refine z_dload (pc := 1335) C (zD D_L_law_13 7 rfl) 0 rfl ?_
        refine z_dcmp (pc := 1337) C (zD D_L_law_13 8 rfl) ?_
        refine z_letg (fun K1359 => zJ B Z Q (K1359) 1359 [(0, .ref b), (1, .ref (B + 0)), (2, .ref (B + 123)), (3, .ref (B + 131)), (4, .int i)] [] h1328 (zl Z (N + 1))) ?_ (fun K1359 hK1359 => ?_)
        · refine z_goto (pc := 1359) C (zD D_L_law_13 20 rfl) (tgt := 1502) (by decide) ?_
          refine z_AC ?_
          refine z_iinc (pc := 1502) (lv' := [(4, .int (i + 4)), (0, .ref b), (1, .ref (B + 0)), (2, .ref (B + 123)), (3, .ref (B + 131))]) C (zD D_L_law_14 43 rfl) 4 rfl (v := i + 4) rfl (by decide) rfl ?_
          refine z_goto (pc := 1505) C (zD D_L_law_14 44 rfl) (tgt := 23) (by decide) ?_
          refine z_sub [1, 2, 3, 4, 0] (lv' := [(0, .ref b), (1, .ref (B + 0)), (2, .ref (B + 123)), (3, .ref (B + 131)), (4, .int (i + 4))]) rfl ?_
          exact ih (Nat.le_of_lt hN) (i + 4) h1328
        refine z_if_eq (pc := 1338) C (zD D_L_law_13 9 rfl) (tgt := 1359) (by decide) (fun _ => ?_) (fun _ => ?_)
        · refine z_sub [2, 3, 4, 5, 6] (lv' := [(0, .ref b), (1, .ref (B + 0)), (2, .ref (B + 123)), (3, .ref (B + 131)), (4, .int i)]) rfl ?_
          exact hK1359
        · refine z_dload (pc := 1341) C (zD D_L_law_13 10 rfl) 1 rfl ?_
          refine z_dload (pc := 1343) C (zD D_L_law_13 11 rfl) 1 rfl ?_
          refine z_dcmp (pc := 1345) C (zD D_L_law_13 12 rfl) ?_
          refine z_if_eq (pc := 1346) C (zD D_L_law_13 13 rfl) (tgt := 1357) (by decide) (fun _ => ?_) (fun _ => ?_)
          · refine z_iconst (pc := 1357) (v := 0) C (zD D_L_law_13 18 rfl) (by decide) ?_
            exact z_none
          · refine z_dload (pc := 1349) C (zD D_L_law_13 14 rfl) 0 rfl ?_
            refine z_dload (pc := 1351) C (zD D_L_law_13 15 rfl) 0 rfl ?_
            refine z_dcmp (pc := 1353) C (zD D_L_law_13 16 rfl) ?_
            refine z_if_ne (pc := 1354) C (zD D_L_law_13 17 rfl) (tgt := 1359) (by decide) (fun _ => ?_) (fun _ => ?_)
            · refine z_sub [2, 3, 4, 5, 6] (lv' := [(0, .ref b), (1, .ref (B + 0)), (2, .ref (B + 123)), (3, .ref (B + 131)), (4, .int i)]) rfl ?_
              exact hK1359
            · refine z_iconst (pc := 1357) (v := 0) C (zD D_L_law_13 18 rfl) (by decide) ?_
              exact z_none
      refine z_ite (fun c20 => ?_) (fun c20 => ?_)
      · refine z_tblIn (pc := 39) C (zD D_L_law_0 24 rfl) (by rw [c20]; decide) (by rw [c20]; decide) (by rw [c20]; rfl) (tgt := 1362) (by decide) ?_
        refine z_aload_n (pc := 1362) C (zD D_L_law_13 21 rfl) rfl 1 rfl ?_
        refine z_aload_n (pc := 1363) C (zD D_L_law_13 22 rfl) rfl 0 rfl ?_
        refine z_iload (pc := 1364) C (zD D_L_law_13 23 rfl) 4 rfl ?_
        refine z_iconst (pc := 1366) (v := 1) C (zD D_L_law_13 24 rfl) (by decide) ?_
        refine z_iadd (pc := 1367) C (zD D_L_law_13 25 rfl) ?_
        refine z_sld (pc := 1368) C hX hbl hbB (zD D_L_law_13 26 rfl) (fun v1368 => ?_)
        refine z_aload_n (pc := 1369) C (zD D_L_law_13 27 rfl) rfl 3 rfl ?_
        refine z_callW (pc := 1370) (z' := zlb Z (N + 1)) (As := [.ref (B + 0), .int v1368, .ref (B + 131)]) C [] (c_L_append _ hlz _ _ _ n 0 v1368 131 h) zn_L_append (by decide) (by decide) (zl_B (Z := Z) (N := N + 1)) q_846 q_847 q_115 q_848 rfl rfl rfl (zD D_L_law_13 28 rfl) rfl (fun r1370 h1370 => ?_)
        refine z_istore (pc := 1373) (lv' := [(5, .int r1370), (0, .ref b), (1, .ref (B + 0)), (2, .ref (B + 123)), (3, .ref (B + 131)), (4, .int i)]) C (zD D_L_law_13 29 rfl) (by decide) rfl ?_
        refine z_aload_n (pc := 1375) C (zD D_L_law_13 30 rfl) rfl 3 rfl ?_
        refine z_aload_n (pc := 1376) C (zD D_L_law_13 31 rfl) rfl 1 rfl ?_
        refine z_iload (pc := 1377) C (zD D_L_law_13 32 rfl) 5 rfl ?_
        refine z_iconst (pc := 1379) (v := 1) C (zD D_L_law_13 33 rfl) (by decide) ?_
        refine z_iadd (pc := 1380) C (zD D_L_law_13 34 rfl) ?_
        refine z_sld (pc := 1381) C hX hbl hbB (zD D_L_law_13 35 rfl) (fun v1381 => ?_)
        refine z_cvI (pc := 1382) (As := [.int v1381]) C [] (c_X6_append _ _ _ _ n 123 v1381 h1370) zn_X6_append (by decide) (by decide) (zl_B (Z := Z) (N := N + 1)) zc6 rfl q_859 q_860 q_861 q_5 q_862 rfl rfl rfl (zD D_L_law_13 36 rfl) (fun r1382 h1382 => ?_)
        refine z_istore (pc := 1385) (lv' := [(6, .int r1382), (5, .int r1370), (0, .ref b), (1, .ref (B + 0)), (2, .ref (B + 123)), (3, .ref (B + 131)), (4, .int i)]) C (zD D_L_law_13 37 rfl) (by decide) rfl ?_
        refine z_aload_n (pc := 1387) C (zD D_L_law_13 38 rfl) rfl 4 rfl ?_
        refine z_cvR (pc := 1388) (As := []) C [] (c_X6_thrown _ _ _ _ n 123 h1382) zn_X6_thrown (by decide) (by decide) (zl_B (Z := Z) (N := N + 1)) zc6 rfl q_165 q_166 q_167 q_5 q_168 rfl rfl rfl (zD D_L_law_13 39 rfl) (fun r1388 => ?_)
        refine z_iload (pc := 1391) C (zD D_L_law_13 40 rfl) 1 rfl ?_
        refine z_icmp_eq (pc := 1393) C (zD D_L_law_13 41 rfl) (tgt := 1398) (by decide) (fun _ => ?_) (fun _ => ?_)
        · refine z_iload (pc := 1398) C (zD D_L_law_13 44 rfl) 1 rfl ?_
          refine z_letg (fun K1415 => zJ B Z Q (K1415) 1415 [(0, .ref b), (1, .ref (B + 0)), (2, .ref (B + 123)), (3, .ref (B + 131)), (4, .int i)] [] h1382 (zlb Z (N + 1))) ?_ (fun K1415 hK1415 => ?_)
          · refine z_goto (pc := 1415) C (zD D_L_law_13 55 rfl) (tgt := 1502) (by decide) ?_
            refine z_BC hN ?_
            refine z_iinc (pc := 1502) (lv' := [(4, .int (i + 4)), (0, .ref b), (1, .ref (B + 0)), (2, .ref (B + 123)), (3, .ref (B + 131))]) C (zD D_L_law_14 43 rfl) 4 rfl (v := i + 4) rfl (by decide) rfl ?_
            refine z_goto (pc := 1505) C (zD D_L_law_14 44 rfl) (tgt := 23) (by decide) ?_
            refine z_sub [1, 2, 3, 4, 0] (lv' := [(0, .ref b), (1, .ref (B + 0)), (2, .ref (B + 123)), (3, .ref (B + 131)), (4, .int (i + 4))]) rfl ?_
            exact ih (Nat.le_of_lt hN) (i + 4) h1382
          refine z_if_ne (pc := 1400) C (zD D_L_law_13 45 rfl) (tgt := 1415) (by decide) (fun _ => ?_) (fun _ => ?_)
          · refine z_sub [2, 3, 4, 5, 6] (lv' := [(0, .ref b), (1, .ref (B + 0)), (2, .ref (B + 123)), (3, .ref (B + 131)), (4, .int i)]) rfl ?_
            exact hK1415
          · refine z_aload_n (pc := 1403) C (zD D_L_law_13 46 rfl) rfl 5 rfl ?_
            refine z_iconst (pc := 1404) (v := 0) C (zD D_L_law_13 47 rfl) (by decide) ?_
            refine z_alload (pc := 1405) C (zD D_L_law_13 48 rfl) (fun v1405 => ?_)
            refine z_iload (pc := 1406) C (zD D_L_law_13 49 rfl) 0 rfl ?_
            refine z_i2l (pc := 1408) C (zD D_L_law_13 50 rfl) ?_
            refine z_lcmp (pc := 1409) C (zD D_L_law_13 51 rfl) ?_
            refine z_if_eq (pc := 1410) C (zD D_L_law_13 52 rfl) (tgt := 1415) (by decide) (fun _ => ?_) (fun _ => ?_)
            · refine z_sub [2, 3, 4, 5, 6] (lv' := [(0, .ref b), (1, .ref (B + 0)), (2, .ref (B + 123)), (3, .ref (B + 131)), (4, .int i)]) rfl ?_
              exact hK1415
            · refine z_iconst (pc := 1413) (v := 0) C (zD D_L_law_13 53 rfl) (by decide) ?_
              exact z_none
        · refine z_iconst (pc := 1396) (v := 0) C (zD D_L_law_13 42 rfl) (by decide) ?_
          exact z_none
      refine z_ite (fun c21 => ?_) (fun c21 => ?_)
      · refine z_tblIn (pc := 39) C (zD D_L_law_0 24 rfl) (by rw [c21]; decide) (by rw [c21]; decide) (by rw [c21]; rfl) (tgt := 1418) (by decide) ?_
        refine z_aload_n (pc := 1418) C (zD D_L_law_13 56 rfl) rfl 1 rfl ?_
        refine z_cvI (pc := 1419) (As := []) C [] (c_X5_clearText _ _ _ _ n 0 h) zn_X5_clearText (by decide) (by decide) (zl_A (Z := Z) (N := N + 1)) zc5 rfl q_864 q_865 q_866 q_2 q_867 rfl rfl rfl (zD D_L_law_13 57 rfl) (fun r1419 h1419 => ?_)
        refine z_aload_n (pc := 1422) C (zD D_L_law_13 58 rfl) rfl 2 rfl ?_
        refine z_cvI (pc := 1423) (As := []) C [.int r1419] (c_X6_clearText _ _ _ _ n 123 h1419) zn_X6_clearText (by decide) (by decide) (zl_A (Z := Z) (N := N + 1)) zc6 rfl q_868 q_869 q_870 q_5 q_871 rfl rfl rfl (zD D_L_law_13 59 rfl) (fun r1423 h1423 => ?_)
        refine z_icmp_eq (pc := 1426) C (zD D_L_law_14 0 rfl) (tgt := 1502) (by decide) (fun _ => ?_) (fun _ => ?_)
        · refine z_AC ?_
          refine z_iinc (pc := 1502) (lv' := [(4, .int (i + 4)), (0, .ref b), (1, .ref (B + 0)), (2, .ref (B + 123)), (3, .ref (B + 131))]) C (zD D_L_law_14 43 rfl) 4 rfl (v := i + 4) rfl (by decide) rfl ?_
          refine z_goto (pc := 1505) C (zD D_L_law_14 44 rfl) (tgt := 23) (by decide) ?_
          refine z_sub [1, 2, 3, 4, 0] (lv' := [(0, .ref b), (1, .ref (B + 0)), (2, .ref (B + 123)), (3, .ref (B + 131)), (4, .int (i + 4))]) rfl ?_
          exact ih (Nat.le_of_lt hN) (i + 4) h1423
        · refine z_iconst (pc := 1429) (v := 0) C (zD D_L_law_14 1 rfl) (by decide) ?_
          exact z_none
      refine z_ite (fun c22 => ?_) (fun c22 => ?_)
      · refine z_tblIn (pc := 39) C (zD D_L_law_0 24 rfl) (by rw [c22]; decide) (by rw [c22]; decide) (by rw [c22]; rfl) (tgt := 1431) (by decide) ?_
        refine z_aload_n (pc := 1431) C (zD D_L_law_14 3 rfl) rfl 1 rfl ?_
        refine z_cvI (pc := 1432) (As := []) C [] (c_X5_play _ _ _ _ n 0 h) zn_X5_play (by decide) (by decide) (zl_A (Z := Z) (N := N + 1)) zc5 rfl q_872 q_873 q_874 q_2 q_875 rfl rfl rfl (zD D_L_law_14 4 rfl) (fun r1432 h1432 => ?_)
        refine z_aload_n (pc := 1435) C (zD D_L_law_14 5 rfl) rfl 2 rfl ?_
        refine z_cvI (pc := 1436) (As := []) C [.int r1432] (c_X6_play _ _ _ _ n 123 h1432) zn_X6_play (by decide) (by decide) (zl_A (Z := Z) (N := N + 1)) zc6 rfl q_906 q_907 q_908 q_5 q_909 rfl rfl rfl (zD D_L_law_14 6 rfl) (fun r1436 h1436 => ?_)
        refine z_icmp_eq (pc := 1439) C (zD D_L_law_14 7 rfl) (tgt := 1502) (by decide) (fun _ => ?_) (fun _ => ?_)
        · refine z_AC ?_
          refine z_iinc (pc := 1502) (lv' := [(4, .int (i + 4)), (0, .ref b), (1, .ref (B + 0)), (2, .ref (B + 123)), (3, .ref (B + 131))]) C (zD D_L_law_14 43 rfl) 4 rfl (v := i + 4) rfl (by decide) rfl ?_
          refine z_goto (pc := 1505) C (zD D_L_law_14 44 rfl) (tgt := 23) (by decide) ?_
          refine z_sub [1, 2, 3, 4, 0] (lv' := [(0, .ref b), (1, .ref (B + 0)), (2, .ref (B + 123)), (3, .ref (B + 131)), (4, .int (i + 4))]) rfl ?_
          exact ih (Nat.le_of_lt hN) (i + 4) h1436
        · refine z_iconst (pc := 1442) (v := 0) C (zD D_L_law_14 8 rfl) (by decide) ?_
          exact z_none
      refine z_ite (fun c23 => ?_) (fun c23 => ?_)
      · refine z_tblIn (pc := 39) C (zD D_L_law_0 24 rfl) (by rw [c23]; decide) (by rw [c23]; decide) (by rw [c23]; rfl) (tgt := 1444) (by decide) ?_
        refine z_aload_n (pc := 1444) C (zD D_L_law_14 10 rfl) rfl 1 rfl ?_
        refine z_aload_n (pc := 1445) C (zD D_L_law_14 11 rfl) rfl 3 rfl ?_
        refine z_callW (pc := 1446) (z' := zlb Z (N + 1)) (As := [.ref (B + 0), .ref (B + 131)]) C [] (c_L_undo _ hlz _ _ _ n 0 131 h) zn_L_undo (by decide) (by decide) (zl_B (Z := Z) (N := N + 1)) q_934 q_935 q_115 q_936 rfl rfl rfl (zD D_L_law_14 12 rfl) rfl (fun r1446 h1446 => ?_)
        refine z_istore (pc := 1449) (lv' := [(5, .int r1446), (0, .ref b), (1, .ref (B + 0)), (2, .ref (B + 123)), (3, .ref (B + 131)), (4, .int i)]) C (zD D_L_law_14 13 rfl) (by decide) rfl ?_
        refine z_aload_n (pc := 1451) C (zD D_L_law_14 14 rfl) rfl 3 rfl ?_
        refine z_cvI (pc := 1452) (As := []) C [] (c_X6_undo _ _ _ _ n 123 h1446) zn_X6_undo (by decide) (by decide) (zl_B (Z := Z) (N := N + 1)) zc6 rfl q_941 q_942 q_943 q_5 q_944 rfl rfl rfl (zD D_L_law_14 15 rfl) (fun r1452 h1452 => ?_)
        refine z_istore (pc := 1455) (lv' := [(6, .int r1452), (5, .int r1446), (0, .ref b), (1, .ref (B + 0)), (2, .ref (B + 123)), (3, .ref (B + 131)), (4, .int i)]) C (zD D_L_law_14 16 rfl) (by decide) rfl ?_
        refine z_aload_n (pc := 1457) C (zD D_L_law_14 17 rfl) rfl 4 rfl ?_
        refine z_cvR (pc := 1458) (As := []) C [] (c_X6_thrown _ _ _ _ n 123 h1452) zn_X6_thrown (by decide) (by decide) (zl_B (Z := Z) (N := N + 1)) zc6 rfl q_165 q_166 q_167 q_5 q_168 rfl rfl rfl (zD D_L_law_14 18 rfl) (fun r1458 => ?_)
        refine z_iload (pc := 1461) C (zD D_L_law_14 19 rfl) 1 rfl ?_
        refine z_icmp_eq (pc := 1463) C (zD D_L_law_14 20 rfl) (tgt := 1468) (by decide) (fun _ => ?_) (fun _ => ?_)
        · refine z_iload (pc := 1468) C (zD D_L_law_14 23 rfl) 1 rfl ?_
          refine z_letg (fun K1485 => zJ B Z Q (K1485) 1485 [(0, .ref b), (1, .ref (B + 0)), (2, .ref (B + 123)), (3, .ref (B + 131)), (4, .int i)] [] h1452 (zlb Z (N + 1))) ?_ (fun K1485 hK1485 => ?_)
          · refine z_goto (pc := 1485) C (zD D_L_law_14 34 rfl) (tgt := 1502) (by decide) ?_
            refine z_BC hN ?_
            refine z_iinc (pc := 1502) (lv' := [(4, .int (i + 4)), (0, .ref b), (1, .ref (B + 0)), (2, .ref (B + 123)), (3, .ref (B + 131))]) C (zD D_L_law_14 43 rfl) 4 rfl (v := i + 4) rfl (by decide) rfl ?_
            refine z_goto (pc := 1505) C (zD D_L_law_14 44 rfl) (tgt := 23) (by decide) ?_
            refine z_sub [1, 2, 3, 4, 0] (lv' := [(0, .ref b), (1, .ref (B + 0)), (2, .ref (B + 123)), (3, .ref (B + 131)), (4, .int (i + 4))]) rfl ?_
            exact ih (Nat.le_of_lt hN) (i + 4) h1452
          refine z_if_ne (pc := 1470) C (zD D_L_law_14 24 rfl) (tgt := 1485) (by decide) (fun _ => ?_) (fun _ => ?_)
          · refine z_sub [2, 3, 4, 5, 6] (lv' := [(0, .ref b), (1, .ref (B + 0)), (2, .ref (B + 123)), (3, .ref (B + 131)), (4, .int i)]) rfl ?_
            exact hK1485
          · refine z_aload_n (pc := 1473) C (zD D_L_law_14 25 rfl) rfl 5 rfl ?_
            refine z_iconst (pc := 1474) (v := 0) C (zD D_L_law_14 26 rfl) (by decide) ?_
            refine z_alload (pc := 1475) C (zD D_L_law_14 27 rfl) (fun v1475 => ?_)
            refine z_iload (pc := 1476) C (zD D_L_law_14 28 rfl) 0 rfl ?_
            refine z_i2l (pc := 1478) C (zD D_L_law_14 29 rfl) ?_
            refine z_lcmp (pc := 1479) C (zD D_L_law_14 30 rfl) ?_
            refine z_if_eq (pc := 1480) C (zD D_L_law_14 31 rfl) (tgt := 1485) (by decide) (fun _ => ?_) (fun _ => ?_)
            · refine z_sub [2, 3, 4, 5, 6] (lv' := [(0, .ref b), (1, .ref (B + 0)), (2, .ref (B + 123)), (3, .ref (B + 131)), (4, .int i)]) rfl ?_
              exact hK1485
            · refine z_iconst (pc := 1483) (v := 0) C (zD D_L_law_14 32 rfl) (by decide) ?_
              exact z_none
        · refine z_iconst (pc := 1466) (v := 0) C (zD D_L_law_14 21 rfl) (by decide) ?_
          exact z_none
      refine z_ite (fun c24 => ?_) (fun c24 => ?_)
      · refine z_tblIn (pc := 39) C (zD D_L_law_0 24 rfl) (by rw [c24]; decide) (by rw [c24]; decide) (by rw [c24]; rfl) (tgt := 1488) (by decide) ?_
        refine z_aload_n (pc := 1488) C (zD D_L_law_14 35 rfl) rfl 1 rfl ?_
        refine z_cvL (pc := 1489) (As := []) C [] (c_X5_digest _ _ _ _ n 0 h) zn_X5_digest (by decide) (by decide) (zl_A (Z := Z) (N := N + 1)) zc5 rfl q_945 q_946 q_947 q_2 q_948 rfl rfl rfl (zD D_L_law_14 36 rfl) (fun r1489 h1489 => ?_)
        refine z_aload_n (pc := 1492) C (zD D_L_law_14 37 rfl) rfl 2 rfl ?_
        refine z_cvL (pc := 1493) (As := []) C [.long r1489] (c_X6_digest _ _ _ _ n 123 h1489) zn_X6_digest (by decide) (by decide) (zl_A (Z := Z) (N := N + 1)) zc6 rfl q_956 q_957 q_958 q_5 q_959 rfl rfl rfl (zD D_L_law_14 38 rfl) (fun r1493 h1493 => ?_)
        refine z_lcmp (pc := 1496) C (zD D_L_law_14 39 rfl) ?_
        refine z_if_eq (pc := 1497) C (zD D_L_law_14 40 rfl) (tgt := 1502) (by decide) (fun _ => ?_) (fun _ => ?_)
        · refine z_AC ?_
          refine z_iinc (pc := 1502) (lv' := [(4, .int (i + 4)), (0, .ref b), (1, .ref (B + 0)), (2, .ref (B + 123)), (3, .ref (B + 131))]) C (zD D_L_law_14 43 rfl) 4 rfl (v := i + 4) rfl (by decide) rfl ?_
          refine z_goto (pc := 1505) C (zD D_L_law_14 44 rfl) (tgt := 23) (by decide) ?_
          refine z_sub [1, 2, 3, 4, 0] (lv' := [(0, .ref b), (1, .ref (B + 0)), (2, .ref (B + 123)), (3, .ref (B + 131)), (4, .int (i + 4))]) rfl ?_
          exact ih (Nat.le_of_lt hN) (i + 4) h1493
        · refine z_iconst (pc := 1500) (v := 0) C (zD D_L_law_14 41 rfl) (by decide) ?_
          exact z_none
      refine z_tblOut (pc := 39) C (zD D_L_law_0 24 rfl) (z_out _ (fun k h1 h2 => by rcases (show k = 0 ∨ k = 1 ∨ k = 2 ∨ k = 3 ∨ k = 4 ∨ k = 5 ∨ k = 6 ∨ k = 7 ∨ k = 8 ∨ k = 9 ∨ k = 10 ∨ k = 11 ∨ k = 12 ∨ k = 13 ∨ k = 14 ∨ k = 15 ∨ k = 16 ∨ k = 17 ∨ k = 18 ∨ k = 19 ∨ k = 20 ∨ k = 21 ∨ k = 22 ∨ k = 23 ∨ k = 24 by omega) with rfl | rfl | rfl | rfl | rfl | rfl | rfl | rfl | rfl | rfl | rfl | rfl | rfl | rfl | rfl | rfl | rfl | rfl | rfl | rfl | rfl | rfl | rfl | rfl | rfl; exact fun e => c0 (e.trans (by decide)); exact fun e => c1 (e.trans (by decide)); exact fun e => c2 (e.trans (by decide)); exact fun e => c3 (e.trans (by decide)); exact fun e => c4 (e.trans (by decide)); exact fun e => c5 (e.trans (by decide)); exact fun e => c6 (e.trans (by decide)); exact fun e => c7 (e.trans (by decide)); exact fun e => c8 (e.trans (by decide)); exact fun e => c9 (e.trans (by decide)); exact fun e => c10 (e.trans (by decide)); exact fun e => c11 (e.trans (by decide)); exact fun e => c12 (e.trans (by decide)); exact fun e => c13 (e.trans (by decide)); exact fun e => c14 (e.trans (by decide)); exact fun e => c15 (e.trans (by decide)); exact fun e => c16 (e.trans (by decide)); exact fun e => c17 (e.trans (by decide)); exact fun e => c18 (e.trans (by decide)); exact fun e => c19 (e.trans (by decide)); exact fun e => c20 (e.trans (by decide)); exact fun e => c21 (e.trans (by decide)); exact fun e => c22 (e.trans (by decide)); exact fun e => c23 (e.trans (by decide)); exact fun e => c24 (e.trans (by decide)))) (tgt := 1502) (by decide) ?_
      refine z_AC ?_
      refine z_iinc (pc := 1502) (lv' := [(4, .int (i + 4)), (0, .ref b), (1, .ref (B + 0)), (2, .ref (B + 123)), (3, .ref (B + 131))]) C (zD D_L_law_14 43 rfl) 4 rfl (v := i + 4) rfl (by decide) rfl ?_
      refine z_goto (pc := 1505) C (zD D_L_law_14 44 rfl) (tgt := 23) (by decide) ?_
      refine z_sub [1, 2, 3, 4, 0] (lv' := [(0, .ref b), (1, .ref (B + 0)), (2, .ref (B + 123)), (3, .ref (B + 131)), (4, .int (i + 4))]) rfl ?_
      exact ih (Nat.le_of_lt hN) (i + 4) h
def f_lawAll (n L : Nat) (xs : Nat → Int32) : Option Unit := zlet (zset (fun _ => none) (0 + 0) (.inr (5, [.null, .null, .int 0, .null]))) fun (h0 : zH) => (f_X5_init n (0 + 0) (0 + 1) h0).bind fun (h4 : zH) => zlet (zset h4 (0 + 123) (.inr (6, [.null, .null, .int 0, .null, .int 0, .int 0, .null, .null, .null, .null, .int 0, .int 0, .int 0, .int 0, .int 0, .int 0, .long 0]))) fun (h8 : zH) => (f_X6_init n (0 + 123) (0 + 124) h8).bind fun (h12 : zH) => zlet (zset h12 (0 + 131) (.inl (1, 1, .inr (.inl (fun _ => 0))))) fun (h17 : zH) => f_law n L xs 1000 0 h17
set_option maxRecDepth 100000 in
set_option maxHeartbeats 4000000 in
theorem c_law_all {B : Nat} {Z : zC} {Q : Unit → State → Prop} {b L : Nat} {xs : Nat → Int32} (C : zOk B Z cL_law RL (zR 1000 616119 7247748) 9) (hsz0 : Z.1.2.2.2.2.heap.size = B + 0) (hX : va_X b L xs Z.1.2.2.2.2 Z.1.2.2.2.2.heap) (hbl : b < Z.1.2.2.2.2.heap.size) (hbB : ¬ B ≤ b) (hlz : Z.1.2.1.stackTraces = false) (hret : ∀ lv h z, z.1 ≤ 616119 → z.2.1 ≤ 7247748 → zJ B Z Q (some ()) 1509 lv [.int 1] h z) (n : Nat) : zJ B Z Q (f_lawAll n L xs) 0 [(0, .ref b)] [] (fun _ => none) (0, 0, Z.1.2.2.2.2.heap.size + 0) := by
  unfold f_lawAll
  refine z_new (pc := 0) C hsz0 [.null, .null, .int 0, .null] zc5 (fun j hj => by rcases (show j = 0 ∨ j = 1 ∨ j = 2 ∨ j = 3 by omega) with rfl | rfl | rfl | rfl <;> rfl) rfl q_0 q_1 q_2 rfl rfl (zD D_L_law_0 0 rfl) (fun h0 => ?_)
  refine z_dup (pc := 3) C (zD D_L_law_0 1 rfl) rfl ?_
  refine z_callI (pc := 4) (As := []) C hsz0 [.ref (B + (0 + 0))] (c_X5_init _ _ _ _ n (0 + 0) (0 + 1) h0) zn_X5_init rfl (by decide) (by decide) rfl rfl q_7 q_8 q_2 q_9 rfl rfl rfl (zD D_L_law_0 2 rfl) (fun h4 => ?_)
  refine z_astore_n (pc := 7) (lv' := [(1, .ref (B + (0 + 0))), (0, .ref b)]) C (zD D_L_law_0 3 rfl) rfl (by decide) rfl ?_
  refine z_new (pc := 8) C hsz0 [.null, .null, .int 0, .null, .int 0, .int 0, .null, .null, .null, .null, .int 0, .int 0, .int 0, .int 0, .int 0, .int 0, .long 0] zc6 (fun j hj => by rcases (show j = 0 ∨ j = 1 ∨ j = 2 ∨ j = 3 ∨ j = 4 ∨ j = 5 ∨ j = 6 ∨ j = 7 ∨ j = 8 ∨ j = 9 ∨ j = 10 ∨ j = 11 ∨ j = 12 ∨ j = 13 ∨ j = 14 ∨ j = 15 ∨ j = 16 by omega) with rfl | rfl | rfl | rfl | rfl | rfl | rfl | rfl | rfl | rfl | rfl | rfl | rfl | rfl | rfl | rfl | rfl <;> rfl) rfl q_3 q_4 q_5 rfl rfl (zD D_L_law_0 4 rfl) (fun h8 => ?_)
  refine z_dup (pc := 11) C (zD D_L_law_0 5 rfl) rfl ?_
  refine z_callI (pc := 12) (As := []) C hsz0 [.ref (B + (0 + 123))] (c_X6_init _ _ _ _ n (0 + 123) (0 + 124) h8) zn_X6_init rfl (by decide) (by decide) rfl rfl q_98 q_99 q_5 q_100 rfl rfl rfl (zD D_L_law_0 6 rfl) (fun h12 => ?_)
  refine z_astore_n (pc := 15) (lv' := [(2, .ref (B + (0 + 123))), (1, .ref (B + (0 + 0))), (0, .ref b)]) C (zD D_L_law_0 7 rfl) rfl (by decide) rfl ?_
  refine z_iconst (pc := 16) (v := 1) C (zD D_L_law_0 8 rfl) (by decide) ?_
  refine z_newL (pc := 17) C hsz0 1 q_6 (by decide) (by decide) rfl rfl rfl (zD D_L_law_0 9 rfl) (fun h17 => ?_)
  refine z_astore_n (pc := 19) (lv' := [(3, .ref (B + (0 + 131))), (2, .ref (B + (0 + 123))), (1, .ref (B + (0 + 0))), (0, .ref b)]) C (zD D_L_law_0 10 rfl) rfl (by decide) rfl ?_
  refine z_iconst (pc := 20) (v := 0) C (zD D_L_law_0 11 rfl) (by decide) ?_
  refine z_istore (pc := 21) (lv' := [(4, .int (0 : Int32)), (3, .ref (B + (0 + 131))), (2, .ref (B + (0 + 123))), (1, .ref (B + (0 + 0))), (0, .ref b)]) C (zD D_L_law_0 12 rfl) (by decide) rfl ?_
  refine z_sub [4, 3, 2, 1, 0] (lv' := [(0, .ref b), (1, .ref (B + (0 + 0))), (2, .ref (B + (0 + 123))), (3, .ref (B + (0 + 131))), (4, .int (0 : Int32))]) rfl ?_
  refine z_widen (z' := zl Z 1000) (by show 132 ≤ 616000 - 1000; decide) (by show 1709 ≤ 7247000 - 6 * 1000; decide) (Nat.le_add_right _ _) ?_
  exact c_law_loop C hX hbl hbB hlz hret n 1000 (Nat.le_refl _) 0 h17
