def dAll (b : ByteArray) : List (Nat × (Instr × Nat)) → Prop
  | [] => True
  | e :: r => decode b e.1 = .ok e.2 ∧ dAll b r
def dChk (b : ByteArray) : List (Nat × (Instr × Nat)) → Bool
  | [] => true
  | e :: r => decide (decode b e.1 = .ok e.2) && dChk b r
theorem dAll_of {b : ByteArray} : ∀ {l : List (Nat × (Instr × Nat))}, dChk b l = true → dAll b l
  | [], _ => trivial
  | e :: r, h => by
    have h : (decide (decode b e.1 = .ok e.2) && dChk b r) = true := h
    rw [Bool.and_eq_true] at h
    exact ⟨of_decide_eq_true h.1, dAll_of h.2⟩
theorem dB_old_26_m41_2_dec_0 : dAll YL.2.1 [(1406, (.aload_n 0, 1)), (1407, (.iload_n 3, 1)), (1408, (.iconst 3, 1)), (1409, (.iadd, 1)), (1410, (.iaload, 1)), (1411, (.aload_n 0, 1)), (1412, (.iload_n 3, 1)), (1413, (.iconst 4, 1)), (1414, (.iadd, 1)), (1415, (.iaload, 1)), (1416, (.aload_n 0, 1)), (1417, (.iload_n 3, 1)), (1418, (.iconst 5, 1)), (1419, (.iadd, 1)), (1420, (.iaload, 1)), (1421, (.invokevirtual 130, 3)), (1424, (.pop, 1)), (1425, (.goto 2051, 3)), (1428, (.aload_n 1, 1)), (1429, (.aload_n 0, 1)), (1430, (.iload_n 3, 1)), (1431, (.iconst 1, 1)), (1432, (.iadd, 1)), (1433, (.iaload, 1)), (1434, (.invokevirtual 131, 3)), (1437, (.pop, 1)), (1438, (.aload_n 2, 1)), (1439, (.aload_n 0, 1)), (1440, (.iload_n 3, 1)), (1441, (.iconst 1, 1))] := dAll_of (by decide +kernel)
theorem d_L_1406 : decode YL.2.1 1406 = .ok (.aload_n 0, 1) ∧ 1406 + 1 = 1407 := ⟨dB_old_26_m41_2_dec_0.1, by decide⟩
theorem d_L_1407 : decode YL.2.1 1407 = .ok (.iload_n 3, 1) ∧ 1407 + 1 = 1408 := ⟨dB_old_26_m41_2_dec_0.2.1, by decide⟩
theorem d_L_1408 : decode YL.2.1 1408 = .ok (.iconst 3, 1) ∧ 1408 + 1 = 1409 := ⟨dB_old_26_m41_2_dec_0.2.2.1, by decide⟩
theorem d_L_1409 : decode YL.2.1 1409 = .ok (.iadd, 1) ∧ 1409 + 1 = 1410 := ⟨dB_old_26_m41_2_dec_0.2.2.2.1, by decide⟩
theorem d_L_1410 : decode YL.2.1 1410 = .ok (.iaload, 1) ∧ 1410 + 1 = 1411 := ⟨dB_old_26_m41_2_dec_0.2.2.2.2.1, by decide⟩
theorem d_L_1411 : decode YL.2.1 1411 = .ok (.aload_n 0, 1) ∧ 1411 + 1 = 1412 := ⟨dB_old_26_m41_2_dec_0.2.2.2.2.2.1, by decide⟩
theorem d_L_1412 : decode YL.2.1 1412 = .ok (.iload_n 3, 1) ∧ 1412 + 1 = 1413 := ⟨dB_old_26_m41_2_dec_0.2.2.2.2.2.2.1, by decide⟩
theorem d_L_1413 : decode YL.2.1 1413 = .ok (.iconst 4, 1) ∧ 1413 + 1 = 1414 := ⟨dB_old_26_m41_2_dec_0.2.2.2.2.2.2.2.1, by decide⟩
theorem d_L_1414 : decode YL.2.1 1414 = .ok (.iadd, 1) ∧ 1414 + 1 = 1415 := ⟨dB_old_26_m41_2_dec_0.2.2.2.2.2.2.2.2.1, by decide⟩
theorem d_L_1415 : decode YL.2.1 1415 = .ok (.iaload, 1) ∧ 1415 + 1 = 1416 := ⟨dB_old_26_m41_2_dec_0.2.2.2.2.2.2.2.2.2.1, by decide⟩
theorem d_L_1416 : decode YL.2.1 1416 = .ok (.aload_n 0, 1) ∧ 1416 + 1 = 1417 := ⟨dB_old_26_m41_2_dec_0.2.2.2.2.2.2.2.2.2.2.1, by decide⟩
theorem d_L_1417 : decode YL.2.1 1417 = .ok (.iload_n 3, 1) ∧ 1417 + 1 = 1418 := ⟨dB_old_26_m41_2_dec_0.2.2.2.2.2.2.2.2.2.2.2.1, by decide⟩
theorem d_L_1418 : decode YL.2.1 1418 = .ok (.iconst 5, 1) ∧ 1418 + 1 = 1419 := ⟨dB_old_26_m41_2_dec_0.2.2.2.2.2.2.2.2.2.2.2.2.1, by decide⟩
theorem d_L_1419 : decode YL.2.1 1419 = .ok (.iadd, 1) ∧ 1419 + 1 = 1420 := ⟨dB_old_26_m41_2_dec_0.2.2.2.2.2.2.2.2.2.2.2.2.2.1, by decide⟩
theorem d_L_1420 : decode YL.2.1 1420 = .ok (.iaload, 1) ∧ 1420 + 1 = 1421 := ⟨dB_old_26_m41_2_dec_0.2.2.2.2.2.2.2.2.2.2.2.2.2.2.1, by decide⟩
theorem d_L_1421 : decode YL.2.1 1421 = .ok (.invokevirtual 130, 3) ∧ 1421 + 3 = 1424 := ⟨dB_old_26_m41_2_dec_0.2.2.2.2.2.2.2.2.2.2.2.2.2.2.2.1, by decide⟩
theorem d_L_1424 : decode YL.2.1 1424 = .ok (.pop, 1) ∧ 1424 + 1 = 1425 := ⟨dB_old_26_m41_2_dec_0.2.2.2.2.2.2.2.2.2.2.2.2.2.2.2.2.1, by decide⟩
theorem d_L_1425 : decode YL.2.1 1425 = .ok (.goto 2051, 3) ∧ ((1425 : Nat) : Int) + 2051 = ((3476 : Nat) : Int) ∧ 1425 + 3 = 1428 := ⟨dB_old_26_m41_2_dec_0.2.2.2.2.2.2.2.2.2.2.2.2.2.2.2.2.2.1, by decide⟩
theorem d_L_1428 : decode YL.2.1 1428 = .ok (.aload_n 1, 1) ∧ 1428 + 1 = 1429 := ⟨dB_old_26_m41_2_dec_0.2.2.2.2.2.2.2.2.2.2.2.2.2.2.2.2.2.2.1, by decide⟩
theorem d_L_1429 : decode YL.2.1 1429 = .ok (.aload_n 0, 1) ∧ 1429 + 1 = 1430 := ⟨dB_old_26_m41_2_dec_0.2.2.2.2.2.2.2.2.2.2.2.2.2.2.2.2.2.2.2.1, by decide⟩
theorem d_L_1430 : decode YL.2.1 1430 = .ok (.iload_n 3, 1) ∧ 1430 + 1 = 1431 := ⟨dB_old_26_m41_2_dec_0.2.2.2.2.2.2.2.2.2.2.2.2.2.2.2.2.2.2.2.2.1, by decide⟩
theorem d_L_1431 : decode YL.2.1 1431 = .ok (.iconst 1, 1) ∧ 1431 + 1 = 1432 := ⟨dB_old_26_m41_2_dec_0.2.2.2.2.2.2.2.2.2.2.2.2.2.2.2.2.2.2.2.2.2.1, by decide⟩
theorem d_L_1432 : decode YL.2.1 1432 = .ok (.iadd, 1) ∧ 1432 + 1 = 1433 := ⟨dB_old_26_m41_2_dec_0.2.2.2.2.2.2.2.2.2.2.2.2.2.2.2.2.2.2.2.2.2.2.1, by decide⟩
theorem d_L_1433 : decode YL.2.1 1433 = .ok (.iaload, 1) ∧ 1433 + 1 = 1434 := ⟨dB_old_26_m41_2_dec_0.2.2.2.2.2.2.2.2.2.2.2.2.2.2.2.2.2.2.2.2.2.2.2.1, by decide⟩
theorem d_L_1434 : decode YL.2.1 1434 = .ok (.invokevirtual 131, 3) ∧ 1434 + 3 = 1437 := ⟨dB_old_26_m41_2_dec_0.2.2.2.2.2.2.2.2.2.2.2.2.2.2.2.2.2.2.2.2.2.2.2.2.1, by decide⟩
theorem d_L_1437 : decode YL.2.1 1437 = .ok (.pop, 1) ∧ 1437 + 1 = 1438 := ⟨dB_old_26_m41_2_dec_0.2.2.2.2.2.2.2.2.2.2.2.2.2.2.2.2.2.2.2.2.2.2.2.2.2.1, by decide⟩
theorem d_L_1438 : decode YL.2.1 1438 = .ok (.aload_n 2, 1) ∧ 1438 + 1 = 1439 := ⟨dB_old_26_m41_2_dec_0.2.2.2.2.2.2.2.2.2.2.2.2.2.2.2.2.2.2.2.2.2.2.2.2.2.2.1, by decide⟩
theorem d_L_1439 : decode YL.2.1 1439 = .ok (.aload_n 0, 1) ∧ 1439 + 1 = 1440 := ⟨dB_old_26_m41_2_dec_0.2.2.2.2.2.2.2.2.2.2.2.2.2.2.2.2.2.2.2.2.2.2.2.2.2.2.2.1, by decide⟩
theorem d_L_1440 : decode YL.2.1 1440 = .ok (.iload_n 3, 1) ∧ 1440 + 1 = 1441 := ⟨dB_old_26_m41_2_dec_0.2.2.2.2.2.2.2.2.2.2.2.2.2.2.2.2.2.2.2.2.2.2.2.2.2.2.2.2.1, by decide⟩
theorem d_L_1441 : decode YL.2.1 1441 = .ok (.iconst 1, 1) ∧ 1441 + 1 = 1442 := ⟨dB_old_26_m41_2_dec_0.2.2.2.2.2.2.2.2.2.2.2.2.2.2.2.2.2.2.2.2.2.2.2.2.2.2.2.2.2.1, by decide⟩
theorem dB_old_26_m41_2_dec_1 : dAll YL.2.1 [(1442, (.iadd, 1)), (1443, (.iaload, 1)), (1444, (.invokevirtual 134, 3)), (1447, (.pop, 1)), (1448, (.goto 2028, 3)), (1451, (.aload_n 1, 1)), (1452, (.aload_n 0, 1)), (1453, (.iload_n 3, 1)), (1454, (.iconst 1, 1)), (1455, (.iadd, 1)), (1456, (.iaload, 1)), (1457, (.aload_n 0, 1)), (1458, (.iload_n 3, 1)), (1459, (.iconst 2, 1)), (1460, (.iadd, 1)), (1461, (.iaload, 1)), (1462, (.aload_n 0, 1)), (1463, (.iload_n 3, 1)), (1464, (.iconst 3, 1)), (1465, (.iadd, 1)), (1466, (.iaload, 1)), (1467, (.aload_n 0, 1)), (1468, (.iload_n 3, 1)), (1469, (.iconst 4, 1)), (1470, (.iadd, 1)), (1471, (.iaload, 1)), (1472, (.invokevirtual 135, 3)), (1475, (.pop, 1)), (1476, (.aload_n 2, 1)), (1477, (.aload_n 0, 1))] := dAll_of (by decide +kernel)
theorem d_L_1442 : decode YL.2.1 1442 = .ok (.iadd, 1) ∧ 1442 + 1 = 1443 := ⟨dB_old_26_m41_2_dec_1.1, by decide⟩
theorem d_L_1443 : decode YL.2.1 1443 = .ok (.iaload, 1) ∧ 1443 + 1 = 1444 := ⟨dB_old_26_m41_2_dec_1.2.1, by decide⟩
theorem d_L_1444 : decode YL.2.1 1444 = .ok (.invokevirtual 134, 3) ∧ 1444 + 3 = 1447 := ⟨dB_old_26_m41_2_dec_1.2.2.1, by decide⟩
theorem d_L_1447 : decode YL.2.1 1447 = .ok (.pop, 1) ∧ 1447 + 1 = 1448 := ⟨dB_old_26_m41_2_dec_1.2.2.2.1, by decide⟩
theorem d_L_1448 : decode YL.2.1 1448 = .ok (.goto 2028, 3) ∧ ((1448 : Nat) : Int) + 2028 = ((3476 : Nat) : Int) ∧ 1448 + 3 = 1451 := ⟨dB_old_26_m41_2_dec_1.2.2.2.2.1, by decide⟩
theorem d_L_1451 : decode YL.2.1 1451 = .ok (.aload_n 1, 1) ∧ 1451 + 1 = 1452 := ⟨dB_old_26_m41_2_dec_1.2.2.2.2.2.1, by decide⟩
theorem d_L_1452 : decode YL.2.1 1452 = .ok (.aload_n 0, 1) ∧ 1452 + 1 = 1453 := ⟨dB_old_26_m41_2_dec_1.2.2.2.2.2.2.1, by decide⟩
theorem d_L_1453 : decode YL.2.1 1453 = .ok (.iload_n 3, 1) ∧ 1453 + 1 = 1454 := ⟨dB_old_26_m41_2_dec_1.2.2.2.2.2.2.2.1, by decide⟩
theorem d_L_1454 : decode YL.2.1 1454 = .ok (.iconst 1, 1) ∧ 1454 + 1 = 1455 := ⟨dB_old_26_m41_2_dec_1.2.2.2.2.2.2.2.2.1, by decide⟩
theorem d_L_1455 : decode YL.2.1 1455 = .ok (.iadd, 1) ∧ 1455 + 1 = 1456 := ⟨dB_old_26_m41_2_dec_1.2.2.2.2.2.2.2.2.2.1, by decide⟩
theorem d_L_1456 : decode YL.2.1 1456 = .ok (.iaload, 1) ∧ 1456 + 1 = 1457 := ⟨dB_old_26_m41_2_dec_1.2.2.2.2.2.2.2.2.2.2.1, by decide⟩
theorem d_L_1457 : decode YL.2.1 1457 = .ok (.aload_n 0, 1) ∧ 1457 + 1 = 1458 := ⟨dB_old_26_m41_2_dec_1.2.2.2.2.2.2.2.2.2.2.2.1, by decide⟩
theorem d_L_1458 : decode YL.2.1 1458 = .ok (.iload_n 3, 1) ∧ 1458 + 1 = 1459 := ⟨dB_old_26_m41_2_dec_1.2.2.2.2.2.2.2.2.2.2.2.2.1, by decide⟩
theorem d_L_1459 : decode YL.2.1 1459 = .ok (.iconst 2, 1) ∧ 1459 + 1 = 1460 := ⟨dB_old_26_m41_2_dec_1.2.2.2.2.2.2.2.2.2.2.2.2.2.1, by decide⟩
theorem d_L_1460 : decode YL.2.1 1460 = .ok (.iadd, 1) ∧ 1460 + 1 = 1461 := ⟨dB_old_26_m41_2_dec_1.2.2.2.2.2.2.2.2.2.2.2.2.2.2.1, by decide⟩
theorem d_L_1461 : decode YL.2.1 1461 = .ok (.iaload, 1) ∧ 1461 + 1 = 1462 := ⟨dB_old_26_m41_2_dec_1.2.2.2.2.2.2.2.2.2.2.2.2.2.2.2.1, by decide⟩
theorem d_L_1462 : decode YL.2.1 1462 = .ok (.aload_n 0, 1) ∧ 1462 + 1 = 1463 := ⟨dB_old_26_m41_2_dec_1.2.2.2.2.2.2.2.2.2.2.2.2.2.2.2.2.1, by decide⟩
theorem d_L_1463 : decode YL.2.1 1463 = .ok (.iload_n 3, 1) ∧ 1463 + 1 = 1464 := ⟨dB_old_26_m41_2_dec_1.2.2.2.2.2.2.2.2.2.2.2.2.2.2.2.2.2.1, by decide⟩
theorem d_L_1464 : decode YL.2.1 1464 = .ok (.iconst 3, 1) ∧ 1464 + 1 = 1465 := ⟨dB_old_26_m41_2_dec_1.2.2.2.2.2.2.2.2.2.2.2.2.2.2.2.2.2.2.1, by decide⟩
theorem d_L_1465 : decode YL.2.1 1465 = .ok (.iadd, 1) ∧ 1465 + 1 = 1466 := ⟨dB_old_26_m41_2_dec_1.2.2.2.2.2.2.2.2.2.2.2.2.2.2.2.2.2.2.2.1, by decide⟩
theorem d_L_1466 : decode YL.2.1 1466 = .ok (.iaload, 1) ∧ 1466 + 1 = 1467 := ⟨dB_old_26_m41_2_dec_1.2.2.2.2.2.2.2.2.2.2.2.2.2.2.2.2.2.2.2.2.1, by decide⟩
theorem d_L_1467 : decode YL.2.1 1467 = .ok (.aload_n 0, 1) ∧ 1467 + 1 = 1468 := ⟨dB_old_26_m41_2_dec_1.2.2.2.2.2.2.2.2.2.2.2.2.2.2.2.2.2.2.2.2.2.1, by decide⟩
theorem d_L_1468 : decode YL.2.1 1468 = .ok (.iload_n 3, 1) ∧ 1468 + 1 = 1469 := ⟨dB_old_26_m41_2_dec_1.2.2.2.2.2.2.2.2.2.2.2.2.2.2.2.2.2.2.2.2.2.2.1, by decide⟩
theorem d_L_1469 : decode YL.2.1 1469 = .ok (.iconst 4, 1) ∧ 1469 + 1 = 1470 := ⟨dB_old_26_m41_2_dec_1.2.2.2.2.2.2.2.2.2.2.2.2.2.2.2.2.2.2.2.2.2.2.2.1, by decide⟩
theorem d_L_1470 : decode YL.2.1 1470 = .ok (.iadd, 1) ∧ 1470 + 1 = 1471 := ⟨dB_old_26_m41_2_dec_1.2.2.2.2.2.2.2.2.2.2.2.2.2.2.2.2.2.2.2.2.2.2.2.2.1, by decide⟩
theorem d_L_1471 : decode YL.2.1 1471 = .ok (.iaload, 1) ∧ 1471 + 1 = 1472 := ⟨dB_old_26_m41_2_dec_1.2.2.2.2.2.2.2.2.2.2.2.2.2.2.2.2.2.2.2.2.2.2.2.2.2.1, by decide⟩
theorem d_L_1472 : decode YL.2.1 1472 = .ok (.invokevirtual 135, 3) ∧ 1472 + 3 = 1475 := ⟨dB_old_26_m41_2_dec_1.2.2.2.2.2.2.2.2.2.2.2.2.2.2.2.2.2.2.2.2.2.2.2.2.2.2.1, by decide⟩
theorem d_L_1475 : decode YL.2.1 1475 = .ok (.pop, 1) ∧ 1475 + 1 = 1476 := ⟨dB_old_26_m41_2_dec_1.2.2.2.2.2.2.2.2.2.2.2.2.2.2.2.2.2.2.2.2.2.2.2.2.2.2.2.1, by decide⟩
theorem d_L_1476 : decode YL.2.1 1476 = .ok (.aload_n 2, 1) ∧ 1476 + 1 = 1477 := ⟨dB_old_26_m41_2_dec_1.2.2.2.2.2.2.2.2.2.2.2.2.2.2.2.2.2.2.2.2.2.2.2.2.2.2.2.2.1, by decide⟩
theorem d_L_1477 : decode YL.2.1 1477 = .ok (.aload_n 0, 1) ∧ 1477 + 1 = 1478 := ⟨dB_old_26_m41_2_dec_1.2.2.2.2.2.2.2.2.2.2.2.2.2.2.2.2.2.2.2.2.2.2.2.2.2.2.2.2.2.1, by decide⟩
theorem dB_old_26_m41_2_dec_2 : dAll YL.2.1 [(1478, (.iload_n 3, 1)), (1479, (.iconst 1, 1)), (1480, (.iadd, 1)), (1481, (.iaload, 1)), (1482, (.aload_n 0, 1)), (1483, (.iload_n 3, 1)), (1484, (.iconst 2, 1)), (1485, (.iadd, 1)), (1486, (.iaload, 1)), (1487, (.aload_n 0, 1)), (1488, (.iload_n 3, 1)), (1489, (.iconst 3, 1)), (1490, (.iadd, 1)), (1491, (.iaload, 1)), (1492, (.aload_n 0, 1)), (1493, (.iload_n 3, 1)), (1494, (.iconst 4, 1)), (1495, (.iadd, 1)), (1496, (.iaload, 1)), (1497, (.invokevirtual 138, 3)), (1500, (.pop, 1)), (1501, (.goto 1975, 3)), (1504, (.aload_n 1, 1)), (1505, (.aload_n 0, 1)), (1506, (.iload_n 3, 1)), (1507, (.iconst 1, 1)), (1508, (.iadd, 1)), (1509, (.iaload, 1)), (1510, (.aload_n 0, 1)), (1511, (.iload_n 3, 1))] := dAll_of (by decide +kernel)
theorem d_L_1478 : decode YL.2.1 1478 = .ok (.iload_n 3, 1) ∧ 1478 + 1 = 1479 := ⟨dB_old_26_m41_2_dec_2.1, by decide⟩
theorem d_L_1479 : decode YL.2.1 1479 = .ok (.iconst 1, 1) ∧ 1479 + 1 = 1480 := ⟨dB_old_26_m41_2_dec_2.2.1, by decide⟩
theorem d_L_1480 : decode YL.2.1 1480 = .ok (.iadd, 1) ∧ 1480 + 1 = 1481 := ⟨dB_old_26_m41_2_dec_2.2.2.1, by decide⟩
theorem d_L_1481 : decode YL.2.1 1481 = .ok (.iaload, 1) ∧ 1481 + 1 = 1482 := ⟨dB_old_26_m41_2_dec_2.2.2.2.1, by decide⟩
theorem d_L_1482 : decode YL.2.1 1482 = .ok (.aload_n 0, 1) ∧ 1482 + 1 = 1483 := ⟨dB_old_26_m41_2_dec_2.2.2.2.2.1, by decide⟩
theorem d_L_1483 : decode YL.2.1 1483 = .ok (.iload_n 3, 1) ∧ 1483 + 1 = 1484 := ⟨dB_old_26_m41_2_dec_2.2.2.2.2.2.1, by decide⟩
theorem d_L_1484 : decode YL.2.1 1484 = .ok (.iconst 2, 1) ∧ 1484 + 1 = 1485 := ⟨dB_old_26_m41_2_dec_2.2.2.2.2.2.2.1, by decide⟩
theorem d_L_1485 : decode YL.2.1 1485 = .ok (.iadd, 1) ∧ 1485 + 1 = 1486 := ⟨dB_old_26_m41_2_dec_2.2.2.2.2.2.2.2.1, by decide⟩
theorem d_L_1486 : decode YL.2.1 1486 = .ok (.iaload, 1) ∧ 1486 + 1 = 1487 := ⟨dB_old_26_m41_2_dec_2.2.2.2.2.2.2.2.2.1, by decide⟩
theorem d_L_1487 : decode YL.2.1 1487 = .ok (.aload_n 0, 1) ∧ 1487 + 1 = 1488 := ⟨dB_old_26_m41_2_dec_2.2.2.2.2.2.2.2.2.2.1, by decide⟩
theorem d_L_1488 : decode YL.2.1 1488 = .ok (.iload_n 3, 1) ∧ 1488 + 1 = 1489 := ⟨dB_old_26_m41_2_dec_2.2.2.2.2.2.2.2.2.2.2.1, by decide⟩
theorem d_L_1489 : decode YL.2.1 1489 = .ok (.iconst 3, 1) ∧ 1489 + 1 = 1490 := ⟨dB_old_26_m41_2_dec_2.2.2.2.2.2.2.2.2.2.2.2.1, by decide⟩
theorem d_L_1490 : decode YL.2.1 1490 = .ok (.iadd, 1) ∧ 1490 + 1 = 1491 := ⟨dB_old_26_m41_2_dec_2.2.2.2.2.2.2.2.2.2.2.2.2.1, by decide⟩
theorem d_L_1491 : decode YL.2.1 1491 = .ok (.iaload, 1) ∧ 1491 + 1 = 1492 := ⟨dB_old_26_m41_2_dec_2.2.2.2.2.2.2.2.2.2.2.2.2.2.1, by decide⟩
theorem d_L_1492 : decode YL.2.1 1492 = .ok (.aload_n 0, 1) ∧ 1492 + 1 = 1493 := ⟨dB_old_26_m41_2_dec_2.2.2.2.2.2.2.2.2.2.2.2.2.2.2.1, by decide⟩
theorem d_L_1493 : decode YL.2.1 1493 = .ok (.iload_n 3, 1) ∧ 1493 + 1 = 1494 := ⟨dB_old_26_m41_2_dec_2.2.2.2.2.2.2.2.2.2.2.2.2.2.2.2.1, by decide⟩
theorem d_L_1494 : decode YL.2.1 1494 = .ok (.iconst 4, 1) ∧ 1494 + 1 = 1495 := ⟨dB_old_26_m41_2_dec_2.2.2.2.2.2.2.2.2.2.2.2.2.2.2.2.2.1, by decide⟩
theorem d_L_1495 : decode YL.2.1 1495 = .ok (.iadd, 1) ∧ 1495 + 1 = 1496 := ⟨dB_old_26_m41_2_dec_2.2.2.2.2.2.2.2.2.2.2.2.2.2.2.2.2.2.1, by decide⟩
theorem d_L_1496 : decode YL.2.1 1496 = .ok (.iaload, 1) ∧ 1496 + 1 = 1497 := ⟨dB_old_26_m41_2_dec_2.2.2.2.2.2.2.2.2.2.2.2.2.2.2.2.2.2.2.1, by decide⟩
theorem d_L_1497 : decode YL.2.1 1497 = .ok (.invokevirtual 138, 3) ∧ 1497 + 3 = 1500 := ⟨dB_old_26_m41_2_dec_2.2.2.2.2.2.2.2.2.2.2.2.2.2.2.2.2.2.2.2.1, by decide⟩
theorem d_L_1500 : decode YL.2.1 1500 = .ok (.pop, 1) ∧ 1500 + 1 = 1501 := ⟨dB_old_26_m41_2_dec_2.2.2.2.2.2.2.2.2.2.2.2.2.2.2.2.2.2.2.2.2.1, by decide⟩
theorem d_L_1501 : decode YL.2.1 1501 = .ok (.goto 1975, 3) ∧ ((1501 : Nat) : Int) + 1975 = ((3476 : Nat) : Int) ∧ 1501 + 3 = 1504 := ⟨dB_old_26_m41_2_dec_2.2.2.2.2.2.2.2.2.2.2.2.2.2.2.2.2.2.2.2.2.2.1, by decide⟩
theorem d_L_1504 : decode YL.2.1 1504 = .ok (.aload_n 1, 1) ∧ 1504 + 1 = 1505 := ⟨dB_old_26_m41_2_dec_2.2.2.2.2.2.2.2.2.2.2.2.2.2.2.2.2.2.2.2.2.2.2.1, by decide⟩
theorem d_L_1505 : decode YL.2.1 1505 = .ok (.aload_n 0, 1) ∧ 1505 + 1 = 1506 := ⟨dB_old_26_m41_2_dec_2.2.2.2.2.2.2.2.2.2.2.2.2.2.2.2.2.2.2.2.2.2.2.2.1, by decide⟩
theorem d_L_1506 : decode YL.2.1 1506 = .ok (.iload_n 3, 1) ∧ 1506 + 1 = 1507 := ⟨dB_old_26_m41_2_dec_2.2.2.2.2.2.2.2.2.2.2.2.2.2.2.2.2.2.2.2.2.2.2.2.2.1, by decide⟩
theorem d_L_1507 : decode YL.2.1 1507 = .ok (.iconst 1, 1) ∧ 1507 + 1 = 1508 := ⟨dB_old_26_m41_2_dec_2.2.2.2.2.2.2.2.2.2.2.2.2.2.2.2.2.2.2.2.2.2.2.2.2.2.1, by decide⟩
theorem d_L_1508 : decode YL.2.1 1508 = .ok (.iadd, 1) ∧ 1508 + 1 = 1509 := ⟨dB_old_26_m41_2_dec_2.2.2.2.2.2.2.2.2.2.2.2.2.2.2.2.2.2.2.2.2.2.2.2.2.2.2.1, by decide⟩
theorem d_L_1509 : decode YL.2.1 1509 = .ok (.iaload, 1) ∧ 1509 + 1 = 1510 := ⟨dB_old_26_m41_2_dec_2.2.2.2.2.2.2.2.2.2.2.2.2.2.2.2.2.2.2.2.2.2.2.2.2.2.2.2.1, by decide⟩
theorem d_L_1510 : decode YL.2.1 1510 = .ok (.aload_n 0, 1) ∧ 1510 + 1 = 1511 := ⟨dB_old_26_m41_2_dec_2.2.2.2.2.2.2.2.2.2.2.2.2.2.2.2.2.2.2.2.2.2.2.2.2.2.2.2.2.1, by decide⟩
theorem d_L_1511 : decode YL.2.1 1511 = .ok (.iload_n 3, 1) ∧ 1511 + 1 = 1512 := ⟨dB_old_26_m41_2_dec_2.2.2.2.2.2.2.2.2.2.2.2.2.2.2.2.2.2.2.2.2.2.2.2.2.2.2.2.2.2.1, by decide⟩
theorem dB_old_26_m41_2_dec_3 : dAll YL.2.1 [(1512, (.iconst 2, 1)), (1513, (.iadd, 1)), (1514, (.iaload, 1)), (1515, (.aload_n 0, 1)), (1516, (.iload_n 3, 1)), (1517, (.iconst 3, 1)), (1518, (.iadd, 1)), (1519, (.iaload, 1)), (1520, (.aload_n 0, 1)), (1521, (.iload_n 3, 1)), (1522, (.iconst 4, 1)), (1523, (.iadd, 1)), (1524, (.iaload, 1)), (1525, (.invokevirtual 139, 3)), (1528, (.pop, 1)), (1529, (.aload_n 2, 1)), (1530, (.aload_n 0, 1)), (1531, (.iload_n 3, 1)), (1532, (.iconst 1, 1)), (1533, (.iadd, 1)), (1534, (.iaload, 1)), (1535, (.aload_n 0, 1)), (1536, (.iload_n 3, 1)), (1537, (.iconst 2, 1)), (1538, (.iadd, 1)), (1539, (.iaload, 1)), (1540, (.aload_n 0, 1)), (1541, (.iload_n 3, 1)), (1542, (.iconst 3, 1)), (1543, (.iadd, 1))] := dAll_of (by decide +kernel)
theorem d_L_1512 : decode YL.2.1 1512 = .ok (.iconst 2, 1) ∧ 1512 + 1 = 1513 := ⟨dB_old_26_m41_2_dec_3.1, by decide⟩
theorem d_L_1513 : decode YL.2.1 1513 = .ok (.iadd, 1) ∧ 1513 + 1 = 1514 := ⟨dB_old_26_m41_2_dec_3.2.1, by decide⟩
theorem d_L_1514 : decode YL.2.1 1514 = .ok (.iaload, 1) ∧ 1514 + 1 = 1515 := ⟨dB_old_26_m41_2_dec_3.2.2.1, by decide⟩
theorem d_L_1515 : decode YL.2.1 1515 = .ok (.aload_n 0, 1) ∧ 1515 + 1 = 1516 := ⟨dB_old_26_m41_2_dec_3.2.2.2.1, by decide⟩
theorem d_L_1516 : decode YL.2.1 1516 = .ok (.iload_n 3, 1) ∧ 1516 + 1 = 1517 := ⟨dB_old_26_m41_2_dec_3.2.2.2.2.1, by decide⟩
theorem d_L_1517 : decode YL.2.1 1517 = .ok (.iconst 3, 1) ∧ 1517 + 1 = 1518 := ⟨dB_old_26_m41_2_dec_3.2.2.2.2.2.1, by decide⟩
theorem d_L_1518 : decode YL.2.1 1518 = .ok (.iadd, 1) ∧ 1518 + 1 = 1519 := ⟨dB_old_26_m41_2_dec_3.2.2.2.2.2.2.1, by decide⟩
theorem d_L_1519 : decode YL.2.1 1519 = .ok (.iaload, 1) ∧ 1519 + 1 = 1520 := ⟨dB_old_26_m41_2_dec_3.2.2.2.2.2.2.2.1, by decide⟩
theorem d_L_1520 : decode YL.2.1 1520 = .ok (.aload_n 0, 1) ∧ 1520 + 1 = 1521 := ⟨dB_old_26_m41_2_dec_3.2.2.2.2.2.2.2.2.1, by decide⟩
theorem d_L_1521 : decode YL.2.1 1521 = .ok (.iload_n 3, 1) ∧ 1521 + 1 = 1522 := ⟨dB_old_26_m41_2_dec_3.2.2.2.2.2.2.2.2.2.1, by decide⟩
theorem d_L_1522 : decode YL.2.1 1522 = .ok (.iconst 4, 1) ∧ 1522 + 1 = 1523 := ⟨dB_old_26_m41_2_dec_3.2.2.2.2.2.2.2.2.2.2.1, by decide⟩
theorem d_L_1523 : decode YL.2.1 1523 = .ok (.iadd, 1) ∧ 1523 + 1 = 1524 := ⟨dB_old_26_m41_2_dec_3.2.2.2.2.2.2.2.2.2.2.2.1, by decide⟩
theorem d_L_1524 : decode YL.2.1 1524 = .ok (.iaload, 1) ∧ 1524 + 1 = 1525 := ⟨dB_old_26_m41_2_dec_3.2.2.2.2.2.2.2.2.2.2.2.2.1, by decide⟩
theorem d_L_1525 : decode YL.2.1 1525 = .ok (.invokevirtual 139, 3) ∧ 1525 + 3 = 1528 := ⟨dB_old_26_m41_2_dec_3.2.2.2.2.2.2.2.2.2.2.2.2.2.1, by decide⟩
theorem d_L_1528 : decode YL.2.1 1528 = .ok (.pop, 1) ∧ 1528 + 1 = 1529 := ⟨dB_old_26_m41_2_dec_3.2.2.2.2.2.2.2.2.2.2.2.2.2.2.1, by decide⟩
theorem d_L_1529 : decode YL.2.1 1529 = .ok (.aload_n 2, 1) ∧ 1529 + 1 = 1530 := ⟨dB_old_26_m41_2_dec_3.2.2.2.2.2.2.2.2.2.2.2.2.2.2.2.1, by decide⟩
theorem d_L_1530 : decode YL.2.1 1530 = .ok (.aload_n 0, 1) ∧ 1530 + 1 = 1531 := ⟨dB_old_26_m41_2_dec_3.2.2.2.2.2.2.2.2.2.2.2.2.2.2.2.2.1, by decide⟩
theorem d_L_1531 : decode YL.2.1 1531 = .ok (.iload_n 3, 1) ∧ 1531 + 1 = 1532 := ⟨dB_old_26_m41_2_dec_3.2.2.2.2.2.2.2.2.2.2.2.2.2.2.2.2.2.1, by decide⟩
theorem d_L_1532 : decode YL.2.1 1532 = .ok (.iconst 1, 1) ∧ 1532 + 1 = 1533 := ⟨dB_old_26_m41_2_dec_3.2.2.2.2.2.2.2.2.2.2.2.2.2.2.2.2.2.2.1, by decide⟩
theorem d_L_1533 : decode YL.2.1 1533 = .ok (.iadd, 1) ∧ 1533 + 1 = 1534 := ⟨dB_old_26_m41_2_dec_3.2.2.2.2.2.2.2.2.2.2.2.2.2.2.2.2.2.2.2.1, by decide⟩
theorem d_L_1534 : decode YL.2.1 1534 = .ok (.iaload, 1) ∧ 1534 + 1 = 1535 := ⟨dB_old_26_m41_2_dec_3.2.2.2.2.2.2.2.2.2.2.2.2.2.2.2.2.2.2.2.2.1, by decide⟩
theorem d_L_1535 : decode YL.2.1 1535 = .ok (.aload_n 0, 1) ∧ 1535 + 1 = 1536 := ⟨dB_old_26_m41_2_dec_3.2.2.2.2.2.2.2.2.2.2.2.2.2.2.2.2.2.2.2.2.2.1, by decide⟩
theorem d_L_1536 : decode YL.2.1 1536 = .ok (.iload_n 3, 1) ∧ 1536 + 1 = 1537 := ⟨dB_old_26_m41_2_dec_3.2.2.2.2.2.2.2.2.2.2.2.2.2.2.2.2.2.2.2.2.2.2.1, by decide⟩
theorem d_L_1537 : decode YL.2.1 1537 = .ok (.iconst 2, 1) ∧ 1537 + 1 = 1538 := ⟨dB_old_26_m41_2_dec_3.2.2.2.2.2.2.2.2.2.2.2.2.2.2.2.2.2.2.2.2.2.2.2.1, by decide⟩
theorem d_L_1538 : decode YL.2.1 1538 = .ok (.iadd, 1) ∧ 1538 + 1 = 1539 := ⟨dB_old_26_m41_2_dec_3.2.2.2.2.2.2.2.2.2.2.2.2.2.2.2.2.2.2.2.2.2.2.2.2.1, by decide⟩
theorem d_L_1539 : decode YL.2.1 1539 = .ok (.iaload, 1) ∧ 1539 + 1 = 1540 := ⟨dB_old_26_m41_2_dec_3.2.2.2.2.2.2.2.2.2.2.2.2.2.2.2.2.2.2.2.2.2.2.2.2.2.1, by decide⟩
theorem d_L_1540 : decode YL.2.1 1540 = .ok (.aload_n 0, 1) ∧ 1540 + 1 = 1541 := ⟨dB_old_26_m41_2_dec_3.2.2.2.2.2.2.2.2.2.2.2.2.2.2.2.2.2.2.2.2.2.2.2.2.2.2.1, by decide⟩
theorem d_L_1541 : decode YL.2.1 1541 = .ok (.iload_n 3, 1) ∧ 1541 + 1 = 1542 := ⟨dB_old_26_m41_2_dec_3.2.2.2.2.2.2.2.2.2.2.2.2.2.2.2.2.2.2.2.2.2.2.2.2.2.2.2.1, by decide⟩
theorem d_L_1542 : decode YL.2.1 1542 = .ok (.iconst 3, 1) ∧ 1542 + 1 = 1543 := ⟨dB_old_26_m41_2_dec_3.2.2.2.2.2.2.2.2.2.2.2.2.2.2.2.2.2.2.2.2.2.2.2.2.2.2.2.2.1, by decide⟩
theorem d_L_1543 : decode YL.2.1 1543 = .ok (.iadd, 1) ∧ 1543 + 1 = 1544 := ⟨dB_old_26_m41_2_dec_3.2.2.2.2.2.2.2.2.2.2.2.2.2.2.2.2.2.2.2.2.2.2.2.2.2.2.2.2.2.1, by decide⟩
theorem dB_old_26_m41_2_dec_4 : dAll YL.2.1 [(1544, (.iaload, 1)), (1545, (.aload_n 0, 1)), (1546, (.iload_n 3, 1)), (1547, (.iconst 4, 1)), (1548, (.iadd, 1)), (1549, (.iaload, 1)), (1550, (.invokevirtual 142, 3)), (1553, (.pop, 1)), (1554, (.goto 1922, 3)), (1557, (.aload_n 1, 1)), (1558, (.aload_n 0, 1)), (1559, (.iload_n 3, 1)), (1560, (.iconst 1, 1)), (1561, (.iadd, 1)), (1562, (.iaload, 1)), (1563, (.aload_n 0, 1)), (1564, (.iload_n 3, 1)), (1565, (.iconst 2, 1)), (1566, (.iadd, 1)), (1567, (.iaload, 1)), (1568, (.invokevirtual 143, 3)), (1571, (.pop, 1)), (1572, (.aload_n 2, 1)), (1573, (.aload_n 0, 1)), (1574, (.iload_n 3, 1)), (1575, (.iconst 1, 1)), (1576, (.iadd, 1)), (1577, (.iaload, 1)), (1578, (.aload_n 0, 1)), (1579, (.iload_n 3, 1))] := dAll_of (by decide +kernel)
theorem d_L_1544 : decode YL.2.1 1544 = .ok (.iaload, 1) ∧ 1544 + 1 = 1545 := ⟨dB_old_26_m41_2_dec_4.1, by decide⟩
theorem d_L_1545 : decode YL.2.1 1545 = .ok (.aload_n 0, 1) ∧ 1545 + 1 = 1546 := ⟨dB_old_26_m41_2_dec_4.2.1, by decide⟩
theorem d_L_1546 : decode YL.2.1 1546 = .ok (.iload_n 3, 1) ∧ 1546 + 1 = 1547 := ⟨dB_old_26_m41_2_dec_4.2.2.1, by decide⟩
theorem d_L_1547 : decode YL.2.1 1547 = .ok (.iconst 4, 1) ∧ 1547 + 1 = 1548 := ⟨dB_old_26_m41_2_dec_4.2.2.2.1, by decide⟩
theorem d_L_1548 : decode YL.2.1 1548 = .ok (.iadd, 1) ∧ 1548 + 1 = 1549 := ⟨dB_old_26_m41_2_dec_4.2.2.2.2.1, by decide⟩
theorem d_L_1549 : decode YL.2.1 1549 = .ok (.iaload, 1) ∧ 1549 + 1 = 1550 := ⟨dB_old_26_m41_2_dec_4.2.2.2.2.2.1, by decide⟩
theorem d_L_1550 : decode YL.2.1 1550 = .ok (.invokevirtual 142, 3) ∧ 1550 + 3 = 1553 := ⟨dB_old_26_m41_2_dec_4.2.2.2.2.2.2.1, by decide⟩
theorem d_L_1553 : decode YL.2.1 1553 = .ok (.pop, 1) ∧ 1553 + 1 = 1554 := ⟨dB_old_26_m41_2_dec_4.2.2.2.2.2.2.2.1, by decide⟩
theorem d_L_1554 : decode YL.2.1 1554 = .ok (.goto 1922, 3) ∧ ((1554 : Nat) : Int) + 1922 = ((3476 : Nat) : Int) ∧ 1554 + 3 = 1557 := ⟨dB_old_26_m41_2_dec_4.2.2.2.2.2.2.2.2.1, by decide⟩
theorem d_L_1557 : decode YL.2.1 1557 = .ok (.aload_n 1, 1) ∧ 1557 + 1 = 1558 := ⟨dB_old_26_m41_2_dec_4.2.2.2.2.2.2.2.2.2.1, by decide⟩
theorem d_L_1558 : decode YL.2.1 1558 = .ok (.aload_n 0, 1) ∧ 1558 + 1 = 1559 := ⟨dB_old_26_m41_2_dec_4.2.2.2.2.2.2.2.2.2.2.1, by decide⟩
theorem d_L_1559 : decode YL.2.1 1559 = .ok (.iload_n 3, 1) ∧ 1559 + 1 = 1560 := ⟨dB_old_26_m41_2_dec_4.2.2.2.2.2.2.2.2.2.2.2.1, by decide⟩
theorem d_L_1560 : decode YL.2.1 1560 = .ok (.iconst 1, 1) ∧ 1560 + 1 = 1561 := ⟨dB_old_26_m41_2_dec_4.2.2.2.2.2.2.2.2.2.2.2.2.1, by decide⟩
theorem d_L_1561 : decode YL.2.1 1561 = .ok (.iadd, 1) ∧ 1561 + 1 = 1562 := ⟨dB_old_26_m41_2_dec_4.2.2.2.2.2.2.2.2.2.2.2.2.2.1, by decide⟩
theorem d_L_1562 : decode YL.2.1 1562 = .ok (.iaload, 1) ∧ 1562 + 1 = 1563 := ⟨dB_old_26_m41_2_dec_4.2.2.2.2.2.2.2.2.2.2.2.2.2.2.1, by decide⟩
theorem d_L_1563 : decode YL.2.1 1563 = .ok (.aload_n 0, 1) ∧ 1563 + 1 = 1564 := ⟨dB_old_26_m41_2_dec_4.2.2.2.2.2.2.2.2.2.2.2.2.2.2.2.1, by decide⟩
theorem d_L_1564 : decode YL.2.1 1564 = .ok (.iload_n 3, 1) ∧ 1564 + 1 = 1565 := ⟨dB_old_26_m41_2_dec_4.2.2.2.2.2.2.2.2.2.2.2.2.2.2.2.2.1, by decide⟩
theorem d_L_1565 : decode YL.2.1 1565 = .ok (.iconst 2, 1) ∧ 1565 + 1 = 1566 := ⟨dB_old_26_m41_2_dec_4.2.2.2.2.2.2.2.2.2.2.2.2.2.2.2.2.2.1, by decide⟩
theorem d_L_1566 : decode YL.2.1 1566 = .ok (.iadd, 1) ∧ 1566 + 1 = 1567 := ⟨dB_old_26_m41_2_dec_4.2.2.2.2.2.2.2.2.2.2.2.2.2.2.2.2.2.2.1, by decide⟩
theorem d_L_1567 : decode YL.2.1 1567 = .ok (.iaload, 1) ∧ 1567 + 1 = 1568 := ⟨dB_old_26_m41_2_dec_4.2.2.2.2.2.2.2.2.2.2.2.2.2.2.2.2.2.2.2.1, by decide⟩
theorem d_L_1568 : decode YL.2.1 1568 = .ok (.invokevirtual 143, 3) ∧ 1568 + 3 = 1571 := ⟨dB_old_26_m41_2_dec_4.2.2.2.2.2.2.2.2.2.2.2.2.2.2.2.2.2.2.2.2.1, by decide⟩
theorem d_L_1571 : decode YL.2.1 1571 = .ok (.pop, 1) ∧ 1571 + 1 = 1572 := ⟨dB_old_26_m41_2_dec_4.2.2.2.2.2.2.2.2.2.2.2.2.2.2.2.2.2.2.2.2.2.1, by decide⟩
theorem d_L_1572 : decode YL.2.1 1572 = .ok (.aload_n 2, 1) ∧ 1572 + 1 = 1573 := ⟨dB_old_26_m41_2_dec_4.2.2.2.2.2.2.2.2.2.2.2.2.2.2.2.2.2.2.2.2.2.2.1, by decide⟩
theorem d_L_1573 : decode YL.2.1 1573 = .ok (.aload_n 0, 1) ∧ 1573 + 1 = 1574 := ⟨dB_old_26_m41_2_dec_4.2.2.2.2.2.2.2.2.2.2.2.2.2.2.2.2.2.2.2.2.2.2.2.1, by decide⟩
theorem d_L_1574 : decode YL.2.1 1574 = .ok (.iload_n 3, 1) ∧ 1574 + 1 = 1575 := ⟨dB_old_26_m41_2_dec_4.2.2.2.2.2.2.2.2.2.2.2.2.2.2.2.2.2.2.2.2.2.2.2.2.1, by decide⟩
theorem d_L_1575 : decode YL.2.1 1575 = .ok (.iconst 1, 1) ∧ 1575 + 1 = 1576 := ⟨dB_old_26_m41_2_dec_4.2.2.2.2.2.2.2.2.2.2.2.2.2.2.2.2.2.2.2.2.2.2.2.2.2.1, by decide⟩
theorem d_L_1576 : decode YL.2.1 1576 = .ok (.iadd, 1) ∧ 1576 + 1 = 1577 := ⟨dB_old_26_m41_2_dec_4.2.2.2.2.2.2.2.2.2.2.2.2.2.2.2.2.2.2.2.2.2.2.2.2.2.2.1, by decide⟩
theorem d_L_1577 : decode YL.2.1 1577 = .ok (.iaload, 1) ∧ 1577 + 1 = 1578 := ⟨dB_old_26_m41_2_dec_4.2.2.2.2.2.2.2.2.2.2.2.2.2.2.2.2.2.2.2.2.2.2.2.2.2.2.2.1, by decide⟩
theorem d_L_1578 : decode YL.2.1 1578 = .ok (.aload_n 0, 1) ∧ 1578 + 1 = 1579 := ⟨dB_old_26_m41_2_dec_4.2.2.2.2.2.2.2.2.2.2.2.2.2.2.2.2.2.2.2.2.2.2.2.2.2.2.2.2.1, by decide⟩
theorem d_L_1579 : decode YL.2.1 1579 = .ok (.iload_n 3, 1) ∧ 1579 + 1 = 1580 := ⟨dB_old_26_m41_2_dec_4.2.2.2.2.2.2.2.2.2.2.2.2.2.2.2.2.2.2.2.2.2.2.2.2.2.2.2.2.2.1, by decide⟩
theorem dB_old_26_m41_2_dec_5 : dAll YL.2.1 [(1580, (.iconst 2, 1)), (1581, (.iadd, 1)), (1582, (.iaload, 1)), (1583, (.invokevirtual 146, 3)), (1586, (.pop, 1)), (1587, (.goto 1889, 3)), (1590, (.aload_n 1, 1)), (1591, (.aload_n 0, 1)), (1592, (.iload_n 3, 1)), (1593, (.iconst 1, 1)), (1594, (.iadd, 1)), (1595, (.iaload, 1)), (1596, (.invokevirtual 147, 3)), (1599, (.pop, 1)), (1600, (.aload_n 2, 1)), (1601, (.aload_n 0, 1)), (1602, (.iload_n 3, 1)), (1603, (.iconst 1, 1)), (1604, (.iadd, 1)), (1605, (.iaload, 1)), (1606, (.invokevirtual 150, 3)), (1609, (.pop, 1)), (1610, (.goto 1866, 3)), (1613, (.aload_n 1, 1)), (1614, (.aload_n 0, 1)), (1615, (.iload_n 3, 1)), (1616, (.iconst 1, 1)), (1617, (.iadd, 1)), (1618, (.iaload, 1)), (1619, (.aload_n 0, 1))] := dAll_of (by decide +kernel)
theorem d_L_1580 : decode YL.2.1 1580 = .ok (.iconst 2, 1) ∧ 1580 + 1 = 1581 := ⟨dB_old_26_m41_2_dec_5.1, by decide⟩
theorem d_L_1581 : decode YL.2.1 1581 = .ok (.iadd, 1) ∧ 1581 + 1 = 1582 := ⟨dB_old_26_m41_2_dec_5.2.1, by decide⟩
theorem d_L_1582 : decode YL.2.1 1582 = .ok (.iaload, 1) ∧ 1582 + 1 = 1583 := ⟨dB_old_26_m41_2_dec_5.2.2.1, by decide⟩
theorem d_L_1583 : decode YL.2.1 1583 = .ok (.invokevirtual 146, 3) ∧ 1583 + 3 = 1586 := ⟨dB_old_26_m41_2_dec_5.2.2.2.1, by decide⟩
theorem d_L_1586 : decode YL.2.1 1586 = .ok (.pop, 1) ∧ 1586 + 1 = 1587 := ⟨dB_old_26_m41_2_dec_5.2.2.2.2.1, by decide⟩
theorem d_L_1587 : decode YL.2.1 1587 = .ok (.goto 1889, 3) ∧ ((1587 : Nat) : Int) + 1889 = ((3476 : Nat) : Int) ∧ 1587 + 3 = 1590 := ⟨dB_old_26_m41_2_dec_5.2.2.2.2.2.1, by decide⟩
theorem d_L_1590 : decode YL.2.1 1590 = .ok (.aload_n 1, 1) ∧ 1590 + 1 = 1591 := ⟨dB_old_26_m41_2_dec_5.2.2.2.2.2.2.1, by decide⟩
theorem d_L_1591 : decode YL.2.1 1591 = .ok (.aload_n 0, 1) ∧ 1591 + 1 = 1592 := ⟨dB_old_26_m41_2_dec_5.2.2.2.2.2.2.2.1, by decide⟩
theorem d_L_1592 : decode YL.2.1 1592 = .ok (.iload_n 3, 1) ∧ 1592 + 1 = 1593 := ⟨dB_old_26_m41_2_dec_5.2.2.2.2.2.2.2.2.1, by decide⟩
theorem d_L_1593 : decode YL.2.1 1593 = .ok (.iconst 1, 1) ∧ 1593 + 1 = 1594 := ⟨dB_old_26_m41_2_dec_5.2.2.2.2.2.2.2.2.2.1, by decide⟩
theorem d_L_1594 : decode YL.2.1 1594 = .ok (.iadd, 1) ∧ 1594 + 1 = 1595 := ⟨dB_old_26_m41_2_dec_5.2.2.2.2.2.2.2.2.2.2.1, by decide⟩
theorem d_L_1595 : decode YL.2.1 1595 = .ok (.iaload, 1) ∧ 1595 + 1 = 1596 := ⟨dB_old_26_m41_2_dec_5.2.2.2.2.2.2.2.2.2.2.2.1, by decide⟩
theorem d_L_1596 : decode YL.2.1 1596 = .ok (.invokevirtual 147, 3) ∧ 1596 + 3 = 1599 := ⟨dB_old_26_m41_2_dec_5.2.2.2.2.2.2.2.2.2.2.2.2.1, by decide⟩
theorem d_L_1599 : decode YL.2.1 1599 = .ok (.pop, 1) ∧ 1599 + 1 = 1600 := ⟨dB_old_26_m41_2_dec_5.2.2.2.2.2.2.2.2.2.2.2.2.2.1, by decide⟩
theorem d_L_1600 : decode YL.2.1 1600 = .ok (.aload_n 2, 1) ∧ 1600 + 1 = 1601 := ⟨dB_old_26_m41_2_dec_5.2.2.2.2.2.2.2.2.2.2.2.2.2.2.1, by decide⟩
theorem d_L_1601 : decode YL.2.1 1601 = .ok (.aload_n 0, 1) ∧ 1601 + 1 = 1602 := ⟨dB_old_26_m41_2_dec_5.2.2.2.2.2.2.2.2.2.2.2.2.2.2.2.1, by decide⟩
theorem d_L_1602 : decode YL.2.1 1602 = .ok (.iload_n 3, 1) ∧ 1602 + 1 = 1603 := ⟨dB_old_26_m41_2_dec_5.2.2.2.2.2.2.2.2.2.2.2.2.2.2.2.2.1, by decide⟩
theorem d_L_1603 : decode YL.2.1 1603 = .ok (.iconst 1, 1) ∧ 1603 + 1 = 1604 := ⟨dB_old_26_m41_2_dec_5.2.2.2.2.2.2.2.2.2.2.2.2.2.2.2.2.2.1, by decide⟩
theorem d_L_1604 : decode YL.2.1 1604 = .ok (.iadd, 1) ∧ 1604 + 1 = 1605 := ⟨dB_old_26_m41_2_dec_5.2.2.2.2.2.2.2.2.2.2.2.2.2.2.2.2.2.2.1, by decide⟩
theorem d_L_1605 : decode YL.2.1 1605 = .ok (.iaload, 1) ∧ 1605 + 1 = 1606 := ⟨dB_old_26_m41_2_dec_5.2.2.2.2.2.2.2.2.2.2.2.2.2.2.2.2.2.2.2.1, by decide⟩
theorem d_L_1606 : decode YL.2.1 1606 = .ok (.invokevirtual 150, 3) ∧ 1606 + 3 = 1609 := ⟨dB_old_26_m41_2_dec_5.2.2.2.2.2.2.2.2.2.2.2.2.2.2.2.2.2.2.2.2.1, by decide⟩
theorem d_L_1609 : decode YL.2.1 1609 = .ok (.pop, 1) ∧ 1609 + 1 = 1610 := ⟨dB_old_26_m41_2_dec_5.2.2.2.2.2.2.2.2.2.2.2.2.2.2.2.2.2.2.2.2.2.1, by decide⟩
theorem d_L_1610 : decode YL.2.1 1610 = .ok (.goto 1866, 3) ∧ ((1610 : Nat) : Int) + 1866 = ((3476 : Nat) : Int) ∧ 1610 + 3 = 1613 := ⟨dB_old_26_m41_2_dec_5.2.2.2.2.2.2.2.2.2.2.2.2.2.2.2.2.2.2.2.2.2.2.1, by decide⟩
theorem d_L_1613 : decode YL.2.1 1613 = .ok (.aload_n 1, 1) ∧ 1613 + 1 = 1614 := ⟨dB_old_26_m41_2_dec_5.2.2.2.2.2.2.2.2.2.2.2.2.2.2.2.2.2.2.2.2.2.2.2.1, by decide⟩
theorem d_L_1614 : decode YL.2.1 1614 = .ok (.aload_n 0, 1) ∧ 1614 + 1 = 1615 := ⟨dB_old_26_m41_2_dec_5.2.2.2.2.2.2.2.2.2.2.2.2.2.2.2.2.2.2.2.2.2.2.2.2.1, by decide⟩
theorem d_L_1615 : decode YL.2.1 1615 = .ok (.iload_n 3, 1) ∧ 1615 + 1 = 1616 := ⟨dB_old_26_m41_2_dec_5.2.2.2.2.2.2.2.2.2.2.2.2.2.2.2.2.2.2.2.2.2.2.2.2.2.1, by decide⟩
theorem d_L_1616 : decode YL.2.1 1616 = .ok (.iconst 1, 1) ∧ 1616 + 1 = 1617 := ⟨dB_old_26_m41_2_dec_5.2.2.2.2.2.2.2.2.2.2.2.2.2.2.2.2.2.2.2.2.2.2.2.2.2.2.1, by decide⟩
theorem d_L_1617 : decode YL.2.1 1617 = .ok (.iadd, 1) ∧ 1617 + 1 = 1618 := ⟨dB_old_26_m41_2_dec_5.2.2.2.2.2.2.2.2.2.2.2.2.2.2.2.2.2.2.2.2.2.2.2.2.2.2.2.1, by decide⟩
theorem d_L_1618 : decode YL.2.1 1618 = .ok (.iaload, 1) ∧ 1618 + 1 = 1619 := ⟨dB_old_26_m41_2_dec_5.2.2.2.2.2.2.2.2.2.2.2.2.2.2.2.2.2.2.2.2.2.2.2.2.2.2.2.2.1, by decide⟩
theorem d_L_1619 : decode YL.2.1 1619 = .ok (.aload_n 0, 1) ∧ 1619 + 1 = 1620 := ⟨dB_old_26_m41_2_dec_5.2.2.2.2.2.2.2.2.2.2.2.2.2.2.2.2.2.2.2.2.2.2.2.2.2.2.2.2.2.1, by decide⟩
theorem dB_old_26_m41_2_dec_6 : dAll YL.2.1 [(1620, (.iload_n 3, 1)), (1621, (.iconst 2, 1)), (1622, (.iadd, 1)), (1623, (.iaload, 1)), (1624, (.invokevirtual 151, 3)), (1627, (.pop, 1)), (1628, (.aload_n 2, 1)), (1629, (.aload_n 0, 1)), (1630, (.iload_n 3, 1)), (1631, (.iconst 1, 1)), (1632, (.iadd, 1)), (1633, (.iaload, 1)), (1634, (.aload_n 0, 1)), (1635, (.iload_n 3, 1)), (1636, (.iconst 2, 1)), (1637, (.iadd, 1)), (1638, (.iaload, 1)), (1639, (.invokevirtual 154, 3)), (1642, (.pop, 1)), (1643, (.goto 1833, 3)), (1646, (.aload_n 1, 1)), (1647, (.aload_n 0, 1)), (1648, (.iload_n 3, 1)), (1649, (.iconst 1, 1)), (1650, (.iadd, 1)), (1651, (.iaload, 1)), (1652, (.aload_n 0, 1)), (1653, (.iload_n 3, 1)), (1654, (.iconst 2, 1)), (1655, (.iadd, 1))] := dAll_of (by decide +kernel)
theorem d_L_1620 : decode YL.2.1 1620 = .ok (.iload_n 3, 1) ∧ 1620 + 1 = 1621 := ⟨dB_old_26_m41_2_dec_6.1, by decide⟩
theorem d_L_1621 : decode YL.2.1 1621 = .ok (.iconst 2, 1) ∧ 1621 + 1 = 1622 := ⟨dB_old_26_m41_2_dec_6.2.1, by decide⟩
theorem d_L_1622 : decode YL.2.1 1622 = .ok (.iadd, 1) ∧ 1622 + 1 = 1623 := ⟨dB_old_26_m41_2_dec_6.2.2.1, by decide⟩
theorem d_L_1623 : decode YL.2.1 1623 = .ok (.iaload, 1) ∧ 1623 + 1 = 1624 := ⟨dB_old_26_m41_2_dec_6.2.2.2.1, by decide⟩
theorem d_L_1624 : decode YL.2.1 1624 = .ok (.invokevirtual 151, 3) ∧ 1624 + 3 = 1627 := ⟨dB_old_26_m41_2_dec_6.2.2.2.2.1, by decide⟩
theorem d_L_1627 : decode YL.2.1 1627 = .ok (.pop, 1) ∧ 1627 + 1 = 1628 := ⟨dB_old_26_m41_2_dec_6.2.2.2.2.2.1, by decide⟩
theorem d_L_1628 : decode YL.2.1 1628 = .ok (.aload_n 2, 1) ∧ 1628 + 1 = 1629 := ⟨dB_old_26_m41_2_dec_6.2.2.2.2.2.2.1, by decide⟩
theorem d_L_1629 : decode YL.2.1 1629 = .ok (.aload_n 0, 1) ∧ 1629 + 1 = 1630 := ⟨dB_old_26_m41_2_dec_6.2.2.2.2.2.2.2.1, by decide⟩
theorem d_L_1630 : decode YL.2.1 1630 = .ok (.iload_n 3, 1) ∧ 1630 + 1 = 1631 := ⟨dB_old_26_m41_2_dec_6.2.2.2.2.2.2.2.2.1, by decide⟩
theorem d_L_1631 : decode YL.2.1 1631 = .ok (.iconst 1, 1) ∧ 1631 + 1 = 1632 := ⟨dB_old_26_m41_2_dec_6.2.2.2.2.2.2.2.2.2.1, by decide⟩
theorem d_L_1632 : decode YL.2.1 1632 = .ok (.iadd, 1) ∧ 1632 + 1 = 1633 := ⟨dB_old_26_m41_2_dec_6.2.2.2.2.2.2.2.2.2.2.1, by decide⟩
theorem d_L_1633 : decode YL.2.1 1633 = .ok (.iaload, 1) ∧ 1633 + 1 = 1634 := ⟨dB_old_26_m41_2_dec_6.2.2.2.2.2.2.2.2.2.2.2.1, by decide⟩
theorem d_L_1634 : decode YL.2.1 1634 = .ok (.aload_n 0, 1) ∧ 1634 + 1 = 1635 := ⟨dB_old_26_m41_2_dec_6.2.2.2.2.2.2.2.2.2.2.2.2.1, by decide⟩
theorem d_L_1635 : decode YL.2.1 1635 = .ok (.iload_n 3, 1) ∧ 1635 + 1 = 1636 := ⟨dB_old_26_m41_2_dec_6.2.2.2.2.2.2.2.2.2.2.2.2.2.1, by decide⟩
theorem d_L_1636 : decode YL.2.1 1636 = .ok (.iconst 2, 1) ∧ 1636 + 1 = 1637 := ⟨dB_old_26_m41_2_dec_6.2.2.2.2.2.2.2.2.2.2.2.2.2.2.1, by decide⟩
theorem d_L_1637 : decode YL.2.1 1637 = .ok (.iadd, 1) ∧ 1637 + 1 = 1638 := ⟨dB_old_26_m41_2_dec_6.2.2.2.2.2.2.2.2.2.2.2.2.2.2.2.1, by decide⟩
theorem d_L_1638 : decode YL.2.1 1638 = .ok (.iaload, 1) ∧ 1638 + 1 = 1639 := ⟨dB_old_26_m41_2_dec_6.2.2.2.2.2.2.2.2.2.2.2.2.2.2.2.2.1, by decide⟩
theorem d_L_1639 : decode YL.2.1 1639 = .ok (.invokevirtual 154, 3) ∧ 1639 + 3 = 1642 := ⟨dB_old_26_m41_2_dec_6.2.2.2.2.2.2.2.2.2.2.2.2.2.2.2.2.2.1, by decide⟩
theorem d_L_1642 : decode YL.2.1 1642 = .ok (.pop, 1) ∧ 1642 + 1 = 1643 := ⟨dB_old_26_m41_2_dec_6.2.2.2.2.2.2.2.2.2.2.2.2.2.2.2.2.2.2.1, by decide⟩
theorem d_L_1643 : decode YL.2.1 1643 = .ok (.goto 1833, 3) ∧ ((1643 : Nat) : Int) + 1833 = ((3476 : Nat) : Int) ∧ 1643 + 3 = 1646 := ⟨dB_old_26_m41_2_dec_6.2.2.2.2.2.2.2.2.2.2.2.2.2.2.2.2.2.2.2.1, by decide⟩
theorem d_L_1646 : decode YL.2.1 1646 = .ok (.aload_n 1, 1) ∧ 1646 + 1 = 1647 := ⟨dB_old_26_m41_2_dec_6.2.2.2.2.2.2.2.2.2.2.2.2.2.2.2.2.2.2.2.2.1, by decide⟩
theorem d_L_1647 : decode YL.2.1 1647 = .ok (.aload_n 0, 1) ∧ 1647 + 1 = 1648 := ⟨dB_old_26_m41_2_dec_6.2.2.2.2.2.2.2.2.2.2.2.2.2.2.2.2.2.2.2.2.2.1, by decide⟩
theorem d_L_1648 : decode YL.2.1 1648 = .ok (.iload_n 3, 1) ∧ 1648 + 1 = 1649 := ⟨dB_old_26_m41_2_dec_6.2.2.2.2.2.2.2.2.2.2.2.2.2.2.2.2.2.2.2.2.2.2.1, by decide⟩
theorem d_L_1649 : decode YL.2.1 1649 = .ok (.iconst 1, 1) ∧ 1649 + 1 = 1650 := ⟨dB_old_26_m41_2_dec_6.2.2.2.2.2.2.2.2.2.2.2.2.2.2.2.2.2.2.2.2.2.2.2.1, by decide⟩
theorem d_L_1650 : decode YL.2.1 1650 = .ok (.iadd, 1) ∧ 1650 + 1 = 1651 := ⟨dB_old_26_m41_2_dec_6.2.2.2.2.2.2.2.2.2.2.2.2.2.2.2.2.2.2.2.2.2.2.2.2.1, by decide⟩
theorem d_L_1651 : decode YL.2.1 1651 = .ok (.iaload, 1) ∧ 1651 + 1 = 1652 := ⟨dB_old_26_m41_2_dec_6.2.2.2.2.2.2.2.2.2.2.2.2.2.2.2.2.2.2.2.2.2.2.2.2.2.1, by decide⟩
theorem d_L_1652 : decode YL.2.1 1652 = .ok (.aload_n 0, 1) ∧ 1652 + 1 = 1653 := ⟨dB_old_26_m41_2_dec_6.2.2.2.2.2.2.2.2.2.2.2.2.2.2.2.2.2.2.2.2.2.2.2.2.2.2.1, by decide⟩
theorem d_L_1653 : decode YL.2.1 1653 = .ok (.iload_n 3, 1) ∧ 1653 + 1 = 1654 := ⟨dB_old_26_m41_2_dec_6.2.2.2.2.2.2.2.2.2.2.2.2.2.2.2.2.2.2.2.2.2.2.2.2.2.2.2.1, by decide⟩
theorem d_L_1654 : decode YL.2.1 1654 = .ok (.iconst 2, 1) ∧ 1654 + 1 = 1655 := ⟨dB_old_26_m41_2_dec_6.2.2.2.2.2.2.2.2.2.2.2.2.2.2.2.2.2.2.2.2.2.2.2.2.2.2.2.2.1, by decide⟩
theorem d_L_1655 : decode YL.2.1 1655 = .ok (.iadd, 1) ∧ 1655 + 1 = 1656 := ⟨dB_old_26_m41_2_dec_6.2.2.2.2.2.2.2.2.2.2.2.2.2.2.2.2.2.2.2.2.2.2.2.2.2.2.2.2.2.1, by decide⟩
theorem dB_old_26_m41_2_dec_7 : dAll YL.2.1 [(1656, (.iaload, 1)), (1657, (.aload_n 0, 1)), (1658, (.iload_n 3, 1)), (1659, (.iconst 3, 1)), (1660, (.iadd, 1)), (1661, (.iaload, 1)), (1662, (.invokevirtual 155, 3)), (1665, (.pop, 1)), (1666, (.aload_n 2, 1)), (1667, (.aload_n 0, 1)), (1668, (.iload_n 3, 1)), (1669, (.iconst 1, 1)), (1670, (.iadd, 1)), (1671, (.iaload, 1)), (1672, (.aload_n 0, 1)), (1673, (.iload_n 3, 1)), (1674, (.iconst 2, 1)), (1675, (.iadd, 1)), (1676, (.iaload, 1)), (1677, (.aload_n 0, 1)), (1678, (.iload_n 3, 1)), (1679, (.iconst 3, 1)), (1680, (.iadd, 1)), (1681, (.iaload, 1)), (1682, (.invokevirtual 158, 3)), (1685, (.pop, 1)), (1686, (.goto 1790, 3)), (1689, (.aload_n 1, 1)), (1690, (.aload_n 0, 1)), (1691, (.iload_n 3, 1))] := dAll_of (by decide +kernel)
theorem d_L_1656 : decode YL.2.1 1656 = .ok (.iaload, 1) ∧ 1656 + 1 = 1657 := ⟨dB_old_26_m41_2_dec_7.1, by decide⟩
theorem d_L_1657 : decode YL.2.1 1657 = .ok (.aload_n 0, 1) ∧ 1657 + 1 = 1658 := ⟨dB_old_26_m41_2_dec_7.2.1, by decide⟩
theorem d_L_1658 : decode YL.2.1 1658 = .ok (.iload_n 3, 1) ∧ 1658 + 1 = 1659 := ⟨dB_old_26_m41_2_dec_7.2.2.1, by decide⟩
theorem d_L_1659 : decode YL.2.1 1659 = .ok (.iconst 3, 1) ∧ 1659 + 1 = 1660 := ⟨dB_old_26_m41_2_dec_7.2.2.2.1, by decide⟩
theorem d_L_1660 : decode YL.2.1 1660 = .ok (.iadd, 1) ∧ 1660 + 1 = 1661 := ⟨dB_old_26_m41_2_dec_7.2.2.2.2.1, by decide⟩
theorem d_L_1661 : decode YL.2.1 1661 = .ok (.iaload, 1) ∧ 1661 + 1 = 1662 := ⟨dB_old_26_m41_2_dec_7.2.2.2.2.2.1, by decide⟩
theorem d_L_1662 : decode YL.2.1 1662 = .ok (.invokevirtual 155, 3) ∧ 1662 + 3 = 1665 := ⟨dB_old_26_m41_2_dec_7.2.2.2.2.2.2.1, by decide⟩
theorem d_L_1665 : decode YL.2.1 1665 = .ok (.pop, 1) ∧ 1665 + 1 = 1666 := ⟨dB_old_26_m41_2_dec_7.2.2.2.2.2.2.2.1, by decide⟩
theorem d_L_1666 : decode YL.2.1 1666 = .ok (.aload_n 2, 1) ∧ 1666 + 1 = 1667 := ⟨dB_old_26_m41_2_dec_7.2.2.2.2.2.2.2.2.1, by decide⟩
theorem d_L_1667 : decode YL.2.1 1667 = .ok (.aload_n 0, 1) ∧ 1667 + 1 = 1668 := ⟨dB_old_26_m41_2_dec_7.2.2.2.2.2.2.2.2.2.1, by decide⟩
theorem d_L_1668 : decode YL.2.1 1668 = .ok (.iload_n 3, 1) ∧ 1668 + 1 = 1669 := ⟨dB_old_26_m41_2_dec_7.2.2.2.2.2.2.2.2.2.2.1, by decide⟩
theorem d_L_1669 : decode YL.2.1 1669 = .ok (.iconst 1, 1) ∧ 1669 + 1 = 1670 := ⟨dB_old_26_m41_2_dec_7.2.2.2.2.2.2.2.2.2.2.2.1, by decide⟩
theorem d_L_1670 : decode YL.2.1 1670 = .ok (.iadd, 1) ∧ 1670 + 1 = 1671 := ⟨dB_old_26_m41_2_dec_7.2.2.2.2.2.2.2.2.2.2.2.2.1, by decide⟩
theorem d_L_1671 : decode YL.2.1 1671 = .ok (.iaload, 1) ∧ 1671 + 1 = 1672 := ⟨dB_old_26_m41_2_dec_7.2.2.2.2.2.2.2.2.2.2.2.2.2.1, by decide⟩
theorem d_L_1672 : decode YL.2.1 1672 = .ok (.aload_n 0, 1) ∧ 1672 + 1 = 1673 := ⟨dB_old_26_m41_2_dec_7.2.2.2.2.2.2.2.2.2.2.2.2.2.2.1, by decide⟩
theorem d_L_1673 : decode YL.2.1 1673 = .ok (.iload_n 3, 1) ∧ 1673 + 1 = 1674 := ⟨dB_old_26_m41_2_dec_7.2.2.2.2.2.2.2.2.2.2.2.2.2.2.2.1, by decide⟩
theorem d_L_1674 : decode YL.2.1 1674 = .ok (.iconst 2, 1) ∧ 1674 + 1 = 1675 := ⟨dB_old_26_m41_2_dec_7.2.2.2.2.2.2.2.2.2.2.2.2.2.2.2.2.1, by decide⟩
theorem d_L_1675 : decode YL.2.1 1675 = .ok (.iadd, 1) ∧ 1675 + 1 = 1676 := ⟨dB_old_26_m41_2_dec_7.2.2.2.2.2.2.2.2.2.2.2.2.2.2.2.2.2.1, by decide⟩
theorem d_L_1676 : decode YL.2.1 1676 = .ok (.iaload, 1) ∧ 1676 + 1 = 1677 := ⟨dB_old_26_m41_2_dec_7.2.2.2.2.2.2.2.2.2.2.2.2.2.2.2.2.2.2.1, by decide⟩
theorem d_L_1677 : decode YL.2.1 1677 = .ok (.aload_n 0, 1) ∧ 1677 + 1 = 1678 := ⟨dB_old_26_m41_2_dec_7.2.2.2.2.2.2.2.2.2.2.2.2.2.2.2.2.2.2.2.1, by decide⟩
theorem d_L_1678 : decode YL.2.1 1678 = .ok (.iload_n 3, 1) ∧ 1678 + 1 = 1679 := ⟨dB_old_26_m41_2_dec_7.2.2.2.2.2.2.2.2.2.2.2.2.2.2.2.2.2.2.2.2.1, by decide⟩
theorem d_L_1679 : decode YL.2.1 1679 = .ok (.iconst 3, 1) ∧ 1679 + 1 = 1680 := ⟨dB_old_26_m41_2_dec_7.2.2.2.2.2.2.2.2.2.2.2.2.2.2.2.2.2.2.2.2.2.1, by decide⟩
theorem d_L_1680 : decode YL.2.1 1680 = .ok (.iadd, 1) ∧ 1680 + 1 = 1681 := ⟨dB_old_26_m41_2_dec_7.2.2.2.2.2.2.2.2.2.2.2.2.2.2.2.2.2.2.2.2.2.2.1, by decide⟩
theorem d_L_1681 : decode YL.2.1 1681 = .ok (.iaload, 1) ∧ 1681 + 1 = 1682 := ⟨dB_old_26_m41_2_dec_7.2.2.2.2.2.2.2.2.2.2.2.2.2.2.2.2.2.2.2.2.2.2.2.1, by decide⟩
theorem d_L_1682 : decode YL.2.1 1682 = .ok (.invokevirtual 158, 3) ∧ 1682 + 3 = 1685 := ⟨dB_old_26_m41_2_dec_7.2.2.2.2.2.2.2.2.2.2.2.2.2.2.2.2.2.2.2.2.2.2.2.2.1, by decide⟩
theorem d_L_1685 : decode YL.2.1 1685 = .ok (.pop, 1) ∧ 1685 + 1 = 1686 := ⟨dB_old_26_m41_2_dec_7.2.2.2.2.2.2.2.2.2.2.2.2.2.2.2.2.2.2.2.2.2.2.2.2.2.1, by decide⟩
theorem d_L_1686 : decode YL.2.1 1686 = .ok (.goto 1790, 3) ∧ ((1686 : Nat) : Int) + 1790 = ((3476 : Nat) : Int) ∧ 1686 + 3 = 1689 := ⟨dB_old_26_m41_2_dec_7.2.2.2.2.2.2.2.2.2.2.2.2.2.2.2.2.2.2.2.2.2.2.2.2.2.2.1, by decide⟩
theorem d_L_1689 : decode YL.2.1 1689 = .ok (.aload_n 1, 1) ∧ 1689 + 1 = 1690 := ⟨dB_old_26_m41_2_dec_7.2.2.2.2.2.2.2.2.2.2.2.2.2.2.2.2.2.2.2.2.2.2.2.2.2.2.2.1, by decide⟩
theorem d_L_1690 : decode YL.2.1 1690 = .ok (.aload_n 0, 1) ∧ 1690 + 1 = 1691 := ⟨dB_old_26_m41_2_dec_7.2.2.2.2.2.2.2.2.2.2.2.2.2.2.2.2.2.2.2.2.2.2.2.2.2.2.2.2.1, by decide⟩
theorem d_L_1691 : decode YL.2.1 1691 = .ok (.iload_n 3, 1) ∧ 1691 + 1 = 1692 := ⟨dB_old_26_m41_2_dec_7.2.2.2.2.2.2.2.2.2.2.2.2.2.2.2.2.2.2.2.2.2.2.2.2.2.2.2.2.2.1, by decide⟩
theorem dB_old_26_m41_2_dec_8 : dAll YL.2.1 [(1692, (.iconst 1, 1)), (1693, (.iadd, 1)), (1694, (.iaload, 1)), (1695, (.aload_n 0, 1)), (1696, (.iload_n 3, 1)), (1697, (.iconst 2, 1)), (1698, (.iadd, 1)), (1699, (.iaload, 1)), (1700, (.aload_n 0, 1)), (1701, (.iload_n 3, 1)), (1702, (.iconst 3, 1)), (1703, (.iadd, 1)), (1704, (.iaload, 1)), (1705, (.aload_n 0, 1)), (1706, (.iload_n 3, 1)), (1707, (.iconst 4, 1)), (1708, (.iadd, 1)), (1709, (.iaload, 1)), (1710, (.invokevirtual 159, 3)), (1713, (.pop, 1)), (1714, (.aload_n 2, 1)), (1715, (.aload_n 0, 1)), (1716, (.iload_n 3, 1)), (1717, (.iconst 1, 1)), (1718, (.iadd, 1)), (1719, (.iaload, 1)), (1720, (.aload_n 0, 1)), (1721, (.iload_n 3, 1)), (1722, (.iconst 2, 1)), (1723, (.iadd, 1))] := dAll_of (by decide +kernel)
theorem d_L_1692 : decode YL.2.1 1692 = .ok (.iconst 1, 1) ∧ 1692 + 1 = 1693 := ⟨dB_old_26_m41_2_dec_8.1, by decide⟩
theorem d_L_1693 : decode YL.2.1 1693 = .ok (.iadd, 1) ∧ 1693 + 1 = 1694 := ⟨dB_old_26_m41_2_dec_8.2.1, by decide⟩
theorem d_L_1694 : decode YL.2.1 1694 = .ok (.iaload, 1) ∧ 1694 + 1 = 1695 := ⟨dB_old_26_m41_2_dec_8.2.2.1, by decide⟩
theorem d_L_1695 : decode YL.2.1 1695 = .ok (.aload_n 0, 1) ∧ 1695 + 1 = 1696 := ⟨dB_old_26_m41_2_dec_8.2.2.2.1, by decide⟩
theorem d_L_1696 : decode YL.2.1 1696 = .ok (.iload_n 3, 1) ∧ 1696 + 1 = 1697 := ⟨dB_old_26_m41_2_dec_8.2.2.2.2.1, by decide⟩
theorem d_L_1697 : decode YL.2.1 1697 = .ok (.iconst 2, 1) ∧ 1697 + 1 = 1698 := ⟨dB_old_26_m41_2_dec_8.2.2.2.2.2.1, by decide⟩
theorem d_L_1698 : decode YL.2.1 1698 = .ok (.iadd, 1) ∧ 1698 + 1 = 1699 := ⟨dB_old_26_m41_2_dec_8.2.2.2.2.2.2.1, by decide⟩
theorem d_L_1699 : decode YL.2.1 1699 = .ok (.iaload, 1) ∧ 1699 + 1 = 1700 := ⟨dB_old_26_m41_2_dec_8.2.2.2.2.2.2.2.1, by decide⟩
theorem d_L_1700 : decode YL.2.1 1700 = .ok (.aload_n 0, 1) ∧ 1700 + 1 = 1701 := ⟨dB_old_26_m41_2_dec_8.2.2.2.2.2.2.2.2.1, by decide⟩
theorem d_L_1701 : decode YL.2.1 1701 = .ok (.iload_n 3, 1) ∧ 1701 + 1 = 1702 := ⟨dB_old_26_m41_2_dec_8.2.2.2.2.2.2.2.2.2.1, by decide⟩
theorem d_L_1702 : decode YL.2.1 1702 = .ok (.iconst 3, 1) ∧ 1702 + 1 = 1703 := ⟨dB_old_26_m41_2_dec_8.2.2.2.2.2.2.2.2.2.2.1, by decide⟩
theorem d_L_1703 : decode YL.2.1 1703 = .ok (.iadd, 1) ∧ 1703 + 1 = 1704 := ⟨dB_old_26_m41_2_dec_8.2.2.2.2.2.2.2.2.2.2.2.1, by decide⟩
theorem d_L_1704 : decode YL.2.1 1704 = .ok (.iaload, 1) ∧ 1704 + 1 = 1705 := ⟨dB_old_26_m41_2_dec_8.2.2.2.2.2.2.2.2.2.2.2.2.1, by decide⟩
theorem d_L_1705 : decode YL.2.1 1705 = .ok (.aload_n 0, 1) ∧ 1705 + 1 = 1706 := ⟨dB_old_26_m41_2_dec_8.2.2.2.2.2.2.2.2.2.2.2.2.2.1, by decide⟩
theorem d_L_1706 : decode YL.2.1 1706 = .ok (.iload_n 3, 1) ∧ 1706 + 1 = 1707 := ⟨dB_old_26_m41_2_dec_8.2.2.2.2.2.2.2.2.2.2.2.2.2.2.1, by decide⟩
theorem d_L_1707 : decode YL.2.1 1707 = .ok (.iconst 4, 1) ∧ 1707 + 1 = 1708 := ⟨dB_old_26_m41_2_dec_8.2.2.2.2.2.2.2.2.2.2.2.2.2.2.2.1, by decide⟩
theorem d_L_1708 : decode YL.2.1 1708 = .ok (.iadd, 1) ∧ 1708 + 1 = 1709 := ⟨dB_old_26_m41_2_dec_8.2.2.2.2.2.2.2.2.2.2.2.2.2.2.2.2.1, by decide⟩
theorem d_L_1709 : decode YL.2.1 1709 = .ok (.iaload, 1) ∧ 1709 + 1 = 1710 := ⟨dB_old_26_m41_2_dec_8.2.2.2.2.2.2.2.2.2.2.2.2.2.2.2.2.2.1, by decide⟩
theorem d_L_1710 : decode YL.2.1 1710 = .ok (.invokevirtual 159, 3) ∧ 1710 + 3 = 1713 := ⟨dB_old_26_m41_2_dec_8.2.2.2.2.2.2.2.2.2.2.2.2.2.2.2.2.2.2.1, by decide⟩
theorem d_L_1713 : decode YL.2.1 1713 = .ok (.pop, 1) ∧ 1713 + 1 = 1714 := ⟨dB_old_26_m41_2_dec_8.2.2.2.2.2.2.2.2.2.2.2.2.2.2.2.2.2.2.2.1, by decide⟩
theorem d_L_1714 : decode YL.2.1 1714 = .ok (.aload_n 2, 1) ∧ 1714 + 1 = 1715 := ⟨dB_old_26_m41_2_dec_8.2.2.2.2.2.2.2.2.2.2.2.2.2.2.2.2.2.2.2.2.1, by decide⟩
theorem d_L_1715 : decode YL.2.1 1715 = .ok (.aload_n 0, 1) ∧ 1715 + 1 = 1716 := ⟨dB_old_26_m41_2_dec_8.2.2.2.2.2.2.2.2.2.2.2.2.2.2.2.2.2.2.2.2.2.1, by decide⟩
theorem d_L_1716 : decode YL.2.1 1716 = .ok (.iload_n 3, 1) ∧ 1716 + 1 = 1717 := ⟨dB_old_26_m41_2_dec_8.2.2.2.2.2.2.2.2.2.2.2.2.2.2.2.2.2.2.2.2.2.2.1, by decide⟩
theorem d_L_1717 : decode YL.2.1 1717 = .ok (.iconst 1, 1) ∧ 1717 + 1 = 1718 := ⟨dB_old_26_m41_2_dec_8.2.2.2.2.2.2.2.2.2.2.2.2.2.2.2.2.2.2.2.2.2.2.2.1, by decide⟩
theorem d_L_1718 : decode YL.2.1 1718 = .ok (.iadd, 1) ∧ 1718 + 1 = 1719 := ⟨dB_old_26_m41_2_dec_8.2.2.2.2.2.2.2.2.2.2.2.2.2.2.2.2.2.2.2.2.2.2.2.2.1, by decide⟩
theorem d_L_1719 : decode YL.2.1 1719 = .ok (.iaload, 1) ∧ 1719 + 1 = 1720 := ⟨dB_old_26_m41_2_dec_8.2.2.2.2.2.2.2.2.2.2.2.2.2.2.2.2.2.2.2.2.2.2.2.2.2.1, by decide⟩
theorem d_L_1720 : decode YL.2.1 1720 = .ok (.aload_n 0, 1) ∧ 1720 + 1 = 1721 := ⟨dB_old_26_m41_2_dec_8.2.2.2.2.2.2.2.2.2.2.2.2.2.2.2.2.2.2.2.2.2.2.2.2.2.2.1, by decide⟩
theorem d_L_1721 : decode YL.2.1 1721 = .ok (.iload_n 3, 1) ∧ 1721 + 1 = 1722 := ⟨dB_old_26_m41_2_dec_8.2.2.2.2.2.2.2.2.2.2.2.2.2.2.2.2.2.2.2.2.2.2.2.2.2.2.2.1, by decide⟩
theorem d_L_1722 : decode YL.2.1 1722 = .ok (.iconst 2, 1) ∧ 1722 + 1 = 1723 := ⟨dB_old_26_m41_2_dec_8.2.2.2.2.2.2.2.2.2.2.2.2.2.2.2.2.2.2.2.2.2.2.2.2.2.2.2.2.1, by decide⟩
theorem d_L_1723 : decode YL.2.1 1723 = .ok (.iadd, 1) ∧ 1723 + 1 = 1724 := ⟨dB_old_26_m41_2_dec_8.2.2.2.2.2.2.2.2.2.2.2.2.2.2.2.2.2.2.2.2.2.2.2.2.2.2.2.2.2.1, by decide⟩
theorem dB_old_26_m41_2_dec_9 : dAll YL.2.1 [(1724, (.iaload, 1)), (1725, (.aload_n 0, 1)), (1726, (.iload_n 3, 1)), (1727, (.iconst 3, 1)), (1728, (.iadd, 1)), (1729, (.iaload, 1)), (1730, (.aload_n 0, 1)), (1731, (.iload_n 3, 1)), (1732, (.iconst 4, 1)), (1733, (.iadd, 1)), (1734, (.iaload, 1)), (1735, (.invokevirtual 162, 3)), (1738, (.pop, 1)), (1739, (.goto 1737, 3)), (1742, (.aload_n 1, 1)), (1743, (.aload_n 0, 1)), (1744, (.iload_n 3, 1)), (1745, (.iconst 1, 1)), (1746, (.iadd, 1)), (1747, (.iaload, 1)), (1748, (.aload_n 0, 1)), (1749, (.iload_n 3, 1)), (1750, (.iconst 2, 1)), (1751, (.iadd, 1)), (1752, (.iaload, 1)), (1753, (.aload_n 0, 1)), (1754, (.iload_n 3, 1)), (1755, (.iconst 3, 1)), (1756, (.iadd, 1)), (1757, (.iaload, 1))] := dAll_of (by decide +kernel)
theorem d_L_1724 : decode YL.2.1 1724 = .ok (.iaload, 1) ∧ 1724 + 1 = 1725 := ⟨dB_old_26_m41_2_dec_9.1, by decide⟩
theorem d_L_1725 : decode YL.2.1 1725 = .ok (.aload_n 0, 1) ∧ 1725 + 1 = 1726 := ⟨dB_old_26_m41_2_dec_9.2.1, by decide⟩
theorem d_L_1726 : decode YL.2.1 1726 = .ok (.iload_n 3, 1) ∧ 1726 + 1 = 1727 := ⟨dB_old_26_m41_2_dec_9.2.2.1, by decide⟩
theorem d_L_1727 : decode YL.2.1 1727 = .ok (.iconst 3, 1) ∧ 1727 + 1 = 1728 := ⟨dB_old_26_m41_2_dec_9.2.2.2.1, by decide⟩
theorem d_L_1728 : decode YL.2.1 1728 = .ok (.iadd, 1) ∧ 1728 + 1 = 1729 := ⟨dB_old_26_m41_2_dec_9.2.2.2.2.1, by decide⟩
theorem d_L_1729 : decode YL.2.1 1729 = .ok (.iaload, 1) ∧ 1729 + 1 = 1730 := ⟨dB_old_26_m41_2_dec_9.2.2.2.2.2.1, by decide⟩
theorem d_L_1730 : decode YL.2.1 1730 = .ok (.aload_n 0, 1) ∧ 1730 + 1 = 1731 := ⟨dB_old_26_m41_2_dec_9.2.2.2.2.2.2.1, by decide⟩
theorem d_L_1731 : decode YL.2.1 1731 = .ok (.iload_n 3, 1) ∧ 1731 + 1 = 1732 := ⟨dB_old_26_m41_2_dec_9.2.2.2.2.2.2.2.1, by decide⟩
theorem d_L_1732 : decode YL.2.1 1732 = .ok (.iconst 4, 1) ∧ 1732 + 1 = 1733 := ⟨dB_old_26_m41_2_dec_9.2.2.2.2.2.2.2.2.1, by decide⟩
theorem d_L_1733 : decode YL.2.1 1733 = .ok (.iadd, 1) ∧ 1733 + 1 = 1734 := ⟨dB_old_26_m41_2_dec_9.2.2.2.2.2.2.2.2.2.1, by decide⟩
theorem d_L_1734 : decode YL.2.1 1734 = .ok (.iaload, 1) ∧ 1734 + 1 = 1735 := ⟨dB_old_26_m41_2_dec_9.2.2.2.2.2.2.2.2.2.2.1, by decide⟩
theorem d_L_1735 : decode YL.2.1 1735 = .ok (.invokevirtual 162, 3) ∧ 1735 + 3 = 1738 := ⟨dB_old_26_m41_2_dec_9.2.2.2.2.2.2.2.2.2.2.2.1, by decide⟩
theorem d_L_1738 : decode YL.2.1 1738 = .ok (.pop, 1) ∧ 1738 + 1 = 1739 := ⟨dB_old_26_m41_2_dec_9.2.2.2.2.2.2.2.2.2.2.2.2.1, by decide⟩
theorem d_L_1739 : decode YL.2.1 1739 = .ok (.goto 1737, 3) ∧ ((1739 : Nat) : Int) + 1737 = ((3476 : Nat) : Int) ∧ 1739 + 3 = 1742 := ⟨dB_old_26_m41_2_dec_9.2.2.2.2.2.2.2.2.2.2.2.2.2.1, by decide⟩
theorem d_L_1742 : decode YL.2.1 1742 = .ok (.aload_n 1, 1) ∧ 1742 + 1 = 1743 := ⟨dB_old_26_m41_2_dec_9.2.2.2.2.2.2.2.2.2.2.2.2.2.2.1, by decide⟩
theorem d_L_1743 : decode YL.2.1 1743 = .ok (.aload_n 0, 1) ∧ 1743 + 1 = 1744 := ⟨dB_old_26_m41_2_dec_9.2.2.2.2.2.2.2.2.2.2.2.2.2.2.2.1, by decide⟩
theorem d_L_1744 : decode YL.2.1 1744 = .ok (.iload_n 3, 1) ∧ 1744 + 1 = 1745 := ⟨dB_old_26_m41_2_dec_9.2.2.2.2.2.2.2.2.2.2.2.2.2.2.2.2.1, by decide⟩
theorem d_L_1745 : decode YL.2.1 1745 = .ok (.iconst 1, 1) ∧ 1745 + 1 = 1746 := ⟨dB_old_26_m41_2_dec_9.2.2.2.2.2.2.2.2.2.2.2.2.2.2.2.2.2.1, by decide⟩
theorem d_L_1746 : decode YL.2.1 1746 = .ok (.iadd, 1) ∧ 1746 + 1 = 1747 := ⟨dB_old_26_m41_2_dec_9.2.2.2.2.2.2.2.2.2.2.2.2.2.2.2.2.2.2.1, by decide⟩
theorem d_L_1747 : decode YL.2.1 1747 = .ok (.iaload, 1) ∧ 1747 + 1 = 1748 := ⟨dB_old_26_m41_2_dec_9.2.2.2.2.2.2.2.2.2.2.2.2.2.2.2.2.2.2.2.1, by decide⟩
theorem d_L_1748 : decode YL.2.1 1748 = .ok (.aload_n 0, 1) ∧ 1748 + 1 = 1749 := ⟨dB_old_26_m41_2_dec_9.2.2.2.2.2.2.2.2.2.2.2.2.2.2.2.2.2.2.2.2.1, by decide⟩
theorem d_L_1749 : decode YL.2.1 1749 = .ok (.iload_n 3, 1) ∧ 1749 + 1 = 1750 := ⟨dB_old_26_m41_2_dec_9.2.2.2.2.2.2.2.2.2.2.2.2.2.2.2.2.2.2.2.2.2.1, by decide⟩
theorem d_L_1750 : decode YL.2.1 1750 = .ok (.iconst 2, 1) ∧ 1750 + 1 = 1751 := ⟨dB_old_26_m41_2_dec_9.2.2.2.2.2.2.2.2.2.2.2.2.2.2.2.2.2.2.2.2.2.2.1, by decide⟩
theorem d_L_1751 : decode YL.2.1 1751 = .ok (.iadd, 1) ∧ 1751 + 1 = 1752 := ⟨dB_old_26_m41_2_dec_9.2.2.2.2.2.2.2.2.2.2.2.2.2.2.2.2.2.2.2.2.2.2.2.1, by decide⟩
theorem d_L_1752 : decode YL.2.1 1752 = .ok (.iaload, 1) ∧ 1752 + 1 = 1753 := ⟨dB_old_26_m41_2_dec_9.2.2.2.2.2.2.2.2.2.2.2.2.2.2.2.2.2.2.2.2.2.2.2.2.1, by decide⟩
theorem d_L_1753 : decode YL.2.1 1753 = .ok (.aload_n 0, 1) ∧ 1753 + 1 = 1754 := ⟨dB_old_26_m41_2_dec_9.2.2.2.2.2.2.2.2.2.2.2.2.2.2.2.2.2.2.2.2.2.2.2.2.2.1, by decide⟩
theorem d_L_1754 : decode YL.2.1 1754 = .ok (.iload_n 3, 1) ∧ 1754 + 1 = 1755 := ⟨dB_old_26_m41_2_dec_9.2.2.2.2.2.2.2.2.2.2.2.2.2.2.2.2.2.2.2.2.2.2.2.2.2.2.1, by decide⟩
theorem d_L_1755 : decode YL.2.1 1755 = .ok (.iconst 3, 1) ∧ 1755 + 1 = 1756 := ⟨dB_old_26_m41_2_dec_9.2.2.2.2.2.2.2.2.2.2.2.2.2.2.2.2.2.2.2.2.2.2.2.2.2.2.2.1, by decide⟩
theorem d_L_1756 : decode YL.2.1 1756 = .ok (.iadd, 1) ∧ 1756 + 1 = 1757 := ⟨dB_old_26_m41_2_dec_9.2.2.2.2.2.2.2.2.2.2.2.2.2.2.2.2.2.2.2.2.2.2.2.2.2.2.2.2.1, by decide⟩
theorem d_L_1757 : decode YL.2.1 1757 = .ok (.iaload, 1) ∧ 1757 + 1 = 1758 := ⟨dB_old_26_m41_2_dec_9.2.2.2.2.2.2.2.2.2.2.2.2.2.2.2.2.2.2.2.2.2.2.2.2.2.2.2.2.2.1, by decide⟩
theorem dB_old_26_m41_2_dec_10 : dAll YL.2.1 [(1758, (.invokevirtual 163, 3)), (1761, (.pop, 1)), (1762, (.aload_n 2, 1)), (1763, (.aload_n 0, 1)), (1764, (.iload_n 3, 1)), (1765, (.iconst 1, 1)), (1766, (.iadd, 1)), (1767, (.iaload, 1)), (1768, (.aload_n 0, 1)), (1769, (.iload_n 3, 1)), (1770, (.iconst 2, 1)), (1771, (.iadd, 1)), (1772, (.iaload, 1)), (1773, (.aload_n 0, 1)), (1774, (.iload_n 3, 1)), (1775, (.iconst 3, 1)), (1776, (.iadd, 1)), (1777, (.iaload, 1)), (1778, (.invokevirtual 166, 3)), (1781, (.pop, 1)), (1782, (.goto 1694, 3)), (1785, (.aload_n 1, 1)), (1786, (.invokevirtual 167, 3)), (1789, (.pop, 1)), (1790, (.aload_n 2, 1)), (1791, (.invokevirtual 170, 3)), (1794, (.pop, 1)), (1795, (.goto 1681, 3)), (1798, (.aload_n 1, 1)), (1799, (.aload_n 0, 1))] := dAll_of (by decide +kernel)
theorem d_L_1758 : decode YL.2.1 1758 = .ok (.invokevirtual 163, 3) ∧ 1758 + 3 = 1761 := ⟨dB_old_26_m41_2_dec_10.1, by decide⟩
theorem d_L_1761 : decode YL.2.1 1761 = .ok (.pop, 1) ∧ 1761 + 1 = 1762 := ⟨dB_old_26_m41_2_dec_10.2.1, by decide⟩
theorem d_L_1762 : decode YL.2.1 1762 = .ok (.aload_n 2, 1) ∧ 1762 + 1 = 1763 := ⟨dB_old_26_m41_2_dec_10.2.2.1, by decide⟩
theorem d_L_1763 : decode YL.2.1 1763 = .ok (.aload_n 0, 1) ∧ 1763 + 1 = 1764 := ⟨dB_old_26_m41_2_dec_10.2.2.2.1, by decide⟩
theorem d_L_1764 : decode YL.2.1 1764 = .ok (.iload_n 3, 1) ∧ 1764 + 1 = 1765 := ⟨dB_old_26_m41_2_dec_10.2.2.2.2.1, by decide⟩
theorem d_L_1765 : decode YL.2.1 1765 = .ok (.iconst 1, 1) ∧ 1765 + 1 = 1766 := ⟨dB_old_26_m41_2_dec_10.2.2.2.2.2.1, by decide⟩
theorem d_L_1766 : decode YL.2.1 1766 = .ok (.iadd, 1) ∧ 1766 + 1 = 1767 := ⟨dB_old_26_m41_2_dec_10.2.2.2.2.2.2.1, by decide⟩
theorem d_L_1767 : decode YL.2.1 1767 = .ok (.iaload, 1) ∧ 1767 + 1 = 1768 := ⟨dB_old_26_m41_2_dec_10.2.2.2.2.2.2.2.1, by decide⟩
theorem d_L_1768 : decode YL.2.1 1768 = .ok (.aload_n 0, 1) ∧ 1768 + 1 = 1769 := ⟨dB_old_26_m41_2_dec_10.2.2.2.2.2.2.2.2.1, by decide⟩
theorem d_L_1769 : decode YL.2.1 1769 = .ok (.iload_n 3, 1) ∧ 1769 + 1 = 1770 := ⟨dB_old_26_m41_2_dec_10.2.2.2.2.2.2.2.2.2.1, by decide⟩
theorem d_L_1770 : decode YL.2.1 1770 = .ok (.iconst 2, 1) ∧ 1770 + 1 = 1771 := ⟨dB_old_26_m41_2_dec_10.2.2.2.2.2.2.2.2.2.2.1, by decide⟩
theorem d_L_1771 : decode YL.2.1 1771 = .ok (.iadd, 1) ∧ 1771 + 1 = 1772 := ⟨dB_old_26_m41_2_dec_10.2.2.2.2.2.2.2.2.2.2.2.1, by decide⟩
theorem d_L_1772 : decode YL.2.1 1772 = .ok (.iaload, 1) ∧ 1772 + 1 = 1773 := ⟨dB_old_26_m41_2_dec_10.2.2.2.2.2.2.2.2.2.2.2.2.1, by decide⟩
theorem d_L_1773 : decode YL.2.1 1773 = .ok (.aload_n 0, 1) ∧ 1773 + 1 = 1774 := ⟨dB_old_26_m41_2_dec_10.2.2.2.2.2.2.2.2.2.2.2.2.2.1, by decide⟩
theorem d_L_1774 : decode YL.2.1 1774 = .ok (.iload_n 3, 1) ∧ 1774 + 1 = 1775 := ⟨dB_old_26_m41_2_dec_10.2.2.2.2.2.2.2.2.2.2.2.2.2.2.1, by decide⟩
theorem d_L_1775 : decode YL.2.1 1775 = .ok (.iconst 3, 1) ∧ 1775 + 1 = 1776 := ⟨dB_old_26_m41_2_dec_10.2.2.2.2.2.2.2.2.2.2.2.2.2.2.2.1, by decide⟩
theorem d_L_1776 : decode YL.2.1 1776 = .ok (.iadd, 1) ∧ 1776 + 1 = 1777 := ⟨dB_old_26_m41_2_dec_10.2.2.2.2.2.2.2.2.2.2.2.2.2.2.2.2.1, by decide⟩
theorem d_L_1777 : decode YL.2.1 1777 = .ok (.iaload, 1) ∧ 1777 + 1 = 1778 := ⟨dB_old_26_m41_2_dec_10.2.2.2.2.2.2.2.2.2.2.2.2.2.2.2.2.2.1, by decide⟩
theorem d_L_1778 : decode YL.2.1 1778 = .ok (.invokevirtual 166, 3) ∧ 1778 + 3 = 1781 := ⟨dB_old_26_m41_2_dec_10.2.2.2.2.2.2.2.2.2.2.2.2.2.2.2.2.2.2.1, by decide⟩
theorem d_L_1781 : decode YL.2.1 1781 = .ok (.pop, 1) ∧ 1781 + 1 = 1782 := ⟨dB_old_26_m41_2_dec_10.2.2.2.2.2.2.2.2.2.2.2.2.2.2.2.2.2.2.2.1, by decide⟩
theorem d_L_1782 : decode YL.2.1 1782 = .ok (.goto 1694, 3) ∧ ((1782 : Nat) : Int) + 1694 = ((3476 : Nat) : Int) ∧ 1782 + 3 = 1785 := ⟨dB_old_26_m41_2_dec_10.2.2.2.2.2.2.2.2.2.2.2.2.2.2.2.2.2.2.2.2.1, by decide⟩
theorem d_L_1785 : decode YL.2.1 1785 = .ok (.aload_n 1, 1) ∧ 1785 + 1 = 1786 := ⟨dB_old_26_m41_2_dec_10.2.2.2.2.2.2.2.2.2.2.2.2.2.2.2.2.2.2.2.2.2.1, by decide⟩
theorem d_L_1786 : decode YL.2.1 1786 = .ok (.invokevirtual 167, 3) ∧ 1786 + 3 = 1789 := ⟨dB_old_26_m41_2_dec_10.2.2.2.2.2.2.2.2.2.2.2.2.2.2.2.2.2.2.2.2.2.2.1, by decide⟩
theorem d_L_1789 : decode YL.2.1 1789 = .ok (.pop, 1) ∧ 1789 + 1 = 1790 := ⟨dB_old_26_m41_2_dec_10.2.2.2.2.2.2.2.2.2.2.2.2.2.2.2.2.2.2.2.2.2.2.2.1, by decide⟩
theorem d_L_1790 : decode YL.2.1 1790 = .ok (.aload_n 2, 1) ∧ 1790 + 1 = 1791 := ⟨dB_old_26_m41_2_dec_10.2.2.2.2.2.2.2.2.2.2.2.2.2.2.2.2.2.2.2.2.2.2.2.2.1, by decide⟩
theorem d_L_1791 : decode YL.2.1 1791 = .ok (.invokevirtual 170, 3) ∧ 1791 + 3 = 1794 := ⟨dB_old_26_m41_2_dec_10.2.2.2.2.2.2.2.2.2.2.2.2.2.2.2.2.2.2.2.2.2.2.2.2.2.1, by decide⟩
theorem d_L_1794 : decode YL.2.1 1794 = .ok (.pop, 1) ∧ 1794 + 1 = 1795 := ⟨dB_old_26_m41_2_dec_10.2.2.2.2.2.2.2.2.2.2.2.2.2.2.2.2.2.2.2.2.2.2.2.2.2.2.1, by decide⟩
theorem d_L_1795 : decode YL.2.1 1795 = .ok (.goto 1681, 3) ∧ ((1795 : Nat) : Int) + 1681 = ((3476 : Nat) : Int) ∧ 1795 + 3 = 1798 := ⟨dB_old_26_m41_2_dec_10.2.2.2.2.2.2.2.2.2.2.2.2.2.2.2.2.2.2.2.2.2.2.2.2.2.2.2.1, by decide⟩
theorem d_L_1798 : decode YL.2.1 1798 = .ok (.aload_n 1, 1) ∧ 1798 + 1 = 1799 := ⟨dB_old_26_m41_2_dec_10.2.2.2.2.2.2.2.2.2.2.2.2.2.2.2.2.2.2.2.2.2.2.2.2.2.2.2.2.1, by decide⟩
theorem d_L_1799 : decode YL.2.1 1799 = .ok (.aload_n 0, 1) ∧ 1799 + 1 = 1800 := ⟨dB_old_26_m41_2_dec_10.2.2.2.2.2.2.2.2.2.2.2.2.2.2.2.2.2.2.2.2.2.2.2.2.2.2.2.2.2.1, by decide⟩
theorem dB_old_26_m41_2_dec_11 : dAll YL.2.1 [(1800, (.iload_n 3, 1)), (1801, (.iconst 1, 1)), (1802, (.iadd, 1)), (1803, (.iaload, 1)), (1804, (.invokevirtual 171, 3)), (1807, (.pop, 1)), (1808, (.aload_n 2, 1)), (1809, (.aload_n 0, 1)), (1810, (.iload_n 3, 1)), (1811, (.iconst 1, 1)), (1812, (.iadd, 1)), (1813, (.iaload, 1)), (1814, (.invokevirtual 174, 3)), (1817, (.pop, 1)), (1818, (.goto 1658, 3)), (1821, (.aload_n 1, 1)), (1822, (.aload_n 0, 1)), (1823, (.iload_n 3, 1)), (1824, (.iconst 1, 1)), (1825, (.iadd, 1)), (1826, (.iaload, 1)), (1827, (.invokevirtual 175, 3)), (1830, (.pop, 1)), (1831, (.aload_n 2, 1)), (1832, (.aload_n 0, 1)), (1833, (.iload_n 3, 1)), (1834, (.iconst 1, 1)), (1835, (.iadd, 1)), (1836, (.iaload, 1)), (1837, (.invokevirtual 178, 3))] := dAll_of (by decide +kernel)
theorem d_L_1800 : decode YL.2.1 1800 = .ok (.iload_n 3, 1) ∧ 1800 + 1 = 1801 := ⟨dB_old_26_m41_2_dec_11.1, by decide⟩
theorem d_L_1801 : decode YL.2.1 1801 = .ok (.iconst 1, 1) ∧ 1801 + 1 = 1802 := ⟨dB_old_26_m41_2_dec_11.2.1, by decide⟩
theorem d_L_1802 : decode YL.2.1 1802 = .ok (.iadd, 1) ∧ 1802 + 1 = 1803 := ⟨dB_old_26_m41_2_dec_11.2.2.1, by decide⟩
theorem d_L_1803 : decode YL.2.1 1803 = .ok (.iaload, 1) ∧ 1803 + 1 = 1804 := ⟨dB_old_26_m41_2_dec_11.2.2.2.1, by decide⟩
theorem d_L_1804 : decode YL.2.1 1804 = .ok (.invokevirtual 171, 3) ∧ 1804 + 3 = 1807 := ⟨dB_old_26_m41_2_dec_11.2.2.2.2.1, by decide⟩
theorem d_L_1807 : decode YL.2.1 1807 = .ok (.pop, 1) ∧ 1807 + 1 = 1808 := ⟨dB_old_26_m41_2_dec_11.2.2.2.2.2.1, by decide⟩
theorem d_L_1808 : decode YL.2.1 1808 = .ok (.aload_n 2, 1) ∧ 1808 + 1 = 1809 := ⟨dB_old_26_m41_2_dec_11.2.2.2.2.2.2.1, by decide⟩
theorem d_L_1809 : decode YL.2.1 1809 = .ok (.aload_n 0, 1) ∧ 1809 + 1 = 1810 := ⟨dB_old_26_m41_2_dec_11.2.2.2.2.2.2.2.1, by decide⟩
theorem d_L_1810 : decode YL.2.1 1810 = .ok (.iload_n 3, 1) ∧ 1810 + 1 = 1811 := ⟨dB_old_26_m41_2_dec_11.2.2.2.2.2.2.2.2.1, by decide⟩
theorem d_L_1811 : decode YL.2.1 1811 = .ok (.iconst 1, 1) ∧ 1811 + 1 = 1812 := ⟨dB_old_26_m41_2_dec_11.2.2.2.2.2.2.2.2.2.1, by decide⟩
theorem d_L_1812 : decode YL.2.1 1812 = .ok (.iadd, 1) ∧ 1812 + 1 = 1813 := ⟨dB_old_26_m41_2_dec_11.2.2.2.2.2.2.2.2.2.2.1, by decide⟩
theorem d_L_1813 : decode YL.2.1 1813 = .ok (.iaload, 1) ∧ 1813 + 1 = 1814 := ⟨dB_old_26_m41_2_dec_11.2.2.2.2.2.2.2.2.2.2.2.1, by decide⟩
theorem d_L_1814 : decode YL.2.1 1814 = .ok (.invokevirtual 174, 3) ∧ 1814 + 3 = 1817 := ⟨dB_old_26_m41_2_dec_11.2.2.2.2.2.2.2.2.2.2.2.2.1, by decide⟩
theorem d_L_1817 : decode YL.2.1 1817 = .ok (.pop, 1) ∧ 1817 + 1 = 1818 := ⟨dB_old_26_m41_2_dec_11.2.2.2.2.2.2.2.2.2.2.2.2.2.1, by decide⟩
theorem d_L_1818 : decode YL.2.1 1818 = .ok (.goto 1658, 3) ∧ ((1818 : Nat) : Int) + 1658 = ((3476 : Nat) : Int) ∧ 1818 + 3 = 1821 := ⟨dB_old_26_m41_2_dec_11.2.2.2.2.2.2.2.2.2.2.2.2.2.2.1, by decide⟩
theorem d_L_1821 : decode YL.2.1 1821 = .ok (.aload_n 1, 1) ∧ 1821 + 1 = 1822 := ⟨dB_old_26_m41_2_dec_11.2.2.2.2.2.2.2.2.2.2.2.2.2.2.2.1, by decide⟩
theorem d_L_1822 : decode YL.2.1 1822 = .ok (.aload_n 0, 1) ∧ 1822 + 1 = 1823 := ⟨dB_old_26_m41_2_dec_11.2.2.2.2.2.2.2.2.2.2.2.2.2.2.2.2.1, by decide⟩
theorem d_L_1823 : decode YL.2.1 1823 = .ok (.iload_n 3, 1) ∧ 1823 + 1 = 1824 := ⟨dB_old_26_m41_2_dec_11.2.2.2.2.2.2.2.2.2.2.2.2.2.2.2.2.2.1, by decide⟩
theorem d_L_1824 : decode YL.2.1 1824 = .ok (.iconst 1, 1) ∧ 1824 + 1 = 1825 := ⟨dB_old_26_m41_2_dec_11.2.2.2.2.2.2.2.2.2.2.2.2.2.2.2.2.2.2.1, by decide⟩
theorem d_L_1825 : decode YL.2.1 1825 = .ok (.iadd, 1) ∧ 1825 + 1 = 1826 := ⟨dB_old_26_m41_2_dec_11.2.2.2.2.2.2.2.2.2.2.2.2.2.2.2.2.2.2.2.1, by decide⟩
theorem d_L_1826 : decode YL.2.1 1826 = .ok (.iaload, 1) ∧ 1826 + 1 = 1827 := ⟨dB_old_26_m41_2_dec_11.2.2.2.2.2.2.2.2.2.2.2.2.2.2.2.2.2.2.2.2.1, by decide⟩
theorem d_L_1827 : decode YL.2.1 1827 = .ok (.invokevirtual 175, 3) ∧ 1827 + 3 = 1830 := ⟨dB_old_26_m41_2_dec_11.2.2.2.2.2.2.2.2.2.2.2.2.2.2.2.2.2.2.2.2.2.1, by decide⟩
theorem d_L_1830 : decode YL.2.1 1830 = .ok (.pop, 1) ∧ 1830 + 1 = 1831 := ⟨dB_old_26_m41_2_dec_11.2.2.2.2.2.2.2.2.2.2.2.2.2.2.2.2.2.2.2.2.2.2.1, by decide⟩
theorem d_L_1831 : decode YL.2.1 1831 = .ok (.aload_n 2, 1) ∧ 1831 + 1 = 1832 := ⟨dB_old_26_m41_2_dec_11.2.2.2.2.2.2.2.2.2.2.2.2.2.2.2.2.2.2.2.2.2.2.2.1, by decide⟩
theorem d_L_1832 : decode YL.2.1 1832 = .ok (.aload_n 0, 1) ∧ 1832 + 1 = 1833 := ⟨dB_old_26_m41_2_dec_11.2.2.2.2.2.2.2.2.2.2.2.2.2.2.2.2.2.2.2.2.2.2.2.2.1, by decide⟩
theorem d_L_1833 : decode YL.2.1 1833 = .ok (.iload_n 3, 1) ∧ 1833 + 1 = 1834 := ⟨dB_old_26_m41_2_dec_11.2.2.2.2.2.2.2.2.2.2.2.2.2.2.2.2.2.2.2.2.2.2.2.2.2.1, by decide⟩
theorem d_L_1834 : decode YL.2.1 1834 = .ok (.iconst 1, 1) ∧ 1834 + 1 = 1835 := ⟨dB_old_26_m41_2_dec_11.2.2.2.2.2.2.2.2.2.2.2.2.2.2.2.2.2.2.2.2.2.2.2.2.2.2.1, by decide⟩
theorem d_L_1835 : decode YL.2.1 1835 = .ok (.iadd, 1) ∧ 1835 + 1 = 1836 := ⟨dB_old_26_m41_2_dec_11.2.2.2.2.2.2.2.2.2.2.2.2.2.2.2.2.2.2.2.2.2.2.2.2.2.2.2.1, by decide⟩
theorem d_L_1836 : decode YL.2.1 1836 = .ok (.iaload, 1) ∧ 1836 + 1 = 1837 := ⟨dB_old_26_m41_2_dec_11.2.2.2.2.2.2.2.2.2.2.2.2.2.2.2.2.2.2.2.2.2.2.2.2.2.2.2.2.1, by decide⟩
theorem d_L_1837 : decode YL.2.1 1837 = .ok (.invokevirtual 178, 3) ∧ 1837 + 3 = 1840 := ⟨dB_old_26_m41_2_dec_11.2.2.2.2.2.2.2.2.2.2.2.2.2.2.2.2.2.2.2.2.2.2.2.2.2.2.2.2.2.1, by decide⟩
theorem dB_old_26_m41_2_dec_12 : dAll YL.2.1 [(1840, (.pop, 1)), (1841, (.goto 1635, 3)), (1844, (.aload_n 1, 1)), (1845, (.aload_n 0, 1)), (1846, (.iload_n 3, 1)), (1847, (.iconst 1, 1)), (1848, (.iadd, 1)), (1849, (.iaload, 1)), (1850, (.aload_n 0, 1)), (1851, (.iload_n 3, 1)), (1852, (.iconst 2, 1)), (1853, (.iadd, 1)), (1854, (.iaload, 1)), (1855, (.invokevirtual 179, 3)), (1858, (.pop, 1)), (1859, (.aload_n 2, 1)), (1860, (.aload_n 0, 1)), (1861, (.iload_n 3, 1)), (1862, (.iconst 1, 1)), (1863, (.iadd, 1)), (1864, (.iaload, 1)), (1865, (.aload_n 0, 1)), (1866, (.iload_n 3, 1)), (1867, (.iconst 2, 1)), (1868, (.iadd, 1)), (1869, (.iaload, 1)), (1870, (.invokevirtual 182, 3)), (1873, (.pop, 1)), (1874, (.goto 1602, 3)), (1877, (.aload_n 1, 1))] := dAll_of (by decide +kernel)
theorem d_L_1840 : decode YL.2.1 1840 = .ok (.pop, 1) ∧ 1840 + 1 = 1841 := ⟨dB_old_26_m41_2_dec_12.1, by decide⟩
theorem d_L_1841 : decode YL.2.1 1841 = .ok (.goto 1635, 3) ∧ ((1841 : Nat) : Int) + 1635 = ((3476 : Nat) : Int) ∧ 1841 + 3 = 1844 := ⟨dB_old_26_m41_2_dec_12.2.1, by decide⟩
theorem d_L_1844 : decode YL.2.1 1844 = .ok (.aload_n 1, 1) ∧ 1844 + 1 = 1845 := ⟨dB_old_26_m41_2_dec_12.2.2.1, by decide⟩
theorem d_L_1845 : decode YL.2.1 1845 = .ok (.aload_n 0, 1) ∧ 1845 + 1 = 1846 := ⟨dB_old_26_m41_2_dec_12.2.2.2.1, by decide⟩
theorem d_L_1846 : decode YL.2.1 1846 = .ok (.iload_n 3, 1) ∧ 1846 + 1 = 1847 := ⟨dB_old_26_m41_2_dec_12.2.2.2.2.1, by decide⟩
theorem d_L_1847 : decode YL.2.1 1847 = .ok (.iconst 1, 1) ∧ 1847 + 1 = 1848 := ⟨dB_old_26_m41_2_dec_12.2.2.2.2.2.1, by decide⟩
theorem d_L_1848 : decode YL.2.1 1848 = .ok (.iadd, 1) ∧ 1848 + 1 = 1849 := ⟨dB_old_26_m41_2_dec_12.2.2.2.2.2.2.1, by decide⟩
theorem d_L_1849 : decode YL.2.1 1849 = .ok (.iaload, 1) ∧ 1849 + 1 = 1850 := ⟨dB_old_26_m41_2_dec_12.2.2.2.2.2.2.2.1, by decide⟩
theorem d_L_1850 : decode YL.2.1 1850 = .ok (.aload_n 0, 1) ∧ 1850 + 1 = 1851 := ⟨dB_old_26_m41_2_dec_12.2.2.2.2.2.2.2.2.1, by decide⟩
theorem d_L_1851 : decode YL.2.1 1851 = .ok (.iload_n 3, 1) ∧ 1851 + 1 = 1852 := ⟨dB_old_26_m41_2_dec_12.2.2.2.2.2.2.2.2.2.1, by decide⟩
theorem d_L_1852 : decode YL.2.1 1852 = .ok (.iconst 2, 1) ∧ 1852 + 1 = 1853 := ⟨dB_old_26_m41_2_dec_12.2.2.2.2.2.2.2.2.2.2.1, by decide⟩
theorem d_L_1853 : decode YL.2.1 1853 = .ok (.iadd, 1) ∧ 1853 + 1 = 1854 := ⟨dB_old_26_m41_2_dec_12.2.2.2.2.2.2.2.2.2.2.2.1, by decide⟩
theorem d_L_1854 : decode YL.2.1 1854 = .ok (.iaload, 1) ∧ 1854 + 1 = 1855 := ⟨dB_old_26_m41_2_dec_12.2.2.2.2.2.2.2.2.2.2.2.2.1, by decide⟩
theorem d_L_1855 : decode YL.2.1 1855 = .ok (.invokevirtual 179, 3) ∧ 1855 + 3 = 1858 := ⟨dB_old_26_m41_2_dec_12.2.2.2.2.2.2.2.2.2.2.2.2.2.1, by decide⟩
theorem d_L_1858 : decode YL.2.1 1858 = .ok (.pop, 1) ∧ 1858 + 1 = 1859 := ⟨dB_old_26_m41_2_dec_12.2.2.2.2.2.2.2.2.2.2.2.2.2.2.1, by decide⟩
theorem d_L_1859 : decode YL.2.1 1859 = .ok (.aload_n 2, 1) ∧ 1859 + 1 = 1860 := ⟨dB_old_26_m41_2_dec_12.2.2.2.2.2.2.2.2.2.2.2.2.2.2.2.1, by decide⟩
theorem d_L_1860 : decode YL.2.1 1860 = .ok (.aload_n 0, 1) ∧ 1860 + 1 = 1861 := ⟨dB_old_26_m41_2_dec_12.2.2.2.2.2.2.2.2.2.2.2.2.2.2.2.2.1, by decide⟩
theorem d_L_1861 : decode YL.2.1 1861 = .ok (.iload_n 3, 1) ∧ 1861 + 1 = 1862 := ⟨dB_old_26_m41_2_dec_12.2.2.2.2.2.2.2.2.2.2.2.2.2.2.2.2.2.1, by decide⟩
theorem d_L_1862 : decode YL.2.1 1862 = .ok (.iconst 1, 1) ∧ 1862 + 1 = 1863 := ⟨dB_old_26_m41_2_dec_12.2.2.2.2.2.2.2.2.2.2.2.2.2.2.2.2.2.2.1, by decide⟩
theorem d_L_1863 : decode YL.2.1 1863 = .ok (.iadd, 1) ∧ 1863 + 1 = 1864 := ⟨dB_old_26_m41_2_dec_12.2.2.2.2.2.2.2.2.2.2.2.2.2.2.2.2.2.2.2.1, by decide⟩
theorem d_L_1864 : decode YL.2.1 1864 = .ok (.iaload, 1) ∧ 1864 + 1 = 1865 := ⟨dB_old_26_m41_2_dec_12.2.2.2.2.2.2.2.2.2.2.2.2.2.2.2.2.2.2.2.2.1, by decide⟩
theorem d_L_1865 : decode YL.2.1 1865 = .ok (.aload_n 0, 1) ∧ 1865 + 1 = 1866 := ⟨dB_old_26_m41_2_dec_12.2.2.2.2.2.2.2.2.2.2.2.2.2.2.2.2.2.2.2.2.2.1, by decide⟩
theorem d_L_1866 : decode YL.2.1 1866 = .ok (.iload_n 3, 1) ∧ 1866 + 1 = 1867 := ⟨dB_old_26_m41_2_dec_12.2.2.2.2.2.2.2.2.2.2.2.2.2.2.2.2.2.2.2.2.2.2.1, by decide⟩
theorem d_L_1867 : decode YL.2.1 1867 = .ok (.iconst 2, 1) ∧ 1867 + 1 = 1868 := ⟨dB_old_26_m41_2_dec_12.2.2.2.2.2.2.2.2.2.2.2.2.2.2.2.2.2.2.2.2.2.2.2.1, by decide⟩
theorem d_L_1868 : decode YL.2.1 1868 = .ok (.iadd, 1) ∧ 1868 + 1 = 1869 := ⟨dB_old_26_m41_2_dec_12.2.2.2.2.2.2.2.2.2.2.2.2.2.2.2.2.2.2.2.2.2.2.2.2.1, by decide⟩
theorem d_L_1869 : decode YL.2.1 1869 = .ok (.iaload, 1) ∧ 1869 + 1 = 1870 := ⟨dB_old_26_m41_2_dec_12.2.2.2.2.2.2.2.2.2.2.2.2.2.2.2.2.2.2.2.2.2.2.2.2.2.1, by decide⟩
theorem d_L_1870 : decode YL.2.1 1870 = .ok (.invokevirtual 182, 3) ∧ 1870 + 3 = 1873 := ⟨dB_old_26_m41_2_dec_12.2.2.2.2.2.2.2.2.2.2.2.2.2.2.2.2.2.2.2.2.2.2.2.2.2.2.1, by decide⟩
theorem d_L_1873 : decode YL.2.1 1873 = .ok (.pop, 1) ∧ 1873 + 1 = 1874 := ⟨dB_old_26_m41_2_dec_12.2.2.2.2.2.2.2.2.2.2.2.2.2.2.2.2.2.2.2.2.2.2.2.2.2.2.2.1, by decide⟩
theorem d_L_1874 : decode YL.2.1 1874 = .ok (.goto 1602, 3) ∧ ((1874 : Nat) : Int) + 1602 = ((3476 : Nat) : Int) ∧ 1874 + 3 = 1877 := ⟨dB_old_26_m41_2_dec_12.2.2.2.2.2.2.2.2.2.2.2.2.2.2.2.2.2.2.2.2.2.2.2.2.2.2.2.2.1, by decide⟩
theorem d_L_1877 : decode YL.2.1 1877 = .ok (.aload_n 1, 1) ∧ 1877 + 1 = 1878 := ⟨dB_old_26_m41_2_dec_12.2.2.2.2.2.2.2.2.2.2.2.2.2.2.2.2.2.2.2.2.2.2.2.2.2.2.2.2.2.1, by decide⟩
theorem dB_old_26_m41_2_dec_13 : dAll YL.2.1 [(1878, (.aload_n 0, 1)), (1879, (.iload_n 3, 1)), (1880, (.iconst 1, 1)), (1881, (.iadd, 1)), (1882, (.iaload, 1)), (1883, (.aload_n 0, 1)), (1884, (.iload_n 3, 1)), (1885, (.iconst 2, 1)), (1886, (.iadd, 1)), (1887, (.iaload, 1)), (1888, (.invokevirtual 183, 3)), (1891, (.pop, 1)), (1892, (.aload_n 2, 1)), (1893, (.aload_n 0, 1)), (1894, (.iload_n 3, 1)), (1895, (.iconst 1, 1)), (1896, (.iadd, 1)), (1897, (.iaload, 1)), (1898, (.aload_n 0, 1)), (1899, (.iload_n 3, 1)), (1900, (.iconst 2, 1)), (1901, (.iadd, 1)), (1902, (.iaload, 1)), (1903, (.invokevirtual 186, 3)), (1906, (.pop, 1)), (1907, (.goto 1569, 3)), (1910, (.aload_n 1, 1)), (1911, (.aload_n 0, 1)), (1912, (.iload_n 3, 1)), (1913, (.iconst 1, 1))] := dAll_of (by decide +kernel)
theorem d_L_1878 : decode YL.2.1 1878 = .ok (.aload_n 0, 1) ∧ 1878 + 1 = 1879 := ⟨dB_old_26_m41_2_dec_13.1, by decide⟩
theorem d_L_1879 : decode YL.2.1 1879 = .ok (.iload_n 3, 1) ∧ 1879 + 1 = 1880 := ⟨dB_old_26_m41_2_dec_13.2.1, by decide⟩
theorem d_L_1880 : decode YL.2.1 1880 = .ok (.iconst 1, 1) ∧ 1880 + 1 = 1881 := ⟨dB_old_26_m41_2_dec_13.2.2.1, by decide⟩
theorem d_L_1881 : decode YL.2.1 1881 = .ok (.iadd, 1) ∧ 1881 + 1 = 1882 := ⟨dB_old_26_m41_2_dec_13.2.2.2.1, by decide⟩
theorem d_L_1882 : decode YL.2.1 1882 = .ok (.iaload, 1) ∧ 1882 + 1 = 1883 := ⟨dB_old_26_m41_2_dec_13.2.2.2.2.1, by decide⟩
theorem d_L_1883 : decode YL.2.1 1883 = .ok (.aload_n 0, 1) ∧ 1883 + 1 = 1884 := ⟨dB_old_26_m41_2_dec_13.2.2.2.2.2.1, by decide⟩
theorem d_L_1884 : decode YL.2.1 1884 = .ok (.iload_n 3, 1) ∧ 1884 + 1 = 1885 := ⟨dB_old_26_m41_2_dec_13.2.2.2.2.2.2.1, by decide⟩
theorem d_L_1885 : decode YL.2.1 1885 = .ok (.iconst 2, 1) ∧ 1885 + 1 = 1886 := ⟨dB_old_26_m41_2_dec_13.2.2.2.2.2.2.2.1, by decide⟩
theorem d_L_1886 : decode YL.2.1 1886 = .ok (.iadd, 1) ∧ 1886 + 1 = 1887 := ⟨dB_old_26_m41_2_dec_13.2.2.2.2.2.2.2.2.1, by decide⟩
theorem d_L_1887 : decode YL.2.1 1887 = .ok (.iaload, 1) ∧ 1887 + 1 = 1888 := ⟨dB_old_26_m41_2_dec_13.2.2.2.2.2.2.2.2.2.1, by decide⟩
theorem d_L_1888 : decode YL.2.1 1888 = .ok (.invokevirtual 183, 3) ∧ 1888 + 3 = 1891 := ⟨dB_old_26_m41_2_dec_13.2.2.2.2.2.2.2.2.2.2.1, by decide⟩
theorem d_L_1891 : decode YL.2.1 1891 = .ok (.pop, 1) ∧ 1891 + 1 = 1892 := ⟨dB_old_26_m41_2_dec_13.2.2.2.2.2.2.2.2.2.2.2.1, by decide⟩
theorem d_L_1892 : decode YL.2.1 1892 = .ok (.aload_n 2, 1) ∧ 1892 + 1 = 1893 := ⟨dB_old_26_m41_2_dec_13.2.2.2.2.2.2.2.2.2.2.2.2.1, by decide⟩
theorem d_L_1893 : decode YL.2.1 1893 = .ok (.aload_n 0, 1) ∧ 1893 + 1 = 1894 := ⟨dB_old_26_m41_2_dec_13.2.2.2.2.2.2.2.2.2.2.2.2.2.1, by decide⟩
theorem d_L_1894 : decode YL.2.1 1894 = .ok (.iload_n 3, 1) ∧ 1894 + 1 = 1895 := ⟨dB_old_26_m41_2_dec_13.2.2.2.2.2.2.2.2.2.2.2.2.2.2.1, by decide⟩
theorem d_L_1895 : decode YL.2.1 1895 = .ok (.iconst 1, 1) ∧ 1895 + 1 = 1896 := ⟨dB_old_26_m41_2_dec_13.2.2.2.2.2.2.2.2.2.2.2.2.2.2.2.1, by decide⟩
theorem d_L_1896 : decode YL.2.1 1896 = .ok (.iadd, 1) ∧ 1896 + 1 = 1897 := ⟨dB_old_26_m41_2_dec_13.2.2.2.2.2.2.2.2.2.2.2.2.2.2.2.2.1, by decide⟩
theorem d_L_1897 : decode YL.2.1 1897 = .ok (.iaload, 1) ∧ 1897 + 1 = 1898 := ⟨dB_old_26_m41_2_dec_13.2.2.2.2.2.2.2.2.2.2.2.2.2.2.2.2.2.1, by decide⟩
theorem d_L_1898 : decode YL.2.1 1898 = .ok (.aload_n 0, 1) ∧ 1898 + 1 = 1899 := ⟨dB_old_26_m41_2_dec_13.2.2.2.2.2.2.2.2.2.2.2.2.2.2.2.2.2.2.1, by decide⟩
theorem d_L_1899 : decode YL.2.1 1899 = .ok (.iload_n 3, 1) ∧ 1899 + 1 = 1900 := ⟨dB_old_26_m41_2_dec_13.2.2.2.2.2.2.2.2.2.2.2.2.2.2.2.2.2.2.2.1, by decide⟩
theorem d_L_1900 : decode YL.2.1 1900 = .ok (.iconst 2, 1) ∧ 1900 + 1 = 1901 := ⟨dB_old_26_m41_2_dec_13.2.2.2.2.2.2.2.2.2.2.2.2.2.2.2.2.2.2.2.2.1, by decide⟩
theorem d_L_1901 : decode YL.2.1 1901 = .ok (.iadd, 1) ∧ 1901 + 1 = 1902 := ⟨dB_old_26_m41_2_dec_13.2.2.2.2.2.2.2.2.2.2.2.2.2.2.2.2.2.2.2.2.2.1, by decide⟩
theorem d_L_1902 : decode YL.2.1 1902 = .ok (.iaload, 1) ∧ 1902 + 1 = 1903 := ⟨dB_old_26_m41_2_dec_13.2.2.2.2.2.2.2.2.2.2.2.2.2.2.2.2.2.2.2.2.2.2.1, by decide⟩
theorem d_L_1903 : decode YL.2.1 1903 = .ok (.invokevirtual 186, 3) ∧ 1903 + 3 = 1906 := ⟨dB_old_26_m41_2_dec_13.2.2.2.2.2.2.2.2.2.2.2.2.2.2.2.2.2.2.2.2.2.2.2.1, by decide⟩
theorem d_L_1906 : decode YL.2.1 1906 = .ok (.pop, 1) ∧ 1906 + 1 = 1907 := ⟨dB_old_26_m41_2_dec_13.2.2.2.2.2.2.2.2.2.2.2.2.2.2.2.2.2.2.2.2.2.2.2.2.1, by decide⟩
theorem d_L_1907 : decode YL.2.1 1907 = .ok (.goto 1569, 3) ∧ ((1907 : Nat) : Int) + 1569 = ((3476 : Nat) : Int) ∧ 1907 + 3 = 1910 := ⟨dB_old_26_m41_2_dec_13.2.2.2.2.2.2.2.2.2.2.2.2.2.2.2.2.2.2.2.2.2.2.2.2.2.1, by decide⟩
theorem d_L_1910 : decode YL.2.1 1910 = .ok (.aload_n 1, 1) ∧ 1910 + 1 = 1911 := ⟨dB_old_26_m41_2_dec_13.2.2.2.2.2.2.2.2.2.2.2.2.2.2.2.2.2.2.2.2.2.2.2.2.2.2.1, by decide⟩
theorem d_L_1911 : decode YL.2.1 1911 = .ok (.aload_n 0, 1) ∧ 1911 + 1 = 1912 := ⟨dB_old_26_m41_2_dec_13.2.2.2.2.2.2.2.2.2.2.2.2.2.2.2.2.2.2.2.2.2.2.2.2.2.2.2.1, by decide⟩
theorem d_L_1912 : decode YL.2.1 1912 = .ok (.iload_n 3, 1) ∧ 1912 + 1 = 1913 := ⟨dB_old_26_m41_2_dec_13.2.2.2.2.2.2.2.2.2.2.2.2.2.2.2.2.2.2.2.2.2.2.2.2.2.2.2.2.1, by decide⟩
theorem d_L_1913 : decode YL.2.1 1913 = .ok (.iconst 1, 1) ∧ 1913 + 1 = 1914 := ⟨dB_old_26_m41_2_dec_13.2.2.2.2.2.2.2.2.2.2.2.2.2.2.2.2.2.2.2.2.2.2.2.2.2.2.2.2.2.1, by decide⟩
theorem dB_old_26_m41_2_dec_14 : dAll YL.2.1 [(1914, (.iadd, 1)), (1915, (.iaload, 1)), (1916, (.aload_n 0, 1)), (1917, (.iload_n 3, 1)), (1918, (.iconst 2, 1)), (1919, (.iadd, 1)), (1920, (.iaload, 1)), (1921, (.aload_n 0, 1)), (1922, (.iload_n 3, 1)), (1923, (.iconst 3, 1))] := dAll_of (by decide +kernel)
theorem d_L_1914 : decode YL.2.1 1914 = .ok (.iadd, 1) ∧ 1914 + 1 = 1915 := ⟨dB_old_26_m41_2_dec_14.1, by decide⟩
theorem d_L_1915 : decode YL.2.1 1915 = .ok (.iaload, 1) ∧ 1915 + 1 = 1916 := ⟨dB_old_26_m41_2_dec_14.2.1, by decide⟩
theorem d_L_1916 : decode YL.2.1 1916 = .ok (.aload_n 0, 1) ∧ 1916 + 1 = 1917 := ⟨dB_old_26_m41_2_dec_14.2.2.1, by decide⟩
theorem d_L_1917 : decode YL.2.1 1917 = .ok (.iload_n 3, 1) ∧ 1917 + 1 = 1918 := ⟨dB_old_26_m41_2_dec_14.2.2.2.1, by decide⟩
theorem d_L_1918 : decode YL.2.1 1918 = .ok (.iconst 2, 1) ∧ 1918 + 1 = 1919 := ⟨dB_old_26_m41_2_dec_14.2.2.2.2.1, by decide⟩
theorem d_L_1919 : decode YL.2.1 1919 = .ok (.iadd, 1) ∧ 1919 + 1 = 1920 := ⟨dB_old_26_m41_2_dec_14.2.2.2.2.2.1, by decide⟩
theorem d_L_1920 : decode YL.2.1 1920 = .ok (.iaload, 1) ∧ 1920 + 1 = 1921 := ⟨dB_old_26_m41_2_dec_14.2.2.2.2.2.2.1, by decide⟩
theorem d_L_1921 : decode YL.2.1 1921 = .ok (.aload_n 0, 1) ∧ 1921 + 1 = 1922 := ⟨dB_old_26_m41_2_dec_14.2.2.2.2.2.2.2.1, by decide⟩
theorem d_L_1922 : decode YL.2.1 1922 = .ok (.iload_n 3, 1) ∧ 1922 + 1 = 1923 := ⟨dB_old_26_m41_2_dec_14.2.2.2.2.2.2.2.2.1, by decide⟩
theorem d_L_1923 : decode YL.2.1 1923 = .ok (.iconst 3, 1) ∧ 1923 + 1 = 1924 := ⟨dB_old_26_m41_2_dec_14.2.2.2.2.2.2.2.2.2.1, by decide⟩
