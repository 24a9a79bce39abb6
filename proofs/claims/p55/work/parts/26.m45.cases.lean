theorem lg_self {r : Int64} : lg_cmp r r = 0 := by simp [lg_cmp]
theorem j_ite (x : Int32) : (if x = 0 then (0 : Int32) else 1) = 0 ∨ (if x = 0 then (0 : Int32) else 1) = 1 := by
  by_cases h : x = 0
  · exact Or.inl (if_pos h)
  · exact Or.inr (if_neg h)
theorem lc_15 {E : xV} {pc pc' : Nat} {lv rest} {σ : zS} {K : xQQ} {p0 : Int32} {p1 : Int64} (d : decode YL.2.1 pc = .ok (.invokevirtual 15, 3) ∧ pc + 3 = pc') (hcat : (rest.map fun v => v.category).sum ≤ 8) (hlv : (lv.all fun q => xokv 215 q.2) = true) (hrs : (rest.all (xokv 215)) = true) (kk : Cz E Y_H_feed [.ref 0, .int p0, .long p1] σ (fun v σ' => Wx E YL pc' lv (v.toList ++ rest) 215 215 100784 (zx σ') K)) : Wx E YL pc lv (.long p1 :: .int p0 :: .ref 0 :: rest) 215 215 100784 (zx σ) K := l_invV (As := [.int p0, .long p1]) (show xM YL.1.cls 15 Y_H_feed 2 from ⟨k_3_112, k_1_1, k_3_115, by decide, by decide, by decide +kernel⟩) k_3_113 k_3_114 (by decide) rfl (by decide) rfl ⟨⟨Nat.le_of_ble_eq_true rfl, Nat.le_of_ble_eq_true rfl⟩, rfl, rfl⟩ ⟨by decide, by decide⟩ d rfl rfl hcat hlv hrs kk
theorem lc_19 {E : xV} {pc pc' : Nat} {lv rest} {σ : zS} {K : xQQ} {p0 : Int32} {p1 : Int64} (d : decode YL.2.1 pc = .ok (.invokevirtual 19, 3) ∧ pc + 3 = pc') (hcat : (rest.map fun v => v.category).sum ≤ 8) (hlv : (lv.all fun q => xokv 215 q.2) = true) (hrs : (rest.all (xokv 215)) = true) (kk : Cz E Y_M_feed [.ref 110, .int p0, .long p1] σ (fun v σ' => Wx E YL pc' lv (v.toList ++ rest) 215 215 100784 (zx σ') K)) : Wx E YL pc lv (.long p1 :: .int p0 :: .ref 110 :: rest) 215 215 100784 (zx σ) K := l_invV (As := [.int p0, .long p1]) (show xM YL.1.cls 19 Y_M_feed 2 from ⟨k_10_147, k_1_12, k_10_150, by decide, by decide, by decide +kernel⟩) k_10_148 k_10_149 (by decide) rfl (by decide) rfl ⟨⟨Nat.le_of_ble_eq_true rfl, Nat.le_of_ble_eq_true rfl⟩, rfl, rfl⟩ ⟨by decide, by decide⟩ d rfl rfl hcat hlv hrs kk
theorem lc_20 {E : xV} {pc pc' : Nat} {lv rest} {σ : zS} {K : xQQ} {p0 : Int32} (d : decode YL.2.1 pc = .ok (.invokevirtual 20, 3) ∧ pc + 3 = pc') (hcat : (rest.map fun v => v.category).sum ≤ 8) (hlv : (lv.all fun q => xokv 215 q.2) = true) (hrs : (rest.all (xokv 215)) = true) (kk : Cz E Y_H_cut [.ref 0, .int p0] σ (fun v σ' => Wx E YL pc' lv (v.toList ++ rest) 215 215 100784 (zx σ') K)) : Wx E YL pc lv (.int p0 :: .ref 0 :: rest) 215 215 100784 (zx σ) K := l_invV (As := [.int p0]) (show xM YL.1.cls 20 Y_H_cut 1 from ⟨k_3_116, k_1_1, k_3_119, by decide, by decide, by decide +kernel⟩) k_3_117 k_3_118 (by decide) rfl (by decide) rfl ⟨⟨Nat.le_of_ble_eq_true rfl, Nat.le_of_ble_eq_true rfl⟩, rfl, rfl⟩ ⟨by decide, by decide⟩ d rfl rfl hcat hlv hrs kk
theorem lc_24 {E : xV} {pc pc' : Nat} {lv rest} {σ : zS} {K : xQQ} {p0 : Int32} (d : decode YL.2.1 pc = .ok (.invokevirtual 24, 3) ∧ pc + 3 = pc') (hcat : (rest.map fun v => v.category).sum ≤ 8) (hlv : (lv.all fun q => xokv 215 q.2) = true) (hrs : (rest.all (xokv 215)) = true) (kk : Cz E Y_M_cut [.ref 110, .int p0] σ (fun v σ' => Wx E YL pc' lv (v.toList ++ rest) 215 215 100784 (zx σ') K)) : Wx E YL pc lv (.int p0 :: .ref 110 :: rest) 215 215 100784 (zx σ) K := l_invV (As := [.int p0]) (show xM YL.1.cls 24 Y_M_cut 1 from ⟨k_10_156, k_1_12, k_10_159, by decide, by decide, by decide +kernel⟩) k_10_157 k_10_158 (by decide) rfl (by decide) rfl ⟨⟨Nat.le_of_ble_eq_true rfl, Nat.le_of_ble_eq_true rfl⟩, rfl, rfl⟩ ⟨by decide, by decide⟩ d rfl rfl hcat hlv hrs kk
theorem lc_25 {E : xV} {pc pc' : Nat} {lv rest} {σ : zS} {K : xQQ} {p0 : Int32} (d : decode YL.2.1 pc = .ok (.invokevirtual 25, 3) ∧ pc + 3 = pc') (hcat : (rest.map fun v => v.category).sum ≤ 8) (hlv : (lv.all fun q => xokv 215 q.2) = true) (hrs : (rest.all (xokv 215)) = true) (kk : Cz E Y_H_tick [.ref 0, .int p0] σ (fun v σ' => Wx E YL pc' lv (v.toList ++ rest) 215 215 100784 (zx σ') K)) : Wx E YL pc lv (.int p0 :: .ref 0 :: rest) 215 215 100784 (zx σ) K := l_invV (As := [.int p0]) (show xM YL.1.cls 25 Y_H_tick 1 from ⟨k_3_120, k_1_1, k_3_123, by decide, by decide, by decide +kernel⟩) k_3_121 k_3_122 (by decide) rfl (by decide) rfl ⟨⟨Nat.le_of_ble_eq_true rfl, Nat.le_of_ble_eq_true rfl⟩, rfl, rfl⟩ ⟨by decide, by decide⟩ d rfl rfl hcat hlv hrs kk
theorem lc_28 {E : xV} {pc pc' : Nat} {lv rest} {σ : zS} {K : xQQ} {p0 : Int32} (d : decode YL.2.1 pc = .ok (.invokevirtual 28, 3) ∧ pc + 3 = pc') (hcat : (rest.map fun v => v.category).sum ≤ 8) (hlv : (lv.all fun q => xokv 215 q.2) = true) (hrs : (rest.all (xokv 215)) = true) (kk : Cz E Y_M_tick [.ref 110, .int p0] σ (fun v σ' => Wx E YL pc' lv (v.toList ++ rest) 215 215 100784 (zx σ') K)) : Wx E YL pc lv (.int p0 :: .ref 110 :: rest) 215 215 100784 (zx σ) K := l_invV (As := [.int p0]) (show xM YL.1.cls 28 Y_M_tick 1 from ⟨k_10_160, k_1_12, k_10_163, by decide, by decide, by decide +kernel⟩) k_10_161 k_10_162 (by decide) rfl (by decide) rfl ⟨⟨Nat.le_of_ble_eq_true rfl, Nat.le_of_ble_eq_true rfl⟩, rfl, rfl⟩ ⟨by decide, by decide⟩ d rfl rfl hcat hlv hrs kk
theorem lc_29 {E : xV} {pc pc' : Nat} {lv rest} {σ : zS} {K : xQQ}  (d : decode YL.2.1 pc = .ok (.invokevirtual 29, 3) ∧ pc + 3 = pc') (hcat : (rest.map fun v => v.category).sum ≤ 8) (hlv : (lv.all fun q => xokv 215 q.2) = true) (hrs : (rest.all (xokv 215)) = true) (kk : Cz E Y_H_person [.ref 0] σ (fun v σ' => Wx E YL pc' lv (v.toList ++ rest) 215 215 100784 (zx σ') K)) : Wx E YL pc lv (.ref 0 :: rest) 215 215 100784 (zx σ) K := l_invV (As := []) (show xM YL.1.cls 29 Y_H_person 0 from ⟨k_3_126, k_1_1, k_3_129, by decide, by decide, by decide +kernel⟩) k_3_127 k_3_128 (by decide) rfl (by decide) rfl ⟨⟨Nat.le_of_ble_eq_true rfl, Nat.le_of_ble_eq_true rfl⟩, rfl, rfl⟩ ⟨by decide, by decide⟩ d rfl rfl hcat hlv hrs kk
theorem lc_33 {E : xV} {pc pc' : Nat} {lv rest} {σ : zS} {K : xQQ}  (d : decode YL.2.1 pc = .ok (.invokevirtual 33, 3) ∧ pc + 3 = pc') (hcat : (rest.map fun v => v.category).sum ≤ 8) (hlv : (lv.all fun q => xokv 215 q.2) = true) (hrs : (rest.all (xokv 215)) = true) (kk : Cz E Y_M_person [.ref 110] σ (fun v σ' => Wx E YL pc' lv (v.toList ++ rest) 215 215 100784 (zx σ') K)) : Wx E YL pc lv (.ref 110 :: rest) 215 215 100784 (zx σ) K := l_invV (As := []) (show xM YL.1.cls 33 Y_M_person 0 from ⟨k_10_193, k_1_12, k_10_196, by decide, by decide, by decide +kernel⟩) k_10_194 k_10_195 (by decide) rfl (by decide) rfl ⟨⟨Nat.le_of_ble_eq_true rfl, Nat.le_of_ble_eq_true rfl⟩, rfl, rfl⟩ ⟨by decide, by decide⟩ d rfl rfl hcat hlv hrs kk
theorem lc_34 {E : xV} {pc pc' : Nat} {lv rest} {σ : zS} {K : xQQ}  (d : decode YL.2.1 pc = .ok (.invokevirtual 34, 3) ∧ pc + 3 = pc') (hcat : (rest.map fun v => v.category).sum ≤ 8) (hlv : (lv.all fun q => xokv 215 q.2) = true) (hrs : (rest.all (xokv 215)) = true) (kk : Cz E Y_H_group [.ref 0] σ (fun v σ' => Wx E YL pc' lv (v.toList ++ rest) 215 215 100784 (zx σ') K)) : Wx E YL pc lv (.ref 0 :: rest) 215 215 100784 (zx σ) K := l_invV (As := []) (show xM YL.1.cls 34 Y_H_group 0 from ⟨k_3_130, k_1_1, k_3_133, by decide, by decide, by decide +kernel⟩) k_3_131 k_3_132 (by decide) rfl (by decide) rfl ⟨⟨Nat.le_of_ble_eq_true rfl, Nat.le_of_ble_eq_true rfl⟩, rfl, rfl⟩ ⟨by decide, by decide⟩ d rfl rfl hcat hlv hrs kk
theorem lc_37 {E : xV} {pc pc' : Nat} {lv rest} {σ : zS} {K : xQQ}  (d : decode YL.2.1 pc = .ok (.invokevirtual 37, 3) ∧ pc + 3 = pc') (hcat : (rest.map fun v => v.category).sum ≤ 8) (hlv : (lv.all fun q => xokv 215 q.2) = true) (hrs : (rest.all (xokv 215)) = true) (kk : Cz E Y_M_group [.ref 110] σ (fun v σ' => Wx E YL pc' lv (v.toList ++ rest) 215 215 100784 (zx σ') K)) : Wx E YL pc lv (.ref 110 :: rest) 215 215 100784 (zx σ) K := l_invV (As := []) (show xM YL.1.cls 37 Y_M_group 0 from ⟨k_10_197, k_1_12, k_10_200, by decide, by decide, by decide +kernel⟩) k_10_198 k_10_199 (by decide) rfl (by decide) rfl ⟨⟨Nat.le_of_ble_eq_true rfl, Nat.le_of_ble_eq_true rfl⟩, rfl, rfl⟩ ⟨by decide, by decide⟩ d rfl rfl hcat hlv hrs kk
theorem lc_38 {E : xV} {pc pc' : Nat} {lv rest} {σ : zS} {K : xQQ} {p0 : Int32} {p1 : Int32} {p2 : Int32} {p3 : Int32} (d : decode YL.2.1 pc = .ok (.invokevirtual 38, 3) ∧ pc + 3 = pc') (hcat : (rest.map fun v => v.category).sum ≤ 8) (hlv : (lv.all fun q => xokv 215 q.2) = true) (hrs : (rest.all (xokv 215)) = true) (kk : Cz E Y_H_put [.ref 0, .int p0, .int p1, .int p2, .int p3] σ (fun v σ' => Wx E YL pc' lv (v.toList ++ rest) 215 215 100784 (zx σ') K)) : Wx E YL pc lv (.int p3 :: .int p2 :: .int p1 :: .int p0 :: .ref 0 :: rest) 215 215 100784 (zx σ) K := l_invV (As := [.int p0, .int p1, .int p2, .int p3]) (show xM YL.1.cls 38 Y_H_put 4 from ⟨k_3_134, k_1_1, k_3_137, by decide, by decide, by decide +kernel⟩) k_3_135 k_3_136 (by decide) rfl (by decide) rfl ⟨⟨Nat.le_of_ble_eq_true rfl, Nat.le_of_ble_eq_true rfl⟩, rfl, rfl⟩ ⟨by decide, by decide⟩ d rfl rfl hcat hlv hrs kk
theorem lc_42 {E : xV} {pc pc' : Nat} {lv rest} {σ : zS} {K : xQQ} {p0 : Int32} {p1 : Int32} {p2 : Int32} {p3 : Int32} (d : decode YL.2.1 pc = .ok (.invokevirtual 42, 3) ∧ pc + 3 = pc') (hcat : (rest.map fun v => v.category).sum ≤ 8) (hlv : (lv.all fun q => xokv 215 q.2) = true) (hrs : (rest.all (xokv 215)) = true) (kk : Cz E Y_M_put [.ref 110, .int p0, .int p1, .int p2, .int p3] σ (fun v σ' => Wx E YL pc' lv (v.toList ++ rest) 215 215 100784 (zx σ') K)) : Wx E YL pc lv (.int p3 :: .int p2 :: .int p1 :: .int p0 :: .ref 110 :: rest) 215 215 100784 (zx σ) K := l_invV (As := [.int p0, .int p1, .int p2, .int p3]) (show xM YL.1.cls 42 Y_M_put 4 from ⟨k_10_201, k_1_12, k_10_204, by decide, by decide, by decide +kernel⟩) k_10_202 k_10_203 (by decide) rfl (by decide) rfl ⟨⟨Nat.le_of_ble_eq_true rfl, Nat.le_of_ble_eq_true rfl⟩, rfl, rfl⟩ ⟨by decide, by decide⟩ d rfl rfl hcat hlv hrs kk
theorem lc_43 {E : xV} {pc pc' : Nat} {lv rest} {σ : zS} {K : xQQ} {p0 : Int32} (d : decode YL.2.1 pc = .ok (.invokevirtual 43, 3) ∧ pc + 3 = pc') (hcat : (rest.map fun v => v.category).sum ≤ 8) (hlv : (lv.all fun q => xokv 215 q.2) = true) (hrs : (rest.all (xokv 215)) = true) (kk : Cz E Y_H_back [.ref 0, .int p0] σ (fun v σ' => Wx E YL pc' lv (v.toList ++ rest) 215 215 100784 (zx σ') K)) : Wx E YL pc lv (.int p0 :: .ref 0 :: rest) 215 215 100784 (zx σ) K := l_invV (As := [.int p0]) (show xM YL.1.cls 43 Y_H_back 1 from ⟨k_3_178, k_1_1, k_3_181, by decide, by decide, by decide +kernel⟩) k_3_179 k_3_180 (by decide) rfl (by decide) rfl ⟨⟨Nat.le_of_ble_eq_true rfl, Nat.le_of_ble_eq_true rfl⟩, rfl, rfl⟩ ⟨by decide, by decide⟩ d rfl rfl hcat hlv hrs kk
theorem lc_46 {E : xV} {pc pc' : Nat} {lv rest} {σ : zS} {K : xQQ} {p0 : Int32} (d : decode YL.2.1 pc = .ok (.invokevirtual 46, 3) ∧ pc + 3 = pc') (hcat : (rest.map fun v => v.category).sum ≤ 8) (hlv : (lv.all fun q => xokv 215 q.2) = true) (hrs : (rest.all (xokv 215)) = true) (kk : Cz E Y_M_back [.ref 110, .int p0] σ (fun v σ' => Wx E YL pc' lv (v.toList ++ rest) 215 215 100784 (zx σ') K)) : Wx E YL pc lv (.int p0 :: .ref 110 :: rest) 215 215 100784 (zx σ) K := l_invV (As := [.int p0]) (show xM YL.1.cls 46 Y_M_back 1 from ⟨k_10_221, k_1_12, k_10_224, by decide, by decide, by decide +kernel⟩) k_10_222 k_10_223 (by decide) rfl (by decide) rfl ⟨⟨Nat.le_of_ble_eq_true rfl, Nat.le_of_ble_eq_true rfl⟩, rfl, rfl⟩ ⟨by decide, by decide⟩ d rfl rfl hcat hlv hrs kk
theorem lc_47 {E : xV} {pc pc' : Nat} {lv rest} {σ : zS} {K : xQQ} {p0 : Int32} {p1 : Int32} {p2 : Int32} {p3 : Int32} (d : decode YL.2.1 pc = .ok (.invokevirtual 47, 3) ∧ pc + 3 = pc') (hcat : (rest.map fun v => v.category).sum ≤ 8) (hlv : (lv.all fun q => xokv 215 q.2) = true) (hrs : (rest.all (xokv 215)) = true) (kk : Cz E Y_H_belongs [.ref 0, .int p0, .int p1, .int p2, .int p3] σ (fun v σ' => Wx E YL pc' lv (v.toList ++ rest) 215 215 100784 (zx σ') K)) : Wx E YL pc lv (.int p3 :: .int p2 :: .int p1 :: .int p0 :: .ref 0 :: rest) 215 215 100784 (zx σ) K := l_invV (As := [.int p0, .int p1, .int p2, .int p3]) (show xM YL.1.cls 47 Y_H_belongs 4 from ⟨k_3_190, k_1_1, k_3_193, by decide, by decide, by decide +kernel⟩) k_3_191 k_3_192 (by decide) rfl (by decide) rfl ⟨⟨Nat.le_of_ble_eq_true rfl, Nat.le_of_ble_eq_true rfl⟩, rfl, rfl⟩ ⟨by decide, by decide⟩ d rfl rfl hcat hlv hrs kk
theorem lc_50 {E : xV} {pc pc' : Nat} {lv rest} {σ : zS} {K : xQQ} {p0 : Int32} {p1 : Int32} {p2 : Int32} {p3 : Int32} (d : decode YL.2.1 pc = .ok (.invokevirtual 50, 3) ∧ pc + 3 = pc') (hcat : (rest.map fun v => v.category).sum ≤ 8) (hlv : (lv.all fun q => xokv 215 q.2) = true) (hrs : (rest.all (xokv 215)) = true) (kk : Cz E Y_M_belongs [.ref 110, .int p0, .int p1, .int p2, .int p3] σ (fun v σ' => Wx E YL pc' lv (v.toList ++ rest) 215 215 100784 (zx σ') K)) : Wx E YL pc lv (.int p3 :: .int p2 :: .int p1 :: .int p0 :: .ref 110 :: rest) 215 215 100784 (zx σ) K := l_invV (As := [.int p0, .int p1, .int p2, .int p3]) (show xM YL.1.cls 50 Y_M_belongs 4 from ⟨k_10_225, k_1_12, k_10_228, by decide, by decide, by decide +kernel⟩) k_10_226 k_10_227 (by decide) rfl (by decide) rfl ⟨⟨Nat.le_of_ble_eq_true rfl, Nat.le_of_ble_eq_true rfl⟩, rfl, rfl⟩ ⟨by decide, by decide⟩ d rfl rfl hcat hlv hrs kk
theorem lc_51 {E : xV} {pc pc' : Nat} {lv rest} {σ : zS} {K : xQQ} {p0 : Int32} {p1 : Int32} (d : decode YL.2.1 pc = .ok (.invokevirtual 51, 3) ∧ pc + 3 = pc') (hcat : (rest.map fun v => v.category).sum ≤ 8) (hlv : (lv.all fun q => xokv 215 q.2) = true) (hrs : (rest.all (xokv 215)) = true) (kk : Cz E Y_H_rowOf [.ref 0, .int p0, .int p1] σ (fun v σ' => Wx E YL pc' lv (v.toList ++ rest) 215 215 100784 (zx σ') K)) : Wx E YL pc lv (.int p1 :: .int p0 :: .ref 0 :: rest) 215 215 100784 (zx σ) K := l_invV (As := [.int p0, .int p1]) (show xM YL.1.cls 51 Y_H_rowOf 2 from ⟨k_3_199, k_1_1, k_3_202, by decide, by decide, by decide +kernel⟩) k_3_200 k_3_201 (by decide) rfl (by decide) rfl ⟨⟨Nat.le_of_ble_eq_true rfl, Nat.le_of_ble_eq_true rfl⟩, rfl, rfl⟩ ⟨by decide, by decide⟩ d rfl rfl hcat hlv hrs kk
theorem lc_55 {E : xV} {pc pc' : Nat} {lv rest} {σ : zS} {K : xQQ} {p0 : Int32} {p1 : Int32} (d : decode YL.2.1 pc = .ok (.invokevirtual 55, 3) ∧ pc + 3 = pc') (hcat : (rest.map fun v => v.category).sum ≤ 8) (hlv : (lv.all fun q => xokv 215 q.2) = true) (hrs : (rest.all (xokv 215)) = true) (kk : Cz E Y_M_rowOf [.ref 110, .int p0, .int p1] σ (fun v σ' => Wx E YL pc' lv (v.toList ++ rest) 215 215 100784 (zx σ') K)) : Wx E YL pc lv (.int p1 :: .int p0 :: .ref 110 :: rest) 215 215 100784 (zx σ) K := l_invV (As := [.int p0, .int p1]) (show xM YL.1.cls 55 Y_M_rowOf 2 from ⟨k_11_1, k_1_12, k_11_4, by decide, by decide, by decide +kernel⟩) k_11_2 k_11_3 (by decide) rfl (by decide) rfl ⟨⟨Nat.le_of_ble_eq_true rfl, Nat.le_of_ble_eq_true rfl⟩, rfl, rfl⟩ ⟨by decide, by decide⟩ d rfl rfl hcat hlv hrs kk
theorem lc_56 {E : xV} {pc pc' : Nat} {lv rest} {σ : zS} {K : xQQ} {p0 : Int32} {p1 : Int32} {p2 : Int32} {p3 : Int32} (d : decode YL.2.1 pc = .ok (.invokevirtual 56, 3) ∧ pc + 3 = pc') (hcat : (rest.map fun v => v.category).sum ≤ 8) (hlv : (lv.all fun q => xokv 215 q.2) = true) (hrs : (rest.all (xokv 215)) = true) (kk : Cz E Y_H_feature [.ref 0, .int p0, .int p1, .int p2, .int p3] σ (fun v σ' => Wx E YL pc' lv (v.toList ++ rest) 215 215 100784 (zx σ') K)) : Wx E YL pc lv (.int p3 :: .int p2 :: .int p1 :: .int p0 :: .ref 0 :: rest) 215 215 100784 (zx σ) K := l_invV (As := [.int p0, .int p1, .int p2, .int p3]) (show xM YL.1.cls 56 Y_H_feature 4 from ⟨k_3_203, k_1_1, k_3_206, by decide, by decide, by decide +kernel⟩) k_3_204 k_3_205 (by decide) rfl (by decide) rfl ⟨⟨Nat.le_of_ble_eq_true rfl, Nat.le_of_ble_eq_true rfl⟩, rfl, rfl⟩ ⟨by decide, by decide⟩ d rfl rfl hcat hlv hrs kk
theorem lc_59 {E : xV} {pc pc' : Nat} {lv rest} {σ : zS} {K : xQQ} {p0 : Int32} {p1 : Int32} {p2 : Int32} {p3 : Int32} (d : decode YL.2.1 pc = .ok (.invokevirtual 59, 3) ∧ pc + 3 = pc') (hcat : (rest.map fun v => v.category).sum ≤ 8) (hlv : (lv.all fun q => xokv 215 q.2) = true) (hrs : (rest.all (xokv 215)) = true) (kk : Cz E Y_M_feature [.ref 110, .int p0, .int p1, .int p2, .int p3] σ (fun v σ' => Wx E YL pc' lv (v.toList ++ rest) 215 215 100784 (zx σ') K)) : Wx E YL pc lv (.int p3 :: .int p2 :: .int p1 :: .int p0 :: .ref 110 :: rest) 215 215 100784 (zx σ) K := l_invV (As := [.int p0, .int p1, .int p2, .int p3]) (show xM YL.1.cls 59 Y_M_feature 4 from ⟨k_11_5, k_1_12, k_11_8, by decide, by decide, by decide +kernel⟩) k_11_6 k_11_7 (by decide) rfl (by decide) rfl ⟨⟨Nat.le_of_ble_eq_true rfl, Nat.le_of_ble_eq_true rfl⟩, rfl, rfl⟩ ⟨by decide, by decide⟩ d rfl rfl hcat hlv hrs kk
theorem lc_60 {E : xV} {pc pc' : Nat} {lv rest} {σ : zS} {K : xQQ} {p0 : Int32} {p1 : Int32} {p2 : Int32} {p3 : Int64} (d : decode YL.2.1 pc = .ok (.invokevirtual 60, 3) ∧ pc + 3 = pc') (hcat : (rest.map fun v => v.category).sum ≤ 8) (hlv : (lv.all fun q => xokv 215 q.2) = true) (hrs : (rest.all (xokv 215)) = true) (kk : Cz E Y_H_item [.ref 0, .int p0, .int p1, .int p2, .long p3] σ (fun v σ' => Wx E YL pc' lv (v.toList ++ rest) 215 215 100784 (zx σ') K)) : Wx E YL pc lv (.long p3 :: .int p2 :: .int p1 :: .int p0 :: .ref 0 :: rest) 215 215 100784 (zx σ) K := l_invV (As := [.int p0, .int p1, .int p2, .long p3]) (show xM YL.1.cls 60 Y_H_item 4 from ⟨k_3_225, k_1_1, k_3_228, by decide, by decide, by decide +kernel⟩) k_3_226 k_3_227 (by decide) rfl (by decide) rfl ⟨⟨Nat.le_of_ble_eq_true rfl, Nat.le_of_ble_eq_true rfl⟩, rfl, rfl⟩ ⟨by decide, by decide⟩ d rfl rfl hcat hlv hrs kk
theorem lc_64 {E : xV} {pc pc' : Nat} {lv rest} {σ : zS} {K : xQQ} {p0 : Int32} {p1 : Int32} {p2 : Int32} {p3 : Int64} (d : decode YL.2.1 pc = .ok (.invokevirtual 64, 3) ∧ pc + 3 = pc') (hcat : (rest.map fun v => v.category).sum ≤ 8) (hlv : (lv.all fun q => xokv 215 q.2) = true) (hrs : (rest.all (xokv 215)) = true) (kk : Cz E Y_M_item [.ref 110, .int p0, .int p1, .int p2, .long p3] σ (fun v σ' => Wx E YL pc' lv (v.toList ++ rest) 215 215 100784 (zx σ') K)) : Wx E YL pc lv (.long p3 :: .int p2 :: .int p1 :: .int p0 :: .ref 110 :: rest) 215 215 100784 (zx σ) K := l_invV (As := [.int p0, .int p1, .int p2, .long p3]) (show xM YL.1.cls 64 Y_M_item 4 from ⟨k_11_19, k_1_12, k_11_22, by decide, by decide, by decide +kernel⟩) k_11_20 k_11_21 (by decide) rfl (by decide) rfl ⟨⟨Nat.le_of_ble_eq_true rfl, Nat.le_of_ble_eq_true rfl⟩, rfl, rfl⟩ ⟨by decide, by decide⟩ d rfl rfl hcat hlv hrs kk
theorem lc_65 {E : xV} {pc pc' : Nat} {lv rest} {σ : zS} {K : xQQ} {p0 : Int32} {p1 : Int32} {p2 : Int32} {p3 : Int32} (d : decode YL.2.1 pc = .ok (.invokevirtual 65, 3) ∧ pc + 3 = pc') (hcat : (rest.map fun v => v.category).sum ≤ 8) (hlv : (lv.all fun q => xokv 215 q.2) = true) (hrs : (rest.all (xokv 215)) = true) (kk : Cz E Y_H_itemOf [.ref 0, .int p0, .int p1, .int p2, .int p3] σ (fun v σ' => Wx E YL pc' lv (v.toList ++ rest) 215 215 100784 (zx σ') K)) : Wx E YL pc lv (.int p3 :: .int p2 :: .int p1 :: .int p0 :: .ref 0 :: rest) 215 215 100784 (zx σ) K := l_invV (As := [.int p0, .int p1, .int p2, .int p3]) (show xM YL.1.cls 65 Y_H_itemOf 4 from ⟨k_3_239, k_1_1, k_4_2, by decide, by decide, by decide +kernel⟩) k_4_0 k_4_1 (by decide) rfl (by decide) rfl ⟨⟨Nat.le_of_ble_eq_true rfl, Nat.le_of_ble_eq_true rfl⟩, rfl, rfl⟩ ⟨by decide, by decide⟩ d rfl rfl hcat hlv hrs kk
theorem lc_69 {E : xV} {pc pc' : Nat} {lv rest} {σ : zS} {K : xQQ} {p0 : Int32} {p1 : Int32} {p2 : Int32} {p3 : Int32} (d : decode YL.2.1 pc = .ok (.invokevirtual 69, 3) ∧ pc + 3 = pc') (hcat : (rest.map fun v => v.category).sum ≤ 8) (hlv : (lv.all fun q => xokv 215 q.2) = true) (hrs : (rest.all (xokv 215)) = true) (kk : Cz E Y_M_itemOf [.ref 110, .int p0, .int p1, .int p2, .int p3] σ (fun v σ' => Wx E YL pc' lv (v.toList ++ rest) 215 215 100784 (zx σ') K)) : Wx E YL pc lv (.int p3 :: .int p2 :: .int p1 :: .int p0 :: .ref 110 :: rest) 215 215 100784 (zx σ) K := l_invV (As := [.int p0, .int p1, .int p2, .int p3]) (show xM YL.1.cls 69 Y_M_itemOf 4 from ⟨k_11_29, k_1_12, k_11_32, by decide, by decide, by decide +kernel⟩) k_11_30 k_11_31 (by decide) rfl (by decide) rfl ⟨⟨Nat.le_of_ble_eq_true rfl, Nat.le_of_ble_eq_true rfl⟩, rfl, rfl⟩ ⟨by decide, by decide⟩ d rfl rfl hcat hlv hrs kk
theorem lc_70 {E : xV} {pc pc' : Nat} {lv rest} {σ : zS} {K : xQQ} {p0 : Int32} {p1 : Int32} {p2 : Int32} {p3 : Int32} {p4 : Int32} {p5 : Int32} {p6 : Int32} (d : decode YL.2.1 pc = .ok (.invokevirtual 70, 3) ∧ pc + 3 = pc') (hcat : (rest.map fun v => v.category).sum ≤ 8) (hlv : (lv.all fun q => xokv 215 q.2) = true) (hrs : (rest.all (xokv 215)) = true) (kk : Cz E Y_H_copy [.ref 0, .int p0, .int p1, .int p2, .int p3, .int p4, .int p5, .int p6] σ (fun v σ' => Wx E YL pc' lv (v.toList ++ rest) 215 215 100784 (zx σ') K)) : Wx E YL pc lv (.int p6 :: .int p5 :: .int p4 :: .int p3 :: .int p2 :: .int p1 :: .int p0 :: .ref 0 :: rest) 215 215 100784 (zx σ) K := l_invV (As := [.int p0, .int p1, .int p2, .int p3, .int p4, .int p5, .int p6]) (show xM YL.1.cls 70 Y_H_copy 7 from ⟨k_4_7, k_1_1, k_4_10, by decide, by decide, by decide +kernel⟩) k_4_8 k_4_9 (by decide) rfl (by decide) rfl ⟨⟨Nat.le_of_ble_eq_true rfl, Nat.le_of_ble_eq_true rfl⟩, rfl, rfl⟩ ⟨by decide, by decide⟩ d rfl rfl hcat hlv hrs kk
theorem lc_74 {E : xV} {pc pc' : Nat} {lv rest} {σ : zS} {K : xQQ} {p0 : Int32} {p1 : Int32} {p2 : Int32} {p3 : Int32} {p4 : Int32} {p5 : Int32} {p6 : Int32} (d : decode YL.2.1 pc = .ok (.invokevirtual 74, 3) ∧ pc + 3 = pc') (hcat : (rest.map fun v => v.category).sum ≤ 8) (hlv : (lv.all fun q => xokv 215 q.2) = true) (hrs : (rest.all (xokv 215)) = true) (kk : Cz E Y_M_copy [.ref 110, .int p0, .int p1, .int p2, .int p3, .int p4, .int p5, .int p6] σ (fun v σ' => Wx E YL pc' lv (v.toList ++ rest) 215 215 100784 (zx σ') K)) : Wx E YL pc lv (.int p6 :: .int p5 :: .int p4 :: .int p3 :: .int p2 :: .int p1 :: .int p0 :: .ref 110 :: rest) 215 215 100784 (zx σ) K := l_invV (As := [.int p0, .int p1, .int p2, .int p3, .int p4, .int p5, .int p6]) (show xM YL.1.cls 74 Y_M_copy 7 from ⟨k_11_37, k_1_12, k_11_40, by decide, by decide, by decide +kernel⟩) k_11_38 k_11_39 (by decide) rfl (by decide) rfl ⟨⟨Nat.le_of_ble_eq_true rfl, Nat.le_of_ble_eq_true rfl⟩, rfl, rfl⟩ ⟨by decide, by decide⟩ d rfl rfl hcat hlv hrs kk
theorem lc_75 {E : xV} {pc pc' : Nat} {lv rest} {σ : zS} {K : xQQ} {p0 : Int32} {p1 : Int32} (d : decode YL.2.1 pc = .ok (.invokevirtual 75, 3) ∧ pc + 3 = pc') (hcat : (rest.map fun v => v.category).sum ≤ 8) (hlv : (lv.all fun q => xokv 215 q.2) = true) (hrs : (rest.all (xokv 215)) = true) (kk : Cz E Y_H_thing [.ref 0, .int p0, .int p1] σ (fun v σ' => Wx E YL pc' lv (v.toList ++ rest) 215 215 100784 (zx σ') K)) : Wx E YL pc lv (.int p1 :: .int p0 :: .ref 0 :: rest) 215 215 100784 (zx σ) K := l_invV (As := [.int p0, .int p1]) (show xM YL.1.cls 75 Y_H_thing 2 from ⟨k_4_18, k_1_1, k_4_21, by decide, by decide, by decide +kernel⟩) k_4_19 k_4_20 (by decide) rfl (by decide) rfl ⟨⟨Nat.le_of_ble_eq_true rfl, Nat.le_of_ble_eq_true rfl⟩, rfl, rfl⟩ ⟨by decide, by decide⟩ d rfl rfl hcat hlv hrs kk
theorem lc_78 {E : xV} {pc pc' : Nat} {lv rest} {σ : zS} {K : xQQ} {p0 : Int32} {p1 : Int32} (d : decode YL.2.1 pc = .ok (.invokevirtual 78, 3) ∧ pc + 3 = pc') (hcat : (rest.map fun v => v.category).sum ≤ 8) (hlv : (lv.all fun q => xokv 215 q.2) = true) (hrs : (rest.all (xokv 215)) = true) (kk : Cz E Y_M_thing [.ref 110, .int p0, .int p1] σ (fun v σ' => Wx E YL pc' lv (v.toList ++ rest) 215 215 100784 (zx σ') K)) : Wx E YL pc lv (.int p1 :: .int p0 :: .ref 110 :: rest) 215 215 100784 (zx σ) K := l_invV (As := [.int p0, .int p1]) (show xM YL.1.cls 78 Y_M_thing 2 from ⟨k_11_41, k_1_12, k_11_44, by decide, by decide, by decide +kernel⟩) k_11_42 k_11_43 (by decide) rfl (by decide) rfl ⟨⟨Nat.le_of_ble_eq_true rfl, Nat.le_of_ble_eq_true rfl⟩, rfl, rfl⟩ ⟨by decide, by decide⟩ d rfl rfl hcat hlv hrs kk
theorem lc_79 {E : xV} {pc pc' : Nat} {lv rest} {σ : zS} {K : xQQ} {p0 : Int32} {p1 : Int32} (d : decode YL.2.1 pc = .ok (.invokevirtual 79, 3) ∧ pc + 3 = pc') (hcat : (rest.map fun v => v.category).sum ≤ 8) (hlv : (lv.all fun q => xokv 215 q.2) = true) (hrs : (rest.all (xokv 215)) = true) (kk : Cz E Y_H_move [.ref 0, .int p0, .int p1] σ (fun v σ' => Wx E YL pc' lv (v.toList ++ rest) 215 215 100784 (zx σ') K)) : Wx E YL pc lv (.int p1 :: .int p0 :: .ref 0 :: rest) 215 215 100784 (zx σ) K := l_invV (As := [.int p0, .int p1]) (show xM YL.1.cls 79 Y_H_move 2 from ⟨k_4_26, k_1_1, k_4_29, by decide, by decide, by decide +kernel⟩) k_4_27 k_4_28 (by decide) rfl (by decide) rfl ⟨⟨Nat.le_of_ble_eq_true rfl, Nat.le_of_ble_eq_true rfl⟩, rfl, rfl⟩ ⟨by decide, by decide⟩ d rfl rfl hcat hlv hrs kk
theorem lc_82 {E : xV} {pc pc' : Nat} {lv rest} {σ : zS} {K : xQQ} {p0 : Int32} {p1 : Int32} (d : decode YL.2.1 pc = .ok (.invokevirtual 82, 3) ∧ pc + 3 = pc') (hcat : (rest.map fun v => v.category).sum ≤ 8) (hlv : (lv.all fun q => xokv 215 q.2) = true) (hrs : (rest.all (xokv 215)) = true) (kk : Cz E Y_M_move [.ref 110, .int p0, .int p1] σ (fun v σ' => Wx E YL pc' lv (v.toList ++ rest) 215 215 100784 (zx σ') K)) : Wx E YL pc lv (.int p1 :: .int p0 :: .ref 110 :: rest) 215 215 100784 (zx σ) K := l_invV (As := [.int p0, .int p1]) (show xM YL.1.cls 82 Y_M_move 2 from ⟨k_11_53, k_1_12, k_11_56, by decide, by decide, by decide +kernel⟩) k_11_54 k_11_55 (by decide) rfl (by decide) rfl ⟨⟨Nat.le_of_ble_eq_true rfl, Nat.le_of_ble_eq_true rfl⟩, rfl, rfl⟩ ⟨by decide, by decide⟩ d rfl rfl hcat hlv hrs kk
theorem lc_83 {E : xV} {pc pc' : Nat} {lv rest} {σ : zS} {K : xQQ} {p0 : Int32} {p1 : Int32} (d : decode YL.2.1 pc = .ok (.invokevirtual 83, 3) ∧ pc + 3 = pc') (hcat : (rest.map fun v => v.category).sum ≤ 8) (hlv : (lv.all fun q => xokv 215 q.2) = true) (hrs : (rest.all (xokv 215)) = true) (kk : Cz E Y_H_cutOff [.ref 0, .int p0, .int p1] σ (fun v σ' => Wx E YL pc' lv (v.toList ++ rest) 215 215 100784 (zx σ') K)) : Wx E YL pc lv (.int p1 :: .int p0 :: .ref 0 :: rest) 215 215 100784 (zx σ) K := l_invV (As := [.int p0, .int p1]) (show xM YL.1.cls 83 Y_H_cutOff 2 from ⟨k_4_34, k_1_1, k_4_37, by decide, by decide, by decide +kernel⟩) k_4_35 k_4_36 (by decide) rfl (by decide) rfl ⟨⟨Nat.le_of_ble_eq_true rfl, Nat.le_of_ble_eq_true rfl⟩, rfl, rfl⟩ ⟨by decide, by decide⟩ d rfl rfl hcat hlv hrs kk
theorem lc_87 {E : xV} {pc pc' : Nat} {lv rest} {σ : zS} {K : xQQ} {p0 : Int32} {p1 : Int32} (d : decode YL.2.1 pc = .ok (.invokevirtual 87, 3) ∧ pc + 3 = pc') (hcat : (rest.map fun v => v.category).sum ≤ 8) (hlv : (lv.all fun q => xokv 215 q.2) = true) (hrs : (rest.all (xokv 215)) = true) (kk : Cz E Y_M_cutOff [.ref 110, .int p0, .int p1] σ (fun v σ' => Wx E YL pc' lv (v.toList ++ rest) 215 215 100784 (zx σ') K)) : Wx E YL pc lv (.int p1 :: .int p0 :: .ref 110 :: rest) 215 215 100784 (zx σ) K := l_invV (As := [.int p0, .int p1]) (show xM YL.1.cls 87 Y_M_cutOff 2 from ⟨k_11_57, k_1_12, k_11_60, by decide, by decide, by decide +kernel⟩) k_11_58 k_11_59 (by decide) rfl (by decide) rfl ⟨⟨Nat.le_of_ble_eq_true rfl, Nat.le_of_ble_eq_true rfl⟩, rfl, rfl⟩ ⟨by decide, by decide⟩ d rfl rfl hcat hlv hrs kk
theorem lc_88 {E : xV} {pc pc' : Nat} {lv rest} {σ : zS} {K : xQQ} {p0 : Int32} (d : decode YL.2.1 pc = .ok (.invokevirtual 88, 3) ∧ pc + 3 = pc') (hcat : (rest.map fun v => v.category).sum ≤ 8) (hlv : (lv.all fun q => xokv 215 q.2) = true) (hrs : (rest.all (xokv 215)) = true) (kk : Cz E Y_H_drop [.ref 0, .int p0] σ (fun v σ' => Wx E YL pc' lv (v.toList ++ rest) 215 215 100784 (zx σ') K)) : Wx E YL pc lv (.int p0 :: .ref 0 :: rest) 215 215 100784 (zx σ) K := l_invV (As := [.int p0]) (show xM YL.1.cls 88 Y_H_drop 1 from ⟨k_4_38, k_1_1, k_4_41, by decide, by decide, by decide +kernel⟩) k_4_39 k_4_40 (by decide) rfl (by decide) rfl ⟨⟨Nat.le_of_ble_eq_true rfl, Nat.le_of_ble_eq_true rfl⟩, rfl, rfl⟩ ⟨by decide, by decide⟩ d rfl rfl hcat hlv hrs kk
theorem lc_91 {E : xV} {pc pc' : Nat} {lv rest} {σ : zS} {K : xQQ} {p0 : Int32} (d : decode YL.2.1 pc = .ok (.invokevirtual 91, 3) ∧ pc + 3 = pc') (hcat : (rest.map fun v => v.category).sum ≤ 8) (hlv : (lv.all fun q => xokv 215 q.2) = true) (hrs : (rest.all (xokv 215)) = true) (kk : Cz E Y_M_drop [.ref 110, .int p0] σ (fun v σ' => Wx E YL pc' lv (v.toList ++ rest) 215 215 100784 (zx σ') K)) : Wx E YL pc lv (.int p0 :: .ref 110 :: rest) 215 215 100784 (zx σ) K := l_invV (As := [.int p0]) (show xM YL.1.cls 91 Y_M_drop 1 from ⟨k_11_61, k_1_12, k_11_64, by decide, by decide, by decide +kernel⟩) k_11_62 k_11_63 (by decide) rfl (by decide) rfl ⟨⟨Nat.le_of_ble_eq_true rfl, Nat.le_of_ble_eq_true rfl⟩, rfl, rfl⟩ ⟨by decide, by decide⟩ d rfl rfl hcat hlv hrs kk
theorem lc_92 {E : xV} {pc pc' : Nat} {lv rest} {σ : zS} {K : xQQ} {p0 : Int32} {p1 : Int32} (d : decode YL.2.1 pc = .ok (.invokevirtual 92, 3) ∧ pc + 3 = pc') (hcat : (rest.map fun v => v.category).sum ≤ 8) (hlv : (lv.all fun q => xokv 215 q.2) = true) (hrs : (rest.all (xokv 215)) = true) (kk : Cz E Y_H_thingOf [.ref 0, .int p0, .int p1] σ (fun v σ' => Wx E YL pc' lv (v.toList ++ rest) 215 215 100784 (zx σ') K)) : Wx E YL pc lv (.int p1 :: .int p0 :: .ref 0 :: rest) 215 215 100784 (zx σ) K := l_invV (As := [.int p0, .int p1]) (show xM YL.1.cls 92 Y_H_thingOf 2 from ⟨k_4_46, k_1_1, k_4_49, by decide, by decide, by decide +kernel⟩) k_4_47 k_4_48 (by decide) rfl (by decide) rfl ⟨⟨Nat.le_of_ble_eq_true rfl, Nat.le_of_ble_eq_true rfl⟩, rfl, rfl⟩ ⟨by decide, by decide⟩ d rfl rfl hcat hlv hrs kk
theorem lc_95 {E : xV} {pc pc' : Nat} {lv rest} {σ : zS} {K : xQQ} {p0 : Int32} {p1 : Int32} (d : decode YL.2.1 pc = .ok (.invokevirtual 95, 3) ∧ pc + 3 = pc') (hcat : (rest.map fun v => v.category).sum ≤ 8) (hlv : (lv.all fun q => xokv 215 q.2) = true) (hrs : (rest.all (xokv 215)) = true) (kk : Cz E Y_M_thingOf [.ref 110, .int p0, .int p1] σ (fun v σ' => Wx E YL pc' lv (v.toList ++ rest) 215 215 100784 (zx σ') K)) : Wx E YL pc lv (.int p1 :: .int p0 :: .ref 110 :: rest) 215 215 100784 (zx σ) K := l_invV (As := [.int p0, .int p1]) (show xM YL.1.cls 95 Y_M_thingOf 2 from ⟨k_11_65, k_1_12, k_11_68, by decide, by decide, by decide +kernel⟩) k_11_66 k_11_67 (by decide) rfl (by decide) rfl ⟨⟨Nat.le_of_ble_eq_true rfl, Nat.le_of_ble_eq_true rfl⟩, rfl, rfl⟩ ⟨by decide, by decide⟩ d rfl rfl hcat hlv hrs kk
theorem lc_96 {E : xV} {pc pc' : Nat} {lv rest} {σ : zS} {K : xQQ} {p0 : Int32} {p1 : Int32} (d : decode YL.2.1 pc = .ok (.invokevirtual 96, 3) ∧ pc + 3 = pc') (hcat : (rest.map fun v => v.category).sum ≤ 8) (hlv : (lv.all fun q => xokv 215 q.2) = true) (hrs : (rest.all (xokv 215)) = true) (kk : Cz E Y_H_under [.ref 0, .int p0, .int p1] σ (fun v σ' => Wx E YL pc' lv (v.toList ++ rest) 215 215 100784 (zx σ') K)) : Wx E YL pc lv (.int p1 :: .int p0 :: .ref 0 :: rest) 215 215 100784 (zx σ) K := l_invV (As := [.int p0, .int p1]) (show xM YL.1.cls 96 Y_H_under 2 from ⟨k_4_54, k_1_1, k_4_57, by decide, by decide, by decide +kernel⟩) k_4_55 k_4_56 (by decide) rfl (by decide) rfl ⟨⟨Nat.le_of_ble_eq_true rfl, Nat.le_of_ble_eq_true rfl⟩, rfl, rfl⟩ ⟨by decide, by decide⟩ d rfl rfl hcat hlv hrs kk
theorem lc_99 {E : xV} {pc pc' : Nat} {lv rest} {σ : zS} {K : xQQ} {p0 : Int32} {p1 : Int32} (d : decode YL.2.1 pc = .ok (.invokevirtual 99, 3) ∧ pc + 3 = pc') (hcat : (rest.map fun v => v.category).sum ≤ 8) (hlv : (lv.all fun q => xokv 215 q.2) = true) (hrs : (rest.all (xokv 215)) = true) (kk : Cz E Y_M_under [.ref 110, .int p0, .int p1] σ (fun v σ' => Wx E YL pc' lv (v.toList ++ rest) 215 215 100784 (zx σ') K)) : Wx E YL pc lv (.int p1 :: .int p0 :: .ref 110 :: rest) 215 215 100784 (zx σ) K := l_invV (As := [.int p0, .int p1]) (show xM YL.1.cls 99 Y_M_under 2 from ⟨k_11_74, k_1_12, k_11_77, by decide, by decide, by decide +kernel⟩) k_11_75 k_11_76 (by decide) rfl (by decide) rfl ⟨⟨Nat.le_of_ble_eq_true rfl, Nat.le_of_ble_eq_true rfl⟩, rfl, rfl⟩ ⟨by decide, by decide⟩ d rfl rfl hcat hlv hrs kk
theorem lc_100 {E : xV} {pc pc' : Nat} {lv rest} {σ : zS} {K : xQQ} {p0 : Int32} {p1 : Int32} {p2 : Int32} (d : decode YL.2.1 pc = .ok (.invokevirtual 100, 3) ∧ pc + 3 = pc') (hcat : (rest.map fun v => v.category).sum ≤ 8) (hlv : (lv.all fun q => xokv 215 q.2) = true) (hrs : (rest.all (xokv 215)) = true) (kk : Cz E Y_H_holds [.ref 0, .int p0, .int p1, .int p2] σ (fun v σ' => Wx E YL pc' lv (v.toList ++ rest) 215 215 100784 (zx σ') K)) : Wx E YL pc lv (.int p2 :: .int p1 :: .int p0 :: .ref 0 :: rest) 215 215 100784 (zx σ) K := l_invV (As := [.int p0, .int p1, .int p2]) (show xM YL.1.cls 100 Y_H_holds 3 from ⟨k_4_62, k_1_1, k_4_65, by decide, by decide, by decide +kernel⟩) k_4_63 k_4_64 (by decide) rfl (by decide) rfl ⟨⟨Nat.le_of_ble_eq_true rfl, Nat.le_of_ble_eq_true rfl⟩, rfl, rfl⟩ ⟨by decide, by decide⟩ d rfl rfl hcat hlv hrs kk
theorem lc_104 {E : xV} {pc pc' : Nat} {lv rest} {σ : zS} {K : xQQ} {p0 : Int32} {p1 : Int32} {p2 : Int32} (d : decode YL.2.1 pc = .ok (.invokevirtual 104, 3) ∧ pc + 3 = pc') (hcat : (rest.map fun v => v.category).sum ≤ 8) (hlv : (lv.all fun q => xokv 215 q.2) = true) (hrs : (rest.all (xokv 215)) = true) (kk : Cz E Y_M_holds [.ref 110, .int p0, .int p1, .int p2] σ (fun v σ' => Wx E YL pc' lv (v.toList ++ rest) 215 215 100784 (zx σ') K)) : Wx E YL pc lv (.int p2 :: .int p1 :: .int p0 :: .ref 110 :: rest) 215 215 100784 (zx σ) K := l_invV (As := [.int p0, .int p1, .int p2]) (show xM YL.1.cls 104 Y_M_holds 3 from ⟨k_11_82, k_1_12, k_11_85, by decide, by decide, by decide +kernel⟩) k_11_83 k_11_84 (by decide) rfl (by decide) rfl ⟨⟨Nat.le_of_ble_eq_true rfl, Nat.le_of_ble_eq_true rfl⟩, rfl, rfl⟩ ⟨by decide, by decide⟩ d rfl rfl hcat hlv hrs kk
theorem lc_105 {E : xV} {pc pc' : Nat} {lv rest} {σ : zS} {K : xQQ} {p0 : Int32} {p1 : Int32} (d : decode YL.2.1 pc = .ok (.invokevirtual 105, 3) ∧ pc + 3 = pc') (hcat : (rest.map fun v => v.category).sum ≤ 8) (hlv : (lv.all fun q => xokv 215 q.2) = true) (hrs : (rest.all (xokv 215)) = true) (kk : Cz E Y_H_doesHold [.ref 0, .int p0, .int p1] σ (fun v σ' => Wx E YL pc' lv (v.toList ++ rest) 215 215 100784 (zx σ') K)) : Wx E YL pc lv (.int p1 :: .int p0 :: .ref 0 :: rest) 215 215 100784 (zx σ) K := l_invV (As := [.int p0, .int p1]) (show xM YL.1.cls 105 Y_H_doesHold 2 from ⟨k_4_73, k_1_1, k_4_76, by decide, by decide, by decide +kernel⟩) k_4_74 k_4_75 (by decide) rfl (by decide) rfl ⟨⟨Nat.le_of_ble_eq_true rfl, Nat.le_of_ble_eq_true rfl⟩, rfl, rfl⟩ ⟨by decide, by decide⟩ d rfl rfl hcat hlv hrs kk
theorem lc_108 {E : xV} {pc pc' : Nat} {lv rest} {σ : zS} {K : xQQ} {p0 : Int32} {p1 : Int32} (d : decode YL.2.1 pc = .ok (.invokevirtual 108, 3) ∧ pc + 3 = pc') (hcat : (rest.map fun v => v.category).sum ≤ 8) (hlv : (lv.all fun q => xokv 215 q.2) = true) (hrs : (rest.all (xokv 215)) = true) (kk : Cz E Y_M_doesHold [.ref 110, .int p0, .int p1] σ (fun v σ' => Wx E YL pc' lv (v.toList ++ rest) 215 215 100784 (zx σ') K)) : Wx E YL pc lv (.int p1 :: .int p0 :: .ref 110 :: rest) 215 215 100784 (zx σ) K := l_invV (As := [.int p0, .int p1]) (show xM YL.1.cls 108 Y_M_doesHold 2 from ⟨k_11_86, k_1_12, k_11_89, by decide, by decide, by decide +kernel⟩) k_11_87 k_11_88 (by decide) rfl (by decide) rfl ⟨⟨Nat.le_of_ble_eq_true rfl, Nat.le_of_ble_eq_true rfl⟩, rfl, rfl⟩ ⟨by decide, by decide⟩ d rfl rfl hcat hlv hrs kk
theorem lc_109 {E : xV} {pc pc' : Nat} {lv rest} {σ : zS} {K : xQQ} {p0 : Int32} (d : decode YL.2.1 pc = .ok (.invokevirtual 109, 3) ∧ pc + 3 = pc') (hcat : (rest.map fun v => v.category).sum ≤ 8) (hlv : (lv.all fun q => xokv 215 q.2) = true) (hrs : (rest.all (xokv 215)) = true) (kk : Cz E Y_H_policy [.ref 0, .int p0] σ (fun v σ' => Wx E YL pc' lv (v.toList ++ rest) 215 215 100784 (zx σ') K)) : Wx E YL pc lv (.int p0 :: .ref 0 :: rest) 215 215 100784 (zx σ) K := l_invV (As := [.int p0]) (show xM YL.1.cls 109 Y_H_policy 1 from ⟨k_4_81, k_1_1, k_4_84, by decide, by decide, by decide +kernel⟩) k_4_82 k_4_83 (by decide) rfl (by decide) rfl ⟨⟨Nat.le_of_ble_eq_true rfl, Nat.le_of_ble_eq_true rfl⟩, rfl, rfl⟩ ⟨by decide, by decide⟩ d rfl rfl hcat hlv hrs kk
theorem lc_112 {E : xV} {pc pc' : Nat} {lv rest} {σ : zS} {K : xQQ} {p0 : Int32} (d : decode YL.2.1 pc = .ok (.invokevirtual 112, 3) ∧ pc + 3 = pc') (hcat : (rest.map fun v => v.category).sum ≤ 8) (hlv : (lv.all fun q => xokv 215 q.2) = true) (hrs : (rest.all (xokv 215)) = true) (kk : Cz E Y_M_policy [.ref 110, .int p0] σ (fun v σ' => Wx E YL pc' lv (v.toList ++ rest) 215 215 100784 (zx σ') K)) : Wx E YL pc lv (.int p0 :: .ref 110 :: rest) 215 215 100784 (zx σ) K := l_invV (As := [.int p0]) (show xM YL.1.cls 112 Y_M_policy 1 from ⟨k_11_98, k_1_12, k_11_101, by decide, by decide, by decide +kernel⟩) k_11_99 k_11_100 (by decide) rfl (by decide) rfl ⟨⟨Nat.le_of_ble_eq_true rfl, Nat.le_of_ble_eq_true rfl⟩, rfl, rfl⟩ ⟨by decide, by decide⟩ d rfl rfl hcat hlv hrs kk
theorem lc_113 {E : xV} {pc pc' : Nat} {lv rest} {σ : zS} {K : xQQ} {p0 : Int32} (d : decode YL.2.1 pc = .ok (.invokevirtual 113, 3) ∧ pc + 3 = pc') (hcat : (rest.map fun v => v.category).sum ≤ 8) (hlv : (lv.all fun q => xokv 215 q.2) = true) (hrs : (rest.all (xokv 215)) = true) (kk : Cz E Y_H_rules [.ref 0, .int p0] σ (fun v σ' => Wx E YL pc' lv (v.toList ++ rest) 215 215 100784 (zx σ') K)) : Wx E YL pc lv (.int p0 :: .ref 0 :: rest) 215 215 100784 (zx σ) K := l_invV (As := [.int p0]) (show xM YL.1.cls 113 Y_H_rules 1 from ⟨k_5_147, k_1_1, k_5_150, by decide, by decide, by decide +kernel⟩) k_5_148 k_5_149 (by decide) rfl (by decide) rfl ⟨⟨Nat.le_of_ble_eq_true rfl, Nat.le_of_ble_eq_true rfl⟩, rfl, rfl⟩ ⟨by decide, by decide⟩ d rfl rfl hcat hlv hrs kk
theorem lc_116 {E : xV} {pc pc' : Nat} {lv rest} {σ : zS} {K : xQQ} {p0 : Int32} (d : decode YL.2.1 pc = .ok (.invokevirtual 116, 3) ∧ pc + 3 = pc') (hcat : (rest.map fun v => v.category).sum ≤ 8) (hlv : (lv.all fun q => xokv 215 q.2) = true) (hrs : (rest.all (xokv 215)) = true) (kk : Cz E Y_M_rules [.ref 110, .int p0] σ (fun v σ' => Wx E YL pc' lv (v.toList ++ rest) 215 215 100784 (zx σ') K)) : Wx E YL pc lv (.int p0 :: .ref 110 :: rest) 215 215 100784 (zx σ) K := l_invV (As := [.int p0]) (show xM YL.1.cls 116 Y_M_rules 1 from ⟨k_12_17, k_1_12, k_12_20, by decide, by decide, by decide +kernel⟩) k_12_18 k_12_19 (by decide) rfl (by decide) rfl ⟨⟨Nat.le_of_ble_eq_true rfl, Nat.le_of_ble_eq_true rfl⟩, rfl, rfl⟩ ⟨by decide, by decide⟩ d rfl rfl hcat hlv hrs kk
theorem lc_117 {E : xV} {pc pc' : Nat} {lv rest} {σ : zS} {K : xQQ} {p0 : Int32} (d : decode YL.2.1 pc = .ok (.invokevirtual 117, 3) ∧ pc + 3 = pc') (hcat : (rest.map fun v => v.category).sum ≤ 8) (hlv : (lv.all fun q => xokv 215 q.2) = true) (hrs : (rest.all (xokv 215)) = true) (kk : Cz E Y_H_inForce [.ref 0, .int p0] σ (fun v σ' => Wx E YL pc' lv (v.toList ++ rest) 215 215 100784 (zx σ') K)) : Wx E YL pc lv (.int p0 :: .ref 0 :: rest) 215 215 100784 (zx σ) K := l_invV (As := [.int p0]) (show xM YL.1.cls 117 Y_H_inForce 1 from ⟨k_5_151, k_1_1, k_5_154, by decide, by decide, by decide +kernel⟩) k_5_152 k_5_153 (by decide) rfl (by decide) rfl ⟨⟨Nat.le_of_ble_eq_true rfl, Nat.le_of_ble_eq_true rfl⟩, rfl, rfl⟩ ⟨by decide, by decide⟩ d rfl rfl hcat hlv hrs kk
theorem lc_120 {E : xV} {pc pc' : Nat} {lv rest} {σ : zS} {K : xQQ} {p0 : Int32} (d : decode YL.2.1 pc = .ok (.invokevirtual 120, 3) ∧ pc + 3 = pc') (hcat : (rest.map fun v => v.category).sum ≤ 8) (hlv : (lv.all fun q => xokv 215 q.2) = true) (hrs : (rest.all (xokv 215)) = true) (kk : Cz E Y_M_inForce [.ref 110, .int p0] σ (fun v σ' => Wx E YL pc' lv (v.toList ++ rest) 215 215 100784 (zx σ') K)) : Wx E YL pc lv (.int p0 :: .ref 110 :: rest) 215 215 100784 (zx σ) K := l_invV (As := [.int p0]) (show xM YL.1.cls 120 Y_M_inForce 1 from ⟨k_12_25, k_1_12, k_12_28, by decide, by decide, by decide +kernel⟩) k_12_26 k_12_27 (by decide) rfl (by decide) rfl ⟨⟨Nat.le_of_ble_eq_true rfl, Nat.le_of_ble_eq_true rfl⟩, rfl, rfl⟩ ⟨by decide, by decide⟩ d rfl rfl hcat hlv hrs kk
theorem lc_121 {E : xV} {pc pc' : Nat} {lv rest} {σ : zS} {K : xQQ} {p0 : Int32} {p1 : Int32} {p2 : Int32} (d : decode YL.2.1 pc = .ok (.invokevirtual 121, 3) ∧ pc + 3 = pc') (hcat : (rest.map fun v => v.category).sum ≤ 8) (hlv : (lv.all fun q => xokv 215 q.2) = true) (hrs : (rest.all (xokv 215)) = true) (kk : Cz E Y_H_ask [.ref 0, .int p0, .int p1, .int p2] σ (fun v σ' => Wx E YL pc' lv (v.toList ++ rest) 215 215 100784 (zx σ') K)) : Wx E YL pc lv (.int p2 :: .int p1 :: .int p0 :: .ref 0 :: rest) 215 215 100784 (zx σ) K := l_invV (As := [.int p0, .int p1, .int p2]) (show xM YL.1.cls 121 Y_H_ask 3 from ⟨k_5_169, k_1_1, k_5_172, by decide, by decide, by decide +kernel⟩) k_5_170 k_5_171 (by decide) rfl (by decide) rfl ⟨⟨Nat.le_of_ble_eq_true rfl, Nat.le_of_ble_eq_true rfl⟩, rfl, rfl⟩ ⟨by decide, by decide⟩ d rfl rfl hcat hlv hrs kk
theorem lc_125 {E : xV} {pc pc' : Nat} {lv rest} {σ : zS} {K : xQQ} {p0 : Int32} {p1 : Int32} {p2 : Int32} (d : decode YL.2.1 pc = .ok (.invokevirtual 125, 3) ∧ pc + 3 = pc') (hcat : (rest.map fun v => v.category).sum ≤ 8) (hlv : (lv.all fun q => xokv 215 q.2) = true) (hrs : (rest.all (xokv 215)) = true) (kk : Cz E Y_M_ask [.ref 110, .int p0, .int p1, .int p2] σ (fun v σ' => Wx E YL pc' lv (v.toList ++ rest) 215 215 100784 (zx σ') K)) : Wx E YL pc lv (.int p2 :: .int p1 :: .int p0 :: .ref 110 :: rest) 215 215 100784 (zx σ) K := l_invV (As := [.int p0, .int p1, .int p2]) (show xM YL.1.cls 125 Y_M_ask 3 from ⟨k_12_33, k_1_12, k_12_36, by decide, by decide, by decide +kernel⟩) k_12_34 k_12_35 (by decide) rfl (by decide) rfl ⟨⟨Nat.le_of_ble_eq_true rfl, Nat.le_of_ble_eq_true rfl⟩, rfl, rfl⟩ ⟨by decide, by decide⟩ d rfl rfl hcat hlv hrs kk
theorem lc_126 {E : xV} {pc pc' : Nat} {lv rest} {σ : zS} {K : xQQ} {p0 : Int32} {p1 : Int32} {p2 : Int32} {p3 : Int32} {p4 : Int32} (d : decode YL.2.1 pc = .ok (.invokevirtual 126, 3) ∧ pc + 3 = pc') (hcat : (rest.map fun v => v.category).sum ≤ 8) (hlv : (lv.all fun q => xokv 215 q.2) = true) (hrs : (rest.all (xokv 215)) = true) (kk : Cz E Y_H_asked [.ref 0, .int p0, .int p1, .int p2, .int p3, .int p4] σ (fun v σ' => Wx E YL pc' lv (v.toList ++ rest) 215 215 100784 (zx σ') K)) : Wx E YL pc lv (.int p4 :: .int p3 :: .int p2 :: .int p1 :: .int p0 :: .ref 0 :: rest) 215 215 100784 (zx σ) K := l_invV (As := [.int p0, .int p1, .int p2, .int p3, .int p4]) (show xM YL.1.cls 126 Y_H_asked 5 from ⟨k_6_73, k_1_1, k_6_76, by decide, by decide, by decide +kernel⟩) k_6_74 k_6_75 (by decide) rfl (by decide) rfl ⟨⟨Nat.le_of_ble_eq_true rfl, Nat.le_of_ble_eq_true rfl⟩, rfl, rfl⟩ ⟨by decide, by decide⟩ d rfl rfl hcat hlv hrs kk
theorem lc_130 {E : xV} {pc pc' : Nat} {lv rest} {σ : zS} {K : xQQ} {p0 : Int32} {p1 : Int32} {p2 : Int32} {p3 : Int32} {p4 : Int32} (d : decode YL.2.1 pc = .ok (.invokevirtual 130, 3) ∧ pc + 3 = pc') (hcat : (rest.map fun v => v.category).sum ≤ 8) (hlv : (lv.all fun q => xokv 215 q.2) = true) (hrs : (rest.all (xokv 215)) = true) (kk : Cz E Y_M_asked [.ref 110, .int p0, .int p1, .int p2, .int p3, .int p4] σ (fun v σ' => Wx E YL pc' lv (v.toList ++ rest) 215 215 100784 (zx σ') K)) : Wx E YL pc lv (.int p4 :: .int p3 :: .int p2 :: .int p1 :: .int p0 :: .ref 110 :: rest) 215 215 100784 (zx σ) K := l_invV (As := [.int p0, .int p1, .int p2, .int p3, .int p4]) (show xM YL.1.cls 130 Y_M_asked 5 from ⟨k_12_107, k_1_12, k_12_110, by decide, by decide, by decide +kernel⟩) k_12_108 k_12_109 (by decide) rfl (by decide) rfl ⟨⟨Nat.le_of_ble_eq_true rfl, Nat.le_of_ble_eq_true rfl⟩, rfl, rfl⟩ ⟨by decide, by decide⟩ d rfl rfl hcat hlv hrs kk
theorem lc_131 {E : xV} {pc pc' : Nat} {lv rest} {σ : zS} {K : xQQ} {p0 : Int32} (d : decode YL.2.1 pc = .ok (.invokevirtual 131, 3) ∧ pc + 3 = pc') (hcat : (rest.map fun v => v.category).sum ≤ 8) (hlv : (lv.all fun q => xokv 215 q.2) = true) (hrs : (rest.all (xokv 215)) = true) (kk : Cz E Y_H_made [.ref 0, .int p0] σ (fun v σ' => Wx E YL pc' lv (v.toList ++ rest) 215 215 100784 (zx σ') K)) : Wx E YL pc lv (.int p0 :: .ref 0 :: rest) 215 215 100784 (zx σ) K := l_invV (As := [.int p0]) (show xM YL.1.cls 131 Y_H_made 1 from ⟨k_6_77, k_1_1, k_6_80, by decide, by decide, by decide +kernel⟩) k_6_78 k_6_79 (by decide) rfl (by decide) rfl ⟨⟨Nat.le_of_ble_eq_true rfl, Nat.le_of_ble_eq_true rfl⟩, rfl, rfl⟩ ⟨by decide, by decide⟩ d rfl rfl hcat hlv hrs kk
theorem lc_134 {E : xV} {pc pc' : Nat} {lv rest} {σ : zS} {K : xQQ} {p0 : Int32} (d : decode YL.2.1 pc = .ok (.invokevirtual 134, 3) ∧ pc + 3 = pc') (hcat : (rest.map fun v => v.category).sum ≤ 8) (hlv : (lv.all fun q => xokv 215 q.2) = true) (hrs : (rest.all (xokv 215)) = true) (kk : Cz E Y_M_made [.ref 110, .int p0] σ (fun v σ' => Wx E YL pc' lv (v.toList ++ rest) 215 215 100784 (zx σ') K)) : Wx E YL pc lv (.int p0 :: .ref 110 :: rest) 215 215 100784 (zx σ) K := l_invV (As := [.int p0]) (show xM YL.1.cls 134 Y_M_made 1 from ⟨k_12_111, k_1_12, k_12_114, by decide, by decide, by decide +kernel⟩) k_12_112 k_12_113 (by decide) rfl (by decide) rfl ⟨⟨Nat.le_of_ble_eq_true rfl, Nat.le_of_ble_eq_true rfl⟩, rfl, rfl⟩ ⟨by decide, by decide⟩ d rfl rfl hcat hlv hrs kk
theorem lc_135 {E : xV} {pc pc' : Nat} {lv rest} {σ : zS} {K : xQQ} {p0 : Int32} {p1 : Int32} {p2 : Int32} {p3 : Int32} (d : decode YL.2.1 pc = .ok (.invokevirtual 135, 3) ∧ pc + 3 = pc') (hcat : (rest.map fun v => v.category).sum ≤ 8) (hlv : (lv.all fun q => xokv 215 q.2) = true) (hrs : (rest.all (xokv 215)) = true) (kk : Cz E Y_H_may [.ref 0, .int p0, .int p1, .int p2, .int p3] σ (fun v σ' => Wx E YL pc' lv (v.toList ++ rest) 215 215 100784 (zx σ') K)) : Wx E YL pc lv (.int p3 :: .int p2 :: .int p1 :: .int p0 :: .ref 0 :: rest) 215 215 100784 (zx σ) K := l_invV (As := [.int p0, .int p1, .int p2, .int p3]) (show xM YL.1.cls 135 Y_H_may 4 from ⟨k_6_81, k_1_1, k_6_84, by decide, by decide, by decide +kernel⟩) k_6_82 k_6_83 (by decide) rfl (by decide) rfl ⟨⟨Nat.le_of_ble_eq_true rfl, Nat.le_of_ble_eq_true rfl⟩, rfl, rfl⟩ ⟨by decide, by decide⟩ d rfl rfl hcat hlv hrs kk
theorem lc_138 {E : xV} {pc pc' : Nat} {lv rest} {σ : zS} {K : xQQ} {p0 : Int32} {p1 : Int32} {p2 : Int32} {p3 : Int32} (d : decode YL.2.1 pc = .ok (.invokevirtual 138, 3) ∧ pc + 3 = pc') (hcat : (rest.map fun v => v.category).sum ≤ 8) (hlv : (lv.all fun q => xokv 215 q.2) = true) (hrs : (rest.all (xokv 215)) = true) (kk : Cz E Y_M_may [.ref 110, .int p0, .int p1, .int p2, .int p3] σ (fun v σ' => Wx E YL pc' lv (v.toList ++ rest) 215 215 100784 (zx σ') K)) : Wx E YL pc lv (.int p3 :: .int p2 :: .int p1 :: .int p0 :: .ref 110 :: rest) 215 215 100784 (zx σ) K := l_invV (As := [.int p0, .int p1, .int p2, .int p3]) (show xM YL.1.cls 138 Y_M_may 4 from ⟨k_12_115, k_1_12, k_12_118, by decide, by decide, by decide +kernel⟩) k_12_116 k_12_117 (by decide) rfl (by decide) rfl ⟨⟨Nat.le_of_ble_eq_true rfl, Nat.le_of_ble_eq_true rfl⟩, rfl, rfl⟩ ⟨by decide, by decide⟩ d rfl rfl hcat hlv hrs kk
theorem lc_139 {E : xV} {pc pc' : Nat} {lv rest} {σ : zS} {K : xQQ} {p0 : Int32} {p1 : Int32} {p2 : Int32} {p3 : Int32} (d : decode YL.2.1 pc = .ok (.invokevirtual 139, 3) ∧ pc + 3 = pc') (hcat : (rest.map fun v => v.category).sum ≤ 8) (hlv : (lv.all fun q => xokv 215 q.2) = true) (hrs : (rest.all (xokv 215)) = true) (kk : Cz E Y_H_who [.ref 0, .int p0, .int p1, .int p2, .int p3] σ (fun v σ' => Wx E YL pc' lv (v.toList ++ rest) 215 215 100784 (zx σ') K)) : Wx E YL pc lv (.int p3 :: .int p2 :: .int p1 :: .int p0 :: .ref 0 :: rest) 215 215 100784 (zx σ) K := l_invV (As := [.int p0, .int p1, .int p2, .int p3]) (show xM YL.1.cls 139 Y_H_who 4 from ⟨k_6_90, k_1_1, k_6_93, by decide, by decide, by decide +kernel⟩) k_6_91 k_6_92 (by decide) rfl (by decide) rfl ⟨⟨Nat.le_of_ble_eq_true rfl, Nat.le_of_ble_eq_true rfl⟩, rfl, rfl⟩ ⟨by decide, by decide⟩ d rfl rfl hcat hlv hrs kk
theorem lc_142 {E : xV} {pc pc' : Nat} {lv rest} {σ : zS} {K : xQQ} {p0 : Int32} {p1 : Int32} {p2 : Int32} {p3 : Int32} (d : decode YL.2.1 pc = .ok (.invokevirtual 142, 3) ∧ pc + 3 = pc') (hcat : (rest.map fun v => v.category).sum ≤ 8) (hlv : (lv.all fun q => xokv 215 q.2) = true) (hrs : (rest.all (xokv 215)) = true) (kk : Cz E Y_M_who [.ref 110, .int p0, .int p1, .int p2, .int p3] σ (fun v σ' => Wx E YL pc' lv (v.toList ++ rest) 215 215 100784 (zx σ') K)) : Wx E YL pc lv (.int p3 :: .int p2 :: .int p1 :: .int p0 :: .ref 110 :: rest) 215 215 100784 (zx σ) K := l_invV (As := [.int p0, .int p1, .int p2, .int p3]) (show xM YL.1.cls 142 Y_M_who 4 from ⟨k_12_119, k_1_12, k_12_122, by decide, by decide, by decide +kernel⟩) k_12_120 k_12_121 (by decide) rfl (by decide) rfl ⟨⟨Nat.le_of_ble_eq_true rfl, Nat.le_of_ble_eq_true rfl⟩, rfl, rfl⟩ ⟨by decide, by decide⟩ d rfl rfl hcat hlv hrs kk
theorem lc_143 {E : xV} {pc pc' : Nat} {lv rest} {σ : zS} {K : xQQ} {p0 : Int32} {p1 : Int32} (d : decode YL.2.1 pc = .ok (.invokevirtual 143, 3) ∧ pc + 3 = pc') (hcat : (rest.map fun v => v.category).sum ≤ 8) (hlv : (lv.all fun q => xokv 215 q.2) = true) (hrs : (rest.all (xokv 215)) = true) (kk : Cz E Y_H_compare [.ref 0, .int p0, .int p1] σ (fun v σ' => Wx E YL pc' lv (v.toList ++ rest) 215 215 100784 (zx σ') K)) : Wx E YL pc lv (.int p1 :: .int p0 :: .ref 0 :: rest) 215 215 100784 (zx σ) K := l_invV (As := [.int p0, .int p1]) (show xM YL.1.cls 143 Y_H_compare 2 from ⟨k_6_100, k_1_1, k_6_103, by decide, by decide, by decide +kernel⟩) k_6_101 k_6_102 (by decide) rfl (by decide) rfl ⟨⟨Nat.le_of_ble_eq_true rfl, Nat.le_of_ble_eq_true rfl⟩, rfl, rfl⟩ ⟨by decide, by decide⟩ d rfl rfl hcat hlv hrs kk
theorem lc_146 {E : xV} {pc pc' : Nat} {lv rest} {σ : zS} {K : xQQ} {p0 : Int32} {p1 : Int32} (d : decode YL.2.1 pc = .ok (.invokevirtual 146, 3) ∧ pc + 3 = pc') (hcat : (rest.map fun v => v.category).sum ≤ 8) (hlv : (lv.all fun q => xokv 215 q.2) = true) (hrs : (rest.all (xokv 215)) = true) (kk : Cz E Y_M_compare [.ref 110, .int p0, .int p1] σ (fun v σ' => Wx E YL pc' lv (v.toList ++ rest) 215 215 100784 (zx σ') K)) : Wx E YL pc lv (.int p1 :: .int p0 :: .ref 110 :: rest) 215 215 100784 (zx σ) K := l_invV (As := [.int p0, .int p1]) (show xM YL.1.cls 146 Y_M_compare 2 from ⟨k_12_131, k_1_12, k_12_134, by decide, by decide, by decide +kernel⟩) k_12_132 k_12_133 (by decide) rfl (by decide) rfl ⟨⟨Nat.le_of_ble_eq_true rfl, Nat.le_of_ble_eq_true rfl⟩, rfl, rfl⟩ ⟨by decide, by decide⟩ d rfl rfl hcat hlv hrs kk
theorem lc_147 {E : xV} {pc pc' : Nat} {lv rest} {σ : zS} {K : xQQ} {p0 : Int32} (d : decode YL.2.1 pc = .ok (.invokevirtual 147, 3) ∧ pc + 3 = pc') (hcat : (rest.map fun v => v.category).sum ≤ 8) (hlv : (lv.all fun q => xokv 215 q.2) = true) (hrs : (rest.all (xokv 215)) = true) (kk : Cz E Y_H_compared [.ref 0, .int p0] σ (fun v σ' => Wx E YL pc' lv (v.toList ++ rest) 215 215 100784 (zx σ') K)) : Wx E YL pc lv (.int p0 :: .ref 0 :: rest) 215 215 100784 (zx σ) K := l_invV (As := [.int p0]) (show xM YL.1.cls 147 Y_H_compared 1 from ⟨k_6_112, k_1_1, k_6_115, by decide, by decide, by decide +kernel⟩) k_6_113 k_6_114 (by decide) rfl (by decide) rfl ⟨⟨Nat.le_of_ble_eq_true rfl, Nat.le_of_ble_eq_true rfl⟩, rfl, rfl⟩ ⟨by decide, by decide⟩ d rfl rfl hcat hlv hrs kk
theorem lc_150 {E : xV} {pc pc' : Nat} {lv rest} {σ : zS} {K : xQQ} {p0 : Int32} (d : decode YL.2.1 pc = .ok (.invokevirtual 150, 3) ∧ pc + 3 = pc') (hcat : (rest.map fun v => v.category).sum ≤ 8) (hlv : (lv.all fun q => xokv 215 q.2) = true) (hrs : (rest.all (xokv 215)) = true) (kk : Cz E Y_M_compared [.ref 110, .int p0] σ (fun v σ' => Wx E YL pc' lv (v.toList ++ rest) 215 215 100784 (zx σ') K)) : Wx E YL pc lv (.int p0 :: .ref 110 :: rest) 215 215 100784 (zx σ) K := l_invV (As := [.int p0]) (show xM YL.1.cls 150 Y_M_compared 1 from ⟨k_12_135, k_1_12, k_12_138, by decide, by decide, by decide +kernel⟩) k_12_136 k_12_137 (by decide) rfl (by decide) rfl ⟨⟨Nat.le_of_ble_eq_true rfl, Nat.le_of_ble_eq_true rfl⟩, rfl, rfl⟩ ⟨by decide, by decide⟩ d rfl rfl hcat hlv hrs kk
theorem lc_151 {E : xV} {pc pc' : Nat} {lv rest} {σ : zS} {K : xQQ} {p0 : Int32} {p1 : Int32} (d : decode YL.2.1 pc = .ok (.invokevirtual 151, 3) ∧ pc + 3 = pc') (hcat : (rest.map fun v => v.category).sum ≤ 8) (hlv : (lv.all fun q => xokv 215 q.2) = true) (hrs : (rest.all (xokv 215)) = true) (kk : Cz E Y_H_decides [.ref 0, .int p0, .int p1] σ (fun v σ' => Wx E YL pc' lv (v.toList ++ rest) 215 215 100784 (zx σ') K)) : Wx E YL pc lv (.int p1 :: .int p0 :: .ref 0 :: rest) 215 215 100784 (zx σ) K := l_invV (As := [.int p0, .int p1]) (show xM YL.1.cls 151 Y_H_decides 2 from ⟨k_6_116, k_1_1, k_6_119, by decide, by decide, by decide +kernel⟩) k_6_117 k_6_118 (by decide) rfl (by decide) rfl ⟨⟨Nat.le_of_ble_eq_true rfl, Nat.le_of_ble_eq_true rfl⟩, rfl, rfl⟩ ⟨by decide, by decide⟩ d rfl rfl hcat hlv hrs kk
theorem lc_154 {E : xV} {pc pc' : Nat} {lv rest} {σ : zS} {K : xQQ} {p0 : Int32} {p1 : Int32} (d : decode YL.2.1 pc = .ok (.invokevirtual 154, 3) ∧ pc + 3 = pc') (hcat : (rest.map fun v => v.category).sum ≤ 8) (hlv : (lv.all fun q => xokv 215 q.2) = true) (hrs : (rest.all (xokv 215)) = true) (kk : Cz E Y_M_decides [.ref 110, .int p0, .int p1] σ (fun v σ' => Wx E YL pc' lv (v.toList ++ rest) 215 215 100784 (zx σ') K)) : Wx E YL pc lv (.int p1 :: .int p0 :: .ref 110 :: rest) 215 215 100784 (zx σ) K := l_invV (As := [.int p0, .int p1]) (show xM YL.1.cls 154 Y_M_decides 2 from ⟨k_12_139, k_1_12, k_12_142, by decide, by decide, by decide +kernel⟩) k_12_140 k_12_141 (by decide) rfl (by decide) rfl ⟨⟨Nat.le_of_ble_eq_true rfl, Nat.le_of_ble_eq_true rfl⟩, rfl, rfl⟩ ⟨by decide, by decide⟩ d rfl rfl hcat hlv hrs kk
theorem lc_155 {E : xV} {pc pc' : Nat} {lv rest} {σ : zS} {K : xQQ} {p0 : Int32} {p1 : Int32} {p2 : Int32} (d : decode YL.2.1 pc = .ok (.invokevirtual 155, 3) ∧ pc + 3 = pc') (hcat : (rest.map fun v => v.category).sum ≤ 8) (hlv : (lv.all fun q => xokv 215 q.2) = true) (hrs : (rest.all (xokv 215)) = true) (kk : Cz E Y_H_law [.ref 0, .int p0, .int p1, .int p2] σ (fun v σ' => Wx E YL pc' lv (v.toList ++ rest) 215 215 100784 (zx σ') K)) : Wx E YL pc lv (.int p2 :: .int p1 :: .int p0 :: .ref 0 :: rest) 215 215 100784 (zx σ) K := l_invV (As := [.int p0, .int p1, .int p2]) (show xM YL.1.cls 155 Y_H_law 3 from ⟨k_6_124, k_1_1, k_6_127, by decide, by decide, by decide +kernel⟩) k_6_125 k_6_126 (by decide) rfl (by decide) rfl ⟨⟨Nat.le_of_ble_eq_true rfl, Nat.le_of_ble_eq_true rfl⟩, rfl, rfl⟩ ⟨by decide, by decide⟩ d rfl rfl hcat hlv hrs kk
theorem lc_158 {E : xV} {pc pc' : Nat} {lv rest} {σ : zS} {K : xQQ} {p0 : Int32} {p1 : Int32} {p2 : Int32} (d : decode YL.2.1 pc = .ok (.invokevirtual 158, 3) ∧ pc + 3 = pc') (hcat : (rest.map fun v => v.category).sum ≤ 8) (hlv : (lv.all fun q => xokv 215 q.2) = true) (hrs : (rest.all (xokv 215)) = true) (kk : Cz E Y_M_law [.ref 110, .int p0, .int p1, .int p2] σ (fun v σ' => Wx E YL pc' lv (v.toList ++ rest) 215 215 100784 (zx σ') K)) : Wx E YL pc lv (.int p2 :: .int p1 :: .int p0 :: .ref 110 :: rest) 215 215 100784 (zx σ) K := l_invV (As := [.int p0, .int p1, .int p2]) (show xM YL.1.cls 158 Y_M_law 3 from ⟨k_12_143, k_1_12, k_12_146, by decide, by decide, by decide +kernel⟩) k_12_144 k_12_145 (by decide) rfl (by decide) rfl ⟨⟨Nat.le_of_ble_eq_true rfl, Nat.le_of_ble_eq_true rfl⟩, rfl, rfl⟩ ⟨by decide, by decide⟩ d rfl rfl hcat hlv hrs kk
theorem lc_159 {E : xV} {pc pc' : Nat} {lv rest} {σ : zS} {K : xQQ} {p0 : Int32} {p1 : Int32} {p2 : Int32} {p3 : Int32} (d : decode YL.2.1 pc = .ok (.invokevirtual 159, 3) ∧ pc + 3 = pc') (hcat : (rest.map fun v => v.category).sum ≤ 8) (hlv : (lv.all fun q => xokv 215 q.2) = true) (hrs : (rest.all (xokv 215)) = true) (kk : Cz E Y_H_give [.ref 0, .int p0, .int p1, .int p2, .int p3] σ (fun v σ' => Wx E YL pc' lv (v.toList ++ rest) 215 215 100784 (zx σ') K)) : Wx E YL pc lv (.int p3 :: .int p2 :: .int p1 :: .int p0 :: .ref 0 :: rest) 215 215 100784 (zx σ) K := l_invV (As := [.int p0, .int p1, .int p2, .int p3]) (show xM YL.1.cls 159 Y_H_give 4 from ⟨k_6_132, k_1_1, k_6_135, by decide, by decide, by decide +kernel⟩) k_6_133 k_6_134 (by decide) rfl (by decide) rfl ⟨⟨Nat.le_of_ble_eq_true rfl, Nat.le_of_ble_eq_true rfl⟩, rfl, rfl⟩ ⟨by decide, by decide⟩ d rfl rfl hcat hlv hrs kk
theorem lc_162 {E : xV} {pc pc' : Nat} {lv rest} {σ : zS} {K : xQQ} {p0 : Int32} {p1 : Int32} {p2 : Int32} {p3 : Int32} (d : decode YL.2.1 pc = .ok (.invokevirtual 162, 3) ∧ pc + 3 = pc') (hcat : (rest.map fun v => v.category).sum ≤ 8) (hlv : (lv.all fun q => xokv 215 q.2) = true) (hrs : (rest.all (xokv 215)) = true) (kk : Cz E Y_M_give [.ref 110, .int p0, .int p1, .int p2, .int p3] σ (fun v σ' => Wx E YL pc' lv (v.toList ++ rest) 215 215 100784 (zx σ') K)) : Wx E YL pc lv (.int p3 :: .int p2 :: .int p1 :: .int p0 :: .ref 110 :: rest) 215 215 100784 (zx σ) K := l_invV (As := [.int p0, .int p1, .int p2, .int p3]) (show xM YL.1.cls 162 Y_M_give 4 from ⟨k_12_148, k_1_12, k_12_151, by decide, by decide, by decide +kernel⟩) k_12_149 k_12_150 (by decide) rfl (by decide) rfl ⟨⟨Nat.le_of_ble_eq_true rfl, Nat.le_of_ble_eq_true rfl⟩, rfl, rfl⟩ ⟨by decide, by decide⟩ d rfl rfl hcat hlv hrs kk
theorem lc_163 {E : xV} {pc pc' : Nat} {lv rest} {σ : zS} {K : xQQ} {p0 : Int32} {p1 : Int32} {p2 : Int32} (d : decode YL.2.1 pc = .ok (.invokevirtual 163, 3) ∧ pc + 3 = pc') (hcat : (rest.map fun v => v.category).sum ≤ 8) (hlv : (lv.all fun q => xokv 215 q.2) = true) (hrs : (rest.all (xokv 215)) = true) (kk : Cz E Y_H_take [.ref 0, .int p0, .int p1, .int p2] σ (fun v σ' => Wx E YL pc' lv (v.toList ++ rest) 215 215 100784 (zx σ') K)) : Wx E YL pc lv (.int p2 :: .int p1 :: .int p0 :: .ref 0 :: rest) 215 215 100784 (zx σ) K := l_invV (As := [.int p0, .int p1, .int p2]) (show xM YL.1.cls 163 Y_H_take 3 from ⟨k_6_158, k_1_1, k_6_161, by decide, by decide, by decide +kernel⟩) k_6_159 k_6_160 (by decide) rfl (by decide) rfl ⟨⟨Nat.le_of_ble_eq_true rfl, Nat.le_of_ble_eq_true rfl⟩, rfl, rfl⟩ ⟨by decide, by decide⟩ d rfl rfl hcat hlv hrs kk
theorem lc_166 {E : xV} {pc pc' : Nat} {lv rest} {σ : zS} {K : xQQ} {p0 : Int32} {p1 : Int32} {p2 : Int32} (d : decode YL.2.1 pc = .ok (.invokevirtual 166, 3) ∧ pc + 3 = pc') (hcat : (rest.map fun v => v.category).sum ≤ 8) (hlv : (lv.all fun q => xokv 215 q.2) = true) (hrs : (rest.all (xokv 215)) = true) (kk : Cz E Y_M_take [.ref 110, .int p0, .int p1, .int p2] σ (fun v σ' => Wx E YL pc' lv (v.toList ++ rest) 215 215 100784 (zx σ') K)) : Wx E YL pc lv (.int p2 :: .int p1 :: .int p0 :: .ref 110 :: rest) 215 215 100784 (zx σ) K := l_invV (As := [.int p0, .int p1, .int p2]) (show xM YL.1.cls 166 Y_M_take 3 from ⟨k_12_164, k_1_12, k_12_167, by decide, by decide, by decide +kernel⟩) k_12_165 k_12_166 (by decide) rfl (by decide) rfl ⟨⟨Nat.le_of_ble_eq_true rfl, Nat.le_of_ble_eq_true rfl⟩, rfl, rfl⟩ ⟨by decide, by decide⟩ d rfl rfl hcat hlv hrs kk
theorem lc_167 {E : xV} {pc pc' : Nat} {lv rest} {σ : zS} {K : xQQ}  (d : decode YL.2.1 pc = .ok (.invokevirtual 167, 3) ∧ pc + 3 = pc') (hcat : (rest.map fun v => v.category).sum ≤ 8) (hlv : (lv.all fun q => xokv 215 q.2) = true) (hrs : (rest.all (xokv 215)) = true) (kk : Cz E Y_H_broken [.ref 0] σ (fun v σ' => Wx E YL pc' lv (v.toList ++ rest) 215 215 100784 (zx σ') K)) : Wx E YL pc lv (.ref 0 :: rest) 215 215 100784 (zx σ) K := l_invV (As := []) (show xM YL.1.cls 167 Y_H_broken 0 from ⟨k_6_168, k_1_1, k_6_171, by decide, by decide, by decide +kernel⟩) k_6_169 k_6_170 (by decide) rfl (by decide) rfl ⟨⟨Nat.le_of_ble_eq_true rfl, Nat.le_of_ble_eq_true rfl⟩, rfl, rfl⟩ ⟨by decide, by decide⟩ d rfl rfl hcat hlv hrs kk
theorem lc_170 {E : xV} {pc pc' : Nat} {lv rest} {σ : zS} {K : xQQ}  (d : decode YL.2.1 pc = .ok (.invokevirtual 170, 3) ∧ pc + 3 = pc') (hcat : (rest.map fun v => v.category).sum ≤ 8) (hlv : (lv.all fun q => xokv 215 q.2) = true) (hrs : (rest.all (xokv 215)) = true) (kk : Cz E Y_M_broken [.ref 110] σ (fun v σ' => Wx E YL pc' lv (v.toList ++ rest) 215 215 100784 (zx σ') K)) : Wx E YL pc lv (.ref 110 :: rest) 215 215 100784 (zx σ) K := l_invV (As := []) (show xM YL.1.cls 170 Y_M_broken 0 from ⟨k_12_168, k_1_12, k_12_171, by decide, by decide, by decide +kernel⟩) k_12_169 k_12_170 (by decide) rfl (by decide) rfl ⟨⟨Nat.le_of_ble_eq_true rfl, Nat.le_of_ble_eq_true rfl⟩, rfl, rfl⟩ ⟨by decide, by decide⟩ d rfl rfl hcat hlv hrs kk
theorem lc_171 {E : xV} {pc pc' : Nat} {lv rest} {σ : zS} {K : xQQ} {p0 : Int32} (d : decode YL.2.1 pc = .ok (.invokevirtual 171, 3) ∧ pc + 3 = pc') (hcat : (rest.map fun v => v.category).sum ≤ 8) (hlv : (lv.all fun q => xokv 215 q.2) = true) (hrs : (rest.all (xokv 215)) = true) (kk : Cz E Y_H_breach [.ref 0, .int p0] σ (fun v σ' => Wx E YL pc' lv (v.toList ++ rest) 215 215 100784 (zx σ') K)) : Wx E YL pc lv (.int p0 :: .ref 0 :: rest) 215 215 100784 (zx σ) K := l_invV (As := [.int p0]) (show xM YL.1.cls 171 Y_H_breach 1 from ⟨k_6_172, k_1_1, k_6_175, by decide, by decide, by decide +kernel⟩) k_6_173 k_6_174 (by decide) rfl (by decide) rfl ⟨⟨Nat.le_of_ble_eq_true rfl, Nat.le_of_ble_eq_true rfl⟩, rfl, rfl⟩ ⟨by decide, by decide⟩ d rfl rfl hcat hlv hrs kk
theorem lc_174 {E : xV} {pc pc' : Nat} {lv rest} {σ : zS} {K : xQQ} {p0 : Int32} (d : decode YL.2.1 pc = .ok (.invokevirtual 174, 3) ∧ pc + 3 = pc') (hcat : (rest.map fun v => v.category).sum ≤ 8) (hlv : (lv.all fun q => xokv 215 q.2) = true) (hrs : (rest.all (xokv 215)) = true) (kk : Cz E Y_M_breach [.ref 110, .int p0] σ (fun v σ' => Wx E YL pc' lv (v.toList ++ rest) 215 215 100784 (zx σ') K)) : Wx E YL pc lv (.int p0 :: .ref 110 :: rest) 215 215 100784 (zx σ) K := l_invV (As := [.int p0]) (show xM YL.1.cls 174 Y_M_breach 1 from ⟨k_12_172, k_1_12, k_12_175, by decide, by decide, by decide +kernel⟩) k_12_173 k_12_174 (by decide) rfl (by decide) rfl ⟨⟨Nat.le_of_ble_eq_true rfl, Nat.le_of_ble_eq_true rfl⟩, rfl, rfl⟩ ⟨by decide, by decide⟩ d rfl rfl hcat hlv hrs kk
theorem lc_175 {E : xV} {pc pc' : Nat} {lv rest} {σ : zS} {K : xQQ} {p0 : Int32} (d : decode YL.2.1 pc = .ok (.invokevirtual 175, 3) ∧ pc + 3 = pc') (hcat : (rest.map fun v => v.category).sum ≤ 8) (hlv : (lv.all fun q => xokv 215 q.2) = true) (hrs : (rest.all (xokv 215)) = true) (kk : Cz E Y_H_session [.ref 0, .int p0] σ (fun v σ' => Wx E YL pc' lv (v.toList ++ rest) 215 215 100784 (zx σ') K)) : Wx E YL pc lv (.int p0 :: .ref 0 :: rest) 215 215 100784 (zx σ) K := l_invV (As := [.int p0]) (show xM YL.1.cls 175 Y_H_session 1 from ⟨k_6_177, k_1_1, k_6_180, by decide, by decide, by decide +kernel⟩) k_6_178 k_6_179 (by decide) rfl (by decide) rfl ⟨⟨Nat.le_of_ble_eq_true rfl, Nat.le_of_ble_eq_true rfl⟩, rfl, rfl⟩ ⟨by decide, by decide⟩ d rfl rfl hcat hlv hrs kk
theorem lc_178 {E : xV} {pc pc' : Nat} {lv rest} {σ : zS} {K : xQQ} {p0 : Int32} (d : decode YL.2.1 pc = .ok (.invokevirtual 178, 3) ∧ pc + 3 = pc') (hcat : (rest.map fun v => v.category).sum ≤ 8) (hlv : (lv.all fun q => xokv 215 q.2) = true) (hrs : (rest.all (xokv 215)) = true) (kk : Cz E Y_M_session [.ref 110, .int p0] σ (fun v σ' => Wx E YL pc' lv (v.toList ++ rest) 215 215 100784 (zx σ') K)) : Wx E YL pc lv (.int p0 :: .ref 110 :: rest) 215 215 100784 (zx σ) K := l_invV (As := [.int p0]) (show xM YL.1.cls 178 Y_M_session 1 from ⟨k_12_176, k_1_12, k_12_179, by decide, by decide, by decide +kernel⟩) k_12_177 k_12_178 (by decide) rfl (by decide) rfl ⟨⟨Nat.le_of_ble_eq_true rfl, Nat.le_of_ble_eq_true rfl⟩, rfl, rfl⟩ ⟨by decide, by decide⟩ d rfl rfl hcat hlv hrs kk
theorem lc_179 {E : xV} {pc pc' : Nat} {lv rest} {σ : zS} {K : xQQ} {p0 : Int32} {p1 : Int32} (d : decode YL.2.1 pc = .ok (.invokevirtual 179, 3) ∧ pc + 3 = pc') (hcat : (rest.map fun v => v.category).sum ≤ 8) (hlv : (lv.all fun q => xokv 215 q.2) = true) (hrs : (rest.all (xokv 215)) = true) (kk : Cz E Y_H_switchOn [.ref 0, .int p0, .int p1] σ (fun v σ' => Wx E YL pc' lv (v.toList ++ rest) 215 215 100784 (zx σ') K)) : Wx E YL pc lv (.int p1 :: .int p0 :: .ref 0 :: rest) 215 215 100784 (zx σ) K := l_invV (As := [.int p0, .int p1]) (show xM YL.1.cls 179 Y_H_switchOn 2 from ⟨k_6_185, k_1_1, k_6_188, by decide, by decide, by decide +kernel⟩) k_6_186 k_6_187 (by decide) rfl (by decide) rfl ⟨⟨Nat.le_of_ble_eq_true rfl, Nat.le_of_ble_eq_true rfl⟩, rfl, rfl⟩ ⟨by decide, by decide⟩ d rfl rfl hcat hlv hrs kk
theorem lc_182 {E : xV} {pc pc' : Nat} {lv rest} {σ : zS} {K : xQQ} {p0 : Int32} {p1 : Int32} (d : decode YL.2.1 pc = .ok (.invokevirtual 182, 3) ∧ pc + 3 = pc') (hcat : (rest.map fun v => v.category).sum ≤ 8) (hlv : (lv.all fun q => xokv 215 q.2) = true) (hrs : (rest.all (xokv 215)) = true) (kk : Cz E Y_M_switchOn [.ref 110, .int p0, .int p1] σ (fun v σ' => Wx E YL pc' lv (v.toList ++ rest) 215 215 100784 (zx σ') K)) : Wx E YL pc lv (.int p1 :: .int p0 :: .ref 110 :: rest) 215 215 100784 (zx σ) K := l_invV (As := [.int p0, .int p1]) (show xM YL.1.cls 182 Y_M_switchOn 2 from ⟨k_12_180, k_1_12, k_12_183, by decide, by decide, by decide +kernel⟩) k_12_181 k_12_182 (by decide) rfl (by decide) rfl ⟨⟨Nat.le_of_ble_eq_true rfl, Nat.le_of_ble_eq_true rfl⟩, rfl, rfl⟩ ⟨by decide, by decide⟩ d rfl rfl hcat hlv hrs kk
theorem lc_183 {E : xV} {pc pc' : Nat} {lv rest} {σ : zS} {K : xQQ} {p0 : Int32} {p1 : Int32} (d : decode YL.2.1 pc = .ok (.invokevirtual 183, 3) ∧ pc + 3 = pc') (hcat : (rest.map fun v => v.category).sum ≤ 8) (hlv : (lv.all fun q => xokv 215 q.2) = true) (hrs : (rest.all (xokv 215)) = true) (kk : Cz E Y_H_switchOff [.ref 0, .int p0, .int p1] σ (fun v σ' => Wx E YL pc' lv (v.toList ++ rest) 215 215 100784 (zx σ') K)) : Wx E YL pc lv (.int p1 :: .int p0 :: .ref 0 :: rest) 215 215 100784 (zx σ) K := l_invV (As := [.int p0, .int p1]) (show xM YL.1.cls 183 Y_H_switchOff 2 from ⟨k_6_193, k_1_1, k_6_196, by decide, by decide, by decide +kernel⟩) k_6_194 k_6_195 (by decide) rfl (by decide) rfl ⟨⟨Nat.le_of_ble_eq_true rfl, Nat.le_of_ble_eq_true rfl⟩, rfl, rfl⟩ ⟨by decide, by decide⟩ d rfl rfl hcat hlv hrs kk
theorem lc_186 {E : xV} {pc pc' : Nat} {lv rest} {σ : zS} {K : xQQ} {p0 : Int32} {p1 : Int32} (d : decode YL.2.1 pc = .ok (.invokevirtual 186, 3) ∧ pc + 3 = pc') (hcat : (rest.map fun v => v.category).sum ≤ 8) (hlv : (lv.all fun q => xokv 215 q.2) = true) (hrs : (rest.all (xokv 215)) = true) (kk : Cz E Y_M_switchOff [.ref 110, .int p0, .int p1] σ (fun v σ' => Wx E YL pc' lv (v.toList ++ rest) 215 215 100784 (zx σ') K)) : Wx E YL pc lv (.int p1 :: .int p0 :: .ref 110 :: rest) 215 215 100784 (zx σ) K := l_invV (As := [.int p0, .int p1]) (show xM YL.1.cls 186 Y_M_switchOff 2 from ⟨k_12_184, k_1_12, k_12_187, by decide, by decide, by decide +kernel⟩) k_12_185 k_12_186 (by decide) rfl (by decide) rfl ⟨⟨Nat.le_of_ble_eq_true rfl, Nat.le_of_ble_eq_true rfl⟩, rfl, rfl⟩ ⟨by decide, by decide⟩ d rfl rfl hcat hlv hrs kk
theorem lc_187 {E : xV} {pc pc' : Nat} {lv rest} {σ : zS} {K : xQQ} {p0 : Int32} {p1 : Int32} {p2 : Int32} (d : decode YL.2.1 pc = .ok (.invokevirtual 187, 3) ∧ pc + 3 = pc') (hcat : (rest.map fun v => v.category).sum ≤ 8) (hlv : (lv.all fun q => xokv 215 q.2) = true) (hrs : (rest.all (xokv 215)) = true) (kk : Cz E Y_H_askIn [.ref 0, .int p0, .int p1, .int p2] σ (fun v σ' => Wx E YL pc' lv (v.toList ++ rest) 215 215 100784 (zx σ') K)) : Wx E YL pc lv (.int p2 :: .int p1 :: .int p0 :: .ref 0 :: rest) 215 215 100784 (zx σ) K := l_invV (As := [.int p0, .int p1, .int p2]) (show xM YL.1.cls 187 Y_H_askIn 3 from ⟨k_6_197, k_1_1, k_6_200, by decide, by decide, by decide +kernel⟩) k_6_198 k_6_199 (by decide) rfl (by decide) rfl ⟨⟨Nat.le_of_ble_eq_true rfl, Nat.le_of_ble_eq_true rfl⟩, rfl, rfl⟩ ⟨by decide, by decide⟩ d rfl rfl hcat hlv hrs kk
theorem lc_190 {E : xV} {pc pc' : Nat} {lv rest} {σ : zS} {K : xQQ} {p0 : Int32} {p1 : Int32} {p2 : Int32} (d : decode YL.2.1 pc = .ok (.invokevirtual 190, 3) ∧ pc + 3 = pc') (hcat : (rest.map fun v => v.category).sum ≤ 8) (hlv : (lv.all fun q => xokv 215 q.2) = true) (hrs : (rest.all (xokv 215)) = true) (kk : Cz E Y_M_askIn [.ref 110, .int p0, .int p1, .int p2] σ (fun v σ' => Wx E YL pc' lv (v.toList ++ rest) 215 215 100784 (zx σ') K)) : Wx E YL pc lv (.int p2 :: .int p1 :: .int p0 :: .ref 110 :: rest) 215 215 100784 (zx σ) K := l_invV (As := [.int p0, .int p1, .int p2]) (show xM YL.1.cls 190 Y_M_askIn 3 from ⟨k_12_188, k_1_12, k_12_191, by decide, by decide, by decide +kernel⟩) k_12_189 k_12_190 (by decide) rfl (by decide) rfl ⟨⟨Nat.le_of_ble_eq_true rfl, Nat.le_of_ble_eq_true rfl⟩, rfl, rfl⟩ ⟨by decide, by decide⟩ d rfl rfl hcat hlv hrs kk
theorem lc_191 {E : xV} {pc pc' : Nat} {lv rest} {σ : zS} {K : xQQ}  (d : decode YL.2.1 pc = .ok (.invokevirtual 191, 3) ∧ pc + 3 = pc') (hcat : (rest.map fun v => v.category).sum ≤ 8) (hlv : (lv.all fun q => xokv 215 q.2) = true) (hrs : (rest.all (xokv 215)) = true) (kk : Cz E Y_H_work [.ref 0] σ (fun v σ' => Wx E YL pc' lv (v.toList ++ rest) 215 215 100784 (zx σ') K)) : Wx E YL pc lv (.ref 0 :: rest) 215 215 100784 (zx σ) K := l_invV (As := []) (show xM YL.1.cls 191 Y_H_work 0 from ⟨k_6_206, k_1_1, k_6_209, by decide, by decide, by decide +kernel⟩) k_6_207 k_6_208 (by decide) rfl (by decide) rfl ⟨⟨Nat.le_of_ble_eq_true rfl, Nat.le_of_ble_eq_true rfl⟩, rfl, rfl⟩ ⟨by decide, by decide⟩ d rfl rfl hcat hlv hrs kk
theorem lc_194 {E : xV} {pc pc' : Nat} {lv rest} {σ : zS} {K : xQQ}  (d : decode YL.2.1 pc = .ok (.invokevirtual 194, 3) ∧ pc + 3 = pc') (hcat : (rest.map fun v => v.category).sum ≤ 8) (hlv : (lv.all fun q => xokv 215 q.2) = true) (hrs : (rest.all (xokv 215)) = true) (kk : Cz E Y_M_work [.ref 110] σ (fun v σ' => Wx E YL pc' lv (v.toList ++ rest) 215 215 100784 (zx σ') K)) : Wx E YL pc lv (.ref 110 :: rest) 215 215 100784 (zx σ) K := l_invV (As := []) (show xM YL.1.cls 194 Y_M_work 0 from ⟨k_12_192, k_1_12, k_12_195, by decide, by decide, by decide +kernel⟩) k_12_193 k_12_194 (by decide) rfl (by decide) rfl ⟨⟨Nat.le_of_ble_eq_true rfl, Nat.le_of_ble_eq_true rfl⟩, rfl, rfl⟩ ⟨by decide, by decide⟩ d rfl rfl hcat hlv hrs kk
theorem lc_195 {E : xV} {pc pc' : Nat} {lv rest} {σ : zS} {K : xQQ} {p0 : Int32} {p1 : Int32} (d : decode YL.2.1 pc = .ok (.invokevirtual 195, 3) ∧ pc + 3 = pc') (hcat : (rest.map fun v => v.category).sum ≤ 8) (hlv : (lv.all fun q => xokv 215 q.2) = true) (hrs : (rest.all (xokv 215)) = true) (kk : Cz E Y_H_step [.ref 0, .int p0, .int p1] σ (fun v σ' => Wx E YL pc' lv (v.toList ++ rest) 215 215 100784 (zx σ') K)) : Wx E YL pc lv (.int p1 :: .int p0 :: .ref 0 :: rest) 215 215 100784 (zx σ) K := l_invV (As := [.int p0, .int p1]) (show xM YL.1.cls 195 Y_H_step 2 from ⟨k_6_210, k_1_1, k_6_213, by decide, by decide, by decide +kernel⟩) k_6_211 k_6_212 (by decide) rfl (by decide) rfl ⟨⟨Nat.le_of_ble_eq_true rfl, Nat.le_of_ble_eq_true rfl⟩, rfl, rfl⟩ ⟨by decide, by decide⟩ d rfl rfl hcat hlv hrs kk
theorem lc_198 {E : xV} {pc pc' : Nat} {lv rest} {σ : zS} {K : xQQ} {p0 : Int32} {p1 : Int32} (d : decode YL.2.1 pc = .ok (.invokevirtual 198, 3) ∧ pc + 3 = pc') (hcat : (rest.map fun v => v.category).sum ≤ 8) (hlv : (lv.all fun q => xokv 215 q.2) = true) (hrs : (rest.all (xokv 215)) = true) (kk : Cz E Y_M_step [.ref 110, .int p0, .int p1] σ (fun v σ' => Wx E YL pc' lv (v.toList ++ rest) 215 215 100784 (zx σ') K)) : Wx E YL pc lv (.int p1 :: .int p0 :: .ref 110 :: rest) 215 215 100784 (zx σ) K := l_invV (As := [.int p0, .int p1]) (show xM YL.1.cls 198 Y_M_step 2 from ⟨k_12_196, k_1_12, k_12_199, by decide, by decide, by decide +kernel⟩) k_12_197 k_12_198 (by decide) rfl (by decide) rfl ⟨⟨Nat.le_of_ble_eq_true rfl, Nat.le_of_ble_eq_true rfl⟩, rfl, rfl⟩ ⟨by decide, by decide⟩ d rfl rfl hcat hlv hrs kk
theorem lc_199 {E : xV} {pc pc' : Nat} {lv rest} {σ : zS} {K : xQQ} {p0 : Int32} {p1 : Int32} {p2 : Int32} {p3 : Int32} (d : decode YL.2.1 pc = .ok (.invokevirtual 199, 3) ∧ pc + 3 = pc') (hcat : (rest.map fun v => v.category).sum ≤ 8) (hlv : (lv.all fun q => xokv 215 q.2) = true) (hrs : (rest.all (xokv 215)) = true) (kk : Cz E Y_H_tie [.ref 0, .int p0, .int p1, .int p2, .int p3] σ (fun v σ' => Wx E YL pc' lv (v.toList ++ rest) 215 215 100784 (zx σ') K)) : Wx E YL pc lv (.int p3 :: .int p2 :: .int p1 :: .int p0 :: .ref 0 :: rest) 215 215 100784 (zx σ) K := l_invV (As := [.int p0, .int p1, .int p2, .int p3]) (show xM YL.1.cls 199 Y_H_tie 4 from ⟨k_6_218, k_1_1, k_6_221, by decide, by decide, by decide +kernel⟩) k_6_219 k_6_220 (by decide) rfl (by decide) rfl ⟨⟨Nat.le_of_ble_eq_true rfl, Nat.le_of_ble_eq_true rfl⟩, rfl, rfl⟩ ⟨by decide, by decide⟩ d rfl rfl hcat hlv hrs kk
theorem lc_202 {E : xV} {pc pc' : Nat} {lv rest} {σ : zS} {K : xQQ} {p0 : Int32} {p1 : Int32} {p2 : Int32} {p3 : Int32} (d : decode YL.2.1 pc = .ok (.invokevirtual 202, 3) ∧ pc + 3 = pc') (hcat : (rest.map fun v => v.category).sum ≤ 8) (hlv : (lv.all fun q => xokv 215 q.2) = true) (hrs : (rest.all (xokv 215)) = true) (kk : Cz E Y_M_tie [.ref 110, .int p0, .int p1, .int p2, .int p3] σ (fun v σ' => Wx E YL pc' lv (v.toList ++ rest) 215 215 100784 (zx σ') K)) : Wx E YL pc lv (.int p3 :: .int p2 :: .int p1 :: .int p0 :: .ref 110 :: rest) 215 215 100784 (zx σ) K := l_invV (As := [.int p0, .int p1, .int p2, .int p3]) (show xM YL.1.cls 202 Y_M_tie 4 from ⟨k_12_204, k_1_12, k_12_207, by decide, by decide, by decide +kernel⟩) k_12_205 k_12_206 (by decide) rfl (by decide) rfl ⟨⟨Nat.le_of_ble_eq_true rfl, Nat.le_of_ble_eq_true rfl⟩, rfl, rfl⟩ ⟨by decide, by decide⟩ d rfl rfl hcat hlv hrs kk
theorem lc_203 {E : xV} {pc pc' : Nat} {lv rest} {σ : zS} {K : xQQ} {p0 : Int32} {p1 : Int32} (d : decode YL.2.1 pc = .ok (.invokevirtual 203, 3) ∧ pc + 3 = pc') (hcat : (rest.map fun v => v.category).sum ≤ 8) (hlv : (lv.all fun q => xokv 215 q.2) = true) (hrs : (rest.all (xokv 215)) = true) (kk : Cz E Y_H_fill [.ref 0, .int p0, .int p1] σ (fun v σ' => Wx E YL pc' lv (v.toList ++ rest) 215 215 100784 (zx σ') K)) : Wx E YL pc lv (.int p1 :: .int p0 :: .ref 0 :: rest) 215 215 100784 (zx σ) K := l_invV (As := [.int p0, .int p1]) (show xM YL.1.cls 203 Y_H_fill 2 from ⟨k_6_226, k_1_1, k_6_229, by decide, by decide, by decide +kernel⟩) k_6_227 k_6_228 (by decide) rfl (by decide) rfl ⟨⟨Nat.le_of_ble_eq_true rfl, Nat.le_of_ble_eq_true rfl⟩, rfl, rfl⟩ ⟨by decide, by decide⟩ d rfl rfl hcat hlv hrs kk
theorem lc_206 {E : xV} {pc pc' : Nat} {lv rest} {σ : zS} {K : xQQ} {p0 : Int32} {p1 : Int32} (d : decode YL.2.1 pc = .ok (.invokevirtual 206, 3) ∧ pc + 3 = pc') (hcat : (rest.map fun v => v.category).sum ≤ 8) (hlv : (lv.all fun q => xokv 215 q.2) = true) (hrs : (rest.all (xokv 215)) = true) (kk : Cz E Y_M_fill [.ref 110, .int p0, .int p1] σ (fun v σ' => Wx E YL pc' lv (v.toList ++ rest) 215 215 100784 (zx σ') K)) : Wx E YL pc lv (.int p1 :: .int p0 :: .ref 110 :: rest) 215 215 100784 (zx σ) K := l_invV (As := [.int p0, .int p1]) (show xM YL.1.cls 206 Y_M_fill 2 from ⟨k_12_212, k_1_12, k_12_215, by decide, by decide, by decide +kernel⟩) k_12_213 k_12_214 (by decide) rfl (by decide) rfl ⟨⟨Nat.le_of_ble_eq_true rfl, Nat.le_of_ble_eq_true rfl⟩, rfl, rfl⟩ ⟨by decide, by decide⟩ d rfl rfl hcat hlv hrs kk
theorem lc_207 {E : xV} {pc pc' : Nat} {lv rest} {σ : zS} {K : xQQ} {p0 : Int32} {p1 : Int32} (d : decode YL.2.1 pc = .ok (.invokevirtual 207, 3) ∧ pc + 3 = pc') (hcat : (rest.map fun v => v.category).sum ≤ 8) (hlv : (lv.all fun q => xokv 215 q.2) = true) (hrs : (rest.all (xokv 215)) = true) (kk : Cz E Y_H_filled [.ref 0, .int p0, .int p1] σ (fun v σ' => Wx E YL pc' lv (v.toList ++ rest) 215 215 100784 (zx σ') K)) : Wx E YL pc lv (.int p1 :: .int p0 :: .ref 0 :: rest) 215 215 100784 (zx σ) K := l_invV (As := [.int p0, .int p1]) (show xM YL.1.cls 207 Y_H_filled 2 from ⟨k_7_20, k_1_1, k_7_23, by decide, by decide, by decide +kernel⟩) k_7_21 k_7_22 (by decide) rfl (by decide) rfl ⟨⟨Nat.le_of_ble_eq_true rfl, Nat.le_of_ble_eq_true rfl⟩, rfl, rfl⟩ ⟨by decide, by decide⟩ d rfl rfl hcat hlv hrs kk
theorem lc_210 {E : xV} {pc pc' : Nat} {lv rest} {σ : zS} {K : xQQ} {p0 : Int32} {p1 : Int32} (d : decode YL.2.1 pc = .ok (.invokevirtual 210, 3) ∧ pc + 3 = pc') (hcat : (rest.map fun v => v.category).sum ≤ 8) (hlv : (lv.all fun q => xokv 215 q.2) = true) (hrs : (rest.all (xokv 215)) = true) (kk : Cz E Y_M_filled [.ref 110, .int p0, .int p1] σ (fun v σ' => Wx E YL pc' lv (v.toList ++ rest) 215 215 100784 (zx σ') K)) : Wx E YL pc lv (.int p1 :: .int p0 :: .ref 110 :: rest) 215 215 100784 (zx σ) K := l_invV (As := [.int p0, .int p1]) (show xM YL.1.cls 210 Y_M_filled 2 from ⟨k_12_229, k_1_12, k_12_232, by decide, by decide, by decide +kernel⟩) k_12_230 k_12_231 (by decide) rfl (by decide) rfl ⟨⟨Nat.le_of_ble_eq_true rfl, Nat.le_of_ble_eq_true rfl⟩, rfl, rfl⟩ ⟨by decide, by decide⟩ d rfl rfl hcat hlv hrs kk
theorem lc_211 {E : xV} {pc pc' : Nat} {lv rest} {σ : zS} {K : xQQ} {p0 : Int32} {p1 : Int32} {p2 : Int32} {p3 : Int32} (d : decode YL.2.1 pc = .ok (.invokevirtual 211, 3) ∧ pc + 3 = pc') (hcat : (rest.map fun v => v.category).sum ≤ 8) (hlv : (lv.all fun q => xokv 215 q.2) = true) (hrs : (rest.all (xokv 215)) = true) (kk : Cz E Y_H_next [.ref 0, .int p0, .int p1, .int p2, .int p3] σ (fun v σ' => Wx E YL pc' lv (v.toList ++ rest) 215 215 100784 (zx σ') K)) : Wx E YL pc lv (.int p3 :: .int p2 :: .int p1 :: .int p0 :: .ref 0 :: rest) 215 215 100784 (zx σ) K := l_invV (As := [.int p0, .int p1, .int p2, .int p3]) (show xM YL.1.cls 211 Y_H_next 4 from ⟨k_7_24, k_1_1, k_7_27, by decide, by decide, by decide +kernel⟩) k_7_25 k_7_26 (by decide) rfl (by decide) rfl ⟨⟨Nat.le_of_ble_eq_true rfl, Nat.le_of_ble_eq_true rfl⟩, rfl, rfl⟩ ⟨by decide, by decide⟩ d rfl rfl hcat hlv hrs kk
theorem lc_214 {E : xV} {pc pc' : Nat} {lv rest} {σ : zS} {K : xQQ} {p0 : Int32} {p1 : Int32} {p2 : Int32} {p3 : Int32} (d : decode YL.2.1 pc = .ok (.invokevirtual 214, 3) ∧ pc + 3 = pc') (hcat : (rest.map fun v => v.category).sum ≤ 8) (hlv : (lv.all fun q => xokv 215 q.2) = true) (hrs : (rest.all (xokv 215)) = true) (kk : Cz E Y_M_next [.ref 110, .int p0, .int p1, .int p2, .int p3] σ (fun v σ' => Wx E YL pc' lv (v.toList ++ rest) 215 215 100784 (zx σ') K)) : Wx E YL pc lv (.int p3 :: .int p2 :: .int p1 :: .int p0 :: .ref 110 :: rest) 215 215 100784 (zx σ) K := l_invV (As := [.int p0, .int p1, .int p2, .int p3]) (show xM YL.1.cls 214 Y_M_next 4 from ⟨k_12_233, k_1_12, k_12_236, by decide, by decide, by decide +kernel⟩) k_12_234 k_12_235 (by decide) rfl (by decide) rfl ⟨⟨Nat.le_of_ble_eq_true rfl, Nat.le_of_ble_eq_true rfl⟩, rfl, rfl⟩ ⟨by decide, by decide⟩ d rfl rfl hcat hlv hrs kk
theorem lc_215 {E : xV} {pc pc' : Nat} {lv rest} {σ : zS} {K : xQQ} {p0 : Int32} {p1 : Int32} {p2 : Int32} {p3 : Int32} (d : decode YL.2.1 pc = .ok (.invokevirtual 215, 3) ∧ pc + 3 = pc') (hcat : (rest.map fun v => v.category).sum ≤ 8) (hlv : (lv.all fun q => xokv 215 q.2) = true) (hrs : (rest.all (xokv 215)) = true) (kk : Cz E Y_H_perform [.ref 0, .int p0, .int p1, .int p2, .int p3] σ (fun v σ' => Wx E YL pc' lv (v.toList ++ rest) 215 215 100784 (zx σ') K)) : Wx E YL pc lv (.int p3 :: .int p2 :: .int p1 :: .int p0 :: .ref 0 :: rest) 215 215 100784 (zx σ) K := l_invV (As := [.int p0, .int p1, .int p2, .int p3]) (show xM YL.1.cls 215 Y_H_perform 4 from ⟨k_7_33, k_1_1, k_7_36, by decide, by decide, by decide +kernel⟩) k_7_34 k_7_35 (by decide) rfl (by decide) rfl ⟨⟨Nat.le_of_ble_eq_true rfl, Nat.le_of_ble_eq_true rfl⟩, rfl, rfl⟩ ⟨by decide, by decide⟩ d rfl rfl hcat hlv hrs kk
theorem lc_218 {E : xV} {pc pc' : Nat} {lv rest} {σ : zS} {K : xQQ} {p0 : Int32} {p1 : Int32} {p2 : Int32} {p3 : Int32} (d : decode YL.2.1 pc = .ok (.invokevirtual 218, 3) ∧ pc + 3 = pc') (hcat : (rest.map fun v => v.category).sum ≤ 8) (hlv : (lv.all fun q => xokv 215 q.2) = true) (hrs : (rest.all (xokv 215)) = true) (kk : Cz E Y_M_perform [.ref 110, .int p0, .int p1, .int p2, .int p3] σ (fun v σ' => Wx E YL pc' lv (v.toList ++ rest) 215 215 100784 (zx σ') K)) : Wx E YL pc lv (.int p3 :: .int p2 :: .int p1 :: .int p0 :: .ref 110 :: rest) 215 215 100784 (zx σ) K := l_invV (As := [.int p0, .int p1, .int p2, .int p3]) (show xM YL.1.cls 218 Y_M_perform 4 from ⟨k_13_1, k_1_12, k_13_4, by decide, by decide, by decide +kernel⟩) k_13_2 k_13_3 (by decide) rfl (by decide) rfl ⟨⟨Nat.le_of_ble_eq_true rfl, Nat.le_of_ble_eq_true rfl⟩, rfl, rfl⟩ ⟨by decide, by decide⟩ d rfl rfl hcat hlv hrs kk
theorem lc_219 {E : xV} {pc pc' : Nat} {lv rest} {σ : zS} {K : xQQ} {p0 : Int32} {p1 : Int32} {p2 : Int32} (d : decode YL.2.1 pc = .ok (.invokevirtual 219, 3) ∧ pc + 3 = pc') (hcat : (rest.map fun v => v.category).sum ≤ 8) (hlv : (lv.all fun q => xokv 215 q.2) = true) (hrs : (rest.all (xokv 215)) = true) (kk : Cz E Y_H_needed [.ref 0, .int p0, .int p1, .int p2] σ (fun v σ' => Wx E YL pc' lv (v.toList ++ rest) 215 215 100784 (zx σ') K)) : Wx E YL pc lv (.int p2 :: .int p1 :: .int p0 :: .ref 0 :: rest) 215 215 100784 (zx σ) K := l_invV (As := [.int p0, .int p1, .int p2]) (show xM YL.1.cls 219 Y_H_needed 3 from ⟨k_7_38, k_1_1, k_7_41, by decide, by decide, by decide +kernel⟩) k_7_39 k_7_40 (by decide) rfl (by decide) rfl ⟨⟨Nat.le_of_ble_eq_true rfl, Nat.le_of_ble_eq_true rfl⟩, rfl, rfl⟩ ⟨by decide, by decide⟩ d rfl rfl hcat hlv hrs kk
theorem lc_222 {E : xV} {pc pc' : Nat} {lv rest} {σ : zS} {K : xQQ} {p0 : Int32} {p1 : Int32} {p2 : Int32} (d : decode YL.2.1 pc = .ok (.invokevirtual 222, 3) ∧ pc + 3 = pc') (hcat : (rest.map fun v => v.category).sum ≤ 8) (hlv : (lv.all fun q => xokv 215 q.2) = true) (hrs : (rest.all (xokv 215)) = true) (kk : Cz E Y_M_needed [.ref 110, .int p0, .int p1, .int p2] σ (fun v σ' => Wx E YL pc' lv (v.toList ++ rest) 215 215 100784 (zx σ') K)) : Wx E YL pc lv (.int p2 :: .int p1 :: .int p0 :: .ref 110 :: rest) 215 215 100784 (zx σ) K := l_invV (As := [.int p0, .int p1, .int p2]) (show xM YL.1.cls 222 Y_M_needed 3 from ⟨k_13_5, k_1_12, k_13_8, by decide, by decide, by decide +kernel⟩) k_13_6 k_13_7 (by decide) rfl (by decide) rfl ⟨⟨Nat.le_of_ble_eq_true rfl, Nat.le_of_ble_eq_true rfl⟩, rfl, rfl⟩ ⟨by decide, by decide⟩ d rfl rfl hcat hlv hrs kk
theorem lc_223 {E : xV} {pc pc' : Nat} {lv rest} {σ : zS} {K : xQQ}  (d : decode YL.2.1 pc = .ok (.invokevirtual 223, 3) ∧ pc + 3 = pc') (hcat : (rest.map fun v => v.category).sum ≤ 8) (hlv : (lv.all fun q => xokv 215 q.2) = true) (hrs : (rest.all (xokv 215)) = true) (kk : Cz E Y_H_tries [.ref 0] σ (fun v σ' => Wx E YL pc' lv (v.toList ++ rest) 215 215 100784 (zx σ') K)) : Wx E YL pc lv (.ref 0 :: rest) 215 215 100784 (zx σ) K := l_invV (As := []) (show xM YL.1.cls 223 Y_H_tries 0 from ⟨k_7_46, k_1_1, k_7_49, by decide, by decide, by decide +kernel⟩) k_7_47 k_7_48 (by decide) rfl (by decide) rfl ⟨⟨Nat.le_of_ble_eq_true rfl, Nat.le_of_ble_eq_true rfl⟩, rfl, rfl⟩ ⟨by decide, by decide⟩ d rfl rfl hcat hlv hrs kk
theorem lc_226 {E : xV} {pc pc' : Nat} {lv rest} {σ : zS} {K : xQQ}  (d : decode YL.2.1 pc = .ok (.invokevirtual 226, 3) ∧ pc + 3 = pc') (hcat : (rest.map fun v => v.category).sum ≤ 8) (hlv : (lv.all fun q => xokv 215 q.2) = true) (hrs : (rest.all (xokv 215)) = true) (kk : Cz E Y_M_tries [.ref 110] σ (fun v σ' => Wx E YL pc' lv (v.toList ++ rest) 215 215 100784 (zx σ') K)) : Wx E YL pc lv (.ref 110 :: rest) 215 215 100784 (zx σ) K := l_invV (As := []) (show xM YL.1.cls 226 Y_M_tries 0 from ⟨k_13_9, k_1_12, k_13_12, by decide, by decide, by decide +kernel⟩) k_13_10 k_13_11 (by decide) rfl (by decide) rfl ⟨⟨Nat.le_of_ble_eq_true rfl, Nat.le_of_ble_eq_true rfl⟩, rfl, rfl⟩ ⟨by decide, by decide⟩ d rfl rfl hcat hlv hrs kk
theorem lc_227 {E : xV} {pc pc' : Nat} {lv rest} {σ : zS} {K : xQQ} {p0 : Int32} {p1 : Int32} {p2 : Int32} {p3 : Int32} {p4 : Int32} {p5 : Int32} {p6 : Int32} (d : decode YL.2.1 pc = .ok (.invokevirtual 227, 3) ∧ pc + 3 = pc') (hcat : (rest.map fun v => v.category).sum ≤ 8) (hlv : (lv.all fun q => xokv 215 q.2) = true) (hrs : (rest.all (xokv 215)) = true) (kk : Cz E Y_H_lend [.ref 0, .int p0, .int p1, .int p2, .int p3, .int p4, .int p5, .int p6] σ (fun v σ' => Wx E YL pc' lv (v.toList ++ rest) 215 215 100784 (zx σ') K)) : Wx E YL pc lv (.int p6 :: .int p5 :: .int p4 :: .int p3 :: .int p2 :: .int p1 :: .int p0 :: .ref 0 :: rest) 215 215 100784 (zx σ) K := l_invV (As := [.int p0, .int p1, .int p2, .int p3, .int p4, .int p5, .int p6]) (show xM YL.1.cls 227 Y_H_lend 7 from ⟨k_7_50, k_1_1, k_7_53, by decide, by decide, by decide +kernel⟩) k_7_51 k_7_52 (by decide) rfl (by decide) rfl ⟨⟨Nat.le_of_ble_eq_true rfl, Nat.le_of_ble_eq_true rfl⟩, rfl, rfl⟩ ⟨by decide, by decide⟩ d rfl rfl hcat hlv hrs kk
theorem lc_230 {E : xV} {pc pc' : Nat} {lv rest} {σ : zS} {K : xQQ} {p0 : Int32} {p1 : Int32} {p2 : Int32} {p3 : Int32} {p4 : Int32} {p5 : Int32} {p6 : Int32} (d : decode YL.2.1 pc = .ok (.invokevirtual 230, 3) ∧ pc + 3 = pc') (hcat : (rest.map fun v => v.category).sum ≤ 8) (hlv : (lv.all fun q => xokv 215 q.2) = true) (hrs : (rest.all (xokv 215)) = true) (kk : Cz E Y_M_lend [.ref 110, .int p0, .int p1, .int p2, .int p3, .int p4, .int p5, .int p6] σ (fun v σ' => Wx E YL pc' lv (v.toList ++ rest) 215 215 100784 (zx σ') K)) : Wx E YL pc lv (.int p6 :: .int p5 :: .int p4 :: .int p3 :: .int p2 :: .int p1 :: .int p0 :: .ref 110 :: rest) 215 215 100784 (zx σ) K := l_invV (As := [.int p0, .int p1, .int p2, .int p3, .int p4, .int p5, .int p6]) (show xM YL.1.cls 230 Y_M_lend 7 from ⟨k_13_13, k_1_12, k_13_16, by decide, by decide, by decide +kernel⟩) k_13_14 k_13_15 (by decide) rfl (by decide) rfl ⟨⟨Nat.le_of_ble_eq_true rfl, Nat.le_of_ble_eq_true rfl⟩, rfl, rfl⟩ ⟨by decide, by decide⟩ d rfl rfl hcat hlv hrs kk
theorem lc_231 {E : xV} {pc pc' : Nat} {lv rest} {σ : zS} {K : xQQ} {p0 : Int32} {p1 : Int32} (d : decode YL.2.1 pc = .ok (.invokevirtual 231, 3) ∧ pc + 3 = pc') (hcat : (rest.map fun v => v.category).sum ≤ 8) (hlv : (lv.all fun q => xokv 215 q.2) = true) (hrs : (rest.all (xokv 215)) = true) (kk : Cz E Y_H_endLend [.ref 0, .int p0, .int p1] σ (fun v σ' => Wx E YL pc' lv (v.toList ++ rest) 215 215 100784 (zx σ') K)) : Wx E YL pc lv (.int p1 :: .int p0 :: .ref 0 :: rest) 215 215 100784 (zx σ) K := l_invV (As := [.int p0, .int p1]) (show xM YL.1.cls 231 Y_H_endLend 2 from ⟨k_7_73, k_1_1, k_7_76, by decide, by decide, by decide +kernel⟩) k_7_74 k_7_75 (by decide) rfl (by decide) rfl ⟨⟨Nat.le_of_ble_eq_true rfl, Nat.le_of_ble_eq_true rfl⟩, rfl, rfl⟩ ⟨by decide, by decide⟩ d rfl rfl hcat hlv hrs kk
theorem lc_234 {E : xV} {pc pc' : Nat} {lv rest} {σ : zS} {K : xQQ} {p0 : Int32} {p1 : Int32} (d : decode YL.2.1 pc = .ok (.invokevirtual 234, 3) ∧ pc + 3 = pc') (hcat : (rest.map fun v => v.category).sum ≤ 8) (hlv : (lv.all fun q => xokv 215 q.2) = true) (hrs : (rest.all (xokv 215)) = true) (kk : Cz E Y_M_endLend [.ref 110, .int p0, .int p1] σ (fun v σ' => Wx E YL pc' lv (v.toList ++ rest) 215 215 100784 (zx σ') K)) : Wx E YL pc lv (.int p1 :: .int p0 :: .ref 110 :: rest) 215 215 100784 (zx σ) K := l_invV (As := [.int p0, .int p1]) (show xM YL.1.cls 234 Y_M_endLend 2 from ⟨k_13_30, k_1_12, k_13_33, by decide, by decide, by decide +kernel⟩) k_13_31 k_13_32 (by decide) rfl (by decide) rfl ⟨⟨Nat.le_of_ble_eq_true rfl, Nat.le_of_ble_eq_true rfl⟩, rfl, rfl⟩ ⟨by decide, by decide⟩ d rfl rfl hcat hlv hrs kk
theorem lc_235 {E : xV} {pc pc' : Nat} {lv rest} {σ : zS} {K : xQQ} {p0 : Int32} {p1 : Int32} {p2 : Int32} {p3 : Int32} (d : decode YL.2.1 pc = .ok (.invokevirtual 235, 3) ∧ pc + 3 = pc') (hcat : (rest.map fun v => v.category).sum ≤ 8) (hlv : (lv.all fun q => xokv 215 q.2) = true) (hrs : (rest.all (xokv 215)) = true) (kk : Cz E Y_H_stands [.ref 0, .int p0, .int p1, .int p2, .int p3] σ (fun v σ' => Wx E YL pc' lv (v.toList ++ rest) 215 215 100784 (zx σ') K)) : Wx E YL pc lv (.int p3 :: .int p2 :: .int p1 :: .int p0 :: .ref 0 :: rest) 215 215 100784 (zx σ) K := l_invV (As := [.int p0, .int p1, .int p2, .int p3]) (show xM YL.1.cls 235 Y_H_stands 4 from ⟨k_7_77, k_1_1, k_7_80, by decide, by decide, by decide +kernel⟩) k_7_78 k_7_79 (by decide) rfl (by decide) rfl ⟨⟨Nat.le_of_ble_eq_true rfl, Nat.le_of_ble_eq_true rfl⟩, rfl, rfl⟩ ⟨by decide, by decide⟩ d rfl rfl hcat hlv hrs kk
theorem lc_238 {E : xV} {pc pc' : Nat} {lv rest} {σ : zS} {K : xQQ} {p0 : Int32} {p1 : Int32} {p2 : Int32} {p3 : Int32} (d : decode YL.2.1 pc = .ok (.invokevirtual 238, 3) ∧ pc + 3 = pc') (hcat : (rest.map fun v => v.category).sum ≤ 8) (hlv : (lv.all fun q => xokv 215 q.2) = true) (hrs : (rest.all (xokv 215)) = true) (kk : Cz E Y_M_stands [.ref 110, .int p0, .int p1, .int p2, .int p3] σ (fun v σ' => Wx E YL pc' lv (v.toList ++ rest) 215 215 100784 (zx σ') K)) : Wx E YL pc lv (.int p3 :: .int p2 :: .int p1 :: .int p0 :: .ref 110 :: rest) 215 215 100784 (zx σ) K := l_invV (As := [.int p0, .int p1, .int p2, .int p3]) (show xM YL.1.cls 238 Y_M_stands 4 from ⟨k_13_34, k_1_12, k_13_37, by decide, by decide, by decide +kernel⟩) k_13_35 k_13_36 (by decide) rfl (by decide) rfl ⟨⟨Nat.le_of_ble_eq_true rfl, Nat.le_of_ble_eq_true rfl⟩, rfl, rfl⟩ ⟨by decide, by decide⟩ d rfl rfl hcat hlv hrs kk
theorem lc_239 {E : xV} {pc pc' : Nat} {lv rest} {σ : zS} {K : xQQ} {p0 : Int32} (d : decode YL.2.1 pc = .ok (.invokevirtual 239, 3) ∧ pc + 3 = pc') (hcat : (rest.map fun v => v.category).sum ≤ 8) (hlv : (lv.all fun q => xokv 215 q.2) = true) (hrs : (rest.all (xokv 215)) = true) (kk : Cz E Y_H_chain [.ref 0, .int p0] σ (fun v σ' => Wx E YL pc' lv (v.toList ++ rest) 215 215 100784 (zx σ') K)) : Wx E YL pc lv (.int p0 :: .ref 0 :: rest) 215 215 100784 (zx σ) K := l_invV (As := [.int p0]) (show xM YL.1.cls 239 Y_H_chain 1 from ⟨k_7_85, k_1_1, k_7_88, by decide, by decide, by decide +kernel⟩) k_7_86 k_7_87 (by decide) rfl (by decide) rfl ⟨⟨Nat.le_of_ble_eq_true rfl, Nat.le_of_ble_eq_true rfl⟩, rfl, rfl⟩ ⟨by decide, by decide⟩ d rfl rfl hcat hlv hrs kk
theorem lc_242 {E : xV} {pc pc' : Nat} {lv rest} {σ : zS} {K : xQQ} {p0 : Int32} (d : decode YL.2.1 pc = .ok (.invokevirtual 242, 3) ∧ pc + 3 = pc') (hcat : (rest.map fun v => v.category).sum ≤ 8) (hlv : (lv.all fun q => xokv 215 q.2) = true) (hrs : (rest.all (xokv 215)) = true) (kk : Cz E Y_M_chain [.ref 110, .int p0] σ (fun v σ' => Wx E YL pc' lv (v.toList ++ rest) 215 215 100784 (zx σ') K)) : Wx E YL pc lv (.int p0 :: .ref 110 :: rest) 215 215 100784 (zx σ) K := l_invV (As := [.int p0]) (show xM YL.1.cls 242 Y_M_chain 1 from ⟨k_13_42, k_1_12, k_13_45, by decide, by decide, by decide +kernel⟩) k_13_43 k_13_44 (by decide) rfl (by decide) rfl ⟨⟨Nat.le_of_ble_eq_true rfl, Nat.le_of_ble_eq_true rfl⟩, rfl, rfl⟩ ⟨by decide, by decide⟩ d rfl rfl hcat hlv hrs kk
theorem lc_243 {E : xV} {pc pc' : Nat} {lv rest} {σ : zS} {K : xQQ} {p0 : Int32} {p1 : Int32} {p2 : Int32} (d : decode YL.2.1 pc = .ok (.invokevirtual 243, 3) ∧ pc + 3 = pc') (hcat : (rest.map fun v => v.category).sum ≤ 8) (hlv : (lv.all fun q => xokv 215 q.2) = true) (hrs : (rest.all (xokv 215)) = true) (kk : Cz E Y_H_useRight [.ref 0, .int p0, .int p1, .int p2] σ (fun v σ' => Wx E YL pc' lv (v.toList ++ rest) 215 215 100784 (zx σ') K)) : Wx E YL pc lv (.int p2 :: .int p1 :: .int p0 :: .ref 0 :: rest) 215 215 100784 (zx σ) K := l_invV (As := [.int p0, .int p1, .int p2]) (show xM YL.1.cls 243 Y_H_useRight 3 from ⟨k_7_89, k_1_1, k_7_92, by decide, by decide, by decide +kernel⟩) k_7_90 k_7_91 (by decide) rfl (by decide) rfl ⟨⟨Nat.le_of_ble_eq_true rfl, Nat.le_of_ble_eq_true rfl⟩, rfl, rfl⟩ ⟨by decide, by decide⟩ d rfl rfl hcat hlv hrs kk
theorem lc_246 {E : xV} {pc pc' : Nat} {lv rest} {σ : zS} {K : xQQ} {p0 : Int32} {p1 : Int32} {p2 : Int32} (d : decode YL.2.1 pc = .ok (.invokevirtual 246, 3) ∧ pc + 3 = pc') (hcat : (rest.map fun v => v.category).sum ≤ 8) (hlv : (lv.all fun q => xokv 215 q.2) = true) (hrs : (rest.all (xokv 215)) = true) (kk : Cz E Y_M_useRight [.ref 110, .int p0, .int p1, .int p2] σ (fun v σ' => Wx E YL pc' lv (v.toList ++ rest) 215 215 100784 (zx σ') K)) : Wx E YL pc lv (.int p2 :: .int p1 :: .int p0 :: .ref 110 :: rest) 215 215 100784 (zx σ) K := l_invV (As := [.int p0, .int p1, .int p2]) (show xM YL.1.cls 246 Y_M_useRight 3 from ⟨k_13_46, k_1_12, k_13_49, by decide, by decide, by decide +kernel⟩) k_13_47 k_13_48 (by decide) rfl (by decide) rfl ⟨⟨Nat.le_of_ble_eq_true rfl, Nat.le_of_ble_eq_true rfl⟩, rfl, rfl⟩ ⟨by decide, by decide⟩ d rfl rfl hcat hlv hrs kk
theorem lc_247 {E : xV} {pc pc' : Nat} {lv rest} {σ : zS} {K : xQQ} {p0 : Int32} {p1 : Int32} (d : decode YL.2.1 pc = .ok (.invokevirtual 247, 3) ∧ pc + 3 = pc') (hcat : (rest.map fun v => v.category).sum ≤ 8) (hlv : (lv.all fun q => xokv 215 q.2) = true) (hrs : (rest.all (xokv 215)) = true) (kk : Cz E Y_H_lendOf [.ref 0, .int p0, .int p1] σ (fun v σ' => Wx E YL pc' lv (v.toList ++ rest) 215 215 100784 (zx σ') K)) : Wx E YL pc lv (.int p1 :: .int p0 :: .ref 0 :: rest) 215 215 100784 (zx σ) K := l_invV (As := [.int p0, .int p1]) (show xM YL.1.cls 247 Y_H_lendOf 2 from ⟨k_7_97, k_1_1, k_7_100, by decide, by decide, by decide +kernel⟩) k_7_98 k_7_99 (by decide) rfl (by decide) rfl ⟨⟨Nat.le_of_ble_eq_true rfl, Nat.le_of_ble_eq_true rfl⟩, rfl, rfl⟩ ⟨by decide, by decide⟩ d rfl rfl hcat hlv hrs kk
theorem lc_250 {E : xV} {pc pc' : Nat} {lv rest} {σ : zS} {K : xQQ} {p0 : Int32} {p1 : Int32} (d : decode YL.2.1 pc = .ok (.invokevirtual 250, 3) ∧ pc + 3 = pc') (hcat : (rest.map fun v => v.category).sum ≤ 8) (hlv : (lv.all fun q => xokv 215 q.2) = true) (hrs : (rest.all (xokv 215)) = true) (kk : Cz E Y_M_lendOf [.ref 110, .int p0, .int p1] σ (fun v σ' => Wx E YL pc' lv (v.toList ++ rest) 215 215 100784 (zx σ') K)) : Wx E YL pc lv (.int p1 :: .int p0 :: .ref 110 :: rest) 215 215 100784 (zx σ) K := l_invV (As := [.int p0, .int p1]) (show xM YL.1.cls 250 Y_M_lendOf 2 from ⟨k_13_50, k_1_12, k_13_53, by decide, by decide, by decide +kernel⟩) k_13_51 k_13_52 (by decide) rfl (by decide) rfl ⟨⟨Nat.le_of_ble_eq_true rfl, Nat.le_of_ble_eq_true rfl⟩, rfl, rfl⟩ ⟨by decide, by decide⟩ d rfl rfl hcat hlv hrs kk
theorem lc_251 {E : xV} {pc pc' : Nat} {lv rest} {σ : zS} {K : xQQ} {p0 : Int32} {p1 : Int32} {p2 : Int32} (d : decode YL.2.1 pc = .ok (.invokevirtual 251, 3) ∧ pc + 3 = pc') (hcat : (rest.map fun v => v.category).sum ≤ 8) (hlv : (lv.all fun q => xokv 215 q.2) = true) (hrs : (rest.all (xokv 215)) = true) (kk : Cz E Y_H_key [.ref 0, .int p0, .int p1, .int p2] σ (fun v σ' => Wx E YL pc' lv (v.toList ++ rest) 215 215 100784 (zx σ') K)) : Wx E YL pc lv (.int p2 :: .int p1 :: .int p0 :: .ref 0 :: rest) 215 215 100784 (zx σ) K := l_invV (As := [.int p0, .int p1, .int p2]) (show xM YL.1.cls 251 Y_H_key 3 from ⟨k_7_101, k_1_1, k_7_104, by decide, by decide, by decide +kernel⟩) k_7_102 k_7_103 (by decide) rfl (by decide) rfl ⟨⟨Nat.le_of_ble_eq_true rfl, Nat.le_of_ble_eq_true rfl⟩, rfl, rfl⟩ ⟨by decide, by decide⟩ d rfl rfl hcat hlv hrs kk
theorem lc_254 {E : xV} {pc pc' : Nat} {lv rest} {σ : zS} {K : xQQ} {p0 : Int32} {p1 : Int32} {p2 : Int32} (d : decode YL.2.1 pc = .ok (.invokevirtual 254, 3) ∧ pc + 3 = pc') (hcat : (rest.map fun v => v.category).sum ≤ 8) (hlv : (lv.all fun q => xokv 215 q.2) = true) (hrs : (rest.all (xokv 215)) = true) (kk : Cz E Y_M_key [.ref 110, .int p0, .int p1, .int p2] σ (fun v σ' => Wx E YL pc' lv (v.toList ++ rest) 215 215 100784 (zx σ') K)) : Wx E YL pc lv (.int p2 :: .int p1 :: .int p0 :: .ref 110 :: rest) 215 215 100784 (zx σ) K := l_invV (As := [.int p0, .int p1, .int p2]) (show xM YL.1.cls 254 Y_M_key 3 from ⟨k_13_54, k_1_12, k_13_57, by decide, by decide, by decide +kernel⟩) k_13_55 k_13_56 (by decide) rfl (by decide) rfl ⟨⟨Nat.le_of_ble_eq_true rfl, Nat.le_of_ble_eq_true rfl⟩, rfl, rfl⟩ ⟨by decide, by decide⟩ d rfl rfl hcat hlv hrs kk
theorem lc_255 {E : xV} {pc pc' : Nat} {lv rest} {σ : zS} {K : xQQ} {p0 : Int32} {p1 : Int32} {p2 : Int32} (d : decode YL.2.1 pc = .ok (.invokevirtual 255, 3) ∧ pc + 3 = pc') (hcat : (rest.map fun v => v.category).sum ≤ 8) (hlv : (lv.all fun q => xokv 215 q.2) = true) (hrs : (rest.all (xokv 215)) = true) (kk : Cz E Y_H_ever [.ref 0, .int p0, .int p1, .int p2] σ (fun v σ' => Wx E YL pc' lv (v.toList ++ rest) 215 215 100784 (zx σ') K)) : Wx E YL pc lv (.int p2 :: .int p1 :: .int p0 :: .ref 0 :: rest) 215 215 100784 (zx σ) K := l_invV (As := [.int p0, .int p1, .int p2]) (show xM YL.1.cls 255 Y_H_ever 3 from ⟨k_7_112, k_1_1, k_7_115, by decide, by decide, by decide +kernel⟩) k_7_113 k_7_114 (by decide) rfl (by decide) rfl ⟨⟨Nat.le_of_ble_eq_true rfl, Nat.le_of_ble_eq_true rfl⟩, rfl, rfl⟩ ⟨by decide, by decide⟩ d rfl rfl hcat hlv hrs kk
theorem lc_258 {E : xV} {pc pc' : Nat} {lv rest} {σ : zS} {K : xQQ} {p0 : Int32} {p1 : Int32} {p2 : Int32} (d : decode YL.2.1 pc = .ok (.invokevirtual 258, 3) ∧ pc + 3 = pc') (hcat : (rest.map fun v => v.category).sum ≤ 8) (hlv : (lv.all fun q => xokv 215 q.2) = true) (hrs : (rest.all (xokv 215)) = true) (kk : Cz E Y_M_ever [.ref 110, .int p0, .int p1, .int p2] σ (fun v σ' => Wx E YL pc' lv (v.toList ++ rest) 215 215 100784 (zx σ') K)) : Wx E YL pc lv (.int p2 :: .int p1 :: .int p0 :: .ref 110 :: rest) 215 215 100784 (zx σ) K := l_invV (As := [.int p0, .int p1, .int p2]) (show xM YL.1.cls 258 Y_M_ever 3 from ⟨k_13_60, k_1_12, k_13_63, by decide, by decide, by decide +kernel⟩) k_13_61 k_13_62 (by decide) rfl (by decide) rfl ⟨⟨Nat.le_of_ble_eq_true rfl, Nat.le_of_ble_eq_true rfl⟩, rfl, rfl⟩ ⟨by decide, by decide⟩ d rfl rfl hcat hlv hrs kk
theorem lc_259 {E : xV} {pc pc' : Nat} {lv rest} {σ : zS} {K : xQQ} {p0 : Int32} {p1 : Int32} (d : decode YL.2.1 pc = .ok (.invokevirtual 259, 3) ∧ pc + 3 = pc') (hcat : (rest.map fun v => v.category).sum ≤ 8) (hlv : (lv.all fun q => xokv 215 q.2) = true) (hrs : (rest.all (xokv 215)) = true) (kk : Cz E Y_H_gain [.ref 0, .int p0, .int p1] σ (fun v σ' => Wx E YL pc' lv (v.toList ++ rest) 215 215 100784 (zx σ') K)) : Wx E YL pc lv (.int p1 :: .int p0 :: .ref 0 :: rest) 215 215 100784 (zx σ) K := l_invV (As := [.int p0, .int p1]) (show xM YL.1.cls 259 Y_H_gain 2 from ⟨k_7_132, k_1_1, k_7_135, by decide, by decide, by decide +kernel⟩) k_7_133 k_7_134 (by decide) rfl (by decide) rfl ⟨⟨Nat.le_of_ble_eq_true rfl, Nat.le_of_ble_eq_true rfl⟩, rfl, rfl⟩ ⟨by decide, by decide⟩ d rfl rfl hcat hlv hrs kk
theorem lc_262 {E : xV} {pc pc' : Nat} {lv rest} {σ : zS} {K : xQQ} {p0 : Int32} {p1 : Int32} (d : decode YL.2.1 pc = .ok (.invokevirtual 262, 3) ∧ pc + 3 = pc') (hcat : (rest.map fun v => v.category).sum ≤ 8) (hlv : (lv.all fun q => xokv 215 q.2) = true) (hrs : (rest.all (xokv 215)) = true) (kk : Cz E Y_M_gain [.ref 110, .int p0, .int p1] σ (fun v σ' => Wx E YL pc' lv (v.toList ++ rest) 215 215 100784 (zx σ') K)) : Wx E YL pc lv (.int p1 :: .int p0 :: .ref 110 :: rest) 215 215 100784 (zx σ) K := l_invV (As := [.int p0, .int p1]) (show xM YL.1.cls 262 Y_M_gain 2 from ⟨k_13_72, k_1_12, k_13_75, by decide, by decide, by decide +kernel⟩) k_13_73 k_13_74 (by decide) rfl (by decide) rfl ⟨⟨Nat.le_of_ble_eq_true rfl, Nat.le_of_ble_eq_true rfl⟩, rfl, rfl⟩ ⟨by decide, by decide⟩ d rfl rfl hcat hlv hrs kk
theorem lc_263 {E : xV} {pc pc' : Nat} {lv rest} {σ : zS} {K : xQQ} {p0 : Int32} {p1 : Int32} (d : decode YL.2.1 pc = .ok (.invokevirtual 263, 3) ∧ pc + 3 = pc') (hcat : (rest.map fun v => v.category).sum ≤ 8) (hlv : (lv.all fun q => xokv 215 q.2) = true) (hrs : (rest.all (xokv 215)) = true) (kk : Cz E Y_H_label [.ref 0, .int p0, .int p1] σ (fun v σ' => Wx E YL pc' lv (v.toList ++ rest) 215 215 100784 (zx σ') K)) : Wx E YL pc lv (.int p1 :: .int p0 :: .ref 0 :: rest) 215 215 100784 (zx σ) K := l_invV (As := [.int p0, .int p1]) (show xM YL.1.cls 263 Y_H_label 2 from ⟨k_7_137, k_1_1, k_7_140, by decide, by decide, by decide +kernel⟩) k_7_138 k_7_139 (by decide) rfl (by decide) rfl ⟨⟨Nat.le_of_ble_eq_true rfl, Nat.le_of_ble_eq_true rfl⟩, rfl, rfl⟩ ⟨by decide, by decide⟩ d rfl rfl hcat hlv hrs kk
theorem lc_266 {E : xV} {pc pc' : Nat} {lv rest} {σ : zS} {K : xQQ} {p0 : Int32} {p1 : Int32} (d : decode YL.2.1 pc = .ok (.invokevirtual 266, 3) ∧ pc + 3 = pc') (hcat : (rest.map fun v => v.category).sum ≤ 8) (hlv : (lv.all fun q => xokv 215 q.2) = true) (hrs : (rest.all (xokv 215)) = true) (kk : Cz E Y_M_label [.ref 110, .int p0, .int p1] σ (fun v σ' => Wx E YL pc' lv (v.toList ++ rest) 215 215 100784 (zx σ') K)) : Wx E YL pc lv (.int p1 :: .int p0 :: .ref 110 :: rest) 215 215 100784 (zx σ) K := l_invV (As := [.int p0, .int p1]) (show xM YL.1.cls 266 Y_M_label 2 from ⟨k_13_76, k_1_12, k_13_79, by decide, by decide, by decide +kernel⟩) k_13_77 k_13_78 (by decide) rfl (by decide) rfl ⟨⟨Nat.le_of_ble_eq_true rfl, Nat.le_of_ble_eq_true rfl⟩, rfl, rfl⟩ ⟨by decide, by decide⟩ d rfl rfl hcat hlv hrs kk
theorem lc_267 {E : xV} {pc pc' : Nat} {lv rest} {σ : zS} {K : xQQ} {p0 : Int32} {p1 : Int32} {p2 : Int32} {p3 : Int32} (d : decode YL.2.1 pc = .ok (.invokevirtual 267, 3) ∧ pc + 3 = pc') (hcat : (rest.map fun v => v.category).sum ≤ 8) (hlv : (lv.all fun q => xokv 215 q.2) = true) (hrs : (rest.all (xokv 215)) = true) (kk : Cz E Y_H_statement [.ref 0, .int p0, .int p1, .int p2, .int p3] σ (fun v σ' => Wx E YL pc' lv (v.toList ++ rest) 215 215 100784 (zx σ') K)) : Wx E YL pc lv (.int p3 :: .int p2 :: .int p1 :: .int p0 :: .ref 0 :: rest) 215 215 100784 (zx σ) K := l_invV (As := [.int p0, .int p1, .int p2, .int p3]) (show xM YL.1.cls 267 Y_H_statement 4 from ⟨k_7_141, k_1_1, k_7_144, by decide, by decide, by decide +kernel⟩) k_7_142 k_7_143 (by decide) rfl (by decide) rfl ⟨⟨Nat.le_of_ble_eq_true rfl, Nat.le_of_ble_eq_true rfl⟩, rfl, rfl⟩ ⟨by decide, by decide⟩ d rfl rfl hcat hlv hrs kk
theorem lc_270 {E : xV} {pc pc' : Nat} {lv rest} {σ : zS} {K : xQQ} {p0 : Int32} {p1 : Int32} {p2 : Int32} {p3 : Int32} (d : decode YL.2.1 pc = .ok (.invokevirtual 270, 3) ∧ pc + 3 = pc') (hcat : (rest.map fun v => v.category).sum ≤ 8) (hlv : (lv.all fun q => xokv 215 q.2) = true) (hrs : (rest.all (xokv 215)) = true) (kk : Cz E Y_M_statement [.ref 110, .int p0, .int p1, .int p2, .int p3] σ (fun v σ' => Wx E YL pc' lv (v.toList ++ rest) 215 215 100784 (zx σ') K)) : Wx E YL pc lv (.int p3 :: .int p2 :: .int p1 :: .int p0 :: .ref 110 :: rest) 215 215 100784 (zx σ) K := l_invV (As := [.int p0, .int p1, .int p2, .int p3]) (show xM YL.1.cls 270 Y_M_statement 4 from ⟨k_13_85, k_1_12, k_13_88, by decide, by decide, by decide +kernel⟩) k_13_86 k_13_87 (by decide) rfl (by decide) rfl ⟨⟨Nat.le_of_ble_eq_true rfl, Nat.le_of_ble_eq_true rfl⟩, rfl, rfl⟩ ⟨by decide, by decide⟩ d rfl rfl hcat hlv hrs kk
theorem lc_271 {E : xV} {pc pc' : Nat} {lv rest} {σ : zS} {K : xQQ}  (d : decode YL.2.1 pc = .ok (.invokevirtual 271, 3) ∧ pc + 3 = pc') (hcat : (rest.map fun v => v.category).sum ≤ 8) (hlv : (lv.all fun q => xokv 215 q.2) = true) (hrs : (rest.all (xokv 215)) = true) (kk : Cz E Y_H_erase [.ref 0] σ (fun v σ' => Wx E YL pc' lv (v.toList ++ rest) 215 215 100784 (zx σ') K)) : Wx E YL pc lv (.ref 0 :: rest) 215 215 100784 (zx σ) K := l_invV (As := []) (show xM YL.1.cls 271 Y_H_erase 0 from ⟨k_7_166, k_1_1, k_7_169, by decide, by decide, by decide +kernel⟩) k_7_167 k_7_168 (by decide) rfl (by decide) rfl ⟨⟨Nat.le_of_ble_eq_true rfl, Nat.le_of_ble_eq_true rfl⟩, rfl, rfl⟩ ⟨by decide, by decide⟩ d rfl rfl hcat hlv hrs kk
theorem lc_274 {E : xV} {pc pc' : Nat} {lv rest} {σ : zS} {K : xQQ}  (d : decode YL.2.1 pc = .ok (.invokevirtual 274, 3) ∧ pc + 3 = pc') (hcat : (rest.map fun v => v.category).sum ≤ 8) (hlv : (lv.all fun q => xokv 215 q.2) = true) (hrs : (rest.all (xokv 215)) = true) (kk : Cz E Y_M_erase [.ref 110] σ (fun v σ' => Wx E YL pc' lv (v.toList ++ rest) 215 215 100784 (zx σ') K)) : Wx E YL pc lv (.ref 110 :: rest) 215 215 100784 (zx σ) K := l_invV (As := []) (show xM YL.1.cls 274 Y_M_erase 0 from ⟨k_13_98, k_1_12, k_13_101, by decide, by decide, by decide +kernel⟩) k_13_99 k_13_100 (by decide) rfl (by decide) rfl ⟨⟨Nat.le_of_ble_eq_true rfl, Nat.le_of_ble_eq_true rfl⟩, rfl, rfl⟩ ⟨by decide, by decide⟩ d rfl rfl hcat hlv hrs kk
theorem lc_275 {E : xV} {pc pc' : Nat} {lv rest} {σ : zS} {K : xQQ}  (d : decode YL.2.1 pc = .ok (.invokevirtual 275, 3) ∧ pc + 3 = pc') (hcat : (rest.map fun v => v.category).sum ≤ 8) (hlv : (lv.all fun q => xokv 215 q.2) = true) (hrs : (rest.all (xokv 215)) = true) (kk : Cz E Y_H_tight [.ref 0] σ (fun v σ' => Wx E YL pc' lv (v.toList ++ rest) 215 215 100784 (zx σ') K)) : Wx E YL pc lv (.ref 0 :: rest) 215 215 100784 (zx σ) K := l_invV (As := []) (show xM YL.1.cls 275 Y_H_tight 0 from ⟨k_7_170, k_1_1, k_7_173, by decide, by decide, by decide +kernel⟩) k_7_171 k_7_172 (by decide) rfl (by decide) rfl ⟨⟨Nat.le_of_ble_eq_true rfl, Nat.le_of_ble_eq_true rfl⟩, rfl, rfl⟩ ⟨by decide, by decide⟩ d rfl rfl hcat hlv hrs kk
theorem lc_278 {E : xV} {pc pc' : Nat} {lv rest} {σ : zS} {K : xQQ}  (d : decode YL.2.1 pc = .ok (.invokevirtual 278, 3) ∧ pc + 3 = pc') (hcat : (rest.map fun v => v.category).sum ≤ 8) (hlv : (lv.all fun q => xokv 215 q.2) = true) (hrs : (rest.all (xokv 215)) = true) (kk : Cz E Y_M_tight [.ref 110] σ (fun v σ' => Wx E YL pc' lv (v.toList ++ rest) 215 215 100784 (zx σ') K)) : Wx E YL pc lv (.ref 110 :: rest) 215 215 100784 (zx σ) K := l_invV (As := []) (show xM YL.1.cls 278 Y_M_tight 0 from ⟨k_13_102, k_1_12, k_13_105, by decide, by decide, by decide +kernel⟩) k_13_103 k_13_104 (by decide) rfl (by decide) rfl ⟨⟨Nat.le_of_ble_eq_true rfl, Nat.le_of_ble_eq_true rfl⟩, rfl, rfl⟩ ⟨by decide, by decide⟩ d rfl rfl hcat hlv hrs kk
theorem lc_279 {E : xV} {pc pc' : Nat} {lv rest} {σ : zS} {K : xQQ}  (d : decode YL.2.1 pc = .ok (.invokevirtual 279, 3) ∧ pc + 3 = pc') (hcat : (rest.map fun v => v.category).sum ≤ 8) (hlv : (lv.all fun q => xokv 215 q.2) = true) (hrs : (rest.all (xokv 215)) = true) (kk : Cz E Y_H_lowered [.ref 0] σ (fun v σ' => Wx E YL pc' lv (v.toList ++ rest) 215 215 100784 (zx σ') K)) : Wx E YL pc lv (.ref 0 :: rest) 215 215 100784 (zx σ) K := l_invV (As := []) (show xM YL.1.cls 279 Y_H_lowered 0 from ⟨k_7_185, k_1_1, k_7_188, by decide, by decide, by decide +kernel⟩) k_7_186 k_7_187 (by decide) rfl (by decide) rfl ⟨⟨Nat.le_of_ble_eq_true rfl, Nat.le_of_ble_eq_true rfl⟩, rfl, rfl⟩ ⟨by decide, by decide⟩ d rfl rfl hcat hlv hrs kk
theorem lc_282 {E : xV} {pc pc' : Nat} {lv rest} {σ : zS} {K : xQQ}  (d : decode YL.2.1 pc = .ok (.invokevirtual 282, 3) ∧ pc + 3 = pc') (hcat : (rest.map fun v => v.category).sum ≤ 8) (hlv : (lv.all fun q => xokv 215 q.2) = true) (hrs : (rest.all (xokv 215)) = true) (kk : Cz E Y_M_lowered [.ref 110] σ (fun v σ' => Wx E YL pc' lv (v.toList ++ rest) 215 215 100784 (zx σ') K)) : Wx E YL pc lv (.ref 110 :: rest) 215 215 100784 (zx σ) K := l_invV (As := []) (show xM YL.1.cls 282 Y_M_lowered 0 from ⟨k_13_106, k_1_12, k_13_109, by decide, by decide, by decide +kernel⟩) k_13_107 k_13_108 (by decide) rfl (by decide) rfl ⟨⟨Nat.le_of_ble_eq_true rfl, Nat.le_of_ble_eq_true rfl⟩, rfl, rfl⟩ ⟨by decide, by decide⟩ d rfl rfl hcat hlv hrs kk
theorem lc_283 {E : xV} {pc pc' : Nat} {lv rest} {σ : zS} {K : xQQ} {p0 : Int32} {p1 : Int32} (d : decode YL.2.1 pc = .ok (.invokevirtual 283, 3) ∧ pc + 3 = pc') (hcat : (rest.map fun v => v.category).sum ≤ 8) (hlv : (lv.all fun q => xokv 215 q.2) = true) (hrs : (rest.all (xokv 215)) = true) (kk : Cz E Y_H_given [.ref 0, .int p0, .int p1] σ (fun v σ' => Wx E YL pc' lv (v.toList ++ rest) 215 215 100784 (zx σ') K)) : Wx E YL pc lv (.int p1 :: .int p0 :: .ref 0 :: rest) 215 215 100784 (zx σ) K := l_invV (As := [.int p0, .int p1]) (show xM YL.1.cls 283 Y_H_given 2 from ⟨k_7_193, k_1_1, k_7_196, by decide, by decide, by decide +kernel⟩) k_7_194 k_7_195 (by decide) rfl (by decide) rfl ⟨⟨Nat.le_of_ble_eq_true rfl, Nat.le_of_ble_eq_true rfl⟩, rfl, rfl⟩ ⟨by decide, by decide⟩ d rfl rfl hcat hlv hrs kk
theorem lc_286 {E : xV} {pc pc' : Nat} {lv rest} {σ : zS} {K : xQQ} {p0 : Int32} {p1 : Int32} (d : decode YL.2.1 pc = .ok (.invokevirtual 286, 3) ∧ pc + 3 = pc') (hcat : (rest.map fun v => v.category).sum ≤ 8) (hlv : (lv.all fun q => xokv 215 q.2) = true) (hrs : (rest.all (xokv 215)) = true) (kk : Cz E Y_M_given [.ref 110, .int p0, .int p1] σ (fun v σ' => Wx E YL pc' lv (v.toList ++ rest) 215 215 100784 (zx σ') K)) : Wx E YL pc lv (.int p1 :: .int p0 :: .ref 110 :: rest) 215 215 100784 (zx σ) K := l_invV (As := [.int p0, .int p1]) (show xM YL.1.cls 286 Y_M_given 2 from ⟨k_13_110, k_1_12, k_13_113, by decide, by decide, by decide +kernel⟩) k_13_111 k_13_112 (by decide) rfl (by decide) rfl ⟨⟨Nat.le_of_ble_eq_true rfl, Nat.le_of_ble_eq_true rfl⟩, rfl, rfl⟩ ⟨by decide, by decide⟩ d rfl rfl hcat hlv hrs kk
theorem lc_287 {E : xV} {pc pc' : Nat} {lv rest} {σ : zS} {K : xQQ} {p0 : Int32} (d : decode YL.2.1 pc = .ok (.invokevirtual 287, 3) ∧ pc + 3 = pc') (hcat : (rest.map fun v => v.category).sum ≤ 8) (hlv : (lv.all fun q => xokv 215 q.2) = true) (hrs : (rest.all (xokv 215)) = true) (kk : Cz E Y_H_flow [.ref 0, .int p0] σ (fun v σ' => Wx E YL pc' lv (v.toList ++ rest) 215 215 100784 (zx σ') K)) : Wx E YL pc lv (.int p0 :: .ref 0 :: rest) 215 215 100784 (zx σ) K := l_invV (As := [.int p0]) (show xM YL.1.cls 287 Y_H_flow 1 from ⟨k_7_197, k_1_1, k_7_200, by decide, by decide, by decide +kernel⟩) k_7_198 k_7_199 (by decide) rfl (by decide) rfl ⟨⟨Nat.le_of_ble_eq_true rfl, Nat.le_of_ble_eq_true rfl⟩, rfl, rfl⟩ ⟨by decide, by decide⟩ d rfl rfl hcat hlv hrs kk
theorem lc_290 {E : xV} {pc pc' : Nat} {lv rest} {σ : zS} {K : xQQ} {p0 : Int32} (d : decode YL.2.1 pc = .ok (.invokevirtual 290, 3) ∧ pc + 3 = pc') (hcat : (rest.map fun v => v.category).sum ≤ 8) (hlv : (lv.all fun q => xokv 215 q.2) = true) (hrs : (rest.all (xokv 215)) = true) (kk : Cz E Y_M_flow [.ref 110, .int p0] σ (fun v σ' => Wx E YL pc' lv (v.toList ++ rest) 215 215 100784 (zx σ') K)) : Wx E YL pc lv (.int p0 :: .ref 110 :: rest) 215 215 100784 (zx σ) K := l_invV (As := [.int p0]) (show xM YL.1.cls 290 Y_M_flow 1 from ⟨k_13_114, k_1_12, k_13_117, by decide, by decide, by decide +kernel⟩) k_13_115 k_13_116 (by decide) rfl (by decide) rfl ⟨⟨Nat.le_of_ble_eq_true rfl, Nat.le_of_ble_eq_true rfl⟩, rfl, rfl⟩ ⟨by decide, by decide⟩ d rfl rfl hcat hlv hrs kk
theorem lc_291 {E : xV} {pc pc' : Nat} {lv rest} {σ : zS} {K : xQQ} {p0 : Int32} {p1 : Int32} (d : decode YL.2.1 pc = .ok (.invokevirtual 291, 3) ∧ pc + 3 = pc') (hcat : (rest.map fun v => v.category).sum ≤ 8) (hlv : (lv.all fun q => xokv 215 q.2) = true) (hrs : (rest.all (xokv 215)) = true) (kk : Cz E Y_H_said [.ref 0, .int p0, .int p1] σ (fun v σ' => Wx E YL pc' lv (v.toList ++ rest) 215 215 100784 (zx σ') K)) : Wx E YL pc lv (.int p1 :: .int p0 :: .ref 0 :: rest) 215 215 100784 (zx σ) K := l_invV (As := [.int p0, .int p1]) (show xM YL.1.cls 291 Y_H_said 2 from ⟨k_7_221, k_1_1, k_7_224, by decide, by decide, by decide +kernel⟩) k_7_222 k_7_223 (by decide) rfl (by decide) rfl ⟨⟨Nat.le_of_ble_eq_true rfl, Nat.le_of_ble_eq_true rfl⟩, rfl, rfl⟩ ⟨by decide, by decide⟩ d rfl rfl hcat hlv hrs kk
theorem lc_294 {E : xV} {pc pc' : Nat} {lv rest} {σ : zS} {K : xQQ} {p0 : Int32} {p1 : Int32} (d : decode YL.2.1 pc = .ok (.invokevirtual 294, 3) ∧ pc + 3 = pc') (hcat : (rest.map fun v => v.category).sum ≤ 8) (hlv : (lv.all fun q => xokv 215 q.2) = true) (hrs : (rest.all (xokv 215)) = true) (kk : Cz E Y_M_said [.ref 110, .int p0, .int p1] σ (fun v σ' => Wx E YL pc' lv (v.toList ++ rest) 215 215 100784 (zx σ') K)) : Wx E YL pc lv (.int p1 :: .int p0 :: .ref 110 :: rest) 215 215 100784 (zx σ) K := l_invV (As := [.int p0, .int p1]) (show xM YL.1.cls 294 Y_M_said 2 from ⟨k_13_123, k_1_12, k_13_126, by decide, by decide, by decide +kernel⟩) k_13_124 k_13_125 (by decide) rfl (by decide) rfl ⟨⟨Nat.le_of_ble_eq_true rfl, Nat.le_of_ble_eq_true rfl⟩, rfl, rfl⟩ ⟨by decide, by decide⟩ d rfl rfl hcat hlv hrs kk
theorem lc_295 {E : xV} {pc pc' : Nat} {lv rest} {σ : zS} {K : xQQ} {p0 : Int32} (d : decode YL.2.1 pc = .ok (.invokevirtual 295, 3) ∧ pc + 3 = pc') (hcat : (rest.map fun v => v.category).sum ≤ 8) (hlv : (lv.all fun q => xokv 215 q.2) = true) (hrs : (rest.all (xokv 215)) = true) (kk : Cz E Y_H_variable [.ref 0, .int p0] σ (fun v σ' => Wx E YL pc' lv (v.toList ++ rest) 215 215 100784 (zx σ') K)) : Wx E YL pc lv (.int p0 :: .ref 0 :: rest) 215 215 100784 (zx σ) K := l_invV (As := [.int p0]) (show xM YL.1.cls 295 Y_H_variable 1 from ⟨k_7_225, k_1_1, k_7_228, by decide, by decide, by decide +kernel⟩) k_7_226 k_7_227 (by decide) rfl (by decide) rfl ⟨⟨Nat.le_of_ble_eq_true rfl, Nat.le_of_ble_eq_true rfl⟩, rfl, rfl⟩ ⟨by decide, by decide⟩ d rfl rfl hcat hlv hrs kk
theorem lc_298 {E : xV} {pc pc' : Nat} {lv rest} {σ : zS} {K : xQQ} {p0 : Int32} (d : decode YL.2.1 pc = .ok (.invokevirtual 298, 3) ∧ pc + 3 = pc') (hcat : (rest.map fun v => v.category).sum ≤ 8) (hlv : (lv.all fun q => xokv 215 q.2) = true) (hrs : (rest.all (xokv 215)) = true) (kk : Cz E Y_M_variable [.ref 110, .int p0] σ (fun v σ' => Wx E YL pc' lv (v.toList ++ rest) 215 215 100784 (zx σ') K)) : Wx E YL pc lv (.int p0 :: .ref 110 :: rest) 215 215 100784 (zx σ) K := l_invV (As := [.int p0]) (show xM YL.1.cls 298 Y_M_variable 1 from ⟨k_13_127, k_1_12, k_13_130, by decide, by decide, by decide +kernel⟩) k_13_128 k_13_129 (by decide) rfl (by decide) rfl ⟨⟨Nat.le_of_ble_eq_true rfl, Nat.le_of_ble_eq_true rfl⟩, rfl, rfl⟩ ⟨by decide, by decide⟩ d rfl rfl hcat hlv hrs kk
theorem lc_299 {E : xV} {pc pc' : Nat} {lv rest} {σ : zS} {K : xQQ} {p0 : Int32} {p1 : Int64} (d : decode YL.2.1 pc = .ok (.invokevirtual 299, 3) ∧ pc + 3 = pc') (hcat : (rest.map fun v => v.category).sum ≤ 8) (hlv : (lv.all fun q => xokv 215 q.2) = true) (hrs : (rest.all (xokv 215)) = true) (kk : Cz E Y_H_guarded [.ref 0, .int p0, .long p1] σ (fun v σ' => Wx E YL pc' lv (v.toList ++ rest) 215 215 100784 (zx σ') K)) : Wx E YL pc lv (.long p1 :: .int p0 :: .ref 0 :: rest) 215 215 100784 (zx σ) K := l_invV (As := [.int p0, .long p1]) (show xM YL.1.cls 299 Y_H_guarded 2 from ⟨k_7_229, k_1_1, k_7_232, by decide, by decide, by decide +kernel⟩) k_7_230 k_7_231 (by decide) rfl (by decide) rfl ⟨⟨Nat.le_of_ble_eq_true rfl, Nat.le_of_ble_eq_true rfl⟩, rfl, rfl⟩ ⟨by decide, by decide⟩ d rfl rfl hcat hlv hrs kk
theorem lc_303 {E : xV} {pc pc' : Nat} {lv rest} {σ : zS} {K : xQQ} {p0 : Int32} {p1 : Int64} (d : decode YL.2.1 pc = .ok (.invokevirtual 303, 3) ∧ pc + 3 = pc') (hcat : (rest.map fun v => v.category).sum ≤ 8) (hlv : (lv.all fun q => xokv 215 q.2) = true) (hrs : (rest.all (xokv 215)) = true) (kk : Cz E Y_M_guarded [.ref 110, .int p0, .long p1] σ (fun v σ' => Wx E YL pc' lv (v.toList ++ rest) 215 215 100784 (zx σ') K)) : Wx E YL pc lv (.long p1 :: .int p0 :: .ref 110 :: rest) 215 215 100784 (zx σ) K := l_invV (As := [.int p0, .long p1]) (show xM YL.1.cls 303 Y_M_guarded 2 from ⟨k_13_131, k_1_12, k_13_134, by decide, by decide, by decide +kernel⟩) k_13_132 k_13_133 (by decide) rfl (by decide) rfl ⟨⟨Nat.le_of_ble_eq_true rfl, Nat.le_of_ble_eq_true rfl⟩, rfl, rfl⟩ ⟨by decide, by decide⟩ d rfl rfl hcat hlv hrs kk
theorem lc_304 {E : xV} {pc pc' : Nat} {lv rest} {σ : zS} {K : xQQ} {p0 : Int32} {p1 : Int64} (d : decode YL.2.1 pc = .ok (.invokevirtual 304, 3) ∧ pc + 3 = pc') (hcat : (rest.map fun v => v.category).sum ≤ 8) (hlv : (lv.all fun q => xokv 215 q.2) = true) (hrs : (rest.all (xokv 215)) = true) (kk : Cz E Y_H_sum [.ref 0, .int p0, .long p1] σ (fun v σ' => Wx E YL pc' lv (v.toList ++ rest) 215 215 100784 (zx σ') K)) : Wx E YL pc lv (.long p1 :: .int p0 :: .ref 0 :: rest) 215 215 100784 (zx σ) K := l_invV (As := [.int p0, .long p1]) (show xM YL.1.cls 304 Y_H_sum 2 from ⟨k_7_233, k_1_1, k_7_236, by decide, by decide, by decide +kernel⟩) k_7_234 k_7_235 (by decide) rfl (by decide) rfl ⟨⟨Nat.le_of_ble_eq_true rfl, Nat.le_of_ble_eq_true rfl⟩, rfl, rfl⟩ ⟨by decide, by decide⟩ d rfl rfl hcat hlv hrs kk
theorem lc_307 {E : xV} {pc pc' : Nat} {lv rest} {σ : zS} {K : xQQ} {p0 : Int32} {p1 : Int64} (d : decode YL.2.1 pc = .ok (.invokevirtual 307, 3) ∧ pc + 3 = pc') (hcat : (rest.map fun v => v.category).sum ≤ 8) (hlv : (lv.all fun q => xokv 215 q.2) = true) (hrs : (rest.all (xokv 215)) = true) (kk : Cz E Y_M_sum [.ref 110, .int p0, .long p1] σ (fun v σ' => Wx E YL pc' lv (v.toList ++ rest) 215 215 100784 (zx σ') K)) : Wx E YL pc lv (.long p1 :: .int p0 :: .ref 110 :: rest) 215 215 100784 (zx σ) K := l_invV (As := [.int p0, .long p1]) (show xM YL.1.cls 307 Y_M_sum 2 from ⟨k_13_135, k_1_12, k_13_138, by decide, by decide, by decide +kernel⟩) k_13_136 k_13_137 (by decide) rfl (by decide) rfl ⟨⟨Nat.le_of_ble_eq_true rfl, Nat.le_of_ble_eq_true rfl⟩, rfl, rfl⟩ ⟨by decide, by decide⟩ d rfl rfl hcat hlv hrs kk
theorem lc_308 {E : xV} {pc pc' : Nat} {lv rest} {σ : zS} {K : xQQ} {p0 : Int32} {p1 : Int32} (d : decode YL.2.1 pc = .ok (.invokevirtual 308, 3) ∧ pc + 3 = pc') (hcat : (rest.map fun v => v.category).sum ≤ 8) (hlv : (lv.all fun q => xokv 215 q.2) = true) (hrs : (rest.all (xokv 215)) = true) (kk : Cz E Y_H_share [.ref 0, .int p0, .int p1] σ (fun v σ' => Wx E YL pc' lv (v.toList ++ rest) 215 215 100784 (zx σ') K)) : Wx E YL pc lv (.int p1 :: .int p0 :: .ref 0 :: rest) 215 215 100784 (zx σ) K := l_invV (As := [.int p0, .int p1]) (show xM YL.1.cls 308 Y_H_share 2 from ⟨k_8_30, k_1_1, k_8_33, by decide, by decide, by decide +kernel⟩) k_8_31 k_8_32 (by decide) rfl (by decide) rfl ⟨⟨Nat.le_of_ble_eq_true rfl, Nat.le_of_ble_eq_true rfl⟩, rfl, rfl⟩ ⟨by decide, by decide⟩ d rfl rfl hcat hlv hrs kk
theorem lc_311 {E : xV} {pc pc' : Nat} {lv rest} {σ : zS} {K : xQQ} {p0 : Int32} {p1 : Int32} (d : decode YL.2.1 pc = .ok (.invokevirtual 311, 3) ∧ pc + 3 = pc') (hcat : (rest.map fun v => v.category).sum ≤ 8) (hlv : (lv.all fun q => xokv 215 q.2) = true) (hrs : (rest.all (xokv 215)) = true) (kk : Cz E Y_M_share [.ref 110, .int p0, .int p1] σ (fun v σ' => Wx E YL pc' lv (v.toList ++ rest) 215 215 100784 (zx σ') K)) : Wx E YL pc lv (.int p1 :: .int p0 :: .ref 110 :: rest) 215 215 100784 (zx σ) K := l_invV (As := [.int p0, .int p1]) (show xM YL.1.cls 311 Y_M_share 2 from ⟨k_13_170, k_1_12, k_13_173, by decide, by decide, by decide +kernel⟩) k_13_171 k_13_172 (by decide) rfl (by decide) rfl ⟨⟨Nat.le_of_ble_eq_true rfl, Nat.le_of_ble_eq_true rfl⟩, rfl, rfl⟩ ⟨by decide, by decide⟩ d rfl rfl hcat hlv hrs kk
theorem lc_312 {E : xV} {pc pc' : Nat} {lv rest} {σ : zS} {K : xQQ} {p0 : Int32} {p1 : Int32} (d : decode YL.2.1 pc = .ok (.invokevirtual 312, 3) ∧ pc + 3 = pc') (hcat : (rest.map fun v => v.category).sum ≤ 8) (hlv : (lv.all fun q => xokv 215 q.2) = true) (hrs : (rest.all (xokv 215)) = true) (kk : Cz E Y_H_knows [.ref 0, .int p0, .int p1] σ (fun v σ' => Wx E YL pc' lv (v.toList ++ rest) 215 215 100784 (zx σ') K)) : Wx E YL pc lv (.int p1 :: .int p0 :: .ref 0 :: rest) 215 215 100784 (zx σ) K := l_invV (As := [.int p0, .int p1]) (show xM YL.1.cls 312 Y_H_knows 2 from ⟨k_8_38, k_1_1, k_8_41, by decide, by decide, by decide +kernel⟩) k_8_39 k_8_40 (by decide) rfl (by decide) rfl ⟨⟨Nat.le_of_ble_eq_true rfl, Nat.le_of_ble_eq_true rfl⟩, rfl, rfl⟩ ⟨by decide, by decide⟩ d rfl rfl hcat hlv hrs kk
theorem lc_315 {E : xV} {pc pc' : Nat} {lv rest} {σ : zS} {K : xQQ} {p0 : Int32} {p1 : Int32} (d : decode YL.2.1 pc = .ok (.invokevirtual 315, 3) ∧ pc + 3 = pc') (hcat : (rest.map fun v => v.category).sum ≤ 8) (hlv : (lv.all fun q => xokv 215 q.2) = true) (hrs : (rest.all (xokv 215)) = true) (kk : Cz E Y_M_knows [.ref 110, .int p0, .int p1] σ (fun v σ' => Wx E YL pc' lv (v.toList ++ rest) 215 215 100784 (zx σ') K)) : Wx E YL pc lv (.int p1 :: .int p0 :: .ref 110 :: rest) 215 215 100784 (zx σ) K := l_invV (As := [.int p0, .int p1]) (show xM YL.1.cls 315 Y_M_knows 2 from ⟨k_13_174, k_1_12, k_13_177, by decide, by decide, by decide +kernel⟩) k_13_175 k_13_176 (by decide) rfl (by decide) rfl ⟨⟨Nat.le_of_ble_eq_true rfl, Nat.le_of_ble_eq_true rfl⟩, rfl, rfl⟩ ⟨by decide, by decide⟩ d rfl rfl hcat hlv hrs kk
theorem lc_316 {E : xV} {pc pc' : Nat} {lv rest} {σ : zS} {K : xQQ} {p0 : Int32} (d : decode YL.2.1 pc = .ok (.invokevirtual 316, 3) ∧ pc + 3 = pc') (hcat : (rest.map fun v => v.category).sum ≤ 8) (hlv : (lv.all fun q => xokv 215 q.2) = true) (hrs : (rest.all (xokv 215)) = true) (kk : Cz E Y_H_room [.ref 0, .int p0] σ (fun v σ' => Wx E YL pc' lv (v.toList ++ rest) 215 215 100784 (zx σ') K)) : Wx E YL pc lv (.int p0 :: .ref 0 :: rest) 215 215 100784 (zx σ) K := l_invV (As := [.int p0]) (show xM YL.1.cls 316 Y_H_room 1 from ⟨k_8_52, k_1_1, k_8_55, by decide, by decide, by decide +kernel⟩) k_8_53 k_8_54 (by decide) rfl (by decide) rfl ⟨⟨Nat.le_of_ble_eq_true rfl, Nat.le_of_ble_eq_true rfl⟩, rfl, rfl⟩ ⟨by decide, by decide⟩ d rfl rfl hcat hlv hrs kk
theorem lc_319 {E : xV} {pc pc' : Nat} {lv rest} {σ : zS} {K : xQQ} {p0 : Int32} (d : decode YL.2.1 pc = .ok (.invokevirtual 319, 3) ∧ pc + 3 = pc') (hcat : (rest.map fun v => v.category).sum ≤ 8) (hlv : (lv.all fun q => xokv 215 q.2) = true) (hrs : (rest.all (xokv 215)) = true) (kk : Cz E Y_M_room [.ref 110, .int p0] σ (fun v σ' => Wx E YL pc' lv (v.toList ++ rest) 215 215 100784 (zx σ') K)) : Wx E YL pc lv (.int p0 :: .ref 110 :: rest) 215 215 100784 (zx σ) K := l_invV (As := [.int p0]) (show xM YL.1.cls 319 Y_M_room 1 from ⟨k_13_178, k_1_12, k_13_181, by decide, by decide, by decide +kernel⟩) k_13_179 k_13_180 (by decide) rfl (by decide) rfl ⟨⟨Nat.le_of_ble_eq_true rfl, Nat.le_of_ble_eq_true rfl⟩, rfl, rfl⟩ ⟨by decide, by decide⟩ d rfl rfl hcat hlv hrs kk
theorem lc_320 {E : xV} {pc pc' : Nat} {lv rest} {σ : zS} {K : xQQ} {p0 : Int32} (d : decode YL.2.1 pc = .ok (.invokevirtual 320, 3) ∧ pc + 3 = pc') (hcat : (rest.map fun v => v.category).sum ≤ 8) (hlv : (lv.all fun q => xokv 215 q.2) = true) (hrs : (rest.all (xokv 215)) = true) (kk : Cz E Y_H_method [.ref 0, .int p0] σ (fun v σ' => Wx E YL pc' lv (v.toList ++ rest) 215 215 100784 (zx σ') K)) : Wx E YL pc lv (.int p0 :: .ref 0 :: rest) 215 215 100784 (zx σ) K := l_invV (As := [.int p0]) (show xM YL.1.cls 320 Y_H_method 1 from ⟨k_8_64, k_1_1, k_8_67, by decide, by decide, by decide +kernel⟩) k_8_65 k_8_66 (by decide) rfl (by decide) rfl ⟨⟨Nat.le_of_ble_eq_true rfl, Nat.le_of_ble_eq_true rfl⟩, rfl, rfl⟩ ⟨by decide, by decide⟩ d rfl rfl hcat hlv hrs kk
theorem lc_323 {E : xV} {pc pc' : Nat} {lv rest} {σ : zS} {K : xQQ} {p0 : Int32} (d : decode YL.2.1 pc = .ok (.invokevirtual 323, 3) ∧ pc + 3 = pc') (hcat : (rest.map fun v => v.category).sum ≤ 8) (hlv : (lv.all fun q => xokv 215 q.2) = true) (hrs : (rest.all (xokv 215)) = true) (kk : Cz E Y_M_method [.ref 110, .int p0] σ (fun v σ' => Wx E YL pc' lv (v.toList ++ rest) 215 215 100784 (zx σ') K)) : Wx E YL pc lv (.int p0 :: .ref 110 :: rest) 215 215 100784 (zx σ) K := l_invV (As := [.int p0]) (show xM YL.1.cls 323 Y_M_method 1 from ⟨k_13_183, k_1_12, k_13_186, by decide, by decide, by decide +kernel⟩) k_13_184 k_13_185 (by decide) rfl (by decide) rfl ⟨⟨Nat.le_of_ble_eq_true rfl, Nat.le_of_ble_eq_true rfl⟩, rfl, rfl⟩ ⟨by decide, by decide⟩ d rfl rfl hcat hlv hrs kk
theorem lc_324 {E : xV} {pc pc' : Nat} {lv rest} {σ : zS} {K : xQQ} {p0 : Int32} {p1 : Int32} {p2 : Int32} {p3 : Int32} (d : decode YL.2.1 pc = .ok (.invokevirtual 324, 3) ∧ pc + 3 = pc') (hcat : (rest.map fun v => v.category).sum ≤ 8) (hlv : (lv.all fun q => xokv 215 q.2) = true) (hrs : (rest.all (xokv 215)) = true) (kk : Cz E Y_H_op [.ref 0, .int p0, .int p1, .int p2, .int p3] σ (fun v σ' => Wx E YL pc' lv (v.toList ++ rest) 215 215 100784 (zx σ') K)) : Wx E YL pc lv (.int p3 :: .int p2 :: .int p1 :: .int p0 :: .ref 0 :: rest) 215 215 100784 (zx σ) K := l_invV (As := [.int p0, .int p1, .int p2, .int p3]) (show xM YL.1.cls 324 Y_H_op 4 from ⟨k_8_72, k_1_1, k_8_75, by decide, by decide, by decide +kernel⟩) k_8_73 k_8_74 (by decide) rfl (by decide) rfl ⟨⟨Nat.le_of_ble_eq_true rfl, Nat.le_of_ble_eq_true rfl⟩, rfl, rfl⟩ ⟨by decide, by decide⟩ d rfl rfl hcat hlv hrs kk
theorem lc_327 {E : xV} {pc pc' : Nat} {lv rest} {σ : zS} {K : xQQ} {p0 : Int32} {p1 : Int32} {p2 : Int32} {p3 : Int32} (d : decode YL.2.1 pc = .ok (.invokevirtual 327, 3) ∧ pc + 3 = pc') (hcat : (rest.map fun v => v.category).sum ≤ 8) (hlv : (lv.all fun q => xokv 215 q.2) = true) (hrs : (rest.all (xokv 215)) = true) (kk : Cz E Y_M_op [.ref 110, .int p0, .int p1, .int p2, .int p3] σ (fun v σ' => Wx E YL pc' lv (v.toList ++ rest) 215 215 100784 (zx σ') K)) : Wx E YL pc lv (.int p3 :: .int p2 :: .int p1 :: .int p0 :: .ref 110 :: rest) 215 215 100784 (zx σ) K := l_invV (As := [.int p0, .int p1, .int p2, .int p3]) (show xM YL.1.cls 327 Y_M_op 4 from ⟨k_13_187, k_1_12, k_13_190, by decide, by decide, by decide +kernel⟩) k_13_188 k_13_189 (by decide) rfl (by decide) rfl ⟨⟨Nat.le_of_ble_eq_true rfl, Nat.le_of_ble_eq_true rfl⟩, rfl, rfl⟩ ⟨by decide, by decide⟩ d rfl rfl hcat hlv hrs kk
theorem lc_328 {E : xV} {pc pc' : Nat} {lv rest} {σ : zS} {K : xQQ} {p0 : Int32} {p1 : Int32} (d : decode YL.2.1 pc = .ok (.invokevirtual 328, 3) ∧ pc + 3 = pc') (hcat : (rest.map fun v => v.category).sum ≤ 8) (hlv : (lv.all fun q => xokv 215 q.2) = true) (hrs : (rest.all (xokv 215)) = true) (kk : Cz E Y_H_enter [.ref 0, .int p0, .int p1] σ (fun v σ' => Wx E YL pc' lv (v.toList ++ rest) 215 215 100784 (zx σ') K)) : Wx E YL pc lv (.int p1 :: .int p0 :: .ref 0 :: rest) 215 215 100784 (zx σ) K := l_invV (As := [.int p0, .int p1]) (show xM YL.1.cls 328 Y_H_enter 2 from ⟨k_8_84, k_1_1, k_8_87, by decide, by decide, by decide +kernel⟩) k_8_85 k_8_86 (by decide) rfl (by decide) rfl ⟨⟨Nat.le_of_ble_eq_true rfl, Nat.le_of_ble_eq_true rfl⟩, rfl, rfl⟩ ⟨by decide, by decide⟩ d rfl rfl hcat hlv hrs kk
theorem lc_331 {E : xV} {pc pc' : Nat} {lv rest} {σ : zS} {K : xQQ} {p0 : Int32} {p1 : Int32} (d : decode YL.2.1 pc = .ok (.invokevirtual 331, 3) ∧ pc + 3 = pc') (hcat : (rest.map fun v => v.category).sum ≤ 8) (hlv : (lv.all fun q => xokv 215 q.2) = true) (hrs : (rest.all (xokv 215)) = true) (kk : Cz E Y_M_enter [.ref 110, .int p0, .int p1] σ (fun v σ' => Wx E YL pc' lv (v.toList ++ rest) 215 215 100784 (zx σ') K)) : Wx E YL pc lv (.int p1 :: .int p0 :: .ref 110 :: rest) 215 215 100784 (zx σ) K := l_invV (As := [.int p0, .int p1]) (show xM YL.1.cls 331 Y_M_enter 2 from ⟨k_13_191, k_1_12, k_13_194, by decide, by decide, by decide +kernel⟩) k_13_192 k_13_193 (by decide) rfl (by decide) rfl ⟨⟨Nat.le_of_ble_eq_true rfl, Nat.le_of_ble_eq_true rfl⟩, rfl, rfl⟩ ⟨by decide, by decide⟩ d rfl rfl hcat hlv hrs kk
theorem lc_332 {E : xV} {pc pc' : Nat} {lv rest} {σ : zS} {K : xQQ} {p0 : Int32} (d : decode YL.2.1 pc = .ok (.invokevirtual 332, 3) ∧ pc + 3 = pc') (hcat : (rest.map fun v => v.category).sum ≤ 8) (hlv : (lv.all fun q => xokv 215 q.2) = true) (hrs : (rest.all (xokv 215)) = true) (kk : Cz E Y_H_entered [.ref 0, .int p0] σ (fun v σ' => Wx E YL pc' lv (v.toList ++ rest) 215 215 100784 (zx σ') K)) : Wx E YL pc lv (.int p0 :: .ref 0 :: rest) 215 215 100784 (zx σ) K := l_invV (As := [.int p0]) (show xM YL.1.cls 332 Y_H_entered 1 from ⟨k_8_116, k_1_1, k_8_119, by decide, by decide, by decide +kernel⟩) k_8_117 k_8_118 (by decide) rfl (by decide) rfl ⟨⟨Nat.le_of_ble_eq_true rfl, Nat.le_of_ble_eq_true rfl⟩, rfl, rfl⟩ ⟨by decide, by decide⟩ d rfl rfl hcat hlv hrs kk
theorem lc_335 {E : xV} {pc pc' : Nat} {lv rest} {σ : zS} {K : xQQ} {p0 : Int32} (d : decode YL.2.1 pc = .ok (.invokevirtual 335, 3) ∧ pc + 3 = pc') (hcat : (rest.map fun v => v.category).sum ≤ 8) (hlv : (lv.all fun q => xokv 215 q.2) = true) (hrs : (rest.all (xokv 215)) = true) (kk : Cz E Y_M_entered [.ref 110, .int p0] σ (fun v σ' => Wx E YL pc' lv (v.toList ++ rest) 215 215 100784 (zx σ') K)) : Wx E YL pc lv (.int p0 :: .ref 110 :: rest) 215 215 100784 (zx σ) K := l_invV (As := [.int p0]) (show xM YL.1.cls 335 Y_M_entered 1 from ⟨k_13_208, k_1_12, k_13_211, by decide, by decide, by decide +kernel⟩) k_13_209 k_13_210 (by decide) rfl (by decide) rfl ⟨⟨Nat.le_of_ble_eq_true rfl, Nat.le_of_ble_eq_true rfl⟩, rfl, rfl⟩ ⟨by decide, by decide⟩ d rfl rfl hcat hlv hrs kk
theorem lc_336 {E : xV} {pc pc' : Nat} {lv rest} {σ : zS} {K : xQQ} {p0 : Int32} {p1 : Int32} (d : decode YL.2.1 pc = .ok (.invokevirtual 336, 3) ∧ pc + 3 = pc') (hcat : (rest.map fun v => v.category).sum ≤ 8) (hlv : (lv.all fun q => xokv 215 q.2) = true) (hrs : (rest.all (xokv 215)) = true) (kk : Cz E Y_H_half [.ref 0, .int p0, .int p1] σ (fun v σ' => Wx E YL pc' lv (v.toList ++ rest) 215 215 100784 (zx σ') K)) : Wx E YL pc lv (.int p1 :: .int p0 :: .ref 0 :: rest) 215 215 100784 (zx σ) K := l_invV (As := [.int p0, .int p1]) (show xM YL.1.cls 336 Y_H_half 2 from ⟨k_8_120, k_1_1, k_8_123, by decide, by decide, by decide +kernel⟩) k_8_121 k_8_122 (by decide) rfl (by decide) rfl ⟨⟨Nat.le_of_ble_eq_true rfl, Nat.le_of_ble_eq_true rfl⟩, rfl, rfl⟩ ⟨by decide, by decide⟩ d rfl rfl hcat hlv hrs kk
theorem lc_339 {E : xV} {pc pc' : Nat} {lv rest} {σ : zS} {K : xQQ} {p0 : Int32} {p1 : Int32} (d : decode YL.2.1 pc = .ok (.invokevirtual 339, 3) ∧ pc + 3 = pc') (hcat : (rest.map fun v => v.category).sum ≤ 8) (hlv : (lv.all fun q => xokv 215 q.2) = true) (hrs : (rest.all (xokv 215)) = true) (kk : Cz E Y_M_half [.ref 110, .int p0, .int p1] σ (fun v σ' => Wx E YL pc' lv (v.toList ++ rest) 215 215 100784 (zx σ') K)) : Wx E YL pc lv (.int p1 :: .int p0 :: .ref 110 :: rest) 215 215 100784 (zx σ) K := l_invV (As := [.int p0, .int p1]) (show xM YL.1.cls 339 Y_M_half 2 from ⟨k_13_212, k_1_12, k_13_215, by decide, by decide, by decide +kernel⟩) k_13_213 k_13_214 (by decide) rfl (by decide) rfl ⟨⟨Nat.le_of_ble_eq_true rfl, Nat.le_of_ble_eq_true rfl⟩, rfl, rfl⟩ ⟨by decide, by decide⟩ d rfl rfl hcat hlv hrs kk
theorem lc_340 {E : xV} {pc pc' : Nat} {lv rest} {σ : zS} {K : xQQ}  (d : decode YL.2.1 pc = .ok (.invokevirtual 340, 3) ∧ pc + 3 = pc') (hcat : (rest.map fun v => v.category).sum ≤ 8) (hlv : (lv.all fun q => xokv 215 q.2) = true) (hrs : (rest.all (xokv 215)) = true) (kk : Cz E Y_H_joined [.ref 0] σ (fun v σ' => Wx E YL pc' lv (v.toList ++ rest) 215 215 100784 (zx σ') K)) : Wx E YL pc lv (.ref 0 :: rest) 215 215 100784 (zx σ) K := l_invV (As := []) (show xM YL.1.cls 340 Y_H_joined 0 from ⟨k_8_130, k_1_1, k_8_133, by decide, by decide, by decide +kernel⟩) k_8_131 k_8_132 (by decide) rfl (by decide) rfl ⟨⟨Nat.le_of_ble_eq_true rfl, Nat.le_of_ble_eq_true rfl⟩, rfl, rfl⟩ ⟨by decide, by decide⟩ d rfl rfl hcat hlv hrs kk
theorem lc_343 {E : xV} {pc pc' : Nat} {lv rest} {σ : zS} {K : xQQ}  (d : decode YL.2.1 pc = .ok (.invokevirtual 343, 3) ∧ pc + 3 = pc') (hcat : (rest.map fun v => v.category).sum ≤ 8) (hlv : (lv.all fun q => xokv 215 q.2) = true) (hrs : (rest.all (xokv 215)) = true) (kk : Cz E Y_M_joined [.ref 110] σ (fun v σ' => Wx E YL pc' lv (v.toList ++ rest) 215 215 100784 (zx σ') K)) : Wx E YL pc lv (.ref 110 :: rest) 215 215 100784 (zx σ) K := l_invV (As := []) (show xM YL.1.cls 343 Y_M_joined 0 from ⟨k_13_220, k_1_12, k_13_223, by decide, by decide, by decide +kernel⟩) k_13_221 k_13_222 (by decide) rfl (by decide) rfl ⟨⟨Nat.le_of_ble_eq_true rfl, Nat.le_of_ble_eq_true rfl⟩, rfl, rfl⟩ ⟨by decide, by decide⟩ d rfl rfl hcat hlv hrs kk
theorem lc_344 {E : xV} {pc pc' : Nat} {lv rest} {σ : zS} {K : xQQ} {p0 : Int32} {p1 : Int32} (d : decode YL.2.1 pc = .ok (.invokevirtual 344, 3) ∧ pc + 3 = pc') (hcat : (rest.map fun v => v.category).sum ≤ 8) (hlv : (lv.all fun q => xokv 215 q.2) = true) (hrs : (rest.all (xokv 215)) = true) (kk : Cz E Y_H_logged [.ref 0, .int p0, .int p1] σ (fun v σ' => Wx E YL pc' lv (v.toList ++ rest) 215 215 100784 (zx σ') K)) : Wx E YL pc lv (.int p1 :: .int p0 :: .ref 0 :: rest) 215 215 100784 (zx σ) K := l_invV (As := [.int p0, .int p1]) (show xM YL.1.cls 344 Y_H_logged 2 from ⟨k_8_147, k_1_1, k_8_150, by decide, by decide, by decide +kernel⟩) k_8_148 k_8_149 (by decide) rfl (by decide) rfl ⟨⟨Nat.le_of_ble_eq_true rfl, Nat.le_of_ble_eq_true rfl⟩, rfl, rfl⟩ ⟨by decide, by decide⟩ d rfl rfl hcat hlv hrs kk
theorem lc_347 {E : xV} {pc pc' : Nat} {lv rest} {σ : zS} {K : xQQ} {p0 : Int32} {p1 : Int32} (d : decode YL.2.1 pc = .ok (.invokevirtual 347, 3) ∧ pc + 3 = pc') (hcat : (rest.map fun v => v.category).sum ≤ 8) (hlv : (lv.all fun q => xokv 215 q.2) = true) (hrs : (rest.all (xokv 215)) = true) (kk : Cz E Y_M_logged [.ref 110, .int p0, .int p1] σ (fun v σ' => Wx E YL pc' lv (v.toList ++ rest) 215 215 100784 (zx σ') K)) : Wx E YL pc lv (.int p1 :: .int p0 :: .ref 110 :: rest) 215 215 100784 (zx σ) K := l_invV (As := [.int p0, .int p1]) (show xM YL.1.cls 347 Y_M_logged 2 from ⟨k_10_166, k_1_12, k_10_169, by decide, by decide, by decide +kernel⟩) k_10_167 k_10_168 (by decide) rfl (by decide) rfl ⟨⟨Nat.le_of_ble_eq_true rfl, Nat.le_of_ble_eq_true rfl⟩, rfl, rfl⟩ ⟨by decide, by decide⟩ d rfl rfl hcat hlv hrs kk
theorem lc_348 {E : xV} {pc pc' : Nat} {lv rest} {σ : zS} {K : xQQ} {p0 : Int32} {p1 : Int32} {p2 : Int32} (d : decode YL.2.1 pc = .ok (.invokevirtual 348, 3) ∧ pc + 3 = pc') (hcat : (rest.map fun v => v.category).sum ≤ 8) (hlv : (lv.all fun q => xokv 215 q.2) = true) (hrs : (rest.all (xokv 215)) = true) (kk : Cz E Y_H_forge [.ref 0, .int p0, .int p1, .int p2] σ (fun v σ' => Wx E YL pc' lv (v.toList ++ rest) 215 215 100784 (zx σ') K)) : Wx E YL pc lv (.int p2 :: .int p1 :: .int p0 :: .ref 0 :: rest) 215 215 100784 (zx σ) K := l_invV (As := [.int p0, .int p1, .int p2]) (show xM YL.1.cls 348 Y_H_forge 3 from ⟨k_8_151, k_1_1, k_8_154, by decide, by decide, by decide +kernel⟩) k_8_152 k_8_153 (by decide) rfl (by decide) rfl ⟨⟨Nat.le_of_ble_eq_true rfl, Nat.le_of_ble_eq_true rfl⟩, rfl, rfl⟩ ⟨by decide, by decide⟩ d rfl rfl hcat hlv hrs kk
theorem lc_351 {E : xV} {pc pc' : Nat} {lv rest} {σ : zS} {K : xQQ} {p0 : Int32} {p1 : Int32} {p2 : Int32} (d : decode YL.2.1 pc = .ok (.invokevirtual 351, 3) ∧ pc + 3 = pc') (hcat : (rest.map fun v => v.category).sum ≤ 8) (hlv : (lv.all fun q => xokv 215 q.2) = true) (hrs : (rest.all (xokv 215)) = true) (kk : Cz E Y_M_forge [.ref 110, .int p0, .int p1, .int p2] σ (fun v σ' => Wx E YL pc' lv (v.toList ++ rest) 215 215 100784 (zx σ') K)) : Wx E YL pc lv (.int p2 :: .int p1 :: .int p0 :: .ref 110 :: rest) 215 215 100784 (zx σ) K := l_invV (As := [.int p0, .int p1, .int p2]) (show xM YL.1.cls 351 Y_M_forge 3 from ⟨k_10_171, k_1_12, k_10_174, by decide, by decide, by decide +kernel⟩) k_10_172 k_10_173 (by decide) rfl (by decide) rfl ⟨⟨Nat.le_of_ble_eq_true rfl, Nat.le_of_ble_eq_true rfl⟩, rfl, rfl⟩ ⟨by decide, by decide⟩ d rfl rfl hcat hlv hrs kk
theorem lc_352 {E : xV} {pc pc' : Nat} {lv rest} {σ : zS} {K : xQQ}  (d : decode YL.2.1 pc = .ok (.invokevirtual 352, 3) ∧ pc + 3 = pc') (hcat : (rest.map fun v => v.category).sum ≤ 8) (hlv : (lv.all fun q => xokv 215 q.2) = true) (hrs : (rest.all (xokv 215)) = true) (kk : Cz E Y_H_wrong [.ref 0] σ (fun v σ' => Wx E YL pc' lv (v.toList ++ rest) 215 215 100784 (zx σ') K)) : Wx E YL pc lv (.ref 0 :: rest) 215 215 100784 (zx σ) K := l_invV (As := []) (show xM YL.1.cls 352 Y_H_wrong 0 from ⟨k_8_155, k_1_1, k_8_158, by decide, by decide, by decide +kernel⟩) k_8_156 k_8_157 (by decide) rfl (by decide) rfl ⟨⟨Nat.le_of_ble_eq_true rfl, Nat.le_of_ble_eq_true rfl⟩, rfl, rfl⟩ ⟨by decide, by decide⟩ d rfl rfl hcat hlv hrs kk
theorem lc_355 {E : xV} {pc pc' : Nat} {lv rest} {σ : zS} {K : xQQ}  (d : decode YL.2.1 pc = .ok (.invokevirtual 355, 3) ∧ pc + 3 = pc') (hcat : (rest.map fun v => v.category).sum ≤ 8) (hlv : (lv.all fun q => xokv 215 q.2) = true) (hrs : (rest.all (xokv 215)) = true) (kk : Cz E Y_M_wrong [.ref 110] σ (fun v σ' => Wx E YL pc' lv (v.toList ++ rest) 215 215 100784 (zx σ') K)) : Wx E YL pc lv (.ref 110 :: rest) 215 215 100784 (zx σ) K := l_invV (As := []) (show xM YL.1.cls 355 Y_M_wrong 0 from ⟨k_10_176, k_1_12, k_10_179, by decide, by decide, by decide +kernel⟩) k_10_177 k_10_178 (by decide) rfl (by decide) rfl ⟨⟨Nat.le_of_ble_eq_true rfl, Nat.le_of_ble_eq_true rfl⟩, rfl, rfl⟩ ⟨by decide, by decide⟩ d rfl rfl hcat hlv hrs kk
theorem lc_356 {E : xV} {pc pc' : Nat} {lv rest} {σ : zS} {K : xQQ} {p0 : Int32} {p1 : Int32} (d : decode YL.2.1 pc = .ok (.invokevirtual 356, 3) ∧ pc + 3 = pc') (hcat : (rest.map fun v => v.category).sum ≤ 8) (hlv : (lv.all fun q => xokv 215 q.2) = true) (hrs : (rest.all (xokv 215)) = true) (kk : Cz E Y_H_sealed [.ref 0, .int p0, .int p1] σ (fun v σ' => Wx E YL pc' lv (v.toList ++ rest) 215 215 100784 (zx σ') K)) : Wx E YL pc lv (.int p1 :: .int p0 :: .ref 0 :: rest) 215 215 100784 (zx σ) K := l_invV (As := [.int p0, .int p1]) (show xM YL.1.cls 356 Y_H_sealed 2 from ⟨k_8_159, k_1_1, k_8_162, by decide, by decide, by decide +kernel⟩) k_8_160 k_8_161 (by decide) rfl (by decide) rfl ⟨⟨Nat.le_of_ble_eq_true rfl, Nat.le_of_ble_eq_true rfl⟩, rfl, rfl⟩ ⟨by decide, by decide⟩ d rfl rfl hcat hlv hrs kk
theorem lc_359 {E : xV} {pc pc' : Nat} {lv rest} {σ : zS} {K : xQQ} {p0 : Int32} {p1 : Int32} (d : decode YL.2.1 pc = .ok (.invokevirtual 359, 3) ∧ pc + 3 = pc') (hcat : (rest.map fun v => v.category).sum ≤ 8) (hlv : (lv.all fun q => xokv 215 q.2) = true) (hrs : (rest.all (xokv 215)) = true) (kk : Cz E Y_M_sealed [.ref 110, .int p0, .int p1] σ (fun v σ' => Wx E YL pc' lv (v.toList ++ rest) 215 215 100784 (zx σ') K)) : Wx E YL pc lv (.int p1 :: .int p0 :: .ref 110 :: rest) 215 215 100784 (zx σ) K := l_invV (As := [.int p0, .int p1]) (show xM YL.1.cls 359 Y_M_sealed 2 from ⟨k_10_189, k_1_12, k_10_192, by decide, by decide, by decide +kernel⟩) k_10_190 k_10_191 (by decide) rfl (by decide) rfl ⟨⟨Nat.le_of_ble_eq_true rfl, Nat.le_of_ble_eq_true rfl⟩, rfl, rfl⟩ ⟨by decide, by decide⟩ d rfl rfl hcat hlv hrs kk
theorem lc_360 {E : xV} {pc pc' : Nat} {lv rest} {σ : zS} {K : xQQ} {p0 : Int32} {p1 : Int32} {p2 : Int32} {p3 : Int32} (d : decode YL.2.1 pc = .ok (.invokevirtual 360, 3) ∧ pc + 3 = pc') (hcat : (rest.map fun v => v.category).sum ≤ 8) (hlv : (lv.all fun q => xokv 215 q.2) = true) (hrs : (rest.all (xokv 215)) = true) (kk : Cz E Y_H_could [.ref 0, .int p0, .int p1, .int p2, .int p3] σ (fun v σ' => Wx E YL pc' lv (v.toList ++ rest) 215 215 100784 (zx σ') K)) : Wx E YL pc lv (.int p3 :: .int p2 :: .int p1 :: .int p0 :: .ref 0 :: rest) 215 215 100784 (zx σ) K := l_invV (As := [.int p0, .int p1, .int p2, .int p3]) (show xM YL.1.cls 360 Y_H_could 4 from ⟨k_8_163, k_1_1, k_8_166, by decide, by decide, by decide +kernel⟩) k_8_164 k_8_165 (by decide) rfl (by decide) rfl ⟨⟨Nat.le_of_ble_eq_true rfl, Nat.le_of_ble_eq_true rfl⟩, rfl, rfl⟩ ⟨by decide, by decide⟩ d rfl rfl hcat hlv hrs kk
theorem lc_363 {E : xV} {pc pc' : Nat} {lv rest} {σ : zS} {K : xQQ} {p0 : Int32} {p1 : Int32} {p2 : Int32} {p3 : Int32} (d : decode YL.2.1 pc = .ok (.invokevirtual 363, 3) ∧ pc + 3 = pc') (hcat : (rest.map fun v => v.category).sum ≤ 8) (hlv : (lv.all fun q => xokv 215 q.2) = true) (hrs : (rest.all (xokv 215)) = true) (kk : Cz E Y_M_could [.ref 110, .int p0, .int p1, .int p2, .int p3] σ (fun v σ' => Wx E YL pc' lv (v.toList ++ rest) 215 215 100784 (zx σ') K)) : Wx E YL pc lv (.int p3 :: .int p2 :: .int p1 :: .int p0 :: .ref 110 :: rest) 215 215 100784 (zx σ) K := l_invV (As := [.int p0, .int p1, .int p2, .int p3]) (show xM YL.1.cls 363 Y_M_could 4 from ⟨k_12_127, k_1_12, k_12_130, by decide, by decide, by decide +kernel⟩) k_12_128 k_12_129 (by decide) rfl (by decide) rfl ⟨⟨Nat.le_of_ble_eq_true rfl, Nat.le_of_ble_eq_true rfl⟩, rfl, rfl⟩ ⟨by decide, by decide⟩ d rfl rfl hcat hlv hrs kk
theorem L_0 {E : xV} {bS L : Nat} {xs : Nat → Int32} {i : Int32} {σ : zS} (hv1 : vp_in (i + 1) L) (hv2 : vp_in (i + 2) L) (hv3 : vp_in (i + 3) L) (h : Cz E Y_H_feed [.ref 0, .int (xs (i + 1).toNatClampNeg), .long ((j_lshl (Int32.toInt64 (xs (i + 2).toNatClampNeg)) 32) ||| ((Int32.toInt64 (xs (i + 3).toNatClampNeg)) &&& 4294967295))] σ (fun v σ1 => ∃ r : Int32, v = some (.int r) ∧ Cz E Y_M_feed [.ref 110, .int (xs (i + 1).toNatClampNeg), .long ((j_lshl (Int32.toInt64 (xs (i + 2).toNatClampNeg)) 32) ||| ((Int32.toInt64 (xs (i + 3).toNatClampNeg)) &&& 4294967295))] σ1 (fun v' σ2 => (∃ r2 : Int32, v' = some (.int r2)) ∧ Wx E YL 3476 [(0, .ref 1021), (1, .ref 0), (2, .ref 110), (3, .int i)] [] 215 215 100784 (zx σ2) (QL E bS L xs)))) : Wx E YL 384 [(0, .ref 1021), (1, .ref 0), (2, .ref 110), (3, .int i)] [] 215 215 100784 (zx σ) (QL E bS L xs) := by
  refine y_aload_n (q := 1) d_L_384 rfl rfl ?_
  refine y_aload_n (q := 0) d_L_385 rfl rfl ?_
  refine y_iload_n (q := 3) d_L_386 rfl rfl ?_
  refine y_iconst (v := 1) d_L_387 (by decide) ?_
  refine y_iadd d_L_388 ?_
  refine l_ld hv1 d_L_389 ?_
  refine y_aload_n (q := 0) d_L_390 rfl rfl ?_
  refine y_iload_n (q := 3) d_L_391 rfl rfl ?_
  refine y_iconst (v := 2) d_L_392 (by decide) ?_
  refine y_iadd d_L_393 ?_
  refine l_ld hv2 d_L_394 ?_
  refine y_i2l (v := (Int32.toInt64 (xs (i + 2).toNatClampNeg))) d_L_395 rfl ?_
  refine y_bipush (v := 32) d_L_396 (by decide) ?_
  refine y_lshl (v := (j_lshl (Int32.toInt64 (xs (i + 2).toNatClampNeg)) 32)) d_L_398 rfl ?_
  refine y_aload_n (q := 0) d_L_399 rfl rfl ?_
  refine y_iload_n (q := 3) d_L_400 rfl rfl ?_
  refine y_iconst (v := 3) d_L_401 (by decide) ?_
  refine y_iadd d_L_402 ?_
  refine l_ld hv3 d_L_403 ?_
  refine y_i2l (v := (Int32.toInt64 (xs (i + 3).toNatClampNeg))) d_L_404 rfl ?_
  refine y_ldc2 (v := 4294967295) d_L_405 k_13_224 ?_
  refine y_land d_L_408 ?_
  refine y_lor d_L_409 ?_
  refine lc_15 d_L_410 (Nat.le_of_ble_eq_true rfl) rfl rfl (Cz.mono h ?_)
  rintro v σ1 ⟨r, rfl, h⟩
  show Wx E YL 413 [(0, .ref 1021), (1, .ref 0), (2, .ref 110), (3, .int i)] [.int r] 215 215 100784 (zx σ1) _
  refine y_popi d_L_413 ?_
  refine y_aload_n (q := 2) d_L_414 rfl rfl ?_
  refine y_aload_n (q := 0) d_L_415 rfl rfl ?_
  refine y_iload_n (q := 3) d_L_416 rfl rfl ?_
  refine y_iconst (v := 1) d_L_417 (by decide) ?_
  refine y_iadd d_L_418 ?_
  refine l_ld hv1 d_L_419 ?_
  refine y_aload_n (q := 0) d_L_420 rfl rfl ?_
  refine y_iload_n (q := 3) d_L_421 rfl rfl ?_
  refine y_iconst (v := 2) d_L_422 (by decide) ?_
  refine y_iadd d_L_423 ?_
  refine l_ld hv2 d_L_424 ?_
  refine y_i2l (v := (Int32.toInt64 (xs (i + 2).toNatClampNeg))) d_L_425 rfl ?_
  refine y_bipush (v := 32) d_L_426 (by decide) ?_
  refine y_lshl (v := (j_lshl (Int32.toInt64 (xs (i + 2).toNatClampNeg)) 32)) d_L_428 rfl ?_
  refine y_aload_n (q := 0) d_L_429 rfl rfl ?_
  refine y_iload_n (q := 3) d_L_430 rfl rfl ?_
  refine y_iconst (v := 3) d_L_431 (by decide) ?_
  refine y_iadd d_L_432 ?_
  refine l_ld hv3 d_L_433 ?_
  refine y_i2l (v := (Int32.toInt64 (xs (i + 3).toNatClampNeg))) d_L_434 rfl ?_
  refine y_ldc2 (v := 4294967295) d_L_435 k_13_224 ?_
  refine y_land d_L_438 ?_
  refine y_lor d_L_439 ?_
  refine lc_19 d_L_440 (Nat.le_of_ble_eq_true rfl) rfl rfl (Cz.mono h ?_)
  rintro v σ2 ⟨⟨r2, rfl⟩, h⟩
  show Wx E YL 443 [(0, .ref 1021), (1, .ref 0), (2, .ref 110), (3, .int i)] [.int r2] 215 215 100784 (zx σ2) _
  refine y_popi d_L_443 ?_
  exact y_goto (tgt := 3476) d_L_444 h
theorem L_1 {E : xV} {bS L : Nat} {xs : Nat → Int32} {i : Int32} {σ : zS} (hv1 : vp_in (i + 1) L) (h : Cz E Y_H_cut [.ref 0, .int (xs (i + 1).toNatClampNeg)] σ (fun v σ1 => ∃ r : Int32, v = some (.int r) ∧ Cz E Y_M_cut [.ref 110, .int (xs (i + 1).toNatClampNeg)] σ1 (fun v' σ2 => (∃ r2 : Int32, v' = some (.int r2)) ∧ Wx E YL 3476 [(0, .ref 1021), (1, .ref 0), (2, .ref 110), (3, .int i)] [] 215 215 100784 (zx σ2) (QL E bS L xs)))) : Wx E YL 447 [(0, .ref 1021), (1, .ref 0), (2, .ref 110), (3, .int i)] [] 215 215 100784 (zx σ) (QL E bS L xs) := by
  refine y_aload_n (q := 1) d_L_447 rfl rfl ?_
  refine y_aload_n (q := 0) d_L_448 rfl rfl ?_
  refine y_iload_n (q := 3) d_L_449 rfl rfl ?_
  refine y_iconst (v := 1) d_L_450 (by decide) ?_
  refine y_iadd d_L_451 ?_
  refine l_ld hv1 d_L_452 ?_
  refine lc_20 d_L_453 (Nat.le_of_ble_eq_true rfl) rfl rfl (Cz.mono h ?_)
  rintro v σ1 ⟨r, rfl, h⟩
  show Wx E YL 456 [(0, .ref 1021), (1, .ref 0), (2, .ref 110), (3, .int i)] [.int r] 215 215 100784 (zx σ1) _
  refine y_popi d_L_456 ?_
  refine y_aload_n (q := 2) d_L_457 rfl rfl ?_
  refine y_aload_n (q := 0) d_L_458 rfl rfl ?_
  refine y_iload_n (q := 3) d_L_459 rfl rfl ?_
  refine y_iconst (v := 1) d_L_460 (by decide) ?_
  refine y_iadd d_L_461 ?_
  refine l_ld hv1 d_L_462 ?_
  refine lc_24 d_L_463 (Nat.le_of_ble_eq_true rfl) rfl rfl (Cz.mono h ?_)
  rintro v σ2 ⟨⟨r2, rfl⟩, h⟩
  show Wx E YL 466 [(0, .ref 1021), (1, .ref 0), (2, .ref 110), (3, .int i)] [.int r2] 215 215 100784 (zx σ2) _
  refine y_popi d_L_466 ?_
  exact y_goto (tgt := 3476) d_L_467 h
theorem L_2 {E : xV} {bS L : Nat} {xs : Nat → Int32} {i : Int32} {σ : zS} (hv1 : vp_in (i + 1) L) (h : Cz E Y_H_tick [.ref 0, .int (xs (i + 1).toNatClampNeg)] σ (fun v σ1 => ∃ r : Int32, v = some (.int r) ∧ Cz E Y_M_tick [.ref 110, .int (xs (i + 1).toNatClampNeg)] σ1 (fun v' σ2 => (∃ r2 : Int32, v' = some (.int r2)) ∧ Wx E YL 3476 [(0, .ref 1021), (1, .ref 0), (2, .ref 110), (3, .int i)] [] 215 215 100784 (zx σ2) (QL E bS L xs)))) : Wx E YL 470 [(0, .ref 1021), (1, .ref 0), (2, .ref 110), (3, .int i)] [] 215 215 100784 (zx σ) (QL E bS L xs) := by
  refine y_aload_n (q := 1) d_L_470 rfl rfl ?_
  refine y_aload_n (q := 0) d_L_471 rfl rfl ?_
  refine y_iload_n (q := 3) d_L_472 rfl rfl ?_
  refine y_iconst (v := 1) d_L_473 (by decide) ?_
  refine y_iadd d_L_474 ?_
  refine l_ld hv1 d_L_475 ?_
  refine lc_25 d_L_476 (Nat.le_of_ble_eq_true rfl) rfl rfl (Cz.mono h ?_)
  rintro v σ1 ⟨r, rfl, h⟩
  show Wx E YL 479 [(0, .ref 1021), (1, .ref 0), (2, .ref 110), (3, .int i)] [.int r] 215 215 100784 (zx σ1) _
  refine y_popi d_L_479 ?_
  refine y_aload_n (q := 2) d_L_480 rfl rfl ?_
  refine y_aload_n (q := 0) d_L_481 rfl rfl ?_
  refine y_iload_n (q := 3) d_L_482 rfl rfl ?_
  refine y_iconst (v := 1) d_L_483 (by decide) ?_
  refine y_iadd d_L_484 ?_
  refine l_ld hv1 d_L_485 ?_
  refine lc_28 d_L_486 (Nat.le_of_ble_eq_true rfl) rfl rfl (Cz.mono h ?_)
  rintro v σ2 ⟨⟨r2, rfl⟩, h⟩
  show Wx E YL 489 [(0, .ref 1021), (1, .ref 0), (2, .ref 110), (3, .int i)] [.int r2] 215 215 100784 (zx σ2) _
  refine y_popi d_L_489 ?_
  exact y_goto (tgt := 3476) d_L_490 h
theorem L_3 {E : xV} {bS L : Nat} {xs : Nat → Int32} {i : Int32} {σ : zS}  (h : Cz E Y_H_person [.ref 0] σ (fun v σ1 => ∃ r : Int32, v = some (.int r) ∧ Cz E Y_M_person [.ref 110] σ1 (fun v' σ2 => (∃ r2 : Int32, v' = some (.int r2)) ∧ Wx E YL 3476 [(0, .ref 1021), (1, .ref 0), (2, .ref 110), (3, .int i)] [] 215 215 100784 (zx σ2) (QL E bS L xs)))) : Wx E YL 493 [(0, .ref 1021), (1, .ref 0), (2, .ref 110), (3, .int i)] [] 215 215 100784 (zx σ) (QL E bS L xs) := by
  refine y_aload_n (q := 1) d_L_493 rfl rfl ?_
  refine lc_29 d_L_494 (Nat.le_of_ble_eq_true rfl) rfl rfl (Cz.mono h ?_)
  rintro v σ1 ⟨r, rfl, h⟩
  show Wx E YL 497 [(0, .ref 1021), (1, .ref 0), (2, .ref 110), (3, .int i)] [.int r] 215 215 100784 (zx σ1) _
  refine y_popi d_L_497 ?_
  refine y_aload_n (q := 2) d_L_498 rfl rfl ?_
  refine lc_33 d_L_499 (Nat.le_of_ble_eq_true rfl) rfl rfl (Cz.mono h ?_)
  rintro v σ2 ⟨⟨r2, rfl⟩, h⟩
  show Wx E YL 502 [(0, .ref 1021), (1, .ref 0), (2, .ref 110), (3, .int i)] [.int r2] 215 215 100784 (zx σ2) _
  refine y_popi d_L_502 ?_
  exact y_goto (tgt := 3476) d_L_503 h
theorem L_4 {E : xV} {bS L : Nat} {xs : Nat → Int32} {i : Int32} {σ : zS}  (h : Cz E Y_H_group [.ref 0] σ (fun v σ1 => ∃ r : Int32, v = some (.int r) ∧ Cz E Y_M_group [.ref 110] σ1 (fun v' σ2 => (∃ r2 : Int32, v' = some (.int r2)) ∧ Wx E YL 3476 [(0, .ref 1021), (1, .ref 0), (2, .ref 110), (3, .int i)] [] 215 215 100784 (zx σ2) (QL E bS L xs)))) : Wx E YL 506 [(0, .ref 1021), (1, .ref 0), (2, .ref 110), (3, .int i)] [] 215 215 100784 (zx σ) (QL E bS L xs) := by
  refine y_aload_n (q := 1) d_L_506 rfl rfl ?_
  refine lc_34 d_L_507 (Nat.le_of_ble_eq_true rfl) rfl rfl (Cz.mono h ?_)
  rintro v σ1 ⟨r, rfl, h⟩
  show Wx E YL 510 [(0, .ref 1021), (1, .ref 0), (2, .ref 110), (3, .int i)] [.int r] 215 215 100784 (zx σ1) _
  refine y_popi d_L_510 ?_
  refine y_aload_n (q := 2) d_L_511 rfl rfl ?_
  refine lc_37 d_L_512 (Nat.le_of_ble_eq_true rfl) rfl rfl (Cz.mono h ?_)
  rintro v σ2 ⟨⟨r2, rfl⟩, h⟩
  show Wx E YL 515 [(0, .ref 1021), (1, .ref 0), (2, .ref 110), (3, .int i)] [.int r2] 215 215 100784 (zx σ2) _
  refine y_popi d_L_515 ?_
  exact y_goto (tgt := 3476) d_L_516 h
theorem L_5 {E : xV} {bS L : Nat} {xs : Nat → Int32} {i : Int32} {σ : zS} (hv1 : vp_in (i + 1) L) (hv2 : vp_in (i + 2) L) (hv3 : vp_in (i + 3) L) (hv4 : vp_in (i + 4) L) (h : Cz E Y_H_put [.ref 0, .int (xs (i + 1).toNatClampNeg), .int (xs (i + 2).toNatClampNeg), .int (xs (i + 3).toNatClampNeg), .int (xs (i + 4).toNatClampNeg)] σ (fun v σ1 => ∃ r : Int32, v = some (.int r) ∧ Cz E Y_M_put [.ref 110, .int (xs (i + 1).toNatClampNeg), .int (xs (i + 2).toNatClampNeg), .int (xs (i + 3).toNatClampNeg), .int (xs (i + 4).toNatClampNeg)] σ1 (fun v' σ2 => (∃ r2 : Int32, v' = some (.int r2)) ∧ Wx E YL 3476 [(0, .ref 1021), (1, .ref 0), (2, .ref 110), (3, .int i)] [] 215 215 100784 (zx σ2) (QL E bS L xs)))) : Wx E YL 519 [(0, .ref 1021), (1, .ref 0), (2, .ref 110), (3, .int i)] [] 215 215 100784 (zx σ) (QL E bS L xs) := by
  refine y_aload_n (q := 1) d_L_519 rfl rfl ?_
  refine y_aload_n (q := 0) d_L_520 rfl rfl ?_
  refine y_iload_n (q := 3) d_L_521 rfl rfl ?_
  refine y_iconst (v := 1) d_L_522 (by decide) ?_
  refine y_iadd d_L_523 ?_
  refine l_ld hv1 d_L_524 ?_
  refine y_aload_n (q := 0) d_L_525 rfl rfl ?_
  refine y_iload_n (q := 3) d_L_526 rfl rfl ?_
  refine y_iconst (v := 2) d_L_527 (by decide) ?_
  refine y_iadd d_L_528 ?_
  refine l_ld hv2 d_L_529 ?_
  refine y_aload_n (q := 0) d_L_530 rfl rfl ?_
  refine y_iload_n (q := 3) d_L_531 rfl rfl ?_
  refine y_iconst (v := 3) d_L_532 (by decide) ?_
  refine y_iadd d_L_533 ?_
  refine l_ld hv3 d_L_534 ?_
  refine y_aload_n (q := 0) d_L_535 rfl rfl ?_
  refine y_iload_n (q := 3) d_L_536 rfl rfl ?_
  refine y_iconst (v := 4) d_L_537 (by decide) ?_
  refine y_iadd d_L_538 ?_
  refine l_ld hv4 d_L_539 ?_
  refine lc_38 d_L_540 (Nat.le_of_ble_eq_true rfl) rfl rfl (Cz.mono h ?_)
  rintro v σ1 ⟨r, rfl, h⟩
  show Wx E YL 543 [(0, .ref 1021), (1, .ref 0), (2, .ref 110), (3, .int i)] [.int r] 215 215 100784 (zx σ1) _
  refine y_popi d_L_543 ?_
  refine y_aload_n (q := 2) d_L_544 rfl rfl ?_
  refine y_aload_n (q := 0) d_L_545 rfl rfl ?_
  refine y_iload_n (q := 3) d_L_546 rfl rfl ?_
  refine y_iconst (v := 1) d_L_547 (by decide) ?_
  refine y_iadd d_L_548 ?_
  refine l_ld hv1 d_L_549 ?_
  refine y_aload_n (q := 0) d_L_550 rfl rfl ?_
  refine y_iload_n (q := 3) d_L_551 rfl rfl ?_
  refine y_iconst (v := 2) d_L_552 (by decide) ?_
  refine y_iadd d_L_553 ?_
  refine l_ld hv2 d_L_554 ?_
  refine y_aload_n (q := 0) d_L_555 rfl rfl ?_
  refine y_iload_n (q := 3) d_L_556 rfl rfl ?_
  refine y_iconst (v := 3) d_L_557 (by decide) ?_
  refine y_iadd d_L_558 ?_
  refine l_ld hv3 d_L_559 ?_
  refine y_aload_n (q := 0) d_L_560 rfl rfl ?_
  refine y_iload_n (q := 3) d_L_561 rfl rfl ?_
  refine y_iconst (v := 4) d_L_562 (by decide) ?_
  refine y_iadd d_L_563 ?_
  refine l_ld hv4 d_L_564 ?_
  refine lc_42 d_L_565 (Nat.le_of_ble_eq_true rfl) rfl rfl (Cz.mono h ?_)
  rintro v σ2 ⟨⟨r2, rfl⟩, h⟩
  show Wx E YL 568 [(0, .ref 1021), (1, .ref 0), (2, .ref 110), (3, .int i)] [.int r2] 215 215 100784 (zx σ2) _
  refine y_popi d_L_568 ?_
  exact y_goto (tgt := 3476) d_L_569 h
theorem L_6 {E : xV} {bS L : Nat} {xs : Nat → Int32} {i : Int32} {σ : zS} (hv1 : vp_in (i + 1) L) (h : Cz E Y_H_back [.ref 0, .int (xs (i + 1).toNatClampNeg)] σ (fun v σ1 => ∃ r : Int32, v = some (.int r) ∧ Cz E Y_M_back [.ref 110, .int (xs (i + 1).toNatClampNeg)] σ1 (fun v' σ2 => (∃ r2 : Int32, v' = some (.int r2)) ∧ Wx E YL 3476 [(0, .ref 1021), (1, .ref 0), (2, .ref 110), (3, .int i)] [] 215 215 100784 (zx σ2) (QL E bS L xs)))) : Wx E YL 572 [(0, .ref 1021), (1, .ref 0), (2, .ref 110), (3, .int i)] [] 215 215 100784 (zx σ) (QL E bS L xs) := by
  refine y_aload_n (q := 1) d_L_572 rfl rfl ?_
  refine y_aload_n (q := 0) d_L_573 rfl rfl ?_
  refine y_iload_n (q := 3) d_L_574 rfl rfl ?_
  refine y_iconst (v := 1) d_L_575 (by decide) ?_
  refine y_iadd d_L_576 ?_
  refine l_ld hv1 d_L_577 ?_
  refine lc_43 d_L_578 (Nat.le_of_ble_eq_true rfl) rfl rfl (Cz.mono h ?_)
  rintro v σ1 ⟨r, rfl, h⟩
  show Wx E YL 581 [(0, .ref 1021), (1, .ref 0), (2, .ref 110), (3, .int i)] [.int r] 215 215 100784 (zx σ1) _
  refine y_popi d_L_581 ?_
  refine y_aload_n (q := 2) d_L_582 rfl rfl ?_
  refine y_aload_n (q := 0) d_L_583 rfl rfl ?_
  refine y_iload_n (q := 3) d_L_584 rfl rfl ?_
  refine y_iconst (v := 1) d_L_585 (by decide) ?_
  refine y_iadd d_L_586 ?_
  refine l_ld hv1 d_L_587 ?_
  refine lc_46 d_L_588 (Nat.le_of_ble_eq_true rfl) rfl rfl (Cz.mono h ?_)
  rintro v σ2 ⟨⟨r2, rfl⟩, h⟩
  show Wx E YL 591 [(0, .ref 1021), (1, .ref 0), (2, .ref 110), (3, .int i)] [.int r2] 215 215 100784 (zx σ2) _
  refine y_popi d_L_591 ?_
  exact y_goto (tgt := 3476) d_L_592 h
theorem L_7 {E : xV} {bS L : Nat} {xs : Nat → Int32} {i : Int32} {σ : zS} (hv1 : vp_in (i + 1) L) (hv2 : vp_in (i + 2) L) (hv3 : vp_in (i + 3) L) (hv4 : vp_in (i + 4) L) (h : Cz E Y_H_belongs [.ref 0, .int (xs (i + 1).toNatClampNeg), .int (xs (i + 2).toNatClampNeg), .int (xs (i + 3).toNatClampNeg), .int (xs (i + 4).toNatClampNeg)] σ (fun v σ1 => ∃ r : Int32, v = some (.int r) ∧ Cz E Y_M_belongs [.ref 110, .int (xs (i + 1).toNatClampNeg), .int (xs (i + 2).toNatClampNeg), .int (xs (i + 3).toNatClampNeg), .int (xs (i + 4).toNatClampNeg)] σ1 (fun v' σ2 => (∃ r2 : Int32, v' = some (.int r2)) ∧ Wx E YL 3476 [(0, .ref 1021), (1, .ref 0), (2, .ref 110), (3, .int i)] [] 215 215 100784 (zx σ2) (QL E bS L xs)))) : Wx E YL 595 [(0, .ref 1021), (1, .ref 0), (2, .ref 110), (3, .int i)] [] 215 215 100784 (zx σ) (QL E bS L xs) := by
  refine y_aload_n (q := 1) d_L_595 rfl rfl ?_
  refine y_aload_n (q := 0) d_L_596 rfl rfl ?_
  refine y_iload_n (q := 3) d_L_597 rfl rfl ?_
  refine y_iconst (v := 1) d_L_598 (by decide) ?_
  refine y_iadd d_L_599 ?_
  refine l_ld hv1 d_L_600 ?_
  refine y_aload_n (q := 0) d_L_601 rfl rfl ?_
  refine y_iload_n (q := 3) d_L_602 rfl rfl ?_
  refine y_iconst (v := 2) d_L_603 (by decide) ?_
  refine y_iadd d_L_604 ?_
  refine l_ld hv2 d_L_605 ?_
  refine y_aload_n (q := 0) d_L_606 rfl rfl ?_
  refine y_iload_n (q := 3) d_L_607 rfl rfl ?_
  refine y_iconst (v := 3) d_L_608 (by decide) ?_
  refine y_iadd d_L_609 ?_
  refine l_ld hv3 d_L_610 ?_
  refine y_aload_n (q := 0) d_L_611 rfl rfl ?_
  refine y_iload_n (q := 3) d_L_612 rfl rfl ?_
  refine y_iconst (v := 4) d_L_613 (by decide) ?_
  refine y_iadd d_L_614 ?_
  refine l_ld hv4 d_L_615 ?_
  refine lc_47 d_L_616 (Nat.le_of_ble_eq_true rfl) rfl rfl (Cz.mono h ?_)
  rintro v σ1 ⟨r, rfl, h⟩
  show Wx E YL 619 [(0, .ref 1021), (1, .ref 0), (2, .ref 110), (3, .int i)] [.int r] 215 215 100784 (zx σ1) _
  refine y_popi d_L_619 ?_
  refine y_aload_n (q := 2) d_L_620 rfl rfl ?_
  refine y_aload_n (q := 0) d_L_621 rfl rfl ?_
  refine y_iload_n (q := 3) d_L_622 rfl rfl ?_
  refine y_iconst (v := 1) d_L_623 (by decide) ?_
  refine y_iadd d_L_624 ?_
  refine l_ld hv1 d_L_625 ?_
  refine y_aload_n (q := 0) d_L_626 rfl rfl ?_
  refine y_iload_n (q := 3) d_L_627 rfl rfl ?_
  refine y_iconst (v := 2) d_L_628 (by decide) ?_
  refine y_iadd d_L_629 ?_
  refine l_ld hv2 d_L_630 ?_
  refine y_aload_n (q := 0) d_L_631 rfl rfl ?_
  refine y_iload_n (q := 3) d_L_632 rfl rfl ?_
  refine y_iconst (v := 3) d_L_633 (by decide) ?_
  refine y_iadd d_L_634 ?_
  refine l_ld hv3 d_L_635 ?_
  refine y_aload_n (q := 0) d_L_636 rfl rfl ?_
  refine y_iload_n (q := 3) d_L_637 rfl rfl ?_
  refine y_iconst (v := 4) d_L_638 (by decide) ?_
  refine y_iadd d_L_639 ?_
  refine l_ld hv4 d_L_640 ?_
  refine lc_50 d_L_641 (Nat.le_of_ble_eq_true rfl) rfl rfl (Cz.mono h ?_)
  rintro v σ2 ⟨⟨r2, rfl⟩, h⟩
  show Wx E YL 644 [(0, .ref 1021), (1, .ref 0), (2, .ref 110), (3, .int i)] [.int r2] 215 215 100784 (zx σ2) _
  refine y_popi d_L_644 ?_
  exact y_goto (tgt := 3476) d_L_645 h
theorem L_8 {E : xV} {bS L : Nat} {xs : Nat → Int32} {i : Int32} {σ : zS} (hv1 : vp_in (i + 1) L) (hv2 : vp_in (i + 2) L) (h : Cz E Y_H_rowOf [.ref 0, .int (xs (i + 1).toNatClampNeg), .int (xs (i + 2).toNatClampNeg)] σ (fun v σ1 => ∃ r : Int32, v = some (.int r) ∧ Cz E Y_M_rowOf [.ref 110, .int (xs (i + 1).toNatClampNeg), .int (xs (i + 2).toNatClampNeg)] σ1 (fun v' σ2 => (∃ r2 : Int32, v' = some (.int r2)) ∧ Wx E YL 3476 [(0, .ref 1021), (1, .ref 0), (2, .ref 110), (3, .int i)] [] 215 215 100784 (zx σ2) (QL E bS L xs)))) : Wx E YL 648 [(0, .ref 1021), (1, .ref 0), (2, .ref 110), (3, .int i)] [] 215 215 100784 (zx σ) (QL E bS L xs) := by
  refine y_aload_n (q := 1) d_L_648 rfl rfl ?_
  refine y_aload_n (q := 0) d_L_649 rfl rfl ?_
  refine y_iload_n (q := 3) d_L_650 rfl rfl ?_
  refine y_iconst (v := 1) d_L_651 (by decide) ?_
  refine y_iadd d_L_652 ?_
  refine l_ld hv1 d_L_653 ?_
  refine y_aload_n (q := 0) d_L_654 rfl rfl ?_
  refine y_iload_n (q := 3) d_L_655 rfl rfl ?_
  refine y_iconst (v := 2) d_L_656 (by decide) ?_
  refine y_iadd d_L_657 ?_
  refine l_ld hv2 d_L_658 ?_
  refine lc_51 d_L_659 (Nat.le_of_ble_eq_true rfl) rfl rfl (Cz.mono h ?_)
  rintro v σ1 ⟨r, rfl, h⟩
  show Wx E YL 662 [(0, .ref 1021), (1, .ref 0), (2, .ref 110), (3, .int i)] [.int r] 215 215 100784 (zx σ1) _
  refine y_popi d_L_662 ?_
  refine y_aload_n (q := 2) d_L_663 rfl rfl ?_
  refine y_aload_n (q := 0) d_L_664 rfl rfl ?_
  refine y_iload_n (q := 3) d_L_665 rfl rfl ?_
  refine y_iconst (v := 1) d_L_666 (by decide) ?_
  refine y_iadd d_L_667 ?_
  refine l_ld hv1 d_L_668 ?_
  refine y_aload_n (q := 0) d_L_669 rfl rfl ?_
  refine y_iload_n (q := 3) d_L_670 rfl rfl ?_
  refine y_iconst (v := 2) d_L_671 (by decide) ?_
  refine y_iadd d_L_672 ?_
  refine l_ld hv2 d_L_673 ?_
  refine lc_55 d_L_674 (Nat.le_of_ble_eq_true rfl) rfl rfl (Cz.mono h ?_)
  rintro v σ2 ⟨⟨r2, rfl⟩, h⟩
  show Wx E YL 677 [(0, .ref 1021), (1, .ref 0), (2, .ref 110), (3, .int i)] [.int r2] 215 215 100784 (zx σ2) _
  refine y_popi d_L_677 ?_
  exact y_goto (tgt := 3476) d_L_678 h
theorem L_9 {E : xV} {bS L : Nat} {xs : Nat → Int32} {i : Int32} {σ : zS} (hv1 : vp_in (i + 1) L) (hv2 : vp_in (i + 2) L) (hv3 : vp_in (i + 3) L) (hv4 : vp_in (i + 4) L) (h : Cz E Y_H_feature [.ref 0, .int (xs (i + 1).toNatClampNeg), .int (xs (i + 2).toNatClampNeg), .int (xs (i + 3).toNatClampNeg), .int (xs (i + 4).toNatClampNeg)] σ (fun v σ1 => ∃ r : Int32, v = some (.int r) ∧ Cz E Y_M_feature [.ref 110, .int (xs (i + 1).toNatClampNeg), .int (xs (i + 2).toNatClampNeg), .int (xs (i + 3).toNatClampNeg), .int (xs (i + 4).toNatClampNeg)] σ1 (fun v' σ2 => (∃ r2 : Int32, v' = some (.int r2)) ∧ Wx E YL 3476 [(0, .ref 1021), (1, .ref 0), (2, .ref 110), (3, .int i)] [] 215 215 100784 (zx σ2) (QL E bS L xs)))) : Wx E YL 681 [(0, .ref 1021), (1, .ref 0), (2, .ref 110), (3, .int i)] [] 215 215 100784 (zx σ) (QL E bS L xs) := by
  refine y_aload_n (q := 1) d_L_681 rfl rfl ?_
  refine y_aload_n (q := 0) d_L_682 rfl rfl ?_
  refine y_iload_n (q := 3) d_L_683 rfl rfl ?_
  refine y_iconst (v := 1) d_L_684 (by decide) ?_
  refine y_iadd d_L_685 ?_
  refine l_ld hv1 d_L_686 ?_
  refine y_aload_n (q := 0) d_L_687 rfl rfl ?_
  refine y_iload_n (q := 3) d_L_688 rfl rfl ?_
  refine y_iconst (v := 2) d_L_689 (by decide) ?_
  refine y_iadd d_L_690 ?_
  refine l_ld hv2 d_L_691 ?_
  refine y_aload_n (q := 0) d_L_692 rfl rfl ?_
  refine y_iload_n (q := 3) d_L_693 rfl rfl ?_
  refine y_iconst (v := 3) d_L_694 (by decide) ?_
  refine y_iadd d_L_695 ?_
  refine l_ld hv3 d_L_696 ?_
  refine y_aload_n (q := 0) d_L_697 rfl rfl ?_
  refine y_iload_n (q := 3) d_L_698 rfl rfl ?_
  refine y_iconst (v := 4) d_L_699 (by decide) ?_
  refine y_iadd d_L_700 ?_
  refine l_ld hv4 d_L_701 ?_
  refine lc_56 d_L_702 (Nat.le_of_ble_eq_true rfl) rfl rfl (Cz.mono h ?_)
  rintro v σ1 ⟨r, rfl, h⟩
  show Wx E YL 705 [(0, .ref 1021), (1, .ref 0), (2, .ref 110), (3, .int i)] [.int r] 215 215 100784 (zx σ1) _
  refine y_popi d_L_705 ?_
  refine y_aload_n (q := 2) d_L_706 rfl rfl ?_
  refine y_aload_n (q := 0) d_L_707 rfl rfl ?_
  refine y_iload_n (q := 3) d_L_708 rfl rfl ?_
  refine y_iconst (v := 1) d_L_709 (by decide) ?_
  refine y_iadd d_L_710 ?_
  refine l_ld hv1 d_L_711 ?_
  refine y_aload_n (q := 0) d_L_712 rfl rfl ?_
  refine y_iload_n (q := 3) d_L_713 rfl rfl ?_
  refine y_iconst (v := 2) d_L_714 (by decide) ?_
  refine y_iadd d_L_715 ?_
  refine l_ld hv2 d_L_716 ?_
  refine y_aload_n (q := 0) d_L_717 rfl rfl ?_
  refine y_iload_n (q := 3) d_L_718 rfl rfl ?_
  refine y_iconst (v := 3) d_L_719 (by decide) ?_
  refine y_iadd d_L_720 ?_
  refine l_ld hv3 d_L_721 ?_
  refine y_aload_n (q := 0) d_L_722 rfl rfl ?_
  refine y_iload_n (q := 3) d_L_723 rfl rfl ?_
  refine y_iconst (v := 4) d_L_724 (by decide) ?_
  refine y_iadd d_L_725 ?_
  refine l_ld hv4 d_L_726 ?_
  refine lc_59 d_L_727 (Nat.le_of_ble_eq_true rfl) rfl rfl (Cz.mono h ?_)
  rintro v σ2 ⟨⟨r2, rfl⟩, h⟩
  show Wx E YL 730 [(0, .ref 1021), (1, .ref 0), (2, .ref 110), (3, .int i)] [.int r2] 215 215 100784 (zx σ2) _
  refine y_popi d_L_730 ?_
  exact y_goto (tgt := 3476) d_L_731 h
theorem L_10 {E : xV} {bS L : Nat} {xs : Nat → Int32} {i : Int32} {σ : zS} (hv1 : vp_in (i + 1) L) (hv2 : vp_in (i + 2) L) (hv3 : vp_in (i + 3) L) (hv4 : vp_in (i + 4) L) (hv5 : vp_in (i + 5) L) (h : Cz E Y_H_item [.ref 0, .int (xs (i + 1).toNatClampNeg), .int (xs (i + 2).toNatClampNeg), .int (xs (i + 3).toNatClampNeg), .long ((j_lshl (Int32.toInt64 (xs (i + 4).toNatClampNeg)) 32) ||| ((Int32.toInt64 (xs (i + 5).toNatClampNeg)) &&& 4294967295))] σ (fun v σ1 => ∃ r : Int32, v = some (.int r) ∧ Cz E Y_M_item [.ref 110, .int (xs (i + 1).toNatClampNeg), .int (xs (i + 2).toNatClampNeg), .int (xs (i + 3).toNatClampNeg), .long ((j_lshl (Int32.toInt64 (xs (i + 4).toNatClampNeg)) 32) ||| ((Int32.toInt64 (xs (i + 5).toNatClampNeg)) &&& 4294967295))] σ1 (fun v' σ2 => (∃ r2 : Int32, v' = some (.int r2)) ∧ Wx E YL 3476 [(0, .ref 1021), (1, .ref 0), (2, .ref 110), (3, .int i)] [] 215 215 100784 (zx σ2) (QL E bS L xs)))) : Wx E YL 734 [(0, .ref 1021), (1, .ref 0), (2, .ref 110), (3, .int i)] [] 215 215 100784 (zx σ) (QL E bS L xs) := by
  refine y_aload_n (q := 1) d_L_734 rfl rfl ?_
  refine y_aload_n (q := 0) d_L_735 rfl rfl ?_
  refine y_iload_n (q := 3) d_L_736 rfl rfl ?_
  refine y_iconst (v := 1) d_L_737 (by decide) ?_
  refine y_iadd d_L_738 ?_
  refine l_ld hv1 d_L_739 ?_
  refine y_aload_n (q := 0) d_L_740 rfl rfl ?_
  refine y_iload_n (q := 3) d_L_741 rfl rfl ?_
  refine y_iconst (v := 2) d_L_742 (by decide) ?_
  refine y_iadd d_L_743 ?_
  refine l_ld hv2 d_L_744 ?_
  refine y_aload_n (q := 0) d_L_745 rfl rfl ?_
  refine y_iload_n (q := 3) d_L_746 rfl rfl ?_
  refine y_iconst (v := 3) d_L_747 (by decide) ?_
  refine y_iadd d_L_748 ?_
  refine l_ld hv3 d_L_749 ?_
  refine y_aload_n (q := 0) d_L_750 rfl rfl ?_
  refine y_iload_n (q := 3) d_L_751 rfl rfl ?_
  refine y_iconst (v := 4) d_L_752 (by decide) ?_
  refine y_iadd d_L_753 ?_
  refine l_ld hv4 d_L_754 ?_
  refine y_i2l (v := (Int32.toInt64 (xs (i + 4).toNatClampNeg))) d_L_755 rfl ?_
  refine y_bipush (v := 32) d_L_756 (by decide) ?_
  refine y_lshl (v := (j_lshl (Int32.toInt64 (xs (i + 4).toNatClampNeg)) 32)) d_L_758 rfl ?_
  refine y_aload_n (q := 0) d_L_759 rfl rfl ?_
  refine y_iload_n (q := 3) d_L_760 rfl rfl ?_
  refine y_iconst (v := 5) d_L_761 (by decide) ?_
  refine y_iadd d_L_762 ?_
  refine l_ld hv5 d_L_763 ?_
  refine y_i2l (v := (Int32.toInt64 (xs (i + 5).toNatClampNeg))) d_L_764 rfl ?_
  refine y_ldc2 (v := 4294967295) d_L_765 k_13_224 ?_
  refine y_land d_L_768 ?_
  refine y_lor d_L_769 ?_
  refine lc_60 d_L_770 (Nat.le_of_ble_eq_true rfl) rfl rfl (Cz.mono h ?_)
  rintro v σ1 ⟨r, rfl, h⟩
  show Wx E YL 773 [(0, .ref 1021), (1, .ref 0), (2, .ref 110), (3, .int i)] [.int r] 215 215 100784 (zx σ1) _
  refine y_popi d_L_773 ?_
  refine y_aload_n (q := 2) d_L_774 rfl rfl ?_
  refine y_aload_n (q := 0) d_L_775 rfl rfl ?_
  refine y_iload_n (q := 3) d_L_776 rfl rfl ?_
  refine y_iconst (v := 1) d_L_777 (by decide) ?_
  refine y_iadd d_L_778 ?_
  refine l_ld hv1 d_L_779 ?_
  refine y_aload_n (q := 0) d_L_780 rfl rfl ?_
  refine y_iload_n (q := 3) d_L_781 rfl rfl ?_
  refine y_iconst (v := 2) d_L_782 (by decide) ?_
  refine y_iadd d_L_783 ?_
  refine l_ld hv2 d_L_784 ?_
  refine y_aload_n (q := 0) d_L_785 rfl rfl ?_
  refine y_iload_n (q := 3) d_L_786 rfl rfl ?_
  refine y_iconst (v := 3) d_L_787 (by decide) ?_
  refine y_iadd d_L_788 ?_
  refine l_ld hv3 d_L_789 ?_
  refine y_aload_n (q := 0) d_L_790 rfl rfl ?_
  refine y_iload_n (q := 3) d_L_791 rfl rfl ?_
  refine y_iconst (v := 4) d_L_792 (by decide) ?_
  refine y_iadd d_L_793 ?_
  refine l_ld hv4 d_L_794 ?_
  refine y_i2l (v := (Int32.toInt64 (xs (i + 4).toNatClampNeg))) d_L_795 rfl ?_
  refine y_bipush (v := 32) d_L_796 (by decide) ?_
  refine y_lshl (v := (j_lshl (Int32.toInt64 (xs (i + 4).toNatClampNeg)) 32)) d_L_798 rfl ?_
  refine y_aload_n (q := 0) d_L_799 rfl rfl ?_
  refine y_iload_n (q := 3) d_L_800 rfl rfl ?_
  refine y_iconst (v := 5) d_L_801 (by decide) ?_
  refine y_iadd d_L_802 ?_
  refine l_ld hv5 d_L_803 ?_
  refine y_i2l (v := (Int32.toInt64 (xs (i + 5).toNatClampNeg))) d_L_804 rfl ?_
  refine y_ldc2 (v := 4294967295) d_L_805 k_13_224 ?_
  refine y_land d_L_808 ?_
  refine y_lor d_L_809 ?_
  refine lc_64 d_L_810 (Nat.le_of_ble_eq_true rfl) rfl rfl (Cz.mono h ?_)
  rintro v σ2 ⟨⟨r2, rfl⟩, h⟩
  show Wx E YL 813 [(0, .ref 1021), (1, .ref 0), (2, .ref 110), (3, .int i)] [.int r2] 215 215 100784 (zx σ2) _
  refine y_popi d_L_813 ?_
  exact y_goto (tgt := 3476) d_L_814 h
theorem L_11 {E : xV} {bS L : Nat} {xs : Nat → Int32} {i : Int32} {σ : zS} (hv1 : vp_in (i + 1) L) (hv2 : vp_in (i + 2) L) (hv3 : vp_in (i + 3) L) (hv4 : vp_in (i + 4) L) (h : Cz E Y_H_itemOf [.ref 0, .int (xs (i + 1).toNatClampNeg), .int (xs (i + 2).toNatClampNeg), .int (xs (i + 3).toNatClampNeg), .int (xs (i + 4).toNatClampNeg)] σ (fun v σ1 => ∃ r : Int64, v = some (.long r) ∧ Cz E Y_M_itemOf [.ref 110, .int (xs (i + 1).toNatClampNeg), .int (xs (i + 2).toNatClampNeg), .int (xs (i + 3).toNatClampNeg), .int (xs (i + 4).toNatClampNeg)] σ1 (fun v' σ2 => (∃ r2 : Int64, v' = some (.long r2)) ∧ Wx E YL 3476 [(0, .ref 1021), (1, .ref 0), (2, .ref 110), (3, .int i)] [] 215 215 100784 (zx σ2) (QL E bS L xs)))) : Wx E YL 817 [(0, .ref 1021), (1, .ref 0), (2, .ref 110), (3, .int i)] [] 215 215 100784 (zx σ) (QL E bS L xs) := by
  refine y_aload_n (q := 1) d_L_817 rfl rfl ?_
  refine y_aload_n (q := 0) d_L_818 rfl rfl ?_
  refine y_iload_n (q := 3) d_L_819 rfl rfl ?_
  refine y_iconst (v := 1) d_L_820 (by decide) ?_
  refine y_iadd d_L_821 ?_
  refine l_ld hv1 d_L_822 ?_
  refine y_aload_n (q := 0) d_L_823 rfl rfl ?_
  refine y_iload_n (q := 3) d_L_824 rfl rfl ?_
  refine y_iconst (v := 2) d_L_825 (by decide) ?_
  refine y_iadd d_L_826 ?_
  refine l_ld hv2 d_L_827 ?_
  refine y_aload_n (q := 0) d_L_828 rfl rfl ?_
  refine y_iload_n (q := 3) d_L_829 rfl rfl ?_
  refine y_iconst (v := 3) d_L_830 (by decide) ?_
  refine y_iadd d_L_831 ?_
  refine l_ld hv3 d_L_832 ?_
  refine y_aload_n (q := 0) d_L_833 rfl rfl ?_
  refine y_iload_n (q := 3) d_L_834 rfl rfl ?_
  refine y_iconst (v := 4) d_L_835 (by decide) ?_
  refine y_iadd d_L_836 ?_
  refine l_ld hv4 d_L_837 ?_
  refine lc_65 d_L_838 (Nat.le_of_ble_eq_true rfl) rfl rfl (Cz.mono h ?_)
  rintro v σ1 ⟨r, rfl, h⟩
  show Wx E YL 841 [(0, .ref 1021), (1, .ref 0), (2, .ref 110), (3, .int i)] [.long r] 215 215 100784 (zx σ1) _
  refine y_pop2l d_L_841 ?_
  refine y_aload_n (q := 2) d_L_842 rfl rfl ?_
  refine y_aload_n (q := 0) d_L_843 rfl rfl ?_
  refine y_iload_n (q := 3) d_L_844 rfl rfl ?_
  refine y_iconst (v := 1) d_L_845 (by decide) ?_
  refine y_iadd d_L_846 ?_
  refine l_ld hv1 d_L_847 ?_
  refine y_aload_n (q := 0) d_L_848 rfl rfl ?_
  refine y_iload_n (q := 3) d_L_849 rfl rfl ?_
  refine y_iconst (v := 2) d_L_850 (by decide) ?_
  refine y_iadd d_L_851 ?_
  refine l_ld hv2 d_L_852 ?_
  refine y_aload_n (q := 0) d_L_853 rfl rfl ?_
  refine y_iload_n (q := 3) d_L_854 rfl rfl ?_
  refine y_iconst (v := 3) d_L_855 (by decide) ?_
  refine y_iadd d_L_856 ?_
  refine l_ld hv3 d_L_857 ?_
  refine y_aload_n (q := 0) d_L_858 rfl rfl ?_
  refine y_iload_n (q := 3) d_L_859 rfl rfl ?_
  refine y_iconst (v := 4) d_L_860 (by decide) ?_
  refine y_iadd d_L_861 ?_
  refine l_ld hv4 d_L_862 ?_
  refine lc_69 d_L_863 (Nat.le_of_ble_eq_true rfl) rfl rfl (Cz.mono h ?_)
  rintro v σ2 ⟨⟨r2, rfl⟩, h⟩
  show Wx E YL 866 [(0, .ref 1021), (1, .ref 0), (2, .ref 110), (3, .int i)] [.long r2] 215 215 100784 (zx σ2) _
  refine y_pop2l d_L_866 ?_
  exact y_goto (tgt := 3476) d_L_867 h
theorem L_12 {E : xV} {bS L : Nat} {xs : Nat → Int32} {i : Int32} {σ : zS} (hv1 : vp_in (i + 1) L) (hv2 : vp_in (i + 2) L) (hv3 : vp_in (i + 3) L) (hv4 : vp_in (i + 4) L) (hv5 : vp_in (i + 5) L) (hv6 : vp_in (i + 6) L) (hv7 : vp_in (i + 7) L) (h : Cz E Y_H_copy [.ref 0, .int (xs (i + 1).toNatClampNeg), .int (xs (i + 2).toNatClampNeg), .int (xs (i + 3).toNatClampNeg), .int (xs (i + 4).toNatClampNeg), .int (xs (i + 5).toNatClampNeg), .int (xs (i + 6).toNatClampNeg), .int (xs (i + 7).toNatClampNeg)] σ (fun v σ1 => ∃ r : Int32, v = some (.int r) ∧ Cz E Y_M_copy [.ref 110, .int (xs (i + 1).toNatClampNeg), .int (xs (i + 2).toNatClampNeg), .int (xs (i + 3).toNatClampNeg), .int (xs (i + 4).toNatClampNeg), .int (xs (i + 5).toNatClampNeg), .int (xs (i + 6).toNatClampNeg), .int (xs (i + 7).toNatClampNeg)] σ1 (fun v' σ2 => (∃ r2 : Int32, v' = some (.int r2)) ∧ Wx E YL 3476 [(0, .ref 1021), (1, .ref 0), (2, .ref 110), (3, .int i)] [] 215 215 100784 (zx σ2) (QL E bS L xs)))) : Wx E YL 870 [(0, .ref 1021), (1, .ref 0), (2, .ref 110), (3, .int i)] [] 215 215 100784 (zx σ) (QL E bS L xs) := by
  refine y_aload_n (q := 1) d_L_870 rfl rfl ?_
  refine y_aload_n (q := 0) d_L_871 rfl rfl ?_
  refine y_iload_n (q := 3) d_L_872 rfl rfl ?_
  refine y_iconst (v := 1) d_L_873 (by decide) ?_
  refine y_iadd d_L_874 ?_
  refine l_ld hv1 d_L_875 ?_
  refine y_aload_n (q := 0) d_L_876 rfl rfl ?_
  refine y_iload_n (q := 3) d_L_877 rfl rfl ?_
  refine y_iconst (v := 2) d_L_878 (by decide) ?_
  refine y_iadd d_L_879 ?_
  refine l_ld hv2 d_L_880 ?_
  refine y_aload_n (q := 0) d_L_881 rfl rfl ?_
  refine y_iload_n (q := 3) d_L_882 rfl rfl ?_
  refine y_iconst (v := 3) d_L_883 (by decide) ?_
  refine y_iadd d_L_884 ?_
  refine l_ld hv3 d_L_885 ?_
  refine y_aload_n (q := 0) d_L_886 rfl rfl ?_
  refine y_iload_n (q := 3) d_L_887 rfl rfl ?_
  refine y_iconst (v := 4) d_L_888 (by decide) ?_
  refine y_iadd d_L_889 ?_
  refine l_ld hv4 d_L_890 ?_
  refine y_aload_n (q := 0) d_L_891 rfl rfl ?_
  refine y_iload_n (q := 3) d_L_892 rfl rfl ?_
  refine y_iconst (v := 5) d_L_893 (by decide) ?_
  refine y_iadd d_L_894 ?_
  refine l_ld hv5 d_L_895 ?_
  refine y_aload_n (q := 0) d_L_896 rfl rfl ?_
  refine y_iload_n (q := 3) d_L_897 rfl rfl ?_
  refine y_bipush (v := 6) d_L_898 (by decide) ?_
  refine y_iadd d_L_900 ?_
  refine l_ld hv6 d_L_901 ?_
  refine y_aload_n (q := 0) d_L_902 rfl rfl ?_
  refine y_iload_n (q := 3) d_L_903 rfl rfl ?_
  refine y_bipush (v := 7) d_L_904 (by decide) ?_
  refine y_iadd d_L_906 ?_
  refine l_ld hv7 d_L_907 ?_
  refine lc_70 d_L_908 (Nat.le_of_ble_eq_true rfl) rfl rfl (Cz.mono h ?_)
  rintro v σ1 ⟨r, rfl, h⟩
  show Wx E YL 911 [(0, .ref 1021), (1, .ref 0), (2, .ref 110), (3, .int i)] [.int r] 215 215 100784 (zx σ1) _
  refine y_popi d_L_911 ?_
  refine y_aload_n (q := 2) d_L_912 rfl rfl ?_
  refine y_aload_n (q := 0) d_L_913 rfl rfl ?_
  refine y_iload_n (q := 3) d_L_914 rfl rfl ?_
  refine y_iconst (v := 1) d_L_915 (by decide) ?_
  refine y_iadd d_L_916 ?_
  refine l_ld hv1 d_L_917 ?_
  refine y_aload_n (q := 0) d_L_918 rfl rfl ?_
  refine y_iload_n (q := 3) d_L_919 rfl rfl ?_
  refine y_iconst (v := 2) d_L_920 (by decide) ?_
  refine y_iadd d_L_921 ?_
  refine l_ld hv2 d_L_922 ?_
  refine y_aload_n (q := 0) d_L_923 rfl rfl ?_
  refine y_iload_n (q := 3) d_L_924 rfl rfl ?_
  refine y_iconst (v := 3) d_L_925 (by decide) ?_
  refine y_iadd d_L_926 ?_
  refine l_ld hv3 d_L_927 ?_
  refine y_aload_n (q := 0) d_L_928 rfl rfl ?_
  refine y_iload_n (q := 3) d_L_929 rfl rfl ?_
  refine y_iconst (v := 4) d_L_930 (by decide) ?_
  refine y_iadd d_L_931 ?_
  refine l_ld hv4 d_L_932 ?_
  refine y_aload_n (q := 0) d_L_933 rfl rfl ?_
  refine y_iload_n (q := 3) d_L_934 rfl rfl ?_
  refine y_iconst (v := 5) d_L_935 (by decide) ?_
  refine y_iadd d_L_936 ?_
  refine l_ld hv5 d_L_937 ?_
  refine y_aload_n (q := 0) d_L_938 rfl rfl ?_
  refine y_iload_n (q := 3) d_L_939 rfl rfl ?_
  refine y_bipush (v := 6) d_L_940 (by decide) ?_
  refine y_iadd d_L_942 ?_
  refine l_ld hv6 d_L_943 ?_
  refine y_aload_n (q := 0) d_L_944 rfl rfl ?_
  refine y_iload_n (q := 3) d_L_945 rfl rfl ?_
  refine y_bipush (v := 7) d_L_946 (by decide) ?_
  refine y_iadd d_L_948 ?_
  refine l_ld hv7 d_L_949 ?_
  refine lc_74 d_L_950 (Nat.le_of_ble_eq_true rfl) rfl rfl (Cz.mono h ?_)
  rintro v σ2 ⟨⟨r2, rfl⟩, h⟩
  show Wx E YL 953 [(0, .ref 1021), (1, .ref 0), (2, .ref 110), (3, .int i)] [.int r2] 215 215 100784 (zx σ2) _
  refine y_popi d_L_953 ?_
  exact y_goto (tgt := 3476) d_L_954 h
theorem L_13 {E : xV} {bS L : Nat} {xs : Nat → Int32} {i : Int32} {σ : zS} (hv1 : vp_in (i + 1) L) (hv2 : vp_in (i + 2) L) (h : Cz E Y_H_thing [.ref 0, .int (xs (i + 1).toNatClampNeg), .int (xs (i + 2).toNatClampNeg)] σ (fun v σ1 => ∃ r : Int32, v = some (.int r) ∧ Cz E Y_M_thing [.ref 110, .int (xs (i + 1).toNatClampNeg), .int (xs (i + 2).toNatClampNeg)] σ1 (fun v' σ2 => (∃ r2 : Int32, v' = some (.int r2)) ∧ Wx E YL 3476 [(0, .ref 1021), (1, .ref 0), (2, .ref 110), (3, .int i)] [] 215 215 100784 (zx σ2) (QL E bS L xs)))) : Wx E YL 957 [(0, .ref 1021), (1, .ref 0), (2, .ref 110), (3, .int i)] [] 215 215 100784 (zx σ) (QL E bS L xs) := by
  refine y_aload_n (q := 1) d_L_957 rfl rfl ?_
  refine y_aload_n (q := 0) d_L_958 rfl rfl ?_
  refine y_iload_n (q := 3) d_L_959 rfl rfl ?_
  refine y_iconst (v := 1) d_L_960 (by decide) ?_
  refine y_iadd d_L_961 ?_
  refine l_ld hv1 d_L_962 ?_
  refine y_aload_n (q := 0) d_L_963 rfl rfl ?_
  refine y_iload_n (q := 3) d_L_964 rfl rfl ?_
  refine y_iconst (v := 2) d_L_965 (by decide) ?_
  refine y_iadd d_L_966 ?_
  refine l_ld hv2 d_L_967 ?_
  refine lc_75 d_L_968 (Nat.le_of_ble_eq_true rfl) rfl rfl (Cz.mono h ?_)
  rintro v σ1 ⟨r, rfl, h⟩
  show Wx E YL 971 [(0, .ref 1021), (1, .ref 0), (2, .ref 110), (3, .int i)] [.int r] 215 215 100784 (zx σ1) _
  refine y_popi d_L_971 ?_
  refine y_aload_n (q := 2) d_L_972 rfl rfl ?_
  refine y_aload_n (q := 0) d_L_973 rfl rfl ?_
  refine y_iload_n (q := 3) d_L_974 rfl rfl ?_
  refine y_iconst (v := 1) d_L_975 (by decide) ?_
  refine y_iadd d_L_976 ?_
  refine l_ld hv1 d_L_977 ?_
  refine y_aload_n (q := 0) d_L_978 rfl rfl ?_
  refine y_iload_n (q := 3) d_L_979 rfl rfl ?_
  refine y_iconst (v := 2) d_L_980 (by decide) ?_
  refine y_iadd d_L_981 ?_
  refine l_ld hv2 d_L_982 ?_
  refine lc_78 d_L_983 (Nat.le_of_ble_eq_true rfl) rfl rfl (Cz.mono h ?_)
  rintro v σ2 ⟨⟨r2, rfl⟩, h⟩
  show Wx E YL 986 [(0, .ref 1021), (1, .ref 0), (2, .ref 110), (3, .int i)] [.int r2] 215 215 100784 (zx σ2) _
  refine y_popi d_L_986 ?_
  exact y_goto (tgt := 3476) d_L_987 h
theorem L_14 {E : xV} {bS L : Nat} {xs : Nat → Int32} {i : Int32} {σ : zS} (hv1 : vp_in (i + 1) L) (hv2 : vp_in (i + 2) L) (h : Cz E Y_H_move [.ref 0, .int (xs (i + 1).toNatClampNeg), .int (xs (i + 2).toNatClampNeg)] σ (fun v σ1 => ∃ r : Int32, v = some (.int r) ∧ Cz E Y_M_move [.ref 110, .int (xs (i + 1).toNatClampNeg), .int (xs (i + 2).toNatClampNeg)] σ1 (fun v' σ2 => (∃ r2 : Int32, v' = some (.int r2)) ∧ Wx E YL 3476 [(0, .ref 1021), (1, .ref 0), (2, .ref 110), (3, .int i)] [] 215 215 100784 (zx σ2) (QL E bS L xs)))) : Wx E YL 990 [(0, .ref 1021), (1, .ref 0), (2, .ref 110), (3, .int i)] [] 215 215 100784 (zx σ) (QL E bS L xs) := by
  refine y_aload_n (q := 1) d_L_990 rfl rfl ?_
  refine y_aload_n (q := 0) d_L_991 rfl rfl ?_
  refine y_iload_n (q := 3) d_L_992 rfl rfl ?_
  refine y_iconst (v := 1) d_L_993 (by decide) ?_
  refine y_iadd d_L_994 ?_
  refine l_ld hv1 d_L_995 ?_
  refine y_aload_n (q := 0) d_L_996 rfl rfl ?_
  refine y_iload_n (q := 3) d_L_997 rfl rfl ?_
  refine y_iconst (v := 2) d_L_998 (by decide) ?_
  refine y_iadd d_L_999 ?_
  refine l_ld hv2 d_L_1000 ?_
  refine lc_79 d_L_1001 (Nat.le_of_ble_eq_true rfl) rfl rfl (Cz.mono h ?_)
  rintro v σ1 ⟨r, rfl, h⟩
  show Wx E YL 1004 [(0, .ref 1021), (1, .ref 0), (2, .ref 110), (3, .int i)] [.int r] 215 215 100784 (zx σ1) _
  refine y_popi d_L_1004 ?_
  refine y_aload_n (q := 2) d_L_1005 rfl rfl ?_
  refine y_aload_n (q := 0) d_L_1006 rfl rfl ?_
  refine y_iload_n (q := 3) d_L_1007 rfl rfl ?_
  refine y_iconst (v := 1) d_L_1008 (by decide) ?_
  refine y_iadd d_L_1009 ?_
  refine l_ld hv1 d_L_1010 ?_
  refine y_aload_n (q := 0) d_L_1011 rfl rfl ?_
  refine y_iload_n (q := 3) d_L_1012 rfl rfl ?_
  refine y_iconst (v := 2) d_L_1013 (by decide) ?_
  refine y_iadd d_L_1014 ?_
  refine l_ld hv2 d_L_1015 ?_
  refine lc_82 d_L_1016 (Nat.le_of_ble_eq_true rfl) rfl rfl (Cz.mono h ?_)
  rintro v σ2 ⟨⟨r2, rfl⟩, h⟩
  show Wx E YL 1019 [(0, .ref 1021), (1, .ref 0), (2, .ref 110), (3, .int i)] [.int r2] 215 215 100784 (zx σ2) _
  refine y_popi d_L_1019 ?_
  exact y_goto (tgt := 3476) d_L_1020 h
theorem L_15 {E : xV} {bS L : Nat} {xs : Nat → Int32} {i : Int32} {σ : zS} (hv1 : vp_in (i + 1) L) (hv2 : vp_in (i + 2) L) (h : Cz E Y_H_cutOff [.ref 0, .int (xs (i + 1).toNatClampNeg), .int (if (xs (i + 2).toNatClampNeg) = 0 then (0 : Int32) else 1)] σ (fun v σ1 => ∃ r : Int32, v = some (.int r) ∧ Cz E Y_M_cutOff [.ref 110, .int (xs (i + 1).toNatClampNeg), .int (if (xs (i + 2).toNatClampNeg) = 0 then (0 : Int32) else 1)] σ1 (fun v' σ2 => (∃ r2 : Int32, v' = some (.int r2)) ∧ Wx E YL 3476 [(0, .ref 1021), (1, .ref 0), (2, .ref 110), (3, .int i)] [] 215 215 100784 (zx σ2) (QL E bS L xs)))) : Wx E YL 1023 [(0, .ref 1021), (1, .ref 0), (2, .ref 110), (3, .int i)] [] 215 215 100784 (zx σ) (QL E bS L xs) := by
  refine y_aload_n (q := 1) d_L_1023 rfl rfl ?_
  refine y_aload_n (q := 0) d_L_1024 rfl rfl ?_
  refine y_iload_n (q := 3) d_L_1025 rfl rfl ?_
  refine y_iconst (v := 1) d_L_1026 (by decide) ?_
  refine y_iadd d_L_1027 ?_
  refine l_ld hv1 d_L_1028 ?_
  refine y_aload_n (q := 0) d_L_1029 rfl rfl ?_
  refine y_iload_n (q := 3) d_L_1030 rfl rfl ?_
  refine y_iconst (v := 2) d_L_1031 (by decide) ?_
  refine y_iadd d_L_1032 ?_
  refine l_ld hv2 d_L_1033 ?_
  refine y_if_eq (tgt := 1041) d_L_1034 (fun c1 => ?_) (fun c1 => ?_)
  · refine y_iconst (v := 0) d_L_1041 (by decide) ?_
    refine y_topi (v := (if (xs (i + 2).toNatClampNeg) = 0 then (0 : Int32) else 1)) (if_pos c1).symm ?_
    refine lc_83 d_L_1042 (Nat.le_of_ble_eq_true rfl) rfl rfl (Cz.mono h ?_)
    rintro v σ1 ⟨r, rfl, h⟩
    show Wx E YL 1045 [(0, .ref 1021), (1, .ref 0), (2, .ref 110), (3, .int i)] [.int r] 215 215 100784 (zx σ1) _
    refine y_popi d_L_1045 ?_
    refine y_aload_n (q := 2) d_L_1046 rfl rfl ?_
    refine y_aload_n (q := 0) d_L_1047 rfl rfl ?_
    refine y_iload_n (q := 3) d_L_1048 rfl rfl ?_
    refine y_iconst (v := 1) d_L_1049 (by decide) ?_
    refine y_iadd d_L_1050 ?_
    refine l_ld hv1 d_L_1051 ?_
    refine y_aload_n (q := 0) d_L_1052 rfl rfl ?_
    refine y_iload_n (q := 3) d_L_1053 rfl rfl ?_
    refine y_iconst (v := 2) d_L_1054 (by decide) ?_
    refine y_iadd d_L_1055 ?_
    refine l_ld hv2 d_L_1056 ?_
    refine y_if_eq (tgt := 1064) d_L_1057 (fun c2 => ?_) (fun c2 => ?_)
    · refine y_iconst (v := 0) d_L_1064 (by decide) ?_
      refine y_topi (v := (if (xs (i + 2).toNatClampNeg) = 0 then (0 : Int32) else 1)) (if_pos c2).symm ?_
      refine lc_87 d_L_1065 (Nat.le_of_ble_eq_true rfl) rfl rfl (Cz.mono h ?_)
      rintro v σ2 ⟨⟨r2, rfl⟩, h⟩
      show Wx E YL 1068 [(0, .ref 1021), (1, .ref 0), (2, .ref 110), (3, .int i)] [.int r2] 215 215 100784 (zx σ2) _
      refine y_popi d_L_1068 ?_
      exact y_goto (tgt := 3476) d_L_1069 h
    · refine y_iconst (v := 1) d_L_1060 (by decide) ?_
      refine y_goto (tgt := 1065) d_L_1061 ?_
      refine y_topi (v := (if (xs (i + 2).toNatClampNeg) = 0 then (0 : Int32) else 1)) (if_neg c2).symm ?_
      refine lc_87 d_L_1065 (Nat.le_of_ble_eq_true rfl) rfl rfl (Cz.mono h ?_)
      rintro v σ2 ⟨⟨r2, rfl⟩, h⟩
      show Wx E YL 1068 [(0, .ref 1021), (1, .ref 0), (2, .ref 110), (3, .int i)] [.int r2] 215 215 100784 (zx σ2) _
      refine y_popi d_L_1068 ?_
      exact y_goto (tgt := 3476) d_L_1069 h
  · refine y_iconst (v := 1) d_L_1037 (by decide) ?_
    refine y_goto (tgt := 1042) d_L_1038 ?_
    refine y_topi (v := (if (xs (i + 2).toNatClampNeg) = 0 then (0 : Int32) else 1)) (if_neg c1).symm ?_
    refine lc_83 d_L_1042 (Nat.le_of_ble_eq_true rfl) rfl rfl (Cz.mono h ?_)
    rintro v σ1 ⟨r, rfl, h⟩
    show Wx E YL 1045 [(0, .ref 1021), (1, .ref 0), (2, .ref 110), (3, .int i)] [.int r] 215 215 100784 (zx σ1) _
    refine y_popi d_L_1045 ?_
    refine y_aload_n (q := 2) d_L_1046 rfl rfl ?_
    refine y_aload_n (q := 0) d_L_1047 rfl rfl ?_
    refine y_iload_n (q := 3) d_L_1048 rfl rfl ?_
    refine y_iconst (v := 1) d_L_1049 (by decide) ?_
    refine y_iadd d_L_1050 ?_
    refine l_ld hv1 d_L_1051 ?_
    refine y_aload_n (q := 0) d_L_1052 rfl rfl ?_
    refine y_iload_n (q := 3) d_L_1053 rfl rfl ?_
    refine y_iconst (v := 2) d_L_1054 (by decide) ?_
    refine y_iadd d_L_1055 ?_
    refine l_ld hv2 d_L_1056 ?_
    refine y_if_eq (tgt := 1064) d_L_1057 (fun c3 => ?_) (fun c3 => ?_)
    · refine y_iconst (v := 0) d_L_1064 (by decide) ?_
      refine y_topi (v := (if (xs (i + 2).toNatClampNeg) = 0 then (0 : Int32) else 1)) (if_pos c3).symm ?_
      refine lc_87 d_L_1065 (Nat.le_of_ble_eq_true rfl) rfl rfl (Cz.mono h ?_)
      rintro v σ2 ⟨⟨r2, rfl⟩, h⟩
      show Wx E YL 1068 [(0, .ref 1021), (1, .ref 0), (2, .ref 110), (3, .int i)] [.int r2] 215 215 100784 (zx σ2) _
      refine y_popi d_L_1068 ?_
      exact y_goto (tgt := 3476) d_L_1069 h
    · refine y_iconst (v := 1) d_L_1060 (by decide) ?_
      refine y_goto (tgt := 1065) d_L_1061 ?_
      refine y_topi (v := (if (xs (i + 2).toNatClampNeg) = 0 then (0 : Int32) else 1)) (if_neg c3).symm ?_
      refine lc_87 d_L_1065 (Nat.le_of_ble_eq_true rfl) rfl rfl (Cz.mono h ?_)
      rintro v σ2 ⟨⟨r2, rfl⟩, h⟩
      show Wx E YL 1068 [(0, .ref 1021), (1, .ref 0), (2, .ref 110), (3, .int i)] [.int r2] 215 215 100784 (zx σ2) _
      refine y_popi d_L_1068 ?_
      exact y_goto (tgt := 3476) d_L_1069 h
theorem L_16 {E : xV} {bS L : Nat} {xs : Nat → Int32} {i : Int32} {σ : zS} (hv1 : vp_in (i + 1) L) (h : Cz E Y_H_drop [.ref 0, .int (xs (i + 1).toNatClampNeg)] σ (fun v σ1 => ∃ r : Int32, v = some (.int r) ∧ Cz E Y_M_drop [.ref 110, .int (xs (i + 1).toNatClampNeg)] σ1 (fun v' σ2 => (∃ r2 : Int32, v' = some (.int r2)) ∧ Wx E YL 3476 [(0, .ref 1021), (1, .ref 0), (2, .ref 110), (3, .int i)] [] 215 215 100784 (zx σ2) (QL E bS L xs)))) : Wx E YL 1072 [(0, .ref 1021), (1, .ref 0), (2, .ref 110), (3, .int i)] [] 215 215 100784 (zx σ) (QL E bS L xs) := by
  refine y_aload_n (q := 1) d_L_1072 rfl rfl ?_
  refine y_aload_n (q := 0) d_L_1073 rfl rfl ?_
  refine y_iload_n (q := 3) d_L_1074 rfl rfl ?_
  refine y_iconst (v := 1) d_L_1075 (by decide) ?_
  refine y_iadd d_L_1076 ?_
  refine l_ld hv1 d_L_1077 ?_
  refine lc_88 d_L_1078 (Nat.le_of_ble_eq_true rfl) rfl rfl (Cz.mono h ?_)
  rintro v σ1 ⟨r, rfl, h⟩
  show Wx E YL 1081 [(0, .ref 1021), (1, .ref 0), (2, .ref 110), (3, .int i)] [.int r] 215 215 100784 (zx σ1) _
  refine y_popi d_L_1081 ?_
  refine y_aload_n (q := 2) d_L_1082 rfl rfl ?_
  refine y_aload_n (q := 0) d_L_1083 rfl rfl ?_
  refine y_iload_n (q := 3) d_L_1084 rfl rfl ?_
  refine y_iconst (v := 1) d_L_1085 (by decide) ?_
  refine y_iadd d_L_1086 ?_
  refine l_ld hv1 d_L_1087 ?_
  refine lc_91 d_L_1088 (Nat.le_of_ble_eq_true rfl) rfl rfl (Cz.mono h ?_)
  rintro v σ2 ⟨⟨r2, rfl⟩, h⟩
  show Wx E YL 1091 [(0, .ref 1021), (1, .ref 0), (2, .ref 110), (3, .int i)] [.int r2] 215 215 100784 (zx σ2) _
  refine y_popi d_L_1091 ?_
  exact y_goto (tgt := 3476) d_L_1092 h
theorem L_17 {E : xV} {bS L : Nat} {xs : Nat → Int32} {i : Int32} {σ : zS} (hv1 : vp_in (i + 1) L) (hv2 : vp_in (i + 2) L) (h : Cz E Y_H_thingOf [.ref 0, .int (xs (i + 1).toNatClampNeg), .int (xs (i + 2).toNatClampNeg)] σ (fun v σ1 => ∃ r : Int32, v = some (.int r) ∧ Cz E Y_M_thingOf [.ref 110, .int (xs (i + 1).toNatClampNeg), .int (xs (i + 2).toNatClampNeg)] σ1 (fun v' σ2 => (∃ r2 : Int32, v' = some (.int r2)) ∧ Wx E YL 3476 [(0, .ref 1021), (1, .ref 0), (2, .ref 110), (3, .int i)] [] 215 215 100784 (zx σ2) (QL E bS L xs)))) : Wx E YL 1095 [(0, .ref 1021), (1, .ref 0), (2, .ref 110), (3, .int i)] [] 215 215 100784 (zx σ) (QL E bS L xs) := by
  refine y_aload_n (q := 1) d_L_1095 rfl rfl ?_
  refine y_aload_n (q := 0) d_L_1096 rfl rfl ?_
  refine y_iload_n (q := 3) d_L_1097 rfl rfl ?_
  refine y_iconst (v := 1) d_L_1098 (by decide) ?_
  refine y_iadd d_L_1099 ?_
  refine l_ld hv1 d_L_1100 ?_
  refine y_aload_n (q := 0) d_L_1101 rfl rfl ?_
  refine y_iload_n (q := 3) d_L_1102 rfl rfl ?_
  refine y_iconst (v := 2) d_L_1103 (by decide) ?_
  refine y_iadd d_L_1104 ?_
  refine l_ld hv2 d_L_1105 ?_
  refine lc_92 d_L_1106 (Nat.le_of_ble_eq_true rfl) rfl rfl (Cz.mono h ?_)
  rintro v σ1 ⟨r, rfl, h⟩
  show Wx E YL 1109 [(0, .ref 1021), (1, .ref 0), (2, .ref 110), (3, .int i)] [.int r] 215 215 100784 (zx σ1) _
  refine y_popi d_L_1109 ?_
  refine y_aload_n (q := 2) d_L_1110 rfl rfl ?_
  refine y_aload_n (q := 0) d_L_1111 rfl rfl ?_
  refine y_iload_n (q := 3) d_L_1112 rfl rfl ?_
  refine y_iconst (v := 1) d_L_1113 (by decide) ?_
  refine y_iadd d_L_1114 ?_
  refine l_ld hv1 d_L_1115 ?_
  refine y_aload_n (q := 0) d_L_1116 rfl rfl ?_
  refine y_iload_n (q := 3) d_L_1117 rfl rfl ?_
  refine y_iconst (v := 2) d_L_1118 (by decide) ?_
  refine y_iadd d_L_1119 ?_
  refine l_ld hv2 d_L_1120 ?_
  refine lc_95 d_L_1121 (Nat.le_of_ble_eq_true rfl) rfl rfl (Cz.mono h ?_)
  rintro v σ2 ⟨⟨r2, rfl⟩, h⟩
  show Wx E YL 1124 [(0, .ref 1021), (1, .ref 0), (2, .ref 110), (3, .int i)] [.int r2] 215 215 100784 (zx σ2) _
  refine y_popi d_L_1124 ?_
  exact y_goto (tgt := 3476) d_L_1125 h
theorem L_18 {E : xV} {bS L : Nat} {xs : Nat → Int32} {i : Int32} {σ : zS} (hv1 : vp_in (i + 1) L) (hv2 : vp_in (i + 2) L) (h : Cz E Y_H_under [.ref 0, .int (xs (i + 1).toNatClampNeg), .int (xs (i + 2).toNatClampNeg)] σ (fun v σ1 => ∃ r : Int32, v = some (.int r) ∧ Cz E Y_M_under [.ref 110, .int (xs (i + 1).toNatClampNeg), .int (xs (i + 2).toNatClampNeg)] σ1 (fun v' σ2 => (∃ r2 : Int32, v' = some (.int r2)) ∧ Wx E YL 3476 [(0, .ref 1021), (1, .ref 0), (2, .ref 110), (3, .int i)] [] 215 215 100784 (zx σ2) (QL E bS L xs)))) : Wx E YL 1128 [(0, .ref 1021), (1, .ref 0), (2, .ref 110), (3, .int i)] [] 215 215 100784 (zx σ) (QL E bS L xs) := by
  refine y_aload_n (q := 1) d_L_1128 rfl rfl ?_
  refine y_aload_n (q := 0) d_L_1129 rfl rfl ?_
  refine y_iload_n (q := 3) d_L_1130 rfl rfl ?_
  refine y_iconst (v := 1) d_L_1131 (by decide) ?_
  refine y_iadd d_L_1132 ?_
  refine l_ld hv1 d_L_1133 ?_
  refine y_aload_n (q := 0) d_L_1134 rfl rfl ?_
  refine y_iload_n (q := 3) d_L_1135 rfl rfl ?_
  refine y_iconst (v := 2) d_L_1136 (by decide) ?_
  refine y_iadd d_L_1137 ?_
  refine l_ld hv2 d_L_1138 ?_
  refine lc_96 d_L_1139 (Nat.le_of_ble_eq_true rfl) rfl rfl (Cz.mono h ?_)
  rintro v σ1 ⟨r, rfl, h⟩
  show Wx E YL 1142 [(0, .ref 1021), (1, .ref 0), (2, .ref 110), (3, .int i)] [.int r] 215 215 100784 (zx σ1) _
  refine y_popi d_L_1142 ?_
  refine y_aload_n (q := 2) d_L_1143 rfl rfl ?_
  refine y_aload_n (q := 0) d_L_1144 rfl rfl ?_
  refine y_iload_n (q := 3) d_L_1145 rfl rfl ?_
  refine y_iconst (v := 1) d_L_1146 (by decide) ?_
  refine y_iadd d_L_1147 ?_
  refine l_ld hv1 d_L_1148 ?_
  refine y_aload_n (q := 0) d_L_1149 rfl rfl ?_
  refine y_iload_n (q := 3) d_L_1150 rfl rfl ?_
  refine y_iconst (v := 2) d_L_1151 (by decide) ?_
  refine y_iadd d_L_1152 ?_
  refine l_ld hv2 d_L_1153 ?_
  refine lc_99 d_L_1154 (Nat.le_of_ble_eq_true rfl) rfl rfl (Cz.mono h ?_)
  rintro v σ2 ⟨⟨r2, rfl⟩, h⟩
  show Wx E YL 1157 [(0, .ref 1021), (1, .ref 0), (2, .ref 110), (3, .int i)] [.int r2] 215 215 100784 (zx σ2) _
  refine y_popi d_L_1157 ?_
  exact y_goto (tgt := 3476) d_L_1158 h
theorem L_19 {E : xV} {bS L : Nat} {xs : Nat → Int32} {i : Int32} {σ : zS} (hv1 : vp_in (i + 1) L) (hv2 : vp_in (i + 2) L) (hv3 : vp_in (i + 3) L) (h : Cz E Y_H_holds [.ref 0, .int (xs (i + 1).toNatClampNeg), .int (xs (i + 2).toNatClampNeg), .int (if (xs (i + 3).toNatClampNeg) = 0 then (0 : Int32) else 1)] σ (fun v σ1 => ∃ r : Int32, v = some (.int r) ∧ Cz E Y_M_holds [.ref 110, .int (xs (i + 1).toNatClampNeg), .int (xs (i + 2).toNatClampNeg), .int (if (xs (i + 3).toNatClampNeg) = 0 then (0 : Int32) else 1)] σ1 (fun v' σ2 => (∃ r2 : Int32, v' = some (.int r2)) ∧ Wx E YL 3476 [(0, .ref 1021), (1, .ref 0), (2, .ref 110), (3, .int i)] [] 215 215 100784 (zx σ2) (QL E bS L xs)))) : Wx E YL 1161 [(0, .ref 1021), (1, .ref 0), (2, .ref 110), (3, .int i)] [] 215 215 100784 (zx σ) (QL E bS L xs) := by
  refine y_aload_n (q := 1) d_L_1161 rfl rfl ?_
  refine y_aload_n (q := 0) d_L_1162 rfl rfl ?_
  refine y_iload_n (q := 3) d_L_1163 rfl rfl ?_
  refine y_iconst (v := 1) d_L_1164 (by decide) ?_
  refine y_iadd d_L_1165 ?_
  refine l_ld hv1 d_L_1166 ?_
  refine y_aload_n (q := 0) d_L_1167 rfl rfl ?_
  refine y_iload_n (q := 3) d_L_1168 rfl rfl ?_
  refine y_iconst (v := 2) d_L_1169 (by decide) ?_
  refine y_iadd d_L_1170 ?_
  refine l_ld hv2 d_L_1171 ?_
  refine y_aload_n (q := 0) d_L_1172 rfl rfl ?_
  refine y_iload_n (q := 3) d_L_1173 rfl rfl ?_
  refine y_iconst (v := 3) d_L_1174 (by decide) ?_
  refine y_iadd d_L_1175 ?_
  refine l_ld hv3 d_L_1176 ?_
  refine y_if_eq (tgt := 1184) d_L_1177 (fun c1 => ?_) (fun c1 => ?_)
  · refine y_iconst (v := 0) d_L_1184 (by decide) ?_
    refine y_topi (v := (if (xs (i + 3).toNatClampNeg) = 0 then (0 : Int32) else 1)) (if_pos c1).symm ?_
    refine lc_100 d_L_1185 (Nat.le_of_ble_eq_true rfl) rfl rfl (Cz.mono h ?_)
    rintro v σ1 ⟨r, rfl, h⟩
    show Wx E YL 1188 [(0, .ref 1021), (1, .ref 0), (2, .ref 110), (3, .int i)] [.int r] 215 215 100784 (zx σ1) _
    refine y_popi d_L_1188 ?_
    refine y_aload_n (q := 2) d_L_1189 rfl rfl ?_
    refine y_aload_n (q := 0) d_L_1190 rfl rfl ?_
    refine y_iload_n (q := 3) d_L_1191 rfl rfl ?_
    refine y_iconst (v := 1) d_L_1192 (by decide) ?_
    refine y_iadd d_L_1193 ?_
    refine l_ld hv1 d_L_1194 ?_
    refine y_aload_n (q := 0) d_L_1195 rfl rfl ?_
    refine y_iload_n (q := 3) d_L_1196 rfl rfl ?_
    refine y_iconst (v := 2) d_L_1197 (by decide) ?_
    refine y_iadd d_L_1198 ?_
    refine l_ld hv2 d_L_1199 ?_
    refine y_aload_n (q := 0) d_L_1200 rfl rfl ?_
    refine y_iload_n (q := 3) d_L_1201 rfl rfl ?_
    refine y_iconst (v := 3) d_L_1202 (by decide) ?_
    refine y_iadd d_L_1203 ?_
    refine l_ld hv3 d_L_1204 ?_
    refine y_if_eq (tgt := 1212) d_L_1205 (fun c2 => ?_) (fun c2 => ?_)
    · refine y_iconst (v := 0) d_L_1212 (by decide) ?_
      refine y_topi (v := (if (xs (i + 3).toNatClampNeg) = 0 then (0 : Int32) else 1)) (if_pos c2).symm ?_
      refine lc_104 d_L_1213 (Nat.le_of_ble_eq_true rfl) rfl rfl (Cz.mono h ?_)
      rintro v σ2 ⟨⟨r2, rfl⟩, h⟩
      show Wx E YL 1216 [(0, .ref 1021), (1, .ref 0), (2, .ref 110), (3, .int i)] [.int r2] 215 215 100784 (zx σ2) _
      refine y_popi d_L_1216 ?_
      exact y_goto (tgt := 3476) d_L_1217 h
    · refine y_iconst (v := 1) d_L_1208 (by decide) ?_
      refine y_goto (tgt := 1213) d_L_1209 ?_
      refine y_topi (v := (if (xs (i + 3).toNatClampNeg) = 0 then (0 : Int32) else 1)) (if_neg c2).symm ?_
      refine lc_104 d_L_1213 (Nat.le_of_ble_eq_true rfl) rfl rfl (Cz.mono h ?_)
      rintro v σ2 ⟨⟨r2, rfl⟩, h⟩
      show Wx E YL 1216 [(0, .ref 1021), (1, .ref 0), (2, .ref 110), (3, .int i)] [.int r2] 215 215 100784 (zx σ2) _
      refine y_popi d_L_1216 ?_
      exact y_goto (tgt := 3476) d_L_1217 h
  · refine y_iconst (v := 1) d_L_1180 (by decide) ?_
    refine y_goto (tgt := 1185) d_L_1181 ?_
    refine y_topi (v := (if (xs (i + 3).toNatClampNeg) = 0 then (0 : Int32) else 1)) (if_neg c1).symm ?_
    refine lc_100 d_L_1185 (Nat.le_of_ble_eq_true rfl) rfl rfl (Cz.mono h ?_)
    rintro v σ1 ⟨r, rfl, h⟩
    show Wx E YL 1188 [(0, .ref 1021), (1, .ref 0), (2, .ref 110), (3, .int i)] [.int r] 215 215 100784 (zx σ1) _
    refine y_popi d_L_1188 ?_
    refine y_aload_n (q := 2) d_L_1189 rfl rfl ?_
    refine y_aload_n (q := 0) d_L_1190 rfl rfl ?_
    refine y_iload_n (q := 3) d_L_1191 rfl rfl ?_
    refine y_iconst (v := 1) d_L_1192 (by decide) ?_
    refine y_iadd d_L_1193 ?_
    refine l_ld hv1 d_L_1194 ?_
    refine y_aload_n (q := 0) d_L_1195 rfl rfl ?_
    refine y_iload_n (q := 3) d_L_1196 rfl rfl ?_
    refine y_iconst (v := 2) d_L_1197 (by decide) ?_
    refine y_iadd d_L_1198 ?_
    refine l_ld hv2 d_L_1199 ?_
    refine y_aload_n (q := 0) d_L_1200 rfl rfl ?_
    refine y_iload_n (q := 3) d_L_1201 rfl rfl ?_
    refine y_iconst (v := 3) d_L_1202 (by decide) ?_
    refine y_iadd d_L_1203 ?_
    refine l_ld hv3 d_L_1204 ?_
    refine y_if_eq (tgt := 1212) d_L_1205 (fun c3 => ?_) (fun c3 => ?_)
    · refine y_iconst (v := 0) d_L_1212 (by decide) ?_
      refine y_topi (v := (if (xs (i + 3).toNatClampNeg) = 0 then (0 : Int32) else 1)) (if_pos c3).symm ?_
      refine lc_104 d_L_1213 (Nat.le_of_ble_eq_true rfl) rfl rfl (Cz.mono h ?_)
      rintro v σ2 ⟨⟨r2, rfl⟩, h⟩
      show Wx E YL 1216 [(0, .ref 1021), (1, .ref 0), (2, .ref 110), (3, .int i)] [.int r2] 215 215 100784 (zx σ2) _
      refine y_popi d_L_1216 ?_
      exact y_goto (tgt := 3476) d_L_1217 h
    · refine y_iconst (v := 1) d_L_1208 (by decide) ?_
      refine y_goto (tgt := 1213) d_L_1209 ?_
      refine y_topi (v := (if (xs (i + 3).toNatClampNeg) = 0 then (0 : Int32) else 1)) (if_neg c3).symm ?_
      refine lc_104 d_L_1213 (Nat.le_of_ble_eq_true rfl) rfl rfl (Cz.mono h ?_)
      rintro v σ2 ⟨⟨r2, rfl⟩, h⟩
      show Wx E YL 1216 [(0, .ref 1021), (1, .ref 0), (2, .ref 110), (3, .int i)] [.int r2] 215 215 100784 (zx σ2) _
      refine y_popi d_L_1216 ?_
      exact y_goto (tgt := 3476) d_L_1217 h
theorem L_20 {E : xV} {bS L : Nat} {xs : Nat → Int32} {i : Int32} {σ : zS} (hv1 : vp_in (i + 1) L) (hv2 : vp_in (i + 2) L) (h : Cz E Y_H_doesHold [.ref 0, .int (xs (i + 1).toNatClampNeg), .int (xs (i + 2).toNatClampNeg)] σ (fun v σ1 => ∃ r : Int32, v = some (.int r) ∧ Cz E Y_M_doesHold [.ref 110, .int (xs (i + 1).toNatClampNeg), .int (xs (i + 2).toNatClampNeg)] σ1 (fun v' σ2 => (∃ r2 : Int32, v' = some (.int r2)) ∧ Wx E YL 3476 [(0, .ref 1021), (1, .ref 0), (2, .ref 110), (3, .int i)] [] 215 215 100784 (zx σ2) (QL E bS L xs)))) : Wx E YL 1220 [(0, .ref 1021), (1, .ref 0), (2, .ref 110), (3, .int i)] [] 215 215 100784 (zx σ) (QL E bS L xs) := by
  refine y_aload_n (q := 1) d_L_1220 rfl rfl ?_
  refine y_aload_n (q := 0) d_L_1221 rfl rfl ?_
  refine y_iload_n (q := 3) d_L_1222 rfl rfl ?_
  refine y_iconst (v := 1) d_L_1223 (by decide) ?_
  refine y_iadd d_L_1224 ?_
  refine l_ld hv1 d_L_1225 ?_
  refine y_aload_n (q := 0) d_L_1226 rfl rfl ?_
  refine y_iload_n (q := 3) d_L_1227 rfl rfl ?_
  refine y_iconst (v := 2) d_L_1228 (by decide) ?_
  refine y_iadd d_L_1229 ?_
  refine l_ld hv2 d_L_1230 ?_
  refine lc_105 d_L_1231 (Nat.le_of_ble_eq_true rfl) rfl rfl (Cz.mono h ?_)
  rintro v σ1 ⟨r, rfl, h⟩
  show Wx E YL 1234 [(0, .ref 1021), (1, .ref 0), (2, .ref 110), (3, .int i)] [.int r] 215 215 100784 (zx σ1) _
  refine y_popi d_L_1234 ?_
  refine y_aload_n (q := 2) d_L_1235 rfl rfl ?_
  refine y_aload_n (q := 0) d_L_1236 rfl rfl ?_
  refine y_iload_n (q := 3) d_L_1237 rfl rfl ?_
  refine y_iconst (v := 1) d_L_1238 (by decide) ?_
  refine y_iadd d_L_1239 ?_
  refine l_ld hv1 d_L_1240 ?_
  refine y_aload_n (q := 0) d_L_1241 rfl rfl ?_
  refine y_iload_n (q := 3) d_L_1242 rfl rfl ?_
  refine y_iconst (v := 2) d_L_1243 (by decide) ?_
  refine y_iadd d_L_1244 ?_
  refine l_ld hv2 d_L_1245 ?_
  refine lc_108 d_L_1246 (Nat.le_of_ble_eq_true rfl) rfl rfl (Cz.mono h ?_)
  rintro v σ2 ⟨⟨r2, rfl⟩, h⟩
  show Wx E YL 1249 [(0, .ref 1021), (1, .ref 0), (2, .ref 110), (3, .int i)] [.int r2] 215 215 100784 (zx σ2) _
  refine y_popi d_L_1249 ?_
  exact y_goto (tgt := 3476) d_L_1250 h
theorem L_21 {E : xV} {bS L : Nat} {xs : Nat → Int32} {i : Int32} {σ : zS} (hv1 : vp_in (i + 1) L) (h : Cz E Y_H_policy [.ref 0, .int (xs (i + 1).toNatClampNeg)] σ (fun v σ1 => ∃ r : Int32, v = some (.int r) ∧ Cz E Y_M_policy [.ref 110, .int (xs (i + 1).toNatClampNeg)] σ1 (fun v' σ2 => (∃ r2 : Int32, v' = some (.int r2)) ∧ Wx E YL 3476 [(0, .ref 1021), (1, .ref 0), (2, .ref 110), (3, .int i)] [] 215 215 100784 (zx σ2) (QL E bS L xs)))) : Wx E YL 1253 [(0, .ref 1021), (1, .ref 0), (2, .ref 110), (3, .int i)] [] 215 215 100784 (zx σ) (QL E bS L xs) := by
  refine y_aload_n (q := 1) d_L_1253 rfl rfl ?_
  refine y_aload_n (q := 0) d_L_1254 rfl rfl ?_
  refine y_iload_n (q := 3) d_L_1255 rfl rfl ?_
  refine y_iconst (v := 1) d_L_1256 (by decide) ?_
  refine y_iadd d_L_1257 ?_
  refine l_ld hv1 d_L_1258 ?_
  refine lc_109 d_L_1259 (Nat.le_of_ble_eq_true rfl) rfl rfl (Cz.mono h ?_)
  rintro v σ1 ⟨r, rfl, h⟩
  show Wx E YL 1262 [(0, .ref 1021), (1, .ref 0), (2, .ref 110), (3, .int i)] [.int r] 215 215 100784 (zx σ1) _
  refine y_popi d_L_1262 ?_
  refine y_aload_n (q := 2) d_L_1263 rfl rfl ?_
  refine y_aload_n (q := 0) d_L_1264 rfl rfl ?_
  refine y_iload_n (q := 3) d_L_1265 rfl rfl ?_
  refine y_iconst (v := 1) d_L_1266 (by decide) ?_
  refine y_iadd d_L_1267 ?_
  refine l_ld hv1 d_L_1268 ?_
  refine lc_112 d_L_1269 (Nat.le_of_ble_eq_true rfl) rfl rfl (Cz.mono h ?_)
  rintro v σ2 ⟨⟨r2, rfl⟩, h⟩
  show Wx E YL 1272 [(0, .ref 1021), (1, .ref 0), (2, .ref 110), (3, .int i)] [.int r2] 215 215 100784 (zx σ2) _
  refine y_popi d_L_1272 ?_
  exact y_goto (tgt := 3476) d_L_1273 h
theorem L_22 {E : xV} {bS L : Nat} {xs : Nat → Int32} {i : Int32} {σ : zS} (hv1 : vp_in (i + 1) L) (h : Cz E Y_H_rules [.ref 0, .int (xs (i + 1).toNatClampNeg)] σ (fun v σ1 => ∃ r : Int32, v = some (.int r) ∧ Cz E Y_M_rules [.ref 110, .int (xs (i + 1).toNatClampNeg)] σ1 (fun v' σ2 => (∃ r2 : Int32, v' = some (.int r2)) ∧ Wx E YL 3476 [(0, .ref 1021), (1, .ref 0), (2, .ref 110), (3, .int i)] [] 215 215 100784 (zx σ2) (QL E bS L xs)))) : Wx E YL 1276 [(0, .ref 1021), (1, .ref 0), (2, .ref 110), (3, .int i)] [] 215 215 100784 (zx σ) (QL E bS L xs) := by
  refine y_aload_n (q := 1) d_L_1276 rfl rfl ?_
  refine y_aload_n (q := 0) d_L_1277 rfl rfl ?_
  refine y_iload_n (q := 3) d_L_1278 rfl rfl ?_
  refine y_iconst (v := 1) d_L_1279 (by decide) ?_
  refine y_iadd d_L_1280 ?_
  refine l_ld hv1 d_L_1281 ?_
  refine lc_113 d_L_1282 (Nat.le_of_ble_eq_true rfl) rfl rfl (Cz.mono h ?_)
  rintro v σ1 ⟨r, rfl, h⟩
  show Wx E YL 1285 [(0, .ref 1021), (1, .ref 0), (2, .ref 110), (3, .int i)] [.int r] 215 215 100784 (zx σ1) _
  refine y_popi d_L_1285 ?_
  refine y_aload_n (q := 2) d_L_1286 rfl rfl ?_
  refine y_aload_n (q := 0) d_L_1287 rfl rfl ?_
  refine y_iload_n (q := 3) d_L_1288 rfl rfl ?_
  refine y_iconst (v := 1) d_L_1289 (by decide) ?_
  refine y_iadd d_L_1290 ?_
  refine l_ld hv1 d_L_1291 ?_
  refine lc_116 d_L_1292 (Nat.le_of_ble_eq_true rfl) rfl rfl (Cz.mono h ?_)
  rintro v σ2 ⟨⟨r2, rfl⟩, h⟩
  show Wx E YL 1295 [(0, .ref 1021), (1, .ref 0), (2, .ref 110), (3, .int i)] [.int r2] 215 215 100784 (zx σ2) _
  refine y_popi d_L_1295 ?_
  exact y_goto (tgt := 3476) d_L_1296 h
theorem L_23 {E : xV} {bS L : Nat} {xs : Nat → Int32} {i : Int32} {σ : zS} (hv1 : vp_in (i + 1) L) (h : Cz E Y_H_inForce [.ref 0, .int (xs (i + 1).toNatClampNeg)] σ (fun v σ1 => ∃ r : Int32, v = some (.int r) ∧ Cz E Y_M_inForce [.ref 110, .int (xs (i + 1).toNatClampNeg)] σ1 (fun v' σ2 => (∃ r2 : Int32, v' = some (.int r2)) ∧ Wx E YL 3476 [(0, .ref 1021), (1, .ref 0), (2, .ref 110), (3, .int i)] [] 215 215 100784 (zx σ2) (QL E bS L xs)))) : Wx E YL 1299 [(0, .ref 1021), (1, .ref 0), (2, .ref 110), (3, .int i)] [] 215 215 100784 (zx σ) (QL E bS L xs) := by
  refine y_aload_n (q := 1) d_L_1299 rfl rfl ?_
  refine y_aload_n (q := 0) d_L_1300 rfl rfl ?_
  refine y_iload_n (q := 3) d_L_1301 rfl rfl ?_
  refine y_iconst (v := 1) d_L_1302 (by decide) ?_
  refine y_iadd d_L_1303 ?_
  refine l_ld hv1 d_L_1304 ?_
  refine lc_117 d_L_1305 (Nat.le_of_ble_eq_true rfl) rfl rfl (Cz.mono h ?_)
  rintro v σ1 ⟨r, rfl, h⟩
  show Wx E YL 1308 [(0, .ref 1021), (1, .ref 0), (2, .ref 110), (3, .int i)] [.int r] 215 215 100784 (zx σ1) _
  refine y_popi d_L_1308 ?_
  refine y_aload_n (q := 2) d_L_1309 rfl rfl ?_
  refine y_aload_n (q := 0) d_L_1310 rfl rfl ?_
  refine y_iload_n (q := 3) d_L_1311 rfl rfl ?_
  refine y_iconst (v := 1) d_L_1312 (by decide) ?_
  refine y_iadd d_L_1313 ?_
  refine l_ld hv1 d_L_1314 ?_
  refine lc_120 d_L_1315 (Nat.le_of_ble_eq_true rfl) rfl rfl (Cz.mono h ?_)
  rintro v σ2 ⟨⟨r2, rfl⟩, h⟩
  show Wx E YL 1318 [(0, .ref 1021), (1, .ref 0), (2, .ref 110), (3, .int i)] [.int r2] 215 215 100784 (zx σ2) _
  refine y_popi d_L_1318 ?_
  exact y_goto (tgt := 3476) d_L_1319 h
theorem L_24 {E : xV} {bS L : Nat} {xs : Nat → Int32} {i : Int32} {σ : zS} (hv1 : vp_in (i + 1) L) (hv2 : vp_in (i + 2) L) (hv3 : vp_in (i + 3) L) (h : Cz E Y_H_ask [.ref 0, .int (xs (i + 1).toNatClampNeg), .int (xs (i + 2).toNatClampNeg), .int (xs (i + 3).toNatClampNeg)] σ (fun v σ1 => ∃ r : Int32, v = some (.int r) ∧ Cz E Y_M_ask [.ref 110, .int (xs (i + 1).toNatClampNeg), .int (xs (i + 2).toNatClampNeg), .int (xs (i + 3).toNatClampNeg)] σ1 (fun v' σ2 => (∃ r2 : Int32, v' = some (.int r2)) ∧ Wx E YL 3476 [(0, .ref 1021), (1, .ref 0), (2, .ref 110), (3, .int i)] [] 215 215 100784 (zx σ2) (QL E bS L xs)))) : Wx E YL 1322 [(0, .ref 1021), (1, .ref 0), (2, .ref 110), (3, .int i)] [] 215 215 100784 (zx σ) (QL E bS L xs) := by
  refine y_aload_n (q := 1) d_L_1322 rfl rfl ?_
  refine y_aload_n (q := 0) d_L_1323 rfl rfl ?_
  refine y_iload_n (q := 3) d_L_1324 rfl rfl ?_
  refine y_iconst (v := 1) d_L_1325 (by decide) ?_
  refine y_iadd d_L_1326 ?_
  refine l_ld hv1 d_L_1327 ?_
  refine y_aload_n (q := 0) d_L_1328 rfl rfl ?_
  refine y_iload_n (q := 3) d_L_1329 rfl rfl ?_
  refine y_iconst (v := 2) d_L_1330 (by decide) ?_
  refine y_iadd d_L_1331 ?_
  refine l_ld hv2 d_L_1332 ?_
  refine y_aload_n (q := 0) d_L_1333 rfl rfl ?_
  refine y_iload_n (q := 3) d_L_1334 rfl rfl ?_
  refine y_iconst (v := 3) d_L_1335 (by decide) ?_
  refine y_iadd d_L_1336 ?_
  refine l_ld hv3 d_L_1337 ?_
  refine lc_121 d_L_1338 (Nat.le_of_ble_eq_true rfl) rfl rfl (Cz.mono h ?_)
  rintro v σ1 ⟨r, rfl, h⟩
  show Wx E YL 1341 [(0, .ref 1021), (1, .ref 0), (2, .ref 110), (3, .int i)] [.int r] 215 215 100784 (zx σ1) _
  refine y_popi d_L_1341 ?_
  refine y_aload_n (q := 2) d_L_1342 rfl rfl ?_
  refine y_aload_n (q := 0) d_L_1343 rfl rfl ?_
  refine y_iload_n (q := 3) d_L_1344 rfl rfl ?_
  refine y_iconst (v := 1) d_L_1345 (by decide) ?_
  refine y_iadd d_L_1346 ?_
  refine l_ld hv1 d_L_1347 ?_
  refine y_aload_n (q := 0) d_L_1348 rfl rfl ?_
  refine y_iload_n (q := 3) d_L_1349 rfl rfl ?_
  refine y_iconst (v := 2) d_L_1350 (by decide) ?_
  refine y_iadd d_L_1351 ?_
  refine l_ld hv2 d_L_1352 ?_
  refine y_aload_n (q := 0) d_L_1353 rfl rfl ?_
  refine y_iload_n (q := 3) d_L_1354 rfl rfl ?_
  refine y_iconst (v := 3) d_L_1355 (by decide) ?_
  refine y_iadd d_L_1356 ?_
  refine l_ld hv3 d_L_1357 ?_
  refine lc_125 d_L_1358 (Nat.le_of_ble_eq_true rfl) rfl rfl (Cz.mono h ?_)
  rintro v σ2 ⟨⟨r2, rfl⟩, h⟩
  show Wx E YL 1361 [(0, .ref 1021), (1, .ref 0), (2, .ref 110), (3, .int i)] [.int r2] 215 215 100784 (zx σ2) _
  refine y_popi d_L_1361 ?_
  exact y_goto (tgt := 3476) d_L_1362 h
theorem L_25 {E : xV} {bS L : Nat} {xs : Nat → Int32} {i : Int32} {σ : zS} (hv1 : vp_in (i + 1) L) (hv2 : vp_in (i + 2) L) (hv3 : vp_in (i + 3) L) (hv4 : vp_in (i + 4) L) (hv5 : vp_in (i + 5) L) (h : Cz E Y_H_asked [.ref 0, .int (xs (i + 1).toNatClampNeg), .int (xs (i + 2).toNatClampNeg), .int (xs (i + 3).toNatClampNeg), .int (xs (i + 4).toNatClampNeg), .int (xs (i + 5).toNatClampNeg)] σ (fun v σ1 => ∃ r : Int32, v = some (.int r) ∧ Cz E Y_M_asked [.ref 110, .int (xs (i + 1).toNatClampNeg), .int (xs (i + 2).toNatClampNeg), .int (xs (i + 3).toNatClampNeg), .int (xs (i + 4).toNatClampNeg), .int (xs (i + 5).toNatClampNeg)] σ1 (fun v' σ2 => (∃ r2 : Int32, v' = some (.int r2)) ∧ Wx E YL 3476 [(0, .ref 1021), (1, .ref 0), (2, .ref 110), (3, .int i)] [] 215 215 100784 (zx σ2) (QL E bS L xs)))) : Wx E YL 1365 [(0, .ref 1021), (1, .ref 0), (2, .ref 110), (3, .int i)] [] 215 215 100784 (zx σ) (QL E bS L xs) := by
  refine y_aload_n (q := 1) d_L_1365 rfl rfl ?_
  refine y_aload_n (q := 0) d_L_1366 rfl rfl ?_
  refine y_iload_n (q := 3) d_L_1367 rfl rfl ?_
  refine y_iconst (v := 1) d_L_1368 (by decide) ?_
  refine y_iadd d_L_1369 ?_
  refine l_ld hv1 d_L_1370 ?_
  refine y_aload_n (q := 0) d_L_1371 rfl rfl ?_
  refine y_iload_n (q := 3) d_L_1372 rfl rfl ?_
  refine y_iconst (v := 2) d_L_1373 (by decide) ?_
  refine y_iadd d_L_1374 ?_
  refine l_ld hv2 d_L_1375 ?_
  refine y_aload_n (q := 0) d_L_1376 rfl rfl ?_
  refine y_iload_n (q := 3) d_L_1377 rfl rfl ?_
  refine y_iconst (v := 3) d_L_1378 (by decide) ?_
  refine y_iadd d_L_1379 ?_
  refine l_ld hv3 d_L_1380 ?_
  refine y_aload_n (q := 0) d_L_1381 rfl rfl ?_
  refine y_iload_n (q := 3) d_L_1382 rfl rfl ?_
  refine y_iconst (v := 4) d_L_1383 (by decide) ?_
  refine y_iadd d_L_1384 ?_
  refine l_ld hv4 d_L_1385 ?_
  refine y_aload_n (q := 0) d_L_1386 rfl rfl ?_
  refine y_iload_n (q := 3) d_L_1387 rfl rfl ?_
  refine y_iconst (v := 5) d_L_1388 (by decide) ?_
  refine y_iadd d_L_1389 ?_
  refine l_ld hv5 d_L_1390 ?_
  refine lc_126 d_L_1391 (Nat.le_of_ble_eq_true rfl) rfl rfl (Cz.mono h ?_)
  rintro v σ1 ⟨r, rfl, h⟩
  show Wx E YL 1394 [(0, .ref 1021), (1, .ref 0), (2, .ref 110), (3, .int i)] [.int r] 215 215 100784 (zx σ1) _
  refine y_popi d_L_1394 ?_
  refine y_aload_n (q := 2) d_L_1395 rfl rfl ?_
  refine y_aload_n (q := 0) d_L_1396 rfl rfl ?_
  refine y_iload_n (q := 3) d_L_1397 rfl rfl ?_
  refine y_iconst (v := 1) d_L_1398 (by decide) ?_
  refine y_iadd d_L_1399 ?_
  refine l_ld hv1 d_L_1400 ?_
  refine y_aload_n (q := 0) d_L_1401 rfl rfl ?_
  refine y_iload_n (q := 3) d_L_1402 rfl rfl ?_
  refine y_iconst (v := 2) d_L_1403 (by decide) ?_
  refine y_iadd d_L_1404 ?_
  refine l_ld hv2 d_L_1405 ?_
  refine y_aload_n (q := 0) d_L_1406 rfl rfl ?_
  refine y_iload_n (q := 3) d_L_1407 rfl rfl ?_
  refine y_iconst (v := 3) d_L_1408 (by decide) ?_
  refine y_iadd d_L_1409 ?_
  refine l_ld hv3 d_L_1410 ?_
  refine y_aload_n (q := 0) d_L_1411 rfl rfl ?_
  refine y_iload_n (q := 3) d_L_1412 rfl rfl ?_
  refine y_iconst (v := 4) d_L_1413 (by decide) ?_
  refine y_iadd d_L_1414 ?_
  refine l_ld hv4 d_L_1415 ?_
  refine y_aload_n (q := 0) d_L_1416 rfl rfl ?_
  refine y_iload_n (q := 3) d_L_1417 rfl rfl ?_
  refine y_iconst (v := 5) d_L_1418 (by decide) ?_
  refine y_iadd d_L_1419 ?_
  refine l_ld hv5 d_L_1420 ?_
  refine lc_130 d_L_1421 (Nat.le_of_ble_eq_true rfl) rfl rfl (Cz.mono h ?_)
  rintro v σ2 ⟨⟨r2, rfl⟩, h⟩
  show Wx E YL 1424 [(0, .ref 1021), (1, .ref 0), (2, .ref 110), (3, .int i)] [.int r2] 215 215 100784 (zx σ2) _
  refine y_popi d_L_1424 ?_
  exact y_goto (tgt := 3476) d_L_1425 h
theorem L_26 {E : xV} {bS L : Nat} {xs : Nat → Int32} {i : Int32} {σ : zS} (hv1 : vp_in (i + 1) L) (h : Cz E Y_H_made [.ref 0, .int (xs (i + 1).toNatClampNeg)] σ (fun v σ1 => ∃ r : Int32, v = some (.int r) ∧ Cz E Y_M_made [.ref 110, .int (xs (i + 1).toNatClampNeg)] σ1 (fun v' σ2 => (∃ r2 : Int32, v' = some (.int r2)) ∧ Wx E YL 3476 [(0, .ref 1021), (1, .ref 0), (2, .ref 110), (3, .int i)] [] 215 215 100784 (zx σ2) (QL E bS L xs)))) : Wx E YL 1428 [(0, .ref 1021), (1, .ref 0), (2, .ref 110), (3, .int i)] [] 215 215 100784 (zx σ) (QL E bS L xs) := by
  refine y_aload_n (q := 1) d_L_1428 rfl rfl ?_
  refine y_aload_n (q := 0) d_L_1429 rfl rfl ?_
  refine y_iload_n (q := 3) d_L_1430 rfl rfl ?_
  refine y_iconst (v := 1) d_L_1431 (by decide) ?_
  refine y_iadd d_L_1432 ?_
  refine l_ld hv1 d_L_1433 ?_
  refine lc_131 d_L_1434 (Nat.le_of_ble_eq_true rfl) rfl rfl (Cz.mono h ?_)
  rintro v σ1 ⟨r, rfl, h⟩
  show Wx E YL 1437 [(0, .ref 1021), (1, .ref 0), (2, .ref 110), (3, .int i)] [.int r] 215 215 100784 (zx σ1) _
  refine y_popi d_L_1437 ?_
  refine y_aload_n (q := 2) d_L_1438 rfl rfl ?_
  refine y_aload_n (q := 0) d_L_1439 rfl rfl ?_
  refine y_iload_n (q := 3) d_L_1440 rfl rfl ?_
  refine y_iconst (v := 1) d_L_1441 (by decide) ?_
  refine y_iadd d_L_1442 ?_
  refine l_ld hv1 d_L_1443 ?_
  refine lc_134 d_L_1444 (Nat.le_of_ble_eq_true rfl) rfl rfl (Cz.mono h ?_)
  rintro v σ2 ⟨⟨r2, rfl⟩, h⟩
  show Wx E YL 1447 [(0, .ref 1021), (1, .ref 0), (2, .ref 110), (3, .int i)] [.int r2] 215 215 100784 (zx σ2) _
  refine y_popi d_L_1447 ?_
  exact y_goto (tgt := 3476) d_L_1448 h
theorem L_27 {E : xV} {bS L : Nat} {xs : Nat → Int32} {i : Int32} {σ : zS} (hv1 : vp_in (i + 1) L) (hv2 : vp_in (i + 2) L) (hv3 : vp_in (i + 3) L) (hv4 : vp_in (i + 4) L) (h : Cz E Y_H_may [.ref 0, .int (xs (i + 1).toNatClampNeg), .int (xs (i + 2).toNatClampNeg), .int (xs (i + 3).toNatClampNeg), .int (xs (i + 4).toNatClampNeg)] σ (fun v σ1 => ∃ r : Int32, v = some (.int r) ∧ Cz E Y_M_may [.ref 110, .int (xs (i + 1).toNatClampNeg), .int (xs (i + 2).toNatClampNeg), .int (xs (i + 3).toNatClampNeg), .int (xs (i + 4).toNatClampNeg)] σ1 (fun v' σ2 => (∃ r2 : Int32, v' = some (.int r2)) ∧ Wx E YL 3476 [(0, .ref 1021), (1, .ref 0), (2, .ref 110), (3, .int i)] [] 215 215 100784 (zx σ2) (QL E bS L xs)))) : Wx E YL 1451 [(0, .ref 1021), (1, .ref 0), (2, .ref 110), (3, .int i)] [] 215 215 100784 (zx σ) (QL E bS L xs) := by
  refine y_aload_n (q := 1) d_L_1451 rfl rfl ?_
  refine y_aload_n (q := 0) d_L_1452 rfl rfl ?_
  refine y_iload_n (q := 3) d_L_1453 rfl rfl ?_
  refine y_iconst (v := 1) d_L_1454 (by decide) ?_
  refine y_iadd d_L_1455 ?_
  refine l_ld hv1 d_L_1456 ?_
  refine y_aload_n (q := 0) d_L_1457 rfl rfl ?_
  refine y_iload_n (q := 3) d_L_1458 rfl rfl ?_
  refine y_iconst (v := 2) d_L_1459 (by decide) ?_
  refine y_iadd d_L_1460 ?_
  refine l_ld hv2 d_L_1461 ?_
  refine y_aload_n (q := 0) d_L_1462 rfl rfl ?_
  refine y_iload_n (q := 3) d_L_1463 rfl rfl ?_
  refine y_iconst (v := 3) d_L_1464 (by decide) ?_
  refine y_iadd d_L_1465 ?_
  refine l_ld hv3 d_L_1466 ?_
  refine y_aload_n (q := 0) d_L_1467 rfl rfl ?_
  refine y_iload_n (q := 3) d_L_1468 rfl rfl ?_
  refine y_iconst (v := 4) d_L_1469 (by decide) ?_
  refine y_iadd d_L_1470 ?_
  refine l_ld hv4 d_L_1471 ?_
  refine lc_135 d_L_1472 (Nat.le_of_ble_eq_true rfl) rfl rfl (Cz.mono h ?_)
  rintro v σ1 ⟨r, rfl, h⟩
  show Wx E YL 1475 [(0, .ref 1021), (1, .ref 0), (2, .ref 110), (3, .int i)] [.int r] 215 215 100784 (zx σ1) _
  refine y_popi d_L_1475 ?_
  refine y_aload_n (q := 2) d_L_1476 rfl rfl ?_
  refine y_aload_n (q := 0) d_L_1477 rfl rfl ?_
  refine y_iload_n (q := 3) d_L_1478 rfl rfl ?_
  refine y_iconst (v := 1) d_L_1479 (by decide) ?_
  refine y_iadd d_L_1480 ?_
  refine l_ld hv1 d_L_1481 ?_
  refine y_aload_n (q := 0) d_L_1482 rfl rfl ?_
  refine y_iload_n (q := 3) d_L_1483 rfl rfl ?_
  refine y_iconst (v := 2) d_L_1484 (by decide) ?_
  refine y_iadd d_L_1485 ?_
  refine l_ld hv2 d_L_1486 ?_
  refine y_aload_n (q := 0) d_L_1487 rfl rfl ?_
  refine y_iload_n (q := 3) d_L_1488 rfl rfl ?_
  refine y_iconst (v := 3) d_L_1489 (by decide) ?_
  refine y_iadd d_L_1490 ?_
  refine l_ld hv3 d_L_1491 ?_
  refine y_aload_n (q := 0) d_L_1492 rfl rfl ?_
  refine y_iload_n (q := 3) d_L_1493 rfl rfl ?_
  refine y_iconst (v := 4) d_L_1494 (by decide) ?_
  refine y_iadd d_L_1495 ?_
  refine l_ld hv4 d_L_1496 ?_
  refine lc_138 d_L_1497 (Nat.le_of_ble_eq_true rfl) rfl rfl (Cz.mono h ?_)
  rintro v σ2 ⟨⟨r2, rfl⟩, h⟩
  show Wx E YL 1500 [(0, .ref 1021), (1, .ref 0), (2, .ref 110), (3, .int i)] [.int r2] 215 215 100784 (zx σ2) _
  refine y_popi d_L_1500 ?_
  exact y_goto (tgt := 3476) d_L_1501 h
theorem L_28 {E : xV} {bS L : Nat} {xs : Nat → Int32} {i : Int32} {σ : zS} (hv1 : vp_in (i + 1) L) (hv2 : vp_in (i + 2) L) (hv3 : vp_in (i + 3) L) (hv4 : vp_in (i + 4) L) (h : Cz E Y_H_who [.ref 0, .int (xs (i + 1).toNatClampNeg), .int (xs (i + 2).toNatClampNeg), .int (xs (i + 3).toNatClampNeg), .int (xs (i + 4).toNatClampNeg)] σ (fun v σ1 => ∃ r : Int32, v = some (.int r) ∧ Cz E Y_M_who [.ref 110, .int (xs (i + 1).toNatClampNeg), .int (xs (i + 2).toNatClampNeg), .int (xs (i + 3).toNatClampNeg), .int (xs (i + 4).toNatClampNeg)] σ1 (fun v' σ2 => (∃ r2 : Int32, v' = some (.int r2)) ∧ Wx E YL 3476 [(0, .ref 1021), (1, .ref 0), (2, .ref 110), (3, .int i)] [] 215 215 100784 (zx σ2) (QL E bS L xs)))) : Wx E YL 1504 [(0, .ref 1021), (1, .ref 0), (2, .ref 110), (3, .int i)] [] 215 215 100784 (zx σ) (QL E bS L xs) := by
  refine y_aload_n (q := 1) d_L_1504 rfl rfl ?_
  refine y_aload_n (q := 0) d_L_1505 rfl rfl ?_
  refine y_iload_n (q := 3) d_L_1506 rfl rfl ?_
  refine y_iconst (v := 1) d_L_1507 (by decide) ?_
  refine y_iadd d_L_1508 ?_
  refine l_ld hv1 d_L_1509 ?_
  refine y_aload_n (q := 0) d_L_1510 rfl rfl ?_
  refine y_iload_n (q := 3) d_L_1511 rfl rfl ?_
  refine y_iconst (v := 2) d_L_1512 (by decide) ?_
  refine y_iadd d_L_1513 ?_
  refine l_ld hv2 d_L_1514 ?_
  refine y_aload_n (q := 0) d_L_1515 rfl rfl ?_
  refine y_iload_n (q := 3) d_L_1516 rfl rfl ?_
  refine y_iconst (v := 3) d_L_1517 (by decide) ?_
  refine y_iadd d_L_1518 ?_
  refine l_ld hv3 d_L_1519 ?_
  refine y_aload_n (q := 0) d_L_1520 rfl rfl ?_
  refine y_iload_n (q := 3) d_L_1521 rfl rfl ?_
  refine y_iconst (v := 4) d_L_1522 (by decide) ?_
  refine y_iadd d_L_1523 ?_
  refine l_ld hv4 d_L_1524 ?_
  refine lc_139 d_L_1525 (Nat.le_of_ble_eq_true rfl) rfl rfl (Cz.mono h ?_)
  rintro v σ1 ⟨r, rfl, h⟩
  show Wx E YL 1528 [(0, .ref 1021), (1, .ref 0), (2, .ref 110), (3, .int i)] [.int r] 215 215 100784 (zx σ1) _
  refine y_popi d_L_1528 ?_
  refine y_aload_n (q := 2) d_L_1529 rfl rfl ?_
  refine y_aload_n (q := 0) d_L_1530 rfl rfl ?_
  refine y_iload_n (q := 3) d_L_1531 rfl rfl ?_
  refine y_iconst (v := 1) d_L_1532 (by decide) ?_
  refine y_iadd d_L_1533 ?_
  refine l_ld hv1 d_L_1534 ?_
  refine y_aload_n (q := 0) d_L_1535 rfl rfl ?_
  refine y_iload_n (q := 3) d_L_1536 rfl rfl ?_
  refine y_iconst (v := 2) d_L_1537 (by decide) ?_
  refine y_iadd d_L_1538 ?_
  refine l_ld hv2 d_L_1539 ?_
  refine y_aload_n (q := 0) d_L_1540 rfl rfl ?_
  refine y_iload_n (q := 3) d_L_1541 rfl rfl ?_
  refine y_iconst (v := 3) d_L_1542 (by decide) ?_
  refine y_iadd d_L_1543 ?_
  refine l_ld hv3 d_L_1544 ?_
  refine y_aload_n (q := 0) d_L_1545 rfl rfl ?_
  refine y_iload_n (q := 3) d_L_1546 rfl rfl ?_
  refine y_iconst (v := 4) d_L_1547 (by decide) ?_
  refine y_iadd d_L_1548 ?_
  refine l_ld hv4 d_L_1549 ?_
  refine lc_142 d_L_1550 (Nat.le_of_ble_eq_true rfl) rfl rfl (Cz.mono h ?_)
  rintro v σ2 ⟨⟨r2, rfl⟩, h⟩
  show Wx E YL 1553 [(0, .ref 1021), (1, .ref 0), (2, .ref 110), (3, .int i)] [.int r2] 215 215 100784 (zx σ2) _
  refine y_popi d_L_1553 ?_
  exact y_goto (tgt := 3476) d_L_1554 h
theorem L_29 {E : xV} {bS L : Nat} {xs : Nat → Int32} {i : Int32} {σ : zS} (hv1 : vp_in (i + 1) L) (hv2 : vp_in (i + 2) L) (h : Cz E Y_H_compare [.ref 0, .int (xs (i + 1).toNatClampNeg), .int (xs (i + 2).toNatClampNeg)] σ (fun v σ1 => ∃ r : Int32, v = some (.int r) ∧ Cz E Y_M_compare [.ref 110, .int (xs (i + 1).toNatClampNeg), .int (xs (i + 2).toNatClampNeg)] σ1 (fun v' σ2 => (∃ r2 : Int32, v' = some (.int r2)) ∧ Wx E YL 3476 [(0, .ref 1021), (1, .ref 0), (2, .ref 110), (3, .int i)] [] 215 215 100784 (zx σ2) (QL E bS L xs)))) : Wx E YL 1557 [(0, .ref 1021), (1, .ref 0), (2, .ref 110), (3, .int i)] [] 215 215 100784 (zx σ) (QL E bS L xs) := by
  refine y_aload_n (q := 1) d_L_1557 rfl rfl ?_
  refine y_aload_n (q := 0) d_L_1558 rfl rfl ?_
  refine y_iload_n (q := 3) d_L_1559 rfl rfl ?_
  refine y_iconst (v := 1) d_L_1560 (by decide) ?_
  refine y_iadd d_L_1561 ?_
  refine l_ld hv1 d_L_1562 ?_
  refine y_aload_n (q := 0) d_L_1563 rfl rfl ?_
  refine y_iload_n (q := 3) d_L_1564 rfl rfl ?_
  refine y_iconst (v := 2) d_L_1565 (by decide) ?_
  refine y_iadd d_L_1566 ?_
  refine l_ld hv2 d_L_1567 ?_
  refine lc_143 d_L_1568 (Nat.le_of_ble_eq_true rfl) rfl rfl (Cz.mono h ?_)
  rintro v σ1 ⟨r, rfl, h⟩
  show Wx E YL 1571 [(0, .ref 1021), (1, .ref 0), (2, .ref 110), (3, .int i)] [.int r] 215 215 100784 (zx σ1) _
  refine y_popi d_L_1571 ?_
  refine y_aload_n (q := 2) d_L_1572 rfl rfl ?_
  refine y_aload_n (q := 0) d_L_1573 rfl rfl ?_
  refine y_iload_n (q := 3) d_L_1574 rfl rfl ?_
  refine y_iconst (v := 1) d_L_1575 (by decide) ?_
  refine y_iadd d_L_1576 ?_
  refine l_ld hv1 d_L_1577 ?_
  refine y_aload_n (q := 0) d_L_1578 rfl rfl ?_
  refine y_iload_n (q := 3) d_L_1579 rfl rfl ?_
  refine y_iconst (v := 2) d_L_1580 (by decide) ?_
  refine y_iadd d_L_1581 ?_
  refine l_ld hv2 d_L_1582 ?_
  refine lc_146 d_L_1583 (Nat.le_of_ble_eq_true rfl) rfl rfl (Cz.mono h ?_)
  rintro v σ2 ⟨⟨r2, rfl⟩, h⟩
  show Wx E YL 1586 [(0, .ref 1021), (1, .ref 0), (2, .ref 110), (3, .int i)] [.int r2] 215 215 100784 (zx σ2) _
  refine y_popi d_L_1586 ?_
  exact y_goto (tgt := 3476) d_L_1587 h
theorem L_30 {E : xV} {bS L : Nat} {xs : Nat → Int32} {i : Int32} {σ : zS} (hv1 : vp_in (i + 1) L) (h : Cz E Y_H_compared [.ref 0, .int (xs (i + 1).toNatClampNeg)] σ (fun v σ1 => ∃ r : Int32, v = some (.int r) ∧ Cz E Y_M_compared [.ref 110, .int (xs (i + 1).toNatClampNeg)] σ1 (fun v' σ2 => (∃ r2 : Int32, v' = some (.int r2)) ∧ Wx E YL 3476 [(0, .ref 1021), (1, .ref 0), (2, .ref 110), (3, .int i)] [] 215 215 100784 (zx σ2) (QL E bS L xs)))) : Wx E YL 1590 [(0, .ref 1021), (1, .ref 0), (2, .ref 110), (3, .int i)] [] 215 215 100784 (zx σ) (QL E bS L xs) := by
  refine y_aload_n (q := 1) d_L_1590 rfl rfl ?_
  refine y_aload_n (q := 0) d_L_1591 rfl rfl ?_
  refine y_iload_n (q := 3) d_L_1592 rfl rfl ?_
  refine y_iconst (v := 1) d_L_1593 (by decide) ?_
  refine y_iadd d_L_1594 ?_
  refine l_ld hv1 d_L_1595 ?_
  refine lc_147 d_L_1596 (Nat.le_of_ble_eq_true rfl) rfl rfl (Cz.mono h ?_)
  rintro v σ1 ⟨r, rfl, h⟩
  show Wx E YL 1599 [(0, .ref 1021), (1, .ref 0), (2, .ref 110), (3, .int i)] [.int r] 215 215 100784 (zx σ1) _
  refine y_popi d_L_1599 ?_
  refine y_aload_n (q := 2) d_L_1600 rfl rfl ?_
  refine y_aload_n (q := 0) d_L_1601 rfl rfl ?_
  refine y_iload_n (q := 3) d_L_1602 rfl rfl ?_
  refine y_iconst (v := 1) d_L_1603 (by decide) ?_
  refine y_iadd d_L_1604 ?_
  refine l_ld hv1 d_L_1605 ?_
  refine lc_150 d_L_1606 (Nat.le_of_ble_eq_true rfl) rfl rfl (Cz.mono h ?_)
  rintro v σ2 ⟨⟨r2, rfl⟩, h⟩
  show Wx E YL 1609 [(0, .ref 1021), (1, .ref 0), (2, .ref 110), (3, .int i)] [.int r2] 215 215 100784 (zx σ2) _
  refine y_popi d_L_1609 ?_
  exact y_goto (tgt := 3476) d_L_1610 h
theorem L_31 {E : xV} {bS L : Nat} {xs : Nat → Int32} {i : Int32} {σ : zS} (hv1 : vp_in (i + 1) L) (hv2 : vp_in (i + 2) L) (h : Cz E Y_H_decides [.ref 0, .int (xs (i + 1).toNatClampNeg), .int (xs (i + 2).toNatClampNeg)] σ (fun v σ1 => ∃ r : Int32, v = some (.int r) ∧ Cz E Y_M_decides [.ref 110, .int (xs (i + 1).toNatClampNeg), .int (xs (i + 2).toNatClampNeg)] σ1 (fun v' σ2 => (∃ r2 : Int32, v' = some (.int r2)) ∧ Wx E YL 3476 [(0, .ref 1021), (1, .ref 0), (2, .ref 110), (3, .int i)] [] 215 215 100784 (zx σ2) (QL E bS L xs)))) : Wx E YL 1613 [(0, .ref 1021), (1, .ref 0), (2, .ref 110), (3, .int i)] [] 215 215 100784 (zx σ) (QL E bS L xs) := by
  refine y_aload_n (q := 1) d_L_1613 rfl rfl ?_
  refine y_aload_n (q := 0) d_L_1614 rfl rfl ?_
  refine y_iload_n (q := 3) d_L_1615 rfl rfl ?_
  refine y_iconst (v := 1) d_L_1616 (by decide) ?_
  refine y_iadd d_L_1617 ?_
  refine l_ld hv1 d_L_1618 ?_
  refine y_aload_n (q := 0) d_L_1619 rfl rfl ?_
  refine y_iload_n (q := 3) d_L_1620 rfl rfl ?_
  refine y_iconst (v := 2) d_L_1621 (by decide) ?_
  refine y_iadd d_L_1622 ?_
  refine l_ld hv2 d_L_1623 ?_
  refine lc_151 d_L_1624 (Nat.le_of_ble_eq_true rfl) rfl rfl (Cz.mono h ?_)
  rintro v σ1 ⟨r, rfl, h⟩
  show Wx E YL 1627 [(0, .ref 1021), (1, .ref 0), (2, .ref 110), (3, .int i)] [.int r] 215 215 100784 (zx σ1) _
  refine y_popi d_L_1627 ?_
  refine y_aload_n (q := 2) d_L_1628 rfl rfl ?_
  refine y_aload_n (q := 0) d_L_1629 rfl rfl ?_
  refine y_iload_n (q := 3) d_L_1630 rfl rfl ?_
  refine y_iconst (v := 1) d_L_1631 (by decide) ?_
  refine y_iadd d_L_1632 ?_
  refine l_ld hv1 d_L_1633 ?_
  refine y_aload_n (q := 0) d_L_1634 rfl rfl ?_
  refine y_iload_n (q := 3) d_L_1635 rfl rfl ?_
  refine y_iconst (v := 2) d_L_1636 (by decide) ?_
  refine y_iadd d_L_1637 ?_
  refine l_ld hv2 d_L_1638 ?_
  refine lc_154 d_L_1639 (Nat.le_of_ble_eq_true rfl) rfl rfl (Cz.mono h ?_)
  rintro v σ2 ⟨⟨r2, rfl⟩, h⟩
  show Wx E YL 1642 [(0, .ref 1021), (1, .ref 0), (2, .ref 110), (3, .int i)] [.int r2] 215 215 100784 (zx σ2) _
  refine y_popi d_L_1642 ?_
  exact y_goto (tgt := 3476) d_L_1643 h
theorem L_32 {E : xV} {bS L : Nat} {xs : Nat → Int32} {i : Int32} {σ : zS} (hv1 : vp_in (i + 1) L) (hv2 : vp_in (i + 2) L) (hv3 : vp_in (i + 3) L) (h : Cz E Y_H_law [.ref 0, .int (xs (i + 1).toNatClampNeg), .int (xs (i + 2).toNatClampNeg), .int (xs (i + 3).toNatClampNeg)] σ (fun v σ1 => ∃ r : Int32, v = some (.int r) ∧ Cz E Y_M_law [.ref 110, .int (xs (i + 1).toNatClampNeg), .int (xs (i + 2).toNatClampNeg), .int (xs (i + 3).toNatClampNeg)] σ1 (fun v' σ2 => (∃ r2 : Int32, v' = some (.int r2)) ∧ Wx E YL 3476 [(0, .ref 1021), (1, .ref 0), (2, .ref 110), (3, .int i)] [] 215 215 100784 (zx σ2) (QL E bS L xs)))) : Wx E YL 1646 [(0, .ref 1021), (1, .ref 0), (2, .ref 110), (3, .int i)] [] 215 215 100784 (zx σ) (QL E bS L xs) := by
  refine y_aload_n (q := 1) d_L_1646 rfl rfl ?_
  refine y_aload_n (q := 0) d_L_1647 rfl rfl ?_
  refine y_iload_n (q := 3) d_L_1648 rfl rfl ?_
  refine y_iconst (v := 1) d_L_1649 (by decide) ?_
  refine y_iadd d_L_1650 ?_
  refine l_ld hv1 d_L_1651 ?_
  refine y_aload_n (q := 0) d_L_1652 rfl rfl ?_
  refine y_iload_n (q := 3) d_L_1653 rfl rfl ?_
  refine y_iconst (v := 2) d_L_1654 (by decide) ?_
  refine y_iadd d_L_1655 ?_
  refine l_ld hv2 d_L_1656 ?_
  refine y_aload_n (q := 0) d_L_1657 rfl rfl ?_
  refine y_iload_n (q := 3) d_L_1658 rfl rfl ?_
  refine y_iconst (v := 3) d_L_1659 (by decide) ?_
  refine y_iadd d_L_1660 ?_
  refine l_ld hv3 d_L_1661 ?_
  refine lc_155 d_L_1662 (Nat.le_of_ble_eq_true rfl) rfl rfl (Cz.mono h ?_)
  rintro v σ1 ⟨r, rfl, h⟩
  show Wx E YL 1665 [(0, .ref 1021), (1, .ref 0), (2, .ref 110), (3, .int i)] [.int r] 215 215 100784 (zx σ1) _
  refine y_popi d_L_1665 ?_
  refine y_aload_n (q := 2) d_L_1666 rfl rfl ?_
  refine y_aload_n (q := 0) d_L_1667 rfl rfl ?_
  refine y_iload_n (q := 3) d_L_1668 rfl rfl ?_
  refine y_iconst (v := 1) d_L_1669 (by decide) ?_
  refine y_iadd d_L_1670 ?_
  refine l_ld hv1 d_L_1671 ?_
  refine y_aload_n (q := 0) d_L_1672 rfl rfl ?_
  refine y_iload_n (q := 3) d_L_1673 rfl rfl ?_
  refine y_iconst (v := 2) d_L_1674 (by decide) ?_
  refine y_iadd d_L_1675 ?_
  refine l_ld hv2 d_L_1676 ?_
  refine y_aload_n (q := 0) d_L_1677 rfl rfl ?_
  refine y_iload_n (q := 3) d_L_1678 rfl rfl ?_
  refine y_iconst (v := 3) d_L_1679 (by decide) ?_
  refine y_iadd d_L_1680 ?_
  refine l_ld hv3 d_L_1681 ?_
  refine lc_158 d_L_1682 (Nat.le_of_ble_eq_true rfl) rfl rfl (Cz.mono h ?_)
  rintro v σ2 ⟨⟨r2, rfl⟩, h⟩
  show Wx E YL 1685 [(0, .ref 1021), (1, .ref 0), (2, .ref 110), (3, .int i)] [.int r2] 215 215 100784 (zx σ2) _
  refine y_popi d_L_1685 ?_
  exact y_goto (tgt := 3476) d_L_1686 h
theorem L_33 {E : xV} {bS L : Nat} {xs : Nat → Int32} {i : Int32} {σ : zS} (hv1 : vp_in (i + 1) L) (hv2 : vp_in (i + 2) L) (hv3 : vp_in (i + 3) L) (hv4 : vp_in (i + 4) L) (h : Cz E Y_H_give [.ref 0, .int (xs (i + 1).toNatClampNeg), .int (xs (i + 2).toNatClampNeg), .int (xs (i + 3).toNatClampNeg), .int (xs (i + 4).toNatClampNeg)] σ (fun v σ1 => ∃ r : Int32, v = some (.int r) ∧ Cz E Y_M_give [.ref 110, .int (xs (i + 1).toNatClampNeg), .int (xs (i + 2).toNatClampNeg), .int (xs (i + 3).toNatClampNeg), .int (xs (i + 4).toNatClampNeg)] σ1 (fun v' σ2 => (∃ r2 : Int32, v' = some (.int r2)) ∧ Wx E YL 3476 [(0, .ref 1021), (1, .ref 0), (2, .ref 110), (3, .int i)] [] 215 215 100784 (zx σ2) (QL E bS L xs)))) : Wx E YL 1689 [(0, .ref 1021), (1, .ref 0), (2, .ref 110), (3, .int i)] [] 215 215 100784 (zx σ) (QL E bS L xs) := by
  refine y_aload_n (q := 1) d_L_1689 rfl rfl ?_
  refine y_aload_n (q := 0) d_L_1690 rfl rfl ?_
  refine y_iload_n (q := 3) d_L_1691 rfl rfl ?_
  refine y_iconst (v := 1) d_L_1692 (by decide) ?_
  refine y_iadd d_L_1693 ?_
  refine l_ld hv1 d_L_1694 ?_
  refine y_aload_n (q := 0) d_L_1695 rfl rfl ?_
  refine y_iload_n (q := 3) d_L_1696 rfl rfl ?_
  refine y_iconst (v := 2) d_L_1697 (by decide) ?_
  refine y_iadd d_L_1698 ?_
  refine l_ld hv2 d_L_1699 ?_
  refine y_aload_n (q := 0) d_L_1700 rfl rfl ?_
  refine y_iload_n (q := 3) d_L_1701 rfl rfl ?_
  refine y_iconst (v := 3) d_L_1702 (by decide) ?_
  refine y_iadd d_L_1703 ?_
  refine l_ld hv3 d_L_1704 ?_
  refine y_aload_n (q := 0) d_L_1705 rfl rfl ?_
  refine y_iload_n (q := 3) d_L_1706 rfl rfl ?_
  refine y_iconst (v := 4) d_L_1707 (by decide) ?_
  refine y_iadd d_L_1708 ?_
  refine l_ld hv4 d_L_1709 ?_
  refine lc_159 d_L_1710 (Nat.le_of_ble_eq_true rfl) rfl rfl (Cz.mono h ?_)
  rintro v σ1 ⟨r, rfl, h⟩
  show Wx E YL 1713 [(0, .ref 1021), (1, .ref 0), (2, .ref 110), (3, .int i)] [.int r] 215 215 100784 (zx σ1) _
  refine y_popi d_L_1713 ?_
  refine y_aload_n (q := 2) d_L_1714 rfl rfl ?_
  refine y_aload_n (q := 0) d_L_1715 rfl rfl ?_
  refine y_iload_n (q := 3) d_L_1716 rfl rfl ?_
  refine y_iconst (v := 1) d_L_1717 (by decide) ?_
  refine y_iadd d_L_1718 ?_
  refine l_ld hv1 d_L_1719 ?_
  refine y_aload_n (q := 0) d_L_1720 rfl rfl ?_
  refine y_iload_n (q := 3) d_L_1721 rfl rfl ?_
  refine y_iconst (v := 2) d_L_1722 (by decide) ?_
  refine y_iadd d_L_1723 ?_
  refine l_ld hv2 d_L_1724 ?_
  refine y_aload_n (q := 0) d_L_1725 rfl rfl ?_
  refine y_iload_n (q := 3) d_L_1726 rfl rfl ?_
  refine y_iconst (v := 3) d_L_1727 (by decide) ?_
  refine y_iadd d_L_1728 ?_
  refine l_ld hv3 d_L_1729 ?_
  refine y_aload_n (q := 0) d_L_1730 rfl rfl ?_
  refine y_iload_n (q := 3) d_L_1731 rfl rfl ?_
  refine y_iconst (v := 4) d_L_1732 (by decide) ?_
  refine y_iadd d_L_1733 ?_
  refine l_ld hv4 d_L_1734 ?_
  refine lc_162 d_L_1735 (Nat.le_of_ble_eq_true rfl) rfl rfl (Cz.mono h ?_)
  rintro v σ2 ⟨⟨r2, rfl⟩, h⟩
  show Wx E YL 1738 [(0, .ref 1021), (1, .ref 0), (2, .ref 110), (3, .int i)] [.int r2] 215 215 100784 (zx σ2) _
  refine y_popi d_L_1738 ?_
  exact y_goto (tgt := 3476) d_L_1739 h
theorem L_34 {E : xV} {bS L : Nat} {xs : Nat → Int32} {i : Int32} {σ : zS} (hv1 : vp_in (i + 1) L) (hv2 : vp_in (i + 2) L) (hv3 : vp_in (i + 3) L) (h : Cz E Y_H_take [.ref 0, .int (xs (i + 1).toNatClampNeg), .int (xs (i + 2).toNatClampNeg), .int (xs (i + 3).toNatClampNeg)] σ (fun v σ1 => ∃ r : Int32, v = some (.int r) ∧ Cz E Y_M_take [.ref 110, .int (xs (i + 1).toNatClampNeg), .int (xs (i + 2).toNatClampNeg), .int (xs (i + 3).toNatClampNeg)] σ1 (fun v' σ2 => (∃ r2 : Int32, v' = some (.int r2)) ∧ Wx E YL 3476 [(0, .ref 1021), (1, .ref 0), (2, .ref 110), (3, .int i)] [] 215 215 100784 (zx σ2) (QL E bS L xs)))) : Wx E YL 1742 [(0, .ref 1021), (1, .ref 0), (2, .ref 110), (3, .int i)] [] 215 215 100784 (zx σ) (QL E bS L xs) := by
  refine y_aload_n (q := 1) d_L_1742 rfl rfl ?_
  refine y_aload_n (q := 0) d_L_1743 rfl rfl ?_
  refine y_iload_n (q := 3) d_L_1744 rfl rfl ?_
  refine y_iconst (v := 1) d_L_1745 (by decide) ?_
  refine y_iadd d_L_1746 ?_
  refine l_ld hv1 d_L_1747 ?_
  refine y_aload_n (q := 0) d_L_1748 rfl rfl ?_
  refine y_iload_n (q := 3) d_L_1749 rfl rfl ?_
  refine y_iconst (v := 2) d_L_1750 (by decide) ?_
  refine y_iadd d_L_1751 ?_
  refine l_ld hv2 d_L_1752 ?_
  refine y_aload_n (q := 0) d_L_1753 rfl rfl ?_
  refine y_iload_n (q := 3) d_L_1754 rfl rfl ?_
  refine y_iconst (v := 3) d_L_1755 (by decide) ?_
  refine y_iadd d_L_1756 ?_
  refine l_ld hv3 d_L_1757 ?_
  refine lc_163 d_L_1758 (Nat.le_of_ble_eq_true rfl) rfl rfl (Cz.mono h ?_)
  rintro v σ1 ⟨r, rfl, h⟩
  show Wx E YL 1761 [(0, .ref 1021), (1, .ref 0), (2, .ref 110), (3, .int i)] [.int r] 215 215 100784 (zx σ1) _
  refine y_popi d_L_1761 ?_
  refine y_aload_n (q := 2) d_L_1762 rfl rfl ?_
  refine y_aload_n (q := 0) d_L_1763 rfl rfl ?_
  refine y_iload_n (q := 3) d_L_1764 rfl rfl ?_
  refine y_iconst (v := 1) d_L_1765 (by decide) ?_
  refine y_iadd d_L_1766 ?_
  refine l_ld hv1 d_L_1767 ?_
  refine y_aload_n (q := 0) d_L_1768 rfl rfl ?_
  refine y_iload_n (q := 3) d_L_1769 rfl rfl ?_
  refine y_iconst (v := 2) d_L_1770 (by decide) ?_
  refine y_iadd d_L_1771 ?_
  refine l_ld hv2 d_L_1772 ?_
  refine y_aload_n (q := 0) d_L_1773 rfl rfl ?_
  refine y_iload_n (q := 3) d_L_1774 rfl rfl ?_
  refine y_iconst (v := 3) d_L_1775 (by decide) ?_
  refine y_iadd d_L_1776 ?_
  refine l_ld hv3 d_L_1777 ?_
  refine lc_166 d_L_1778 (Nat.le_of_ble_eq_true rfl) rfl rfl (Cz.mono h ?_)
  rintro v σ2 ⟨⟨r2, rfl⟩, h⟩
  show Wx E YL 1781 [(0, .ref 1021), (1, .ref 0), (2, .ref 110), (3, .int i)] [.int r2] 215 215 100784 (zx σ2) _
  refine y_popi d_L_1781 ?_
  exact y_goto (tgt := 3476) d_L_1782 h
theorem L_35 {E : xV} {bS L : Nat} {xs : Nat → Int32} {i : Int32} {σ : zS}  (h : Cz E Y_H_broken [.ref 0] σ (fun v σ1 => ∃ r : Int32, v = some (.int r) ∧ Cz E Y_M_broken [.ref 110] σ1 (fun v' σ2 => (∃ r2 : Int32, v' = some (.int r2)) ∧ Wx E YL 3476 [(0, .ref 1021), (1, .ref 0), (2, .ref 110), (3, .int i)] [] 215 215 100784 (zx σ2) (QL E bS L xs)))) : Wx E YL 1785 [(0, .ref 1021), (1, .ref 0), (2, .ref 110), (3, .int i)] [] 215 215 100784 (zx σ) (QL E bS L xs) := by
  refine y_aload_n (q := 1) d_L_1785 rfl rfl ?_
  refine lc_167 d_L_1786 (Nat.le_of_ble_eq_true rfl) rfl rfl (Cz.mono h ?_)
  rintro v σ1 ⟨r, rfl, h⟩
  show Wx E YL 1789 [(0, .ref 1021), (1, .ref 0), (2, .ref 110), (3, .int i)] [.int r] 215 215 100784 (zx σ1) _
  refine y_popi d_L_1789 ?_
  refine y_aload_n (q := 2) d_L_1790 rfl rfl ?_
  refine lc_170 d_L_1791 (Nat.le_of_ble_eq_true rfl) rfl rfl (Cz.mono h ?_)
  rintro v σ2 ⟨⟨r2, rfl⟩, h⟩
  show Wx E YL 1794 [(0, .ref 1021), (1, .ref 0), (2, .ref 110), (3, .int i)] [.int r2] 215 215 100784 (zx σ2) _
  refine y_popi d_L_1794 ?_
  exact y_goto (tgt := 3476) d_L_1795 h
theorem L_36 {E : xV} {bS L : Nat} {xs : Nat → Int32} {i : Int32} {σ : zS} (hv1 : vp_in (i + 1) L) (h : Cz E Y_H_breach [.ref 0, .int (xs (i + 1).toNatClampNeg)] σ (fun v σ1 => ∃ r : Int32, v = some (.int r) ∧ Cz E Y_M_breach [.ref 110, .int (xs (i + 1).toNatClampNeg)] σ1 (fun v' σ2 => (∃ r2 : Int32, v' = some (.int r2)) ∧ Wx E YL 3476 [(0, .ref 1021), (1, .ref 0), (2, .ref 110), (3, .int i)] [] 215 215 100784 (zx σ2) (QL E bS L xs)))) : Wx E YL 1798 [(0, .ref 1021), (1, .ref 0), (2, .ref 110), (3, .int i)] [] 215 215 100784 (zx σ) (QL E bS L xs) := by
  refine y_aload_n (q := 1) d_L_1798 rfl rfl ?_
  refine y_aload_n (q := 0) d_L_1799 rfl rfl ?_
  refine y_iload_n (q := 3) d_L_1800 rfl rfl ?_
  refine y_iconst (v := 1) d_L_1801 (by decide) ?_
  refine y_iadd d_L_1802 ?_
  refine l_ld hv1 d_L_1803 ?_
  refine lc_171 d_L_1804 (Nat.le_of_ble_eq_true rfl) rfl rfl (Cz.mono h ?_)
  rintro v σ1 ⟨r, rfl, h⟩
  show Wx E YL 1807 [(0, .ref 1021), (1, .ref 0), (2, .ref 110), (3, .int i)] [.int r] 215 215 100784 (zx σ1) _
  refine y_popi d_L_1807 ?_
  refine y_aload_n (q := 2) d_L_1808 rfl rfl ?_
  refine y_aload_n (q := 0) d_L_1809 rfl rfl ?_
  refine y_iload_n (q := 3) d_L_1810 rfl rfl ?_
  refine y_iconst (v := 1) d_L_1811 (by decide) ?_
  refine y_iadd d_L_1812 ?_
  refine l_ld hv1 d_L_1813 ?_
  refine lc_174 d_L_1814 (Nat.le_of_ble_eq_true rfl) rfl rfl (Cz.mono h ?_)
  rintro v σ2 ⟨⟨r2, rfl⟩, h⟩
  show Wx E YL 1817 [(0, .ref 1021), (1, .ref 0), (2, .ref 110), (3, .int i)] [.int r2] 215 215 100784 (zx σ2) _
  refine y_popi d_L_1817 ?_
  exact y_goto (tgt := 3476) d_L_1818 h
theorem L_37 {E : xV} {bS L : Nat} {xs : Nat → Int32} {i : Int32} {σ : zS} (hv1 : vp_in (i + 1) L) (h : Cz E Y_H_session [.ref 0, .int (xs (i + 1).toNatClampNeg)] σ (fun v σ1 => ∃ r : Int32, v = some (.int r) ∧ Cz E Y_M_session [.ref 110, .int (xs (i + 1).toNatClampNeg)] σ1 (fun v' σ2 => (∃ r2 : Int32, v' = some (.int r2)) ∧ Wx E YL 3476 [(0, .ref 1021), (1, .ref 0), (2, .ref 110), (3, .int i)] [] 215 215 100784 (zx σ2) (QL E bS L xs)))) : Wx E YL 1821 [(0, .ref 1021), (1, .ref 0), (2, .ref 110), (3, .int i)] [] 215 215 100784 (zx σ) (QL E bS L xs) := by
  refine y_aload_n (q := 1) d_L_1821 rfl rfl ?_
  refine y_aload_n (q := 0) d_L_1822 rfl rfl ?_
  refine y_iload_n (q := 3) d_L_1823 rfl rfl ?_
  refine y_iconst (v := 1) d_L_1824 (by decide) ?_
  refine y_iadd d_L_1825 ?_
  refine l_ld hv1 d_L_1826 ?_
  refine lc_175 d_L_1827 (Nat.le_of_ble_eq_true rfl) rfl rfl (Cz.mono h ?_)
  rintro v σ1 ⟨r, rfl, h⟩
  show Wx E YL 1830 [(0, .ref 1021), (1, .ref 0), (2, .ref 110), (3, .int i)] [.int r] 215 215 100784 (zx σ1) _
  refine y_popi d_L_1830 ?_
  refine y_aload_n (q := 2) d_L_1831 rfl rfl ?_
  refine y_aload_n (q := 0) d_L_1832 rfl rfl ?_
  refine y_iload_n (q := 3) d_L_1833 rfl rfl ?_
  refine y_iconst (v := 1) d_L_1834 (by decide) ?_
  refine y_iadd d_L_1835 ?_
  refine l_ld hv1 d_L_1836 ?_
  refine lc_178 d_L_1837 (Nat.le_of_ble_eq_true rfl) rfl rfl (Cz.mono h ?_)
  rintro v σ2 ⟨⟨r2, rfl⟩, h⟩
  show Wx E YL 1840 [(0, .ref 1021), (1, .ref 0), (2, .ref 110), (3, .int i)] [.int r2] 215 215 100784 (zx σ2) _
  refine y_popi d_L_1840 ?_
  exact y_goto (tgt := 3476) d_L_1841 h
theorem L_38 {E : xV} {bS L : Nat} {xs : Nat → Int32} {i : Int32} {σ : zS} (hv1 : vp_in (i + 1) L) (hv2 : vp_in (i + 2) L) (h : Cz E Y_H_switchOn [.ref 0, .int (xs (i + 1).toNatClampNeg), .int (xs (i + 2).toNatClampNeg)] σ (fun v σ1 => ∃ r : Int32, v = some (.int r) ∧ Cz E Y_M_switchOn [.ref 110, .int (xs (i + 1).toNatClampNeg), .int (xs (i + 2).toNatClampNeg)] σ1 (fun v' σ2 => (∃ r2 : Int32, v' = some (.int r2)) ∧ Wx E YL 3476 [(0, .ref 1021), (1, .ref 0), (2, .ref 110), (3, .int i)] [] 215 215 100784 (zx σ2) (QL E bS L xs)))) : Wx E YL 1844 [(0, .ref 1021), (1, .ref 0), (2, .ref 110), (3, .int i)] [] 215 215 100784 (zx σ) (QL E bS L xs) := by
  refine y_aload_n (q := 1) d_L_1844 rfl rfl ?_
  refine y_aload_n (q := 0) d_L_1845 rfl rfl ?_
  refine y_iload_n (q := 3) d_L_1846 rfl rfl ?_
  refine y_iconst (v := 1) d_L_1847 (by decide) ?_
  refine y_iadd d_L_1848 ?_
  refine l_ld hv1 d_L_1849 ?_
  refine y_aload_n (q := 0) d_L_1850 rfl rfl ?_
  refine y_iload_n (q := 3) d_L_1851 rfl rfl ?_
  refine y_iconst (v := 2) d_L_1852 (by decide) ?_
  refine y_iadd d_L_1853 ?_
  refine l_ld hv2 d_L_1854 ?_
  refine lc_179 d_L_1855 (Nat.le_of_ble_eq_true rfl) rfl rfl (Cz.mono h ?_)
  rintro v σ1 ⟨r, rfl, h⟩
  show Wx E YL 1858 [(0, .ref 1021), (1, .ref 0), (2, .ref 110), (3, .int i)] [.int r] 215 215 100784 (zx σ1) _
  refine y_popi d_L_1858 ?_
  refine y_aload_n (q := 2) d_L_1859 rfl rfl ?_
  refine y_aload_n (q := 0) d_L_1860 rfl rfl ?_
  refine y_iload_n (q := 3) d_L_1861 rfl rfl ?_
  refine y_iconst (v := 1) d_L_1862 (by decide) ?_
  refine y_iadd d_L_1863 ?_
  refine l_ld hv1 d_L_1864 ?_
  refine y_aload_n (q := 0) d_L_1865 rfl rfl ?_
  refine y_iload_n (q := 3) d_L_1866 rfl rfl ?_
  refine y_iconst (v := 2) d_L_1867 (by decide) ?_
  refine y_iadd d_L_1868 ?_
  refine l_ld hv2 d_L_1869 ?_
  refine lc_182 d_L_1870 (Nat.le_of_ble_eq_true rfl) rfl rfl (Cz.mono h ?_)
  rintro v σ2 ⟨⟨r2, rfl⟩, h⟩
  show Wx E YL 1873 [(0, .ref 1021), (1, .ref 0), (2, .ref 110), (3, .int i)] [.int r2] 215 215 100784 (zx σ2) _
  refine y_popi d_L_1873 ?_
  exact y_goto (tgt := 3476) d_L_1874 h
theorem L_39 {E : xV} {bS L : Nat} {xs : Nat → Int32} {i : Int32} {σ : zS} (hv1 : vp_in (i + 1) L) (hv2 : vp_in (i + 2) L) (h : Cz E Y_H_switchOff [.ref 0, .int (xs (i + 1).toNatClampNeg), .int (xs (i + 2).toNatClampNeg)] σ (fun v σ1 => ∃ r : Int32, v = some (.int r) ∧ Cz E Y_M_switchOff [.ref 110, .int (xs (i + 1).toNatClampNeg), .int (xs (i + 2).toNatClampNeg)] σ1 (fun v' σ2 => (∃ r2 : Int32, v' = some (.int r2)) ∧ Wx E YL 3476 [(0, .ref 1021), (1, .ref 0), (2, .ref 110), (3, .int i)] [] 215 215 100784 (zx σ2) (QL E bS L xs)))) : Wx E YL 1877 [(0, .ref 1021), (1, .ref 0), (2, .ref 110), (3, .int i)] [] 215 215 100784 (zx σ) (QL E bS L xs) := by
  refine y_aload_n (q := 1) d_L_1877 rfl rfl ?_
  refine y_aload_n (q := 0) d_L_1878 rfl rfl ?_
  refine y_iload_n (q := 3) d_L_1879 rfl rfl ?_
  refine y_iconst (v := 1) d_L_1880 (by decide) ?_
  refine y_iadd d_L_1881 ?_
  refine l_ld hv1 d_L_1882 ?_
  refine y_aload_n (q := 0) d_L_1883 rfl rfl ?_
  refine y_iload_n (q := 3) d_L_1884 rfl rfl ?_
  refine y_iconst (v := 2) d_L_1885 (by decide) ?_
  refine y_iadd d_L_1886 ?_
  refine l_ld hv2 d_L_1887 ?_
  refine lc_183 d_L_1888 (Nat.le_of_ble_eq_true rfl) rfl rfl (Cz.mono h ?_)
  rintro v σ1 ⟨r, rfl, h⟩
  show Wx E YL 1891 [(0, .ref 1021), (1, .ref 0), (2, .ref 110), (3, .int i)] [.int r] 215 215 100784 (zx σ1) _
  refine y_popi d_L_1891 ?_
  refine y_aload_n (q := 2) d_L_1892 rfl rfl ?_
  refine y_aload_n (q := 0) d_L_1893 rfl rfl ?_
  refine y_iload_n (q := 3) d_L_1894 rfl rfl ?_
  refine y_iconst (v := 1) d_L_1895 (by decide) ?_
  refine y_iadd d_L_1896 ?_
  refine l_ld hv1 d_L_1897 ?_
  refine y_aload_n (q := 0) d_L_1898 rfl rfl ?_
  refine y_iload_n (q := 3) d_L_1899 rfl rfl ?_
  refine y_iconst (v := 2) d_L_1900 (by decide) ?_
  refine y_iadd d_L_1901 ?_
  refine l_ld hv2 d_L_1902 ?_
  refine lc_186 d_L_1903 (Nat.le_of_ble_eq_true rfl) rfl rfl (Cz.mono h ?_)
  rintro v σ2 ⟨⟨r2, rfl⟩, h⟩
  show Wx E YL 1906 [(0, .ref 1021), (1, .ref 0), (2, .ref 110), (3, .int i)] [.int r2] 215 215 100784 (zx σ2) _
  refine y_popi d_L_1906 ?_
  exact y_goto (tgt := 3476) d_L_1907 h
theorem L_40 {E : xV} {bS L : Nat} {xs : Nat → Int32} {i : Int32} {σ : zS} (hv1 : vp_in (i + 1) L) (hv2 : vp_in (i + 2) L) (hv3 : vp_in (i + 3) L) (h : Cz E Y_H_askIn [.ref 0, .int (xs (i + 1).toNatClampNeg), .int (xs (i + 2).toNatClampNeg), .int (xs (i + 3).toNatClampNeg)] σ (fun v σ1 => ∃ r : Int32, v = some (.int r) ∧ Cz E Y_M_askIn [.ref 110, .int (xs (i + 1).toNatClampNeg), .int (xs (i + 2).toNatClampNeg), .int (xs (i + 3).toNatClampNeg)] σ1 (fun v' σ2 => (∃ r2 : Int32, v' = some (.int r2)) ∧ Wx E YL 3476 [(0, .ref 1021), (1, .ref 0), (2, .ref 110), (3, .int i)] [] 215 215 100784 (zx σ2) (QL E bS L xs)))) : Wx E YL 1910 [(0, .ref 1021), (1, .ref 0), (2, .ref 110), (3, .int i)] [] 215 215 100784 (zx σ) (QL E bS L xs) := by
  refine y_aload_n (q := 1) d_L_1910 rfl rfl ?_
  refine y_aload_n (q := 0) d_L_1911 rfl rfl ?_
  refine y_iload_n (q := 3) d_L_1912 rfl rfl ?_
  refine y_iconst (v := 1) d_L_1913 (by decide) ?_
  refine y_iadd d_L_1914 ?_
  refine l_ld hv1 d_L_1915 ?_
  refine y_aload_n (q := 0) d_L_1916 rfl rfl ?_
  refine y_iload_n (q := 3) d_L_1917 rfl rfl ?_
  refine y_iconst (v := 2) d_L_1918 (by decide) ?_
  refine y_iadd d_L_1919 ?_
  refine l_ld hv2 d_L_1920 ?_
  refine y_aload_n (q := 0) d_L_1921 rfl rfl ?_
  refine y_iload_n (q := 3) d_L_1922 rfl rfl ?_
  refine y_iconst (v := 3) d_L_1923 (by decide) ?_
  refine y_iadd d_L_1924 ?_
  refine l_ld hv3 d_L_1925 ?_
  refine lc_187 d_L_1926 (Nat.le_of_ble_eq_true rfl) rfl rfl (Cz.mono h ?_)
  rintro v σ1 ⟨r, rfl, h⟩
  show Wx E YL 1929 [(0, .ref 1021), (1, .ref 0), (2, .ref 110), (3, .int i)] [.int r] 215 215 100784 (zx σ1) _
  refine y_popi d_L_1929 ?_
  refine y_aload_n (q := 2) d_L_1930 rfl rfl ?_
  refine y_aload_n (q := 0) d_L_1931 rfl rfl ?_
  refine y_iload_n (q := 3) d_L_1932 rfl rfl ?_
  refine y_iconst (v := 1) d_L_1933 (by decide) ?_
  refine y_iadd d_L_1934 ?_
  refine l_ld hv1 d_L_1935 ?_
  refine y_aload_n (q := 0) d_L_1936 rfl rfl ?_
  refine y_iload_n (q := 3) d_L_1937 rfl rfl ?_
  refine y_iconst (v := 2) d_L_1938 (by decide) ?_
  refine y_iadd d_L_1939 ?_
  refine l_ld hv2 d_L_1940 ?_
  refine y_aload_n (q := 0) d_L_1941 rfl rfl ?_
  refine y_iload_n (q := 3) d_L_1942 rfl rfl ?_
  refine y_iconst (v := 3) d_L_1943 (by decide) ?_
  refine y_iadd d_L_1944 ?_
  refine l_ld hv3 d_L_1945 ?_
  refine lc_190 d_L_1946 (Nat.le_of_ble_eq_true rfl) rfl rfl (Cz.mono h ?_)
  rintro v σ2 ⟨⟨r2, rfl⟩, h⟩
  show Wx E YL 1949 [(0, .ref 1021), (1, .ref 0), (2, .ref 110), (3, .int i)] [.int r2] 215 215 100784 (zx σ2) _
  refine y_popi d_L_1949 ?_
  exact y_goto (tgt := 3476) d_L_1950 h
theorem L_41 {E : xV} {bS L : Nat} {xs : Nat → Int32} {i : Int32} {σ : zS}  (h : Cz E Y_H_work [.ref 0] σ (fun v σ1 => ∃ r : Int32, v = some (.int r) ∧ Cz E Y_M_work [.ref 110] σ1 (fun v' σ2 => (∃ r2 : Int32, v' = some (.int r2)) ∧ Wx E YL 3476 [(0, .ref 1021), (1, .ref 0), (2, .ref 110), (3, .int i)] [] 215 215 100784 (zx σ2) (QL E bS L xs)))) : Wx E YL 1953 [(0, .ref 1021), (1, .ref 0), (2, .ref 110), (3, .int i)] [] 215 215 100784 (zx σ) (QL E bS L xs) := by
  refine y_aload_n (q := 1) d_L_1953 rfl rfl ?_
  refine lc_191 d_L_1954 (Nat.le_of_ble_eq_true rfl) rfl rfl (Cz.mono h ?_)
  rintro v σ1 ⟨r, rfl, h⟩
  show Wx E YL 1957 [(0, .ref 1021), (1, .ref 0), (2, .ref 110), (3, .int i)] [.int r] 215 215 100784 (zx σ1) _
  refine y_popi d_L_1957 ?_
  refine y_aload_n (q := 2) d_L_1958 rfl rfl ?_
  refine lc_194 d_L_1959 (Nat.le_of_ble_eq_true rfl) rfl rfl (Cz.mono h ?_)
  rintro v σ2 ⟨⟨r2, rfl⟩, h⟩
  show Wx E YL 1962 [(0, .ref 1021), (1, .ref 0), (2, .ref 110), (3, .int i)] [.int r2] 215 215 100784 (zx σ2) _
  refine y_popi d_L_1962 ?_
  exact y_goto (tgt := 3476) d_L_1963 h
theorem L_42 {E : xV} {bS L : Nat} {xs : Nat → Int32} {i : Int32} {σ : zS} (hv1 : vp_in (i + 1) L) (hv2 : vp_in (i + 2) L) (h : Cz E Y_H_step [.ref 0, .int (xs (i + 1).toNatClampNeg), .int (xs (i + 2).toNatClampNeg)] σ (fun v σ1 => ∃ r : Int32, v = some (.int r) ∧ Cz E Y_M_step [.ref 110, .int (xs (i + 1).toNatClampNeg), .int (xs (i + 2).toNatClampNeg)] σ1 (fun v' σ2 => (∃ r2 : Int32, v' = some (.int r2)) ∧ Wx E YL 3476 [(0, .ref 1021), (1, .ref 0), (2, .ref 110), (3, .int i)] [] 215 215 100784 (zx σ2) (QL E bS L xs)))) : Wx E YL 1966 [(0, .ref 1021), (1, .ref 0), (2, .ref 110), (3, .int i)] [] 215 215 100784 (zx σ) (QL E bS L xs) := by
  refine y_aload_n (q := 1) d_L_1966 rfl rfl ?_
  refine y_aload_n (q := 0) d_L_1967 rfl rfl ?_
  refine y_iload_n (q := 3) d_L_1968 rfl rfl ?_
  refine y_iconst (v := 1) d_L_1969 (by decide) ?_
  refine y_iadd d_L_1970 ?_
  refine l_ld hv1 d_L_1971 ?_
  refine y_aload_n (q := 0) d_L_1972 rfl rfl ?_
  refine y_iload_n (q := 3) d_L_1973 rfl rfl ?_
  refine y_iconst (v := 2) d_L_1974 (by decide) ?_
  refine y_iadd d_L_1975 ?_
  refine l_ld hv2 d_L_1976 ?_
  refine lc_195 d_L_1977 (Nat.le_of_ble_eq_true rfl) rfl rfl (Cz.mono h ?_)
  rintro v σ1 ⟨r, rfl, h⟩
  show Wx E YL 1980 [(0, .ref 1021), (1, .ref 0), (2, .ref 110), (3, .int i)] [.int r] 215 215 100784 (zx σ1) _
  refine y_popi d_L_1980 ?_
  refine y_aload_n (q := 2) d_L_1981 rfl rfl ?_
  refine y_aload_n (q := 0) d_L_1982 rfl rfl ?_
  refine y_iload_n (q := 3) d_L_1983 rfl rfl ?_
  refine y_iconst (v := 1) d_L_1984 (by decide) ?_
  refine y_iadd d_L_1985 ?_
  refine l_ld hv1 d_L_1986 ?_
  refine y_aload_n (q := 0) d_L_1987 rfl rfl ?_
  refine y_iload_n (q := 3) d_L_1988 rfl rfl ?_
  refine y_iconst (v := 2) d_L_1989 (by decide) ?_
  refine y_iadd d_L_1990 ?_
  refine l_ld hv2 d_L_1991 ?_
  refine lc_198 d_L_1992 (Nat.le_of_ble_eq_true rfl) rfl rfl (Cz.mono h ?_)
  rintro v σ2 ⟨⟨r2, rfl⟩, h⟩
  show Wx E YL 1995 [(0, .ref 1021), (1, .ref 0), (2, .ref 110), (3, .int i)] [.int r2] 215 215 100784 (zx σ2) _
  refine y_popi d_L_1995 ?_
  exact y_goto (tgt := 3476) d_L_1996 h
theorem L_43 {E : xV} {bS L : Nat} {xs : Nat → Int32} {i : Int32} {σ : zS} (hv1 : vp_in (i + 1) L) (hv2 : vp_in (i + 2) L) (hv3 : vp_in (i + 3) L) (hv4 : vp_in (i + 4) L) (h : Cz E Y_H_tie [.ref 0, .int (xs (i + 1).toNatClampNeg), .int (xs (i + 2).toNatClampNeg), .int (xs (i + 3).toNatClampNeg), .int (xs (i + 4).toNatClampNeg)] σ (fun v σ1 => ∃ r : Int32, v = some (.int r) ∧ Cz E Y_M_tie [.ref 110, .int (xs (i + 1).toNatClampNeg), .int (xs (i + 2).toNatClampNeg), .int (xs (i + 3).toNatClampNeg), .int (xs (i + 4).toNatClampNeg)] σ1 (fun v' σ2 => (∃ r2 : Int32, v' = some (.int r2)) ∧ Wx E YL 3476 [(0, .ref 1021), (1, .ref 0), (2, .ref 110), (3, .int i)] [] 215 215 100784 (zx σ2) (QL E bS L xs)))) : Wx E YL 1999 [(0, .ref 1021), (1, .ref 0), (2, .ref 110), (3, .int i)] [] 215 215 100784 (zx σ) (QL E bS L xs) := by
  refine y_aload_n (q := 1) d_L_1999 rfl rfl ?_
  refine y_aload_n (q := 0) d_L_2000 rfl rfl ?_
  refine y_iload_n (q := 3) d_L_2001 rfl rfl ?_
  refine y_iconst (v := 1) d_L_2002 (by decide) ?_
  refine y_iadd d_L_2003 ?_
  refine l_ld hv1 d_L_2004 ?_
  refine y_aload_n (q := 0) d_L_2005 rfl rfl ?_
  refine y_iload_n (q := 3) d_L_2006 rfl rfl ?_
  refine y_iconst (v := 2) d_L_2007 (by decide) ?_
  refine y_iadd d_L_2008 ?_
  refine l_ld hv2 d_L_2009 ?_
  refine y_aload_n (q := 0) d_L_2010 rfl rfl ?_
  refine y_iload_n (q := 3) d_L_2011 rfl rfl ?_
  refine y_iconst (v := 3) d_L_2012 (by decide) ?_
  refine y_iadd d_L_2013 ?_
  refine l_ld hv3 d_L_2014 ?_
  refine y_aload_n (q := 0) d_L_2015 rfl rfl ?_
  refine y_iload_n (q := 3) d_L_2016 rfl rfl ?_
  refine y_iconst (v := 4) d_L_2017 (by decide) ?_
  refine y_iadd d_L_2018 ?_
  refine l_ld hv4 d_L_2019 ?_
  refine lc_199 d_L_2020 (Nat.le_of_ble_eq_true rfl) rfl rfl (Cz.mono h ?_)
  rintro v σ1 ⟨r, rfl, h⟩
  show Wx E YL 2023 [(0, .ref 1021), (1, .ref 0), (2, .ref 110), (3, .int i)] [.int r] 215 215 100784 (zx σ1) _
  refine y_popi d_L_2023 ?_
  refine y_aload_n (q := 2) d_L_2024 rfl rfl ?_
  refine y_aload_n (q := 0) d_L_2025 rfl rfl ?_
  refine y_iload_n (q := 3) d_L_2026 rfl rfl ?_
  refine y_iconst (v := 1) d_L_2027 (by decide) ?_
  refine y_iadd d_L_2028 ?_
  refine l_ld hv1 d_L_2029 ?_
  refine y_aload_n (q := 0) d_L_2030 rfl rfl ?_
  refine y_iload_n (q := 3) d_L_2031 rfl rfl ?_
  refine y_iconst (v := 2) d_L_2032 (by decide) ?_
  refine y_iadd d_L_2033 ?_
  refine l_ld hv2 d_L_2034 ?_
  refine y_aload_n (q := 0) d_L_2035 rfl rfl ?_
  refine y_iload_n (q := 3) d_L_2036 rfl rfl ?_
  refine y_iconst (v := 3) d_L_2037 (by decide) ?_
  refine y_iadd d_L_2038 ?_
  refine l_ld hv3 d_L_2039 ?_
  refine y_aload_n (q := 0) d_L_2040 rfl rfl ?_
  refine y_iload_n (q := 3) d_L_2041 rfl rfl ?_
  refine y_iconst (v := 4) d_L_2042 (by decide) ?_
  refine y_iadd d_L_2043 ?_
  refine l_ld hv4 d_L_2044 ?_
  refine lc_202 d_L_2045 (Nat.le_of_ble_eq_true rfl) rfl rfl (Cz.mono h ?_)
  rintro v σ2 ⟨⟨r2, rfl⟩, h⟩
  show Wx E YL 2048 [(0, .ref 1021), (1, .ref 0), (2, .ref 110), (3, .int i)] [.int r2] 215 215 100784 (zx σ2) _
  refine y_popi d_L_2048 ?_
  exact y_goto (tgt := 3476) d_L_2049 h
theorem L_44 {E : xV} {bS L : Nat} {xs : Nat → Int32} {i : Int32} {σ : zS} (hv1 : vp_in (i + 1) L) (hv2 : vp_in (i + 2) L) (h : Cz E Y_H_fill [.ref 0, .int (xs (i + 1).toNatClampNeg), .int (xs (i + 2).toNatClampNeg)] σ (fun v σ1 => ∃ r : Int32, v = some (.int r) ∧ Cz E Y_M_fill [.ref 110, .int (xs (i + 1).toNatClampNeg), .int (xs (i + 2).toNatClampNeg)] σ1 (fun v' σ2 => (∃ r2 : Int32, v' = some (.int r2)) ∧ Wx E YL 3476 [(0, .ref 1021), (1, .ref 0), (2, .ref 110), (3, .int i)] [] 215 215 100784 (zx σ2) (QL E bS L xs)))) : Wx E YL 2052 [(0, .ref 1021), (1, .ref 0), (2, .ref 110), (3, .int i)] [] 215 215 100784 (zx σ) (QL E bS L xs) := by
  refine y_aload_n (q := 1) d_L_2052 rfl rfl ?_
  refine y_aload_n (q := 0) d_L_2053 rfl rfl ?_
  refine y_iload_n (q := 3) d_L_2054 rfl rfl ?_
  refine y_iconst (v := 1) d_L_2055 (by decide) ?_
  refine y_iadd d_L_2056 ?_
  refine l_ld hv1 d_L_2057 ?_
  refine y_aload_n (q := 0) d_L_2058 rfl rfl ?_
  refine y_iload_n (q := 3) d_L_2059 rfl rfl ?_
  refine y_iconst (v := 2) d_L_2060 (by decide) ?_
  refine y_iadd d_L_2061 ?_
  refine l_ld hv2 d_L_2062 ?_
  refine lc_203 d_L_2063 (Nat.le_of_ble_eq_true rfl) rfl rfl (Cz.mono h ?_)
  rintro v σ1 ⟨r, rfl, h⟩
  show Wx E YL 2066 [(0, .ref 1021), (1, .ref 0), (2, .ref 110), (3, .int i)] [.int r] 215 215 100784 (zx σ1) _
  refine y_popi d_L_2066 ?_
  refine y_aload_n (q := 2) d_L_2067 rfl rfl ?_
  refine y_aload_n (q := 0) d_L_2068 rfl rfl ?_
  refine y_iload_n (q := 3) d_L_2069 rfl rfl ?_
  refine y_iconst (v := 1) d_L_2070 (by decide) ?_
  refine y_iadd d_L_2071 ?_
  refine l_ld hv1 d_L_2072 ?_
  refine y_aload_n (q := 0) d_L_2073 rfl rfl ?_
  refine y_iload_n (q := 3) d_L_2074 rfl rfl ?_
  refine y_iconst (v := 2) d_L_2075 (by decide) ?_
  refine y_iadd d_L_2076 ?_
  refine l_ld hv2 d_L_2077 ?_
  refine lc_206 d_L_2078 (Nat.le_of_ble_eq_true rfl) rfl rfl (Cz.mono h ?_)
  rintro v σ2 ⟨⟨r2, rfl⟩, h⟩
  show Wx E YL 2081 [(0, .ref 1021), (1, .ref 0), (2, .ref 110), (3, .int i)] [.int r2] 215 215 100784 (zx σ2) _
  refine y_popi d_L_2081 ?_
  exact y_goto (tgt := 3476) d_L_2082 h
theorem L_45 {E : xV} {bS L : Nat} {xs : Nat → Int32} {i : Int32} {σ : zS} (hv1 : vp_in (i + 1) L) (hv2 : vp_in (i + 2) L) (h : Cz E Y_H_filled [.ref 0, .int (xs (i + 1).toNatClampNeg), .int (xs (i + 2).toNatClampNeg)] σ (fun v σ1 => ∃ r : Int32, v = some (.int r) ∧ Cz E Y_M_filled [.ref 110, .int (xs (i + 1).toNatClampNeg), .int (xs (i + 2).toNatClampNeg)] σ1 (fun v' σ2 => (∃ r2 : Int32, v' = some (.int r2)) ∧ Wx E YL 3476 [(0, .ref 1021), (1, .ref 0), (2, .ref 110), (3, .int i)] [] 215 215 100784 (zx σ2) (QL E bS L xs)))) : Wx E YL 2085 [(0, .ref 1021), (1, .ref 0), (2, .ref 110), (3, .int i)] [] 215 215 100784 (zx σ) (QL E bS L xs) := by
  refine y_aload_n (q := 1) d_L_2085 rfl rfl ?_
  refine y_aload_n (q := 0) d_L_2086 rfl rfl ?_
  refine y_iload_n (q := 3) d_L_2087 rfl rfl ?_
  refine y_iconst (v := 1) d_L_2088 (by decide) ?_
  refine y_iadd d_L_2089 ?_
  refine l_ld hv1 d_L_2090 ?_
  refine y_aload_n (q := 0) d_L_2091 rfl rfl ?_
  refine y_iload_n (q := 3) d_L_2092 rfl rfl ?_
  refine y_iconst (v := 2) d_L_2093 (by decide) ?_
  refine y_iadd d_L_2094 ?_
  refine l_ld hv2 d_L_2095 ?_
  refine lc_207 d_L_2096 (Nat.le_of_ble_eq_true rfl) rfl rfl (Cz.mono h ?_)
  rintro v σ1 ⟨r, rfl, h⟩
  show Wx E YL 2099 [(0, .ref 1021), (1, .ref 0), (2, .ref 110), (3, .int i)] [.int r] 215 215 100784 (zx σ1) _
  refine y_popi d_L_2099 ?_
  refine y_aload_n (q := 2) d_L_2100 rfl rfl ?_
  refine y_aload_n (q := 0) d_L_2101 rfl rfl ?_
  refine y_iload_n (q := 3) d_L_2102 rfl rfl ?_
  refine y_iconst (v := 1) d_L_2103 (by decide) ?_
  refine y_iadd d_L_2104 ?_
  refine l_ld hv1 d_L_2105 ?_
  refine y_aload_n (q := 0) d_L_2106 rfl rfl ?_
  refine y_iload_n (q := 3) d_L_2107 rfl rfl ?_
  refine y_iconst (v := 2) d_L_2108 (by decide) ?_
  refine y_iadd d_L_2109 ?_
  refine l_ld hv2 d_L_2110 ?_
  refine lc_210 d_L_2111 (Nat.le_of_ble_eq_true rfl) rfl rfl (Cz.mono h ?_)
  rintro v σ2 ⟨⟨r2, rfl⟩, h⟩
  show Wx E YL 2114 [(0, .ref 1021), (1, .ref 0), (2, .ref 110), (3, .int i)] [.int r2] 215 215 100784 (zx σ2) _
  refine y_popi d_L_2114 ?_
  exact y_goto (tgt := 3476) d_L_2115 h
theorem L_46 {E : xV} {bS L : Nat} {xs : Nat → Int32} {i : Int32} {σ : zS} (hv1 : vp_in (i + 1) L) (hv2 : vp_in (i + 2) L) (hv3 : vp_in (i + 3) L) (hv4 : vp_in (i + 4) L) (h : Cz E Y_H_next [.ref 0, .int (xs (i + 1).toNatClampNeg), .int (xs (i + 2).toNatClampNeg), .int (xs (i + 3).toNatClampNeg), .int (xs (i + 4).toNatClampNeg)] σ (fun v σ1 => ∃ r : Int32, v = some (.int r) ∧ Cz E Y_M_next [.ref 110, .int (xs (i + 1).toNatClampNeg), .int (xs (i + 2).toNatClampNeg), .int (xs (i + 3).toNatClampNeg), .int (xs (i + 4).toNatClampNeg)] σ1 (fun v' σ2 => (∃ r2 : Int32, v' = some (.int r2)) ∧ Wx E YL 3476 [(0, .ref 1021), (1, .ref 0), (2, .ref 110), (3, .int i)] [] 215 215 100784 (zx σ2) (QL E bS L xs)))) : Wx E YL 2118 [(0, .ref 1021), (1, .ref 0), (2, .ref 110), (3, .int i)] [] 215 215 100784 (zx σ) (QL E bS L xs) := by
  refine y_aload_n (q := 1) d_L_2118 rfl rfl ?_
  refine y_aload_n (q := 0) d_L_2119 rfl rfl ?_
  refine y_iload_n (q := 3) d_L_2120 rfl rfl ?_
  refine y_iconst (v := 1) d_L_2121 (by decide) ?_
  refine y_iadd d_L_2122 ?_
  refine l_ld hv1 d_L_2123 ?_
  refine y_aload_n (q := 0) d_L_2124 rfl rfl ?_
  refine y_iload_n (q := 3) d_L_2125 rfl rfl ?_
  refine y_iconst (v := 2) d_L_2126 (by decide) ?_
  refine y_iadd d_L_2127 ?_
  refine l_ld hv2 d_L_2128 ?_
  refine y_aload_n (q := 0) d_L_2129 rfl rfl ?_
  refine y_iload_n (q := 3) d_L_2130 rfl rfl ?_
  refine y_iconst (v := 3) d_L_2131 (by decide) ?_
  refine y_iadd d_L_2132 ?_
  refine l_ld hv3 d_L_2133 ?_
  refine y_aload_n (q := 0) d_L_2134 rfl rfl ?_
  refine y_iload_n (q := 3) d_L_2135 rfl rfl ?_
  refine y_iconst (v := 4) d_L_2136 (by decide) ?_
  refine y_iadd d_L_2137 ?_
  refine l_ld hv4 d_L_2138 ?_
  refine lc_211 d_L_2139 (Nat.le_of_ble_eq_true rfl) rfl rfl (Cz.mono h ?_)
  rintro v σ1 ⟨r, rfl, h⟩
  show Wx E YL 2142 [(0, .ref 1021), (1, .ref 0), (2, .ref 110), (3, .int i)] [.int r] 215 215 100784 (zx σ1) _
  refine y_popi d_L_2142 ?_
  refine y_aload_n (q := 2) d_L_2143 rfl rfl ?_
  refine y_aload_n (q := 0) d_L_2144 rfl rfl ?_
  refine y_iload_n (q := 3) d_L_2145 rfl rfl ?_
  refine y_iconst (v := 1) d_L_2146 (by decide) ?_
  refine y_iadd d_L_2147 ?_
  refine l_ld hv1 d_L_2148 ?_
  refine y_aload_n (q := 0) d_L_2149 rfl rfl ?_
  refine y_iload_n (q := 3) d_L_2150 rfl rfl ?_
  refine y_iconst (v := 2) d_L_2151 (by decide) ?_
  refine y_iadd d_L_2152 ?_
  refine l_ld hv2 d_L_2153 ?_
  refine y_aload_n (q := 0) d_L_2154 rfl rfl ?_
  refine y_iload_n (q := 3) d_L_2155 rfl rfl ?_
  refine y_iconst (v := 3) d_L_2156 (by decide) ?_
  refine y_iadd d_L_2157 ?_
  refine l_ld hv3 d_L_2158 ?_
  refine y_aload_n (q := 0) d_L_2159 rfl rfl ?_
  refine y_iload_n (q := 3) d_L_2160 rfl rfl ?_
  refine y_iconst (v := 4) d_L_2161 (by decide) ?_
  refine y_iadd d_L_2162 ?_
  refine l_ld hv4 d_L_2163 ?_
  refine lc_214 d_L_2164 (Nat.le_of_ble_eq_true rfl) rfl rfl (Cz.mono h ?_)
  rintro v σ2 ⟨⟨r2, rfl⟩, h⟩
  show Wx E YL 2167 [(0, .ref 1021), (1, .ref 0), (2, .ref 110), (3, .int i)] [.int r2] 215 215 100784 (zx σ2) _
  refine y_popi d_L_2167 ?_
  exact y_goto (tgt := 3476) d_L_2168 h
theorem L_47 {E : xV} {bS L : Nat} {xs : Nat → Int32} {i : Int32} {σ : zS} (hv1 : vp_in (i + 1) L) (hv2 : vp_in (i + 2) L) (hv3 : vp_in (i + 3) L) (hv4 : vp_in (i + 4) L) (h : Cz E Y_H_perform [.ref 0, .int (xs (i + 1).toNatClampNeg), .int (xs (i + 2).toNatClampNeg), .int (xs (i + 3).toNatClampNeg), .int (xs (i + 4).toNatClampNeg)] σ (fun v σ1 => ∃ r : Int32, v = some (.int r) ∧ Cz E Y_M_perform [.ref 110, .int (xs (i + 1).toNatClampNeg), .int (xs (i + 2).toNatClampNeg), .int (xs (i + 3).toNatClampNeg), .int (xs (i + 4).toNatClampNeg)] σ1 (fun v' σ2 => (∃ r2 : Int32, v' = some (.int r2)) ∧ Wx E YL 3476 [(0, .ref 1021), (1, .ref 0), (2, .ref 110), (3, .int i)] [] 215 215 100784 (zx σ2) (QL E bS L xs)))) : Wx E YL 2171 [(0, .ref 1021), (1, .ref 0), (2, .ref 110), (3, .int i)] [] 215 215 100784 (zx σ) (QL E bS L xs) := by
  refine y_aload_n (q := 1) d_L_2171 rfl rfl ?_
  refine y_aload_n (q := 0) d_L_2172 rfl rfl ?_
  refine y_iload_n (q := 3) d_L_2173 rfl rfl ?_
  refine y_iconst (v := 1) d_L_2174 (by decide) ?_
  refine y_iadd d_L_2175 ?_
  refine l_ld hv1 d_L_2176 ?_
  refine y_aload_n (q := 0) d_L_2177 rfl rfl ?_
  refine y_iload_n (q := 3) d_L_2178 rfl rfl ?_
  refine y_iconst (v := 2) d_L_2179 (by decide) ?_
  refine y_iadd d_L_2180 ?_
  refine l_ld hv2 d_L_2181 ?_
  refine y_aload_n (q := 0) d_L_2182 rfl rfl ?_
  refine y_iload_n (q := 3) d_L_2183 rfl rfl ?_
  refine y_iconst (v := 3) d_L_2184 (by decide) ?_
  refine y_iadd d_L_2185 ?_
  refine l_ld hv3 d_L_2186 ?_
  refine y_aload_n (q := 0) d_L_2187 rfl rfl ?_
  refine y_iload_n (q := 3) d_L_2188 rfl rfl ?_
  refine y_iconst (v := 4) d_L_2189 (by decide) ?_
  refine y_iadd d_L_2190 ?_
  refine l_ld hv4 d_L_2191 ?_
  refine lc_215 d_L_2192 (Nat.le_of_ble_eq_true rfl) rfl rfl (Cz.mono h ?_)
  rintro v σ1 ⟨r, rfl, h⟩
  show Wx E YL 2195 [(0, .ref 1021), (1, .ref 0), (2, .ref 110), (3, .int i)] [.int r] 215 215 100784 (zx σ1) _
  refine y_popi d_L_2195 ?_
  refine y_aload_n (q := 2) d_L_2196 rfl rfl ?_
  refine y_aload_n (q := 0) d_L_2197 rfl rfl ?_
  refine y_iload_n (q := 3) d_L_2198 rfl rfl ?_
  refine y_iconst (v := 1) d_L_2199 (by decide) ?_
  refine y_iadd d_L_2200 ?_
  refine l_ld hv1 d_L_2201 ?_
  refine y_aload_n (q := 0) d_L_2202 rfl rfl ?_
  refine y_iload_n (q := 3) d_L_2203 rfl rfl ?_
  refine y_iconst (v := 2) d_L_2204 (by decide) ?_
  refine y_iadd d_L_2205 ?_
  refine l_ld hv2 d_L_2206 ?_
  refine y_aload_n (q := 0) d_L_2207 rfl rfl ?_
  refine y_iload_n (q := 3) d_L_2208 rfl rfl ?_
  refine y_iconst (v := 3) d_L_2209 (by decide) ?_
  refine y_iadd d_L_2210 ?_
  refine l_ld hv3 d_L_2211 ?_
  refine y_aload_n (q := 0) d_L_2212 rfl rfl ?_
  refine y_iload_n (q := 3) d_L_2213 rfl rfl ?_
  refine y_iconst (v := 4) d_L_2214 (by decide) ?_
  refine y_iadd d_L_2215 ?_
  refine l_ld hv4 d_L_2216 ?_
  refine lc_218 d_L_2217 (Nat.le_of_ble_eq_true rfl) rfl rfl (Cz.mono h ?_)
  rintro v σ2 ⟨⟨r2, rfl⟩, h⟩
  show Wx E YL 2220 [(0, .ref 1021), (1, .ref 0), (2, .ref 110), (3, .int i)] [.int r2] 215 215 100784 (zx σ2) _
  refine y_popi d_L_2220 ?_
  exact y_goto (tgt := 3476) d_L_2221 h
theorem L_48 {E : xV} {bS L : Nat} {xs : Nat → Int32} {i : Int32} {σ : zS} (hv1 : vp_in (i + 1) L) (hv2 : vp_in (i + 2) L) (hv3 : vp_in (i + 3) L) (h : Cz E Y_H_needed [.ref 0, .int (xs (i + 1).toNatClampNeg), .int (xs (i + 2).toNatClampNeg), .int (xs (i + 3).toNatClampNeg)] σ (fun v σ1 => ∃ r : Int32, v = some (.int r) ∧ Cz E Y_M_needed [.ref 110, .int (xs (i + 1).toNatClampNeg), .int (xs (i + 2).toNatClampNeg), .int (xs (i + 3).toNatClampNeg)] σ1 (fun v' σ2 => (∃ r2 : Int32, v' = some (.int r2)) ∧ Wx E YL 3476 [(0, .ref 1021), (1, .ref 0), (2, .ref 110), (3, .int i)] [] 215 215 100784 (zx σ2) (QL E bS L xs)))) : Wx E YL 2224 [(0, .ref 1021), (1, .ref 0), (2, .ref 110), (3, .int i)] [] 215 215 100784 (zx σ) (QL E bS L xs) := by
  refine y_aload_n (q := 1) d_L_2224 rfl rfl ?_
  refine y_aload_n (q := 0) d_L_2225 rfl rfl ?_
  refine y_iload_n (q := 3) d_L_2226 rfl rfl ?_
  refine y_iconst (v := 1) d_L_2227 (by decide) ?_
  refine y_iadd d_L_2228 ?_
  refine l_ld hv1 d_L_2229 ?_
  refine y_aload_n (q := 0) d_L_2230 rfl rfl ?_
  refine y_iload_n (q := 3) d_L_2231 rfl rfl ?_
  refine y_iconst (v := 2) d_L_2232 (by decide) ?_
  refine y_iadd d_L_2233 ?_
  refine l_ld hv2 d_L_2234 ?_
  refine y_aload_n (q := 0) d_L_2235 rfl rfl ?_
  refine y_iload_n (q := 3) d_L_2236 rfl rfl ?_
  refine y_iconst (v := 3) d_L_2237 (by decide) ?_
  refine y_iadd d_L_2238 ?_
  refine l_ld hv3 d_L_2239 ?_
  refine lc_219 d_L_2240 (Nat.le_of_ble_eq_true rfl) rfl rfl (Cz.mono h ?_)
  rintro v σ1 ⟨r, rfl, h⟩
  show Wx E YL 2243 [(0, .ref 1021), (1, .ref 0), (2, .ref 110), (3, .int i)] [.int r] 215 215 100784 (zx σ1) _
  refine y_popi d_L_2243 ?_
  refine y_aload_n (q := 2) d_L_2244 rfl rfl ?_
  refine y_aload_n (q := 0) d_L_2245 rfl rfl ?_
  refine y_iload_n (q := 3) d_L_2246 rfl rfl ?_
  refine y_iconst (v := 1) d_L_2247 (by decide) ?_
  refine y_iadd d_L_2248 ?_
  refine l_ld hv1 d_L_2249 ?_
  refine y_aload_n (q := 0) d_L_2250 rfl rfl ?_
  refine y_iload_n (q := 3) d_L_2251 rfl rfl ?_
  refine y_iconst (v := 2) d_L_2252 (by decide) ?_
  refine y_iadd d_L_2253 ?_
  refine l_ld hv2 d_L_2254 ?_
  refine y_aload_n (q := 0) d_L_2255 rfl rfl ?_
  refine y_iload_n (q := 3) d_L_2256 rfl rfl ?_
  refine y_iconst (v := 3) d_L_2257 (by decide) ?_
  refine y_iadd d_L_2258 ?_
  refine l_ld hv3 d_L_2259 ?_
  refine lc_222 d_L_2260 (Nat.le_of_ble_eq_true rfl) rfl rfl (Cz.mono h ?_)
  rintro v σ2 ⟨⟨r2, rfl⟩, h⟩
  show Wx E YL 2263 [(0, .ref 1021), (1, .ref 0), (2, .ref 110), (3, .int i)] [.int r2] 215 215 100784 (zx σ2) _
  refine y_popi d_L_2263 ?_
  exact y_goto (tgt := 3476) d_L_2264 h
theorem L_49 {E : xV} {bS L : Nat} {xs : Nat → Int32} {i : Int32} {σ : zS}  (h : Cz E Y_H_tries [.ref 0] σ (fun v σ1 => ∃ r : Int32, v = some (.int r) ∧ Cz E Y_M_tries [.ref 110] σ1 (fun v' σ2 => (∃ r2 : Int32, v' = some (.int r2)) ∧ Wx E YL 3476 [(0, .ref 1021), (1, .ref 0), (2, .ref 110), (3, .int i)] [] 215 215 100784 (zx σ2) (QL E bS L xs)))) : Wx E YL 2267 [(0, .ref 1021), (1, .ref 0), (2, .ref 110), (3, .int i)] [] 215 215 100784 (zx σ) (QL E bS L xs) := by
  refine y_aload_n (q := 1) d_L_2267 rfl rfl ?_
  refine lc_223 d_L_2268 (Nat.le_of_ble_eq_true rfl) rfl rfl (Cz.mono h ?_)
  rintro v σ1 ⟨r, rfl, h⟩
  show Wx E YL 2271 [(0, .ref 1021), (1, .ref 0), (2, .ref 110), (3, .int i)] [.int r] 215 215 100784 (zx σ1) _
  refine y_popi d_L_2271 ?_
  refine y_aload_n (q := 2) d_L_2272 rfl rfl ?_
  refine lc_226 d_L_2273 (Nat.le_of_ble_eq_true rfl) rfl rfl (Cz.mono h ?_)
  rintro v σ2 ⟨⟨r2, rfl⟩, h⟩
  show Wx E YL 2276 [(0, .ref 1021), (1, .ref 0), (2, .ref 110), (3, .int i)] [.int r2] 215 215 100784 (zx σ2) _
  refine y_popi d_L_2276 ?_
  exact y_goto (tgt := 3476) d_L_2277 h
theorem L_50 {E : xV} {bS L : Nat} {xs : Nat → Int32} {i : Int32} {σ : zS} (hv1 : vp_in (i + 1) L) (hv2 : vp_in (i + 2) L) (hv3 : vp_in (i + 3) L) (hv4 : vp_in (i + 4) L) (hv5 : vp_in (i + 5) L) (hv6 : vp_in (i + 6) L) (hv7 : vp_in (i + 7) L) (h : Cz E Y_H_lend [.ref 0, .int (xs (i + 1).toNatClampNeg), .int (xs (i + 2).toNatClampNeg), .int (xs (i + 3).toNatClampNeg), .int (xs (i + 4).toNatClampNeg), .int (xs (i + 5).toNatClampNeg), .int (xs (i + 6).toNatClampNeg), .int (xs (i + 7).toNatClampNeg)] σ (fun v σ1 => ∃ r : Int32, v = some (.int r) ∧ Cz E Y_M_lend [.ref 110, .int (xs (i + 1).toNatClampNeg), .int (xs (i + 2).toNatClampNeg), .int (xs (i + 3).toNatClampNeg), .int (xs (i + 4).toNatClampNeg), .int (xs (i + 5).toNatClampNeg), .int (xs (i + 6).toNatClampNeg), .int (xs (i + 7).toNatClampNeg)] σ1 (fun v' σ2 => (∃ r2 : Int32, v' = some (.int r2)) ∧ Wx E YL 3476 [(0, .ref 1021), (1, .ref 0), (2, .ref 110), (3, .int i)] [] 215 215 100784 (zx σ2) (QL E bS L xs)))) : Wx E YL 2280 [(0, .ref 1021), (1, .ref 0), (2, .ref 110), (3, .int i)] [] 215 215 100784 (zx σ) (QL E bS L xs) := by
  refine y_aload_n (q := 1) d_L_2280 rfl rfl ?_
  refine y_aload_n (q := 0) d_L_2281 rfl rfl ?_
  refine y_iload_n (q := 3) d_L_2282 rfl rfl ?_
  refine y_iconst (v := 1) d_L_2283 (by decide) ?_
  refine y_iadd d_L_2284 ?_
  refine l_ld hv1 d_L_2285 ?_
  refine y_aload_n (q := 0) d_L_2286 rfl rfl ?_
  refine y_iload_n (q := 3) d_L_2287 rfl rfl ?_
  refine y_iconst (v := 2) d_L_2288 (by decide) ?_
  refine y_iadd d_L_2289 ?_
  refine l_ld hv2 d_L_2290 ?_
  refine y_aload_n (q := 0) d_L_2291 rfl rfl ?_
  refine y_iload_n (q := 3) d_L_2292 rfl rfl ?_
  refine y_iconst (v := 3) d_L_2293 (by decide) ?_
  refine y_iadd d_L_2294 ?_
  refine l_ld hv3 d_L_2295 ?_
  refine y_aload_n (q := 0) d_L_2296 rfl rfl ?_
  refine y_iload_n (q := 3) d_L_2297 rfl rfl ?_
  refine y_iconst (v := 4) d_L_2298 (by decide) ?_
  refine y_iadd d_L_2299 ?_
  refine l_ld hv4 d_L_2300 ?_
  refine y_aload_n (q := 0) d_L_2301 rfl rfl ?_
  refine y_iload_n (q := 3) d_L_2302 rfl rfl ?_
  refine y_iconst (v := 5) d_L_2303 (by decide) ?_
  refine y_iadd d_L_2304 ?_
  refine l_ld hv5 d_L_2305 ?_
  refine y_aload_n (q := 0) d_L_2306 rfl rfl ?_
  refine y_iload_n (q := 3) d_L_2307 rfl rfl ?_
  refine y_bipush (v := 6) d_L_2308 (by decide) ?_
  refine y_iadd d_L_2310 ?_
  refine l_ld hv6 d_L_2311 ?_
  refine y_aload_n (q := 0) d_L_2312 rfl rfl ?_
  refine y_iload_n (q := 3) d_L_2313 rfl rfl ?_
  refine y_bipush (v := 7) d_L_2314 (by decide) ?_
  refine y_iadd d_L_2316 ?_
  refine l_ld hv7 d_L_2317 ?_
  refine lc_227 d_L_2318 (Nat.le_of_ble_eq_true rfl) rfl rfl (Cz.mono h ?_)
  rintro v σ1 ⟨r, rfl, h⟩
  show Wx E YL 2321 [(0, .ref 1021), (1, .ref 0), (2, .ref 110), (3, .int i)] [.int r] 215 215 100784 (zx σ1) _
  refine y_popi d_L_2321 ?_
  refine y_aload_n (q := 2) d_L_2322 rfl rfl ?_
  refine y_aload_n (q := 0) d_L_2323 rfl rfl ?_
  refine y_iload_n (q := 3) d_L_2324 rfl rfl ?_
  refine y_iconst (v := 1) d_L_2325 (by decide) ?_
  refine y_iadd d_L_2326 ?_
  refine l_ld hv1 d_L_2327 ?_
  refine y_aload_n (q := 0) d_L_2328 rfl rfl ?_
  refine y_iload_n (q := 3) d_L_2329 rfl rfl ?_
  refine y_iconst (v := 2) d_L_2330 (by decide) ?_
  refine y_iadd d_L_2331 ?_
  refine l_ld hv2 d_L_2332 ?_
  refine y_aload_n (q := 0) d_L_2333 rfl rfl ?_
  refine y_iload_n (q := 3) d_L_2334 rfl rfl ?_
  refine y_iconst (v := 3) d_L_2335 (by decide) ?_
  refine y_iadd d_L_2336 ?_
  refine l_ld hv3 d_L_2337 ?_
  refine y_aload_n (q := 0) d_L_2338 rfl rfl ?_
  refine y_iload_n (q := 3) d_L_2339 rfl rfl ?_
  refine y_iconst (v := 4) d_L_2340 (by decide) ?_
  refine y_iadd d_L_2341 ?_
  refine l_ld hv4 d_L_2342 ?_
  refine y_aload_n (q := 0) d_L_2343 rfl rfl ?_
  refine y_iload_n (q := 3) d_L_2344 rfl rfl ?_
  refine y_iconst (v := 5) d_L_2345 (by decide) ?_
  refine y_iadd d_L_2346 ?_
  refine l_ld hv5 d_L_2347 ?_
  refine y_aload_n (q := 0) d_L_2348 rfl rfl ?_
  refine y_iload_n (q := 3) d_L_2349 rfl rfl ?_
  refine y_bipush (v := 6) d_L_2350 (by decide) ?_
  refine y_iadd d_L_2352 ?_
  refine l_ld hv6 d_L_2353 ?_
  refine y_aload_n (q := 0) d_L_2354 rfl rfl ?_
  refine y_iload_n (q := 3) d_L_2355 rfl rfl ?_
  refine y_bipush (v := 7) d_L_2356 (by decide) ?_
  refine y_iadd d_L_2358 ?_
  refine l_ld hv7 d_L_2359 ?_
  refine lc_230 d_L_2360 (Nat.le_of_ble_eq_true rfl) rfl rfl (Cz.mono h ?_)
  rintro v σ2 ⟨⟨r2, rfl⟩, h⟩
  show Wx E YL 2363 [(0, .ref 1021), (1, .ref 0), (2, .ref 110), (3, .int i)] [.int r2] 215 215 100784 (zx σ2) _
  refine y_popi d_L_2363 ?_
  exact y_goto (tgt := 3476) d_L_2364 h
theorem L_51 {E : xV} {bS L : Nat} {xs : Nat → Int32} {i : Int32} {σ : zS} (hv1 : vp_in (i + 1) L) (hv2 : vp_in (i + 2) L) (h : Cz E Y_H_endLend [.ref 0, .int (xs (i + 1).toNatClampNeg), .int (xs (i + 2).toNatClampNeg)] σ (fun v σ1 => ∃ r : Int32, v = some (.int r) ∧ Cz E Y_M_endLend [.ref 110, .int (xs (i + 1).toNatClampNeg), .int (xs (i + 2).toNatClampNeg)] σ1 (fun v' σ2 => (∃ r2 : Int32, v' = some (.int r2)) ∧ Wx E YL 3476 [(0, .ref 1021), (1, .ref 0), (2, .ref 110), (3, .int i)] [] 215 215 100784 (zx σ2) (QL E bS L xs)))) : Wx E YL 2367 [(0, .ref 1021), (1, .ref 0), (2, .ref 110), (3, .int i)] [] 215 215 100784 (zx σ) (QL E bS L xs) := by
  refine y_aload_n (q := 1) d_L_2367 rfl rfl ?_
  refine y_aload_n (q := 0) d_L_2368 rfl rfl ?_
  refine y_iload_n (q := 3) d_L_2369 rfl rfl ?_
  refine y_iconst (v := 1) d_L_2370 (by decide) ?_
  refine y_iadd d_L_2371 ?_
  refine l_ld hv1 d_L_2372 ?_
  refine y_aload_n (q := 0) d_L_2373 rfl rfl ?_
  refine y_iload_n (q := 3) d_L_2374 rfl rfl ?_
  refine y_iconst (v := 2) d_L_2375 (by decide) ?_
  refine y_iadd d_L_2376 ?_
  refine l_ld hv2 d_L_2377 ?_
  refine lc_231 d_L_2378 (Nat.le_of_ble_eq_true rfl) rfl rfl (Cz.mono h ?_)
  rintro v σ1 ⟨r, rfl, h⟩
  show Wx E YL 2381 [(0, .ref 1021), (1, .ref 0), (2, .ref 110), (3, .int i)] [.int r] 215 215 100784 (zx σ1) _
  refine y_popi d_L_2381 ?_
  refine y_aload_n (q := 2) d_L_2382 rfl rfl ?_
  refine y_aload_n (q := 0) d_L_2383 rfl rfl ?_
  refine y_iload_n (q := 3) d_L_2384 rfl rfl ?_
  refine y_iconst (v := 1) d_L_2385 (by decide) ?_
  refine y_iadd d_L_2386 ?_
  refine l_ld hv1 d_L_2387 ?_
  refine y_aload_n (q := 0) d_L_2388 rfl rfl ?_
  refine y_iload_n (q := 3) d_L_2389 rfl rfl ?_
  refine y_iconst (v := 2) d_L_2390 (by decide) ?_
  refine y_iadd d_L_2391 ?_
  refine l_ld hv2 d_L_2392 ?_
  refine lc_234 d_L_2393 (Nat.le_of_ble_eq_true rfl) rfl rfl (Cz.mono h ?_)
  rintro v σ2 ⟨⟨r2, rfl⟩, h⟩
  show Wx E YL 2396 [(0, .ref 1021), (1, .ref 0), (2, .ref 110), (3, .int i)] [.int r2] 215 215 100784 (zx σ2) _
  refine y_popi d_L_2396 ?_
  exact y_goto (tgt := 3476) d_L_2397 h
theorem L_52 {E : xV} {bS L : Nat} {xs : Nat → Int32} {i : Int32} {σ : zS} (hv1 : vp_in (i + 1) L) (hv2 : vp_in (i + 2) L) (hv3 : vp_in (i + 3) L) (hv4 : vp_in (i + 4) L) (h : Cz E Y_H_stands [.ref 0, .int (xs (i + 1).toNatClampNeg), .int (xs (i + 2).toNatClampNeg), .int (xs (i + 3).toNatClampNeg), .int (xs (i + 4).toNatClampNeg)] σ (fun v σ1 => ∃ r : Int32, v = some (.int r) ∧ Cz E Y_M_stands [.ref 110, .int (xs (i + 1).toNatClampNeg), .int (xs (i + 2).toNatClampNeg), .int (xs (i + 3).toNatClampNeg), .int (xs (i + 4).toNatClampNeg)] σ1 (fun v' σ2 => (∃ r2 : Int32, v' = some (.int r2)) ∧ Wx E YL 3476 [(0, .ref 1021), (1, .ref 0), (2, .ref 110), (3, .int i)] [] 215 215 100784 (zx σ2) (QL E bS L xs)))) : Wx E YL 2400 [(0, .ref 1021), (1, .ref 0), (2, .ref 110), (3, .int i)] [] 215 215 100784 (zx σ) (QL E bS L xs) := by
  refine y_aload_n (q := 1) d_L_2400 rfl rfl ?_
  refine y_aload_n (q := 0) d_L_2401 rfl rfl ?_
  refine y_iload_n (q := 3) d_L_2402 rfl rfl ?_
  refine y_iconst (v := 1) d_L_2403 (by decide) ?_
  refine y_iadd d_L_2404 ?_
  refine l_ld hv1 d_L_2405 ?_
  refine y_aload_n (q := 0) d_L_2406 rfl rfl ?_
  refine y_iload_n (q := 3) d_L_2407 rfl rfl ?_
  refine y_iconst (v := 2) d_L_2408 (by decide) ?_
  refine y_iadd d_L_2409 ?_
  refine l_ld hv2 d_L_2410 ?_
  refine y_aload_n (q := 0) d_L_2411 rfl rfl ?_
  refine y_iload_n (q := 3) d_L_2412 rfl rfl ?_
  refine y_iconst (v := 3) d_L_2413 (by decide) ?_
  refine y_iadd d_L_2414 ?_
  refine l_ld hv3 d_L_2415 ?_
  refine y_aload_n (q := 0) d_L_2416 rfl rfl ?_
  refine y_iload_n (q := 3) d_L_2417 rfl rfl ?_
  refine y_iconst (v := 4) d_L_2418 (by decide) ?_
  refine y_iadd d_L_2419 ?_
  refine l_ld hv4 d_L_2420 ?_
  refine lc_235 d_L_2421 (Nat.le_of_ble_eq_true rfl) rfl rfl (Cz.mono h ?_)
  rintro v σ1 ⟨r, rfl, h⟩
  show Wx E YL 2424 [(0, .ref 1021), (1, .ref 0), (2, .ref 110), (3, .int i)] [.int r] 215 215 100784 (zx σ1) _
  refine y_popi d_L_2424 ?_
  refine y_aload_n (q := 2) d_L_2425 rfl rfl ?_
  refine y_aload_n (q := 0) d_L_2426 rfl rfl ?_
  refine y_iload_n (q := 3) d_L_2427 rfl rfl ?_
  refine y_iconst (v := 1) d_L_2428 (by decide) ?_
  refine y_iadd d_L_2429 ?_
  refine l_ld hv1 d_L_2430 ?_
  refine y_aload_n (q := 0) d_L_2431 rfl rfl ?_
  refine y_iload_n (q := 3) d_L_2432 rfl rfl ?_
  refine y_iconst (v := 2) d_L_2433 (by decide) ?_
  refine y_iadd d_L_2434 ?_
  refine l_ld hv2 d_L_2435 ?_
  refine y_aload_n (q := 0) d_L_2436 rfl rfl ?_
  refine y_iload_n (q := 3) d_L_2437 rfl rfl ?_
  refine y_iconst (v := 3) d_L_2438 (by decide) ?_
  refine y_iadd d_L_2439 ?_
  refine l_ld hv3 d_L_2440 ?_
  refine y_aload_n (q := 0) d_L_2441 rfl rfl ?_
  refine y_iload_n (q := 3) d_L_2442 rfl rfl ?_
  refine y_iconst (v := 4) d_L_2443 (by decide) ?_
  refine y_iadd d_L_2444 ?_
  refine l_ld hv4 d_L_2445 ?_
  refine lc_238 d_L_2446 (Nat.le_of_ble_eq_true rfl) rfl rfl (Cz.mono h ?_)
  rintro v σ2 ⟨⟨r2, rfl⟩, h⟩
  show Wx E YL 2449 [(0, .ref 1021), (1, .ref 0), (2, .ref 110), (3, .int i)] [.int r2] 215 215 100784 (zx σ2) _
  refine y_popi d_L_2449 ?_
  exact y_goto (tgt := 3476) d_L_2450 h
theorem L_53 {E : xV} {bS L : Nat} {xs : Nat → Int32} {i : Int32} {σ : zS} (hv1 : vp_in (i + 1) L) (h : Cz E Y_H_chain [.ref 0, .int (xs (i + 1).toNatClampNeg)] σ (fun v σ1 => ∃ r : Int32, v = some (.int r) ∧ Cz E Y_M_chain [.ref 110, .int (xs (i + 1).toNatClampNeg)] σ1 (fun v' σ2 => v' = some (.int r) ∧ Wx E YL 3476 [(0, .ref 1021), (1, .ref 0), (2, .ref 110), (3, .int i)] [] 215 215 100784 (zx σ2) (QL E bS L xs)))) : Wx E YL 2453 [(0, .ref 1021), (1, .ref 0), (2, .ref 110), (3, .int i)] [] 215 215 100784 (zx σ) (QL E bS L xs) := by
  refine y_aload_n (q := 1) d_L_2453 rfl rfl ?_
  refine y_aload_n (q := 0) d_L_2454 rfl rfl ?_
  refine y_iload_n (q := 3) d_L_2455 rfl rfl ?_
  refine y_iconst (v := 1) d_L_2456 (by decide) ?_
  refine y_iadd d_L_2457 ?_
  refine l_ld hv1 d_L_2458 ?_
  refine lc_239 d_L_2459 (Nat.le_of_ble_eq_true rfl) rfl rfl (Cz.mono h ?_)
  rintro v σ1 ⟨r, rfl, h⟩
  show Wx E YL 2462 [(0, .ref 1021), (1, .ref 0), (2, .ref 110), (3, .int i)] [.int r] 215 215 100784 (zx σ1) _
  refine y_aload_n (q := 2) d_L_2462 rfl rfl ?_
  refine y_aload_n (q := 0) d_L_2463 rfl rfl ?_
  refine y_iload_n (q := 3) d_L_2464 rfl rfl ?_
  refine y_iconst (v := 1) d_L_2465 (by decide) ?_
  refine y_iadd d_L_2466 ?_
  refine l_ld hv1 d_L_2467 ?_
  refine lc_242 d_L_2468 (Nat.le_of_ble_eq_true rfl) rfl rfl (Cz.mono h ?_)
  rintro v σ2 ⟨rfl, h⟩
  show Wx E YL 2471 [(0, .ref 1021), (1, .ref 0), (2, .ref 110), (3, .int i)] [.int r, .int r] 215 215 100784 (zx σ2) _
  exact y_icmp_eq (tgt := 3476) d_L_2471 (fun _ => h) (fun c => absurd rfl c)
theorem L_54 {E : xV} {bS L : Nat} {xs : Nat → Int32} {i : Int32} {σ : zS} (hv1 : vp_in (i + 1) L) (hv2 : vp_in (i + 2) L) (hv3 : vp_in (i + 3) L) (h : Cz E Y_H_useRight [.ref 0, .int (xs (i + 1).toNatClampNeg), .int (xs (i + 2).toNatClampNeg), .int (xs (i + 3).toNatClampNeg)] σ (fun v σ1 => ∃ r : Int32, v = some (.int r) ∧ Cz E Y_M_useRight [.ref 110, .int (xs (i + 1).toNatClampNeg), .int (xs (i + 2).toNatClampNeg), .int (xs (i + 3).toNatClampNeg)] σ1 (fun v' σ2 => (∃ r2 : Int32, v' = some (.int r2)) ∧ Wx E YL 3476 [(0, .ref 1021), (1, .ref 0), (2, .ref 110), (3, .int i)] [] 215 215 100784 (zx σ2) (QL E bS L xs)))) : Wx E YL 2476 [(0, .ref 1021), (1, .ref 0), (2, .ref 110), (3, .int i)] [] 215 215 100784 (zx σ) (QL E bS L xs) := by
  refine y_aload_n (q := 1) d_L_2476 rfl rfl ?_
  refine y_aload_n (q := 0) d_L_2477 rfl rfl ?_
  refine y_iload_n (q := 3) d_L_2478 rfl rfl ?_
  refine y_iconst (v := 1) d_L_2479 (by decide) ?_
  refine y_iadd d_L_2480 ?_
  refine l_ld hv1 d_L_2481 ?_
  refine y_aload_n (q := 0) d_L_2482 rfl rfl ?_
  refine y_iload_n (q := 3) d_L_2483 rfl rfl ?_
  refine y_iconst (v := 2) d_L_2484 (by decide) ?_
  refine y_iadd d_L_2485 ?_
  refine l_ld hv2 d_L_2486 ?_
  refine y_aload_n (q := 0) d_L_2487 rfl rfl ?_
  refine y_iload_n (q := 3) d_L_2488 rfl rfl ?_
  refine y_iconst (v := 3) d_L_2489 (by decide) ?_
  refine y_iadd d_L_2490 ?_
  refine l_ld hv3 d_L_2491 ?_
  refine lc_243 d_L_2492 (Nat.le_of_ble_eq_true rfl) rfl rfl (Cz.mono h ?_)
  rintro v σ1 ⟨r, rfl, h⟩
  show Wx E YL 2495 [(0, .ref 1021), (1, .ref 0), (2, .ref 110), (3, .int i)] [.int r] 215 215 100784 (zx σ1) _
  refine y_popi d_L_2495 ?_
  refine y_aload_n (q := 2) d_L_2496 rfl rfl ?_
  refine y_aload_n (q := 0) d_L_2497 rfl rfl ?_
  refine y_iload_n (q := 3) d_L_2498 rfl rfl ?_
  refine y_iconst (v := 1) d_L_2499 (by decide) ?_
  refine y_iadd d_L_2500 ?_
  refine l_ld hv1 d_L_2501 ?_
  refine y_aload_n (q := 0) d_L_2502 rfl rfl ?_
  refine y_iload_n (q := 3) d_L_2503 rfl rfl ?_
  refine y_iconst (v := 2) d_L_2504 (by decide) ?_
  refine y_iadd d_L_2505 ?_
  refine l_ld hv2 d_L_2506 ?_
  refine y_aload_n (q := 0) d_L_2507 rfl rfl ?_
  refine y_iload_n (q := 3) d_L_2508 rfl rfl ?_
  refine y_iconst (v := 3) d_L_2509 (by decide) ?_
  refine y_iadd d_L_2510 ?_
  refine l_ld hv3 d_L_2511 ?_
  refine lc_246 d_L_2512 (Nat.le_of_ble_eq_true rfl) rfl rfl (Cz.mono h ?_)
  rintro v σ2 ⟨⟨r2, rfl⟩, h⟩
  show Wx E YL 2515 [(0, .ref 1021), (1, .ref 0), (2, .ref 110), (3, .int i)] [.int r2] 215 215 100784 (zx σ2) _
  refine y_popi d_L_2515 ?_
  exact y_goto (tgt := 3476) d_L_2516 h
theorem L_55 {E : xV} {bS L : Nat} {xs : Nat → Int32} {i : Int32} {σ : zS} (hv1 : vp_in (i + 1) L) (hv2 : vp_in (i + 2) L) (h : Cz E Y_H_lendOf [.ref 0, .int (xs (i + 1).toNatClampNeg), .int (xs (i + 2).toNatClampNeg)] σ (fun v σ1 => ∃ r : Int32, v = some (.int r) ∧ Cz E Y_M_lendOf [.ref 110, .int (xs (i + 1).toNatClampNeg), .int (xs (i + 2).toNatClampNeg)] σ1 (fun v' σ2 => (∃ r2 : Int32, v' = some (.int r2)) ∧ Wx E YL 3476 [(0, .ref 1021), (1, .ref 0), (2, .ref 110), (3, .int i)] [] 215 215 100784 (zx σ2) (QL E bS L xs)))) : Wx E YL 2519 [(0, .ref 1021), (1, .ref 0), (2, .ref 110), (3, .int i)] [] 215 215 100784 (zx σ) (QL E bS L xs) := by
  refine y_aload_n (q := 1) d_L_2519 rfl rfl ?_
  refine y_aload_n (q := 0) d_L_2520 rfl rfl ?_
  refine y_iload_n (q := 3) d_L_2521 rfl rfl ?_
  refine y_iconst (v := 1) d_L_2522 (by decide) ?_
  refine y_iadd d_L_2523 ?_
  refine l_ld hv1 d_L_2524 ?_
  refine y_aload_n (q := 0) d_L_2525 rfl rfl ?_
  refine y_iload_n (q := 3) d_L_2526 rfl rfl ?_
  refine y_iconst (v := 2) d_L_2527 (by decide) ?_
  refine y_iadd d_L_2528 ?_
  refine l_ld hv2 d_L_2529 ?_
  refine lc_247 d_L_2530 (Nat.le_of_ble_eq_true rfl) rfl rfl (Cz.mono h ?_)
  rintro v σ1 ⟨r, rfl, h⟩
  show Wx E YL 2533 [(0, .ref 1021), (1, .ref 0), (2, .ref 110), (3, .int i)] [.int r] 215 215 100784 (zx σ1) _
  refine y_popi d_L_2533 ?_
  refine y_aload_n (q := 2) d_L_2534 rfl rfl ?_
  refine y_aload_n (q := 0) d_L_2535 rfl rfl ?_
  refine y_iload_n (q := 3) d_L_2536 rfl rfl ?_
  refine y_iconst (v := 1) d_L_2537 (by decide) ?_
  refine y_iadd d_L_2538 ?_
  refine l_ld hv1 d_L_2539 ?_
  refine y_aload_n (q := 0) d_L_2540 rfl rfl ?_
  refine y_iload_n (q := 3) d_L_2541 rfl rfl ?_
  refine y_iconst (v := 2) d_L_2542 (by decide) ?_
  refine y_iadd d_L_2543 ?_
  refine l_ld hv2 d_L_2544 ?_
  refine lc_250 d_L_2545 (Nat.le_of_ble_eq_true rfl) rfl rfl (Cz.mono h ?_)
  rintro v σ2 ⟨⟨r2, rfl⟩, h⟩
  show Wx E YL 2548 [(0, .ref 1021), (1, .ref 0), (2, .ref 110), (3, .int i)] [.int r2] 215 215 100784 (zx σ2) _
  refine y_popi d_L_2548 ?_
  exact y_goto (tgt := 3476) d_L_2549 h
theorem L_56 {E : xV} {bS L : Nat} {xs : Nat → Int32} {i : Int32} {σ : zS} (hv1 : vp_in (i + 1) L) (hv2 : vp_in (i + 2) L) (hv3 : vp_in (i + 3) L) (h : Cz E Y_H_key [.ref 0, .int (xs (i + 1).toNatClampNeg), .int (xs (i + 2).toNatClampNeg), .int (xs (i + 3).toNatClampNeg)] σ (fun v σ1 => ∃ r : Int32, v = some (.int r) ∧ Cz E Y_M_key [.ref 110, .int (xs (i + 1).toNatClampNeg), .int (xs (i + 2).toNatClampNeg), .int (xs (i + 3).toNatClampNeg)] σ1 (fun v' σ2 => (∃ r2 : Int32, v' = some (.int r2)) ∧ Wx E YL 3476 [(0, .ref 1021), (1, .ref 0), (2, .ref 110), (3, .int i)] [] 215 215 100784 (zx σ2) (QL E bS L xs)))) : Wx E YL 2552 [(0, .ref 1021), (1, .ref 0), (2, .ref 110), (3, .int i)] [] 215 215 100784 (zx σ) (QL E bS L xs) := by
  refine y_aload_n (q := 1) d_L_2552 rfl rfl ?_
  refine y_aload_n (q := 0) d_L_2553 rfl rfl ?_
  refine y_iload_n (q := 3) d_L_2554 rfl rfl ?_
  refine y_iconst (v := 1) d_L_2555 (by decide) ?_
  refine y_iadd d_L_2556 ?_
  refine l_ld hv1 d_L_2557 ?_
  refine y_aload_n (q := 0) d_L_2558 rfl rfl ?_
  refine y_iload_n (q := 3) d_L_2559 rfl rfl ?_
  refine y_iconst (v := 2) d_L_2560 (by decide) ?_
  refine y_iadd d_L_2561 ?_
  refine l_ld hv2 d_L_2562 ?_
  refine y_aload_n (q := 0) d_L_2563 rfl rfl ?_
  refine y_iload_n (q := 3) d_L_2564 rfl rfl ?_
  refine y_iconst (v := 3) d_L_2565 (by decide) ?_
  refine y_iadd d_L_2566 ?_
  refine l_ld hv3 d_L_2567 ?_
  refine lc_251 d_L_2568 (Nat.le_of_ble_eq_true rfl) rfl rfl (Cz.mono h ?_)
  rintro v σ1 ⟨r, rfl, h⟩
  show Wx E YL 2571 [(0, .ref 1021), (1, .ref 0), (2, .ref 110), (3, .int i)] [.int r] 215 215 100784 (zx σ1) _
  refine y_popi d_L_2571 ?_
  refine y_aload_n (q := 2) d_L_2572 rfl rfl ?_
  refine y_aload_n (q := 0) d_L_2573 rfl rfl ?_
  refine y_iload_n (q := 3) d_L_2574 rfl rfl ?_
  refine y_iconst (v := 1) d_L_2575 (by decide) ?_
  refine y_iadd d_L_2576 ?_
  refine l_ld hv1 d_L_2577 ?_
  refine y_aload_n (q := 0) d_L_2578 rfl rfl ?_
  refine y_iload_n (q := 3) d_L_2579 rfl rfl ?_
  refine y_iconst (v := 2) d_L_2580 (by decide) ?_
  refine y_iadd d_L_2581 ?_
  refine l_ld hv2 d_L_2582 ?_
  refine y_aload_n (q := 0) d_L_2583 rfl rfl ?_
  refine y_iload_n (q := 3) d_L_2584 rfl rfl ?_
  refine y_iconst (v := 3) d_L_2585 (by decide) ?_
  refine y_iadd d_L_2586 ?_
  refine l_ld hv3 d_L_2587 ?_
  refine lc_254 d_L_2588 (Nat.le_of_ble_eq_true rfl) rfl rfl (Cz.mono h ?_)
  rintro v σ2 ⟨⟨r2, rfl⟩, h⟩
  show Wx E YL 2591 [(0, .ref 1021), (1, .ref 0), (2, .ref 110), (3, .int i)] [.int r2] 215 215 100784 (zx σ2) _
  refine y_popi d_L_2591 ?_
  exact y_goto (tgt := 3476) d_L_2592 h
theorem L_57 {E : xV} {bS L : Nat} {xs : Nat → Int32} {i : Int32} {σ : zS} (hv1 : vp_in (i + 1) L) (hv2 : vp_in (i + 2) L) (hv3 : vp_in (i + 3) L) (h : Cz E Y_H_ever [.ref 0, .int (xs (i + 1).toNatClampNeg), .int (xs (i + 2).toNatClampNeg), .int (xs (i + 3).toNatClampNeg)] σ (fun v σ1 => ∃ r : Int32, v = some (.int r) ∧ Cz E Y_M_ever [.ref 110, .int (xs (i + 1).toNatClampNeg), .int (xs (i + 2).toNatClampNeg), .int (xs (i + 3).toNatClampNeg)] σ1 (fun v' σ2 => (∃ r2 : Int32, v' = some (.int r2)) ∧ Wx E YL 3476 [(0, .ref 1021), (1, .ref 0), (2, .ref 110), (3, .int i)] [] 215 215 100784 (zx σ2) (QL E bS L xs)))) : Wx E YL 2595 [(0, .ref 1021), (1, .ref 0), (2, .ref 110), (3, .int i)] [] 215 215 100784 (zx σ) (QL E bS L xs) := by
  refine y_aload_n (q := 1) d_L_2595 rfl rfl ?_
  refine y_aload_n (q := 0) d_L_2596 rfl rfl ?_
  refine y_iload_n (q := 3) d_L_2597 rfl rfl ?_
  refine y_iconst (v := 1) d_L_2598 (by decide) ?_
  refine y_iadd d_L_2599 ?_
  refine l_ld hv1 d_L_2600 ?_
  refine y_aload_n (q := 0) d_L_2601 rfl rfl ?_
  refine y_iload_n (q := 3) d_L_2602 rfl rfl ?_
  refine y_iconst (v := 2) d_L_2603 (by decide) ?_
  refine y_iadd d_L_2604 ?_
  refine l_ld hv2 d_L_2605 ?_
  refine y_aload_n (q := 0) d_L_2606 rfl rfl ?_
  refine y_iload_n (q := 3) d_L_2607 rfl rfl ?_
  refine y_iconst (v := 3) d_L_2608 (by decide) ?_
  refine y_iadd d_L_2609 ?_
  refine l_ld hv3 d_L_2610 ?_
  refine lc_255 d_L_2611 (Nat.le_of_ble_eq_true rfl) rfl rfl (Cz.mono h ?_)
  rintro v σ1 ⟨r, rfl, h⟩
  show Wx E YL 2614 [(0, .ref 1021), (1, .ref 0), (2, .ref 110), (3, .int i)] [.int r] 215 215 100784 (zx σ1) _
  refine y_popi d_L_2614 ?_
  refine y_aload_n (q := 2) d_L_2615 rfl rfl ?_
  refine y_aload_n (q := 0) d_L_2616 rfl rfl ?_
  refine y_iload_n (q := 3) d_L_2617 rfl rfl ?_
  refine y_iconst (v := 1) d_L_2618 (by decide) ?_
  refine y_iadd d_L_2619 ?_
  refine l_ld hv1 d_L_2620 ?_
  refine y_aload_n (q := 0) d_L_2621 rfl rfl ?_
  refine y_iload_n (q := 3) d_L_2622 rfl rfl ?_
  refine y_iconst (v := 2) d_L_2623 (by decide) ?_
  refine y_iadd d_L_2624 ?_
  refine l_ld hv2 d_L_2625 ?_
  refine y_aload_n (q := 0) d_L_2626 rfl rfl ?_
  refine y_iload_n (q := 3) d_L_2627 rfl rfl ?_
  refine y_iconst (v := 3) d_L_2628 (by decide) ?_
  refine y_iadd d_L_2629 ?_
  refine l_ld hv3 d_L_2630 ?_
  refine lc_258 d_L_2631 (Nat.le_of_ble_eq_true rfl) rfl rfl (Cz.mono h ?_)
  rintro v σ2 ⟨⟨r2, rfl⟩, h⟩
  show Wx E YL 2634 [(0, .ref 1021), (1, .ref 0), (2, .ref 110), (3, .int i)] [.int r2] 215 215 100784 (zx σ2) _
  refine y_popi d_L_2634 ?_
  exact y_goto (tgt := 3476) d_L_2635 h
theorem L_58 {E : xV} {bS L : Nat} {xs : Nat → Int32} {i : Int32} {σ : zS} (hv1 : vp_in (i + 1) L) (hv2 : vp_in (i + 2) L) (h : Cz E Y_H_gain [.ref 0, .int (xs (i + 1).toNatClampNeg), .int (xs (i + 2).toNatClampNeg)] σ (fun v σ1 => ∃ r : Int32, v = some (.int r) ∧ Cz E Y_M_gain [.ref 110, .int (xs (i + 1).toNatClampNeg), .int (xs (i + 2).toNatClampNeg)] σ1 (fun v' σ2 => (∃ r2 : Int32, v' = some (.int r2)) ∧ Wx E YL 3476 [(0, .ref 1021), (1, .ref 0), (2, .ref 110), (3, .int i)] [] 215 215 100784 (zx σ2) (QL E bS L xs)))) : Wx E YL 2638 [(0, .ref 1021), (1, .ref 0), (2, .ref 110), (3, .int i)] [] 215 215 100784 (zx σ) (QL E bS L xs) := by
  refine y_aload_n (q := 1) d_L_2638 rfl rfl ?_
  refine y_aload_n (q := 0) d_L_2639 rfl rfl ?_
  refine y_iload_n (q := 3) d_L_2640 rfl rfl ?_
  refine y_iconst (v := 1) d_L_2641 (by decide) ?_
  refine y_iadd d_L_2642 ?_
  refine l_ld hv1 d_L_2643 ?_
  refine y_aload_n (q := 0) d_L_2644 rfl rfl ?_
  refine y_iload_n (q := 3) d_L_2645 rfl rfl ?_
  refine y_iconst (v := 2) d_L_2646 (by decide) ?_
  refine y_iadd d_L_2647 ?_
  refine l_ld hv2 d_L_2648 ?_
  refine lc_259 d_L_2649 (Nat.le_of_ble_eq_true rfl) rfl rfl (Cz.mono h ?_)
  rintro v σ1 ⟨r, rfl, h⟩
  show Wx E YL 2652 [(0, .ref 1021), (1, .ref 0), (2, .ref 110), (3, .int i)] [.int r] 215 215 100784 (zx σ1) _
  refine y_popi d_L_2652 ?_
  refine y_aload_n (q := 2) d_L_2653 rfl rfl ?_
  refine y_aload_n (q := 0) d_L_2654 rfl rfl ?_
  refine y_iload_n (q := 3) d_L_2655 rfl rfl ?_
  refine y_iconst (v := 1) d_L_2656 (by decide) ?_
  refine y_iadd d_L_2657 ?_
  refine l_ld hv1 d_L_2658 ?_
  refine y_aload_n (q := 0) d_L_2659 rfl rfl ?_
  refine y_iload_n (q := 3) d_L_2660 rfl rfl ?_
  refine y_iconst (v := 2) d_L_2661 (by decide) ?_
  refine y_iadd d_L_2662 ?_
  refine l_ld hv2 d_L_2663 ?_
  refine lc_262 d_L_2664 (Nat.le_of_ble_eq_true rfl) rfl rfl (Cz.mono h ?_)
  rintro v σ2 ⟨⟨r2, rfl⟩, h⟩
  show Wx E YL 2667 [(0, .ref 1021), (1, .ref 0), (2, .ref 110), (3, .int i)] [.int r2] 215 215 100784 (zx σ2) _
  refine y_popi d_L_2667 ?_
  exact y_goto (tgt := 3476) d_L_2668 h
theorem L_59 {E : xV} {bS L : Nat} {xs : Nat → Int32} {i : Int32} {σ : zS} (hv1 : vp_in (i + 1) L) (hv2 : vp_in (i + 2) L) (h : Cz E Y_H_label [.ref 0, .int (xs (i + 1).toNatClampNeg), .int (xs (i + 2).toNatClampNeg)] σ (fun v σ1 => ∃ r : Int32, v = some (.int r) ∧ Cz E Y_M_label [.ref 110, .int (xs (i + 1).toNatClampNeg), .int (xs (i + 2).toNatClampNeg)] σ1 (fun v' σ2 => (∃ r2 : Int32, v' = some (.int r2)) ∧ Wx E YL 3476 [(0, .ref 1021), (1, .ref 0), (2, .ref 110), (3, .int i)] [] 215 215 100784 (zx σ2) (QL E bS L xs)))) : Wx E YL 2671 [(0, .ref 1021), (1, .ref 0), (2, .ref 110), (3, .int i)] [] 215 215 100784 (zx σ) (QL E bS L xs) := by
  refine y_aload_n (q := 1) d_L_2671 rfl rfl ?_
  refine y_aload_n (q := 0) d_L_2672 rfl rfl ?_
  refine y_iload_n (q := 3) d_L_2673 rfl rfl ?_
  refine y_iconst (v := 1) d_L_2674 (by decide) ?_
  refine y_iadd d_L_2675 ?_
  refine l_ld hv1 d_L_2676 ?_
  refine y_aload_n (q := 0) d_L_2677 rfl rfl ?_
  refine y_iload_n (q := 3) d_L_2678 rfl rfl ?_
  refine y_iconst (v := 2) d_L_2679 (by decide) ?_
  refine y_iadd d_L_2680 ?_
  refine l_ld hv2 d_L_2681 ?_
  refine lc_263 d_L_2682 (Nat.le_of_ble_eq_true rfl) rfl rfl (Cz.mono h ?_)
  rintro v σ1 ⟨r, rfl, h⟩
  show Wx E YL 2685 [(0, .ref 1021), (1, .ref 0), (2, .ref 110), (3, .int i)] [.int r] 215 215 100784 (zx σ1) _
  refine y_popi d_L_2685 ?_
  refine y_aload_n (q := 2) d_L_2686 rfl rfl ?_
  refine y_aload_n (q := 0) d_L_2687 rfl rfl ?_
  refine y_iload_n (q := 3) d_L_2688 rfl rfl ?_
  refine y_iconst (v := 1) d_L_2689 (by decide) ?_
  refine y_iadd d_L_2690 ?_
  refine l_ld hv1 d_L_2691 ?_
  refine y_aload_n (q := 0) d_L_2692 rfl rfl ?_
  refine y_iload_n (q := 3) d_L_2693 rfl rfl ?_
  refine y_iconst (v := 2) d_L_2694 (by decide) ?_
  refine y_iadd d_L_2695 ?_
  refine l_ld hv2 d_L_2696 ?_
  refine lc_266 d_L_2697 (Nat.le_of_ble_eq_true rfl) rfl rfl (Cz.mono h ?_)
  rintro v σ2 ⟨⟨r2, rfl⟩, h⟩
  show Wx E YL 2700 [(0, .ref 1021), (1, .ref 0), (2, .ref 110), (3, .int i)] [.int r2] 215 215 100784 (zx σ2) _
  refine y_popi d_L_2700 ?_
  exact y_goto (tgt := 3476) d_L_2701 h
theorem L_60 {E : xV} {bS L : Nat} {xs : Nat → Int32} {i : Int32} {σ : zS} (hv1 : vp_in (i + 1) L) (hv2 : vp_in (i + 2) L) (hv3 : vp_in (i + 3) L) (hv4 : vp_in (i + 4) L) (h : Cz E Y_H_statement [.ref 0, .int (xs (i + 1).toNatClampNeg), .int (xs (i + 2).toNatClampNeg), .int (xs (i + 3).toNatClampNeg), .int (xs (i + 4).toNatClampNeg)] σ (fun v σ1 => ∃ r : Int32, v = some (.int r) ∧ Cz E Y_M_statement [.ref 110, .int (xs (i + 1).toNatClampNeg), .int (xs (i + 2).toNatClampNeg), .int (xs (i + 3).toNatClampNeg), .int (xs (i + 4).toNatClampNeg)] σ1 (fun v' σ2 => (∃ r2 : Int32, v' = some (.int r2)) ∧ Wx E YL 3476 [(0, .ref 1021), (1, .ref 0), (2, .ref 110), (3, .int i)] [] 215 215 100784 (zx σ2) (QL E bS L xs)))) : Wx E YL 2704 [(0, .ref 1021), (1, .ref 0), (2, .ref 110), (3, .int i)] [] 215 215 100784 (zx σ) (QL E bS L xs) := by
  refine y_aload_n (q := 1) d_L_2704 rfl rfl ?_
  refine y_aload_n (q := 0) d_L_2705 rfl rfl ?_
  refine y_iload_n (q := 3) d_L_2706 rfl rfl ?_
  refine y_iconst (v := 1) d_L_2707 (by decide) ?_
  refine y_iadd d_L_2708 ?_
  refine l_ld hv1 d_L_2709 ?_
  refine y_aload_n (q := 0) d_L_2710 rfl rfl ?_
  refine y_iload_n (q := 3) d_L_2711 rfl rfl ?_
  refine y_iconst (v := 2) d_L_2712 (by decide) ?_
  refine y_iadd d_L_2713 ?_
  refine l_ld hv2 d_L_2714 ?_
  refine y_aload_n (q := 0) d_L_2715 rfl rfl ?_
  refine y_iload_n (q := 3) d_L_2716 rfl rfl ?_
  refine y_iconst (v := 3) d_L_2717 (by decide) ?_
  refine y_iadd d_L_2718 ?_
  refine l_ld hv3 d_L_2719 ?_
  refine y_aload_n (q := 0) d_L_2720 rfl rfl ?_
  refine y_iload_n (q := 3) d_L_2721 rfl rfl ?_
  refine y_iconst (v := 4) d_L_2722 (by decide) ?_
  refine y_iadd d_L_2723 ?_
  refine l_ld hv4 d_L_2724 ?_
  refine lc_267 d_L_2725 (Nat.le_of_ble_eq_true rfl) rfl rfl (Cz.mono h ?_)
  rintro v σ1 ⟨r, rfl, h⟩
  show Wx E YL 2728 [(0, .ref 1021), (1, .ref 0), (2, .ref 110), (3, .int i)] [.int r] 215 215 100784 (zx σ1) _
  refine y_popi d_L_2728 ?_
  refine y_aload_n (q := 2) d_L_2729 rfl rfl ?_
  refine y_aload_n (q := 0) d_L_2730 rfl rfl ?_
  refine y_iload_n (q := 3) d_L_2731 rfl rfl ?_
  refine y_iconst (v := 1) d_L_2732 (by decide) ?_
  refine y_iadd d_L_2733 ?_
  refine l_ld hv1 d_L_2734 ?_
  refine y_aload_n (q := 0) d_L_2735 rfl rfl ?_
  refine y_iload_n (q := 3) d_L_2736 rfl rfl ?_
  refine y_iconst (v := 2) d_L_2737 (by decide) ?_
  refine y_iadd d_L_2738 ?_
  refine l_ld hv2 d_L_2739 ?_
  refine y_aload_n (q := 0) d_L_2740 rfl rfl ?_
  refine y_iload_n (q := 3) d_L_2741 rfl rfl ?_
  refine y_iconst (v := 3) d_L_2742 (by decide) ?_
  refine y_iadd d_L_2743 ?_
  refine l_ld hv3 d_L_2744 ?_
  refine y_aload_n (q := 0) d_L_2745 rfl rfl ?_
  refine y_iload_n (q := 3) d_L_2746 rfl rfl ?_
  refine y_iconst (v := 4) d_L_2747 (by decide) ?_
  refine y_iadd d_L_2748 ?_
  refine l_ld hv4 d_L_2749 ?_
  refine lc_270 d_L_2750 (Nat.le_of_ble_eq_true rfl) rfl rfl (Cz.mono h ?_)
  rintro v σ2 ⟨⟨r2, rfl⟩, h⟩
  show Wx E YL 2753 [(0, .ref 1021), (1, .ref 0), (2, .ref 110), (3, .int i)] [.int r2] 215 215 100784 (zx σ2) _
  refine y_popi d_L_2753 ?_
  exact y_goto (tgt := 3476) d_L_2754 h
theorem L_61 {E : xV} {bS L : Nat} {xs : Nat → Int32} {i : Int32} {σ : zS}  (h : Cz E Y_H_erase [.ref 0] σ (fun v σ1 => ∃ r : Int32, v = some (.int r) ∧ Cz E Y_M_erase [.ref 110] σ1 (fun v' σ2 => (∃ r2 : Int32, v' = some (.int r2)) ∧ Wx E YL 3476 [(0, .ref 1021), (1, .ref 0), (2, .ref 110), (3, .int i)] [] 215 215 100784 (zx σ2) (QL E bS L xs)))) : Wx E YL 2757 [(0, .ref 1021), (1, .ref 0), (2, .ref 110), (3, .int i)] [] 215 215 100784 (zx σ) (QL E bS L xs) := by
  refine y_aload_n (q := 1) d_L_2757 rfl rfl ?_
  refine lc_271 d_L_2758 (Nat.le_of_ble_eq_true rfl) rfl rfl (Cz.mono h ?_)
  rintro v σ1 ⟨r, rfl, h⟩
  show Wx E YL 2761 [(0, .ref 1021), (1, .ref 0), (2, .ref 110), (3, .int i)] [.int r] 215 215 100784 (zx σ1) _
  refine y_popi d_L_2761 ?_
  refine y_aload_n (q := 2) d_L_2762 rfl rfl ?_
  refine lc_274 d_L_2763 (Nat.le_of_ble_eq_true rfl) rfl rfl (Cz.mono h ?_)
  rintro v σ2 ⟨⟨r2, rfl⟩, h⟩
  show Wx E YL 2766 [(0, .ref 1021), (1, .ref 0), (2, .ref 110), (3, .int i)] [.int r2] 215 215 100784 (zx σ2) _
  refine y_popi d_L_2766 ?_
  exact y_goto (tgt := 3476) d_L_2767 h
theorem L_62 {E : xV} {bS L : Nat} {xs : Nat → Int32} {i : Int32} {σ : zS}  (h : Cz E Y_H_tight [.ref 0] σ (fun v σ1 => ∃ r : Int32, v = some (.int r) ∧ Cz E Y_M_tight [.ref 110] σ1 (fun v' σ2 => (∃ r2 : Int32, v' = some (.int r2)) ∧ Wx E YL 3476 [(0, .ref 1021), (1, .ref 0), (2, .ref 110), (3, .int i)] [] 215 215 100784 (zx σ2) (QL E bS L xs)))) : Wx E YL 2770 [(0, .ref 1021), (1, .ref 0), (2, .ref 110), (3, .int i)] [] 215 215 100784 (zx σ) (QL E bS L xs) := by
  refine y_aload_n (q := 1) d_L_2770 rfl rfl ?_
  refine lc_275 d_L_2771 (Nat.le_of_ble_eq_true rfl) rfl rfl (Cz.mono h ?_)
  rintro v σ1 ⟨r, rfl, h⟩
  show Wx E YL 2774 [(0, .ref 1021), (1, .ref 0), (2, .ref 110), (3, .int i)] [.int r] 215 215 100784 (zx σ1) _
  refine y_popi d_L_2774 ?_
  refine y_aload_n (q := 2) d_L_2775 rfl rfl ?_
  refine lc_278 d_L_2776 (Nat.le_of_ble_eq_true rfl) rfl rfl (Cz.mono h ?_)
  rintro v σ2 ⟨⟨r2, rfl⟩, h⟩
  show Wx E YL 2779 [(0, .ref 1021), (1, .ref 0), (2, .ref 110), (3, .int i)] [.int r2] 215 215 100784 (zx σ2) _
  refine y_popi d_L_2779 ?_
  exact y_goto (tgt := 3476) d_L_2780 h
theorem L_63 {E : xV} {bS L : Nat} {xs : Nat → Int32} {i : Int32} {σ : zS}  (h : Cz E Y_H_lowered [.ref 0] σ (fun v σ1 => ∃ r : Int32, v = some (.int r) ∧ Cz E Y_M_lowered [.ref 110] σ1 (fun v' σ2 => (∃ r2 : Int32, v' = some (.int r2)) ∧ Wx E YL 3476 [(0, .ref 1021), (1, .ref 0), (2, .ref 110), (3, .int i)] [] 215 215 100784 (zx σ2) (QL E bS L xs)))) : Wx E YL 2783 [(0, .ref 1021), (1, .ref 0), (2, .ref 110), (3, .int i)] [] 215 215 100784 (zx σ) (QL E bS L xs) := by
  refine y_aload_n (q := 1) d_L_2783 rfl rfl ?_
  refine lc_279 d_L_2784 (Nat.le_of_ble_eq_true rfl) rfl rfl (Cz.mono h ?_)
  rintro v σ1 ⟨r, rfl, h⟩
  show Wx E YL 2787 [(0, .ref 1021), (1, .ref 0), (2, .ref 110), (3, .int i)] [.int r] 215 215 100784 (zx σ1) _
  refine y_popi d_L_2787 ?_
  refine y_aload_n (q := 2) d_L_2788 rfl rfl ?_
  refine lc_282 d_L_2789 (Nat.le_of_ble_eq_true rfl) rfl rfl (Cz.mono h ?_)
  rintro v σ2 ⟨⟨r2, rfl⟩, h⟩
  show Wx E YL 2792 [(0, .ref 1021), (1, .ref 0), (2, .ref 110), (3, .int i)] [.int r2] 215 215 100784 (zx σ2) _
  refine y_popi d_L_2792 ?_
  exact y_goto (tgt := 3476) d_L_2793 h
theorem L_64 {E : xV} {bS L : Nat} {xs : Nat → Int32} {i : Int32} {σ : zS} (hv1 : vp_in (i + 1) L) (hv2 : vp_in (i + 2) L) (h : Cz E Y_H_given [.ref 0, .int (xs (i + 1).toNatClampNeg), .int (xs (i + 2).toNatClampNeg)] σ (fun v σ1 => ∃ r : Int32, v = some (.int r) ∧ Cz E Y_M_given [.ref 110, .int (xs (i + 1).toNatClampNeg), .int (xs (i + 2).toNatClampNeg)] σ1 (fun v' σ2 => (∃ r2 : Int32, v' = some (.int r2)) ∧ Wx E YL 3476 [(0, .ref 1021), (1, .ref 0), (2, .ref 110), (3, .int i)] [] 215 215 100784 (zx σ2) (QL E bS L xs)))) : Wx E YL 2796 [(0, .ref 1021), (1, .ref 0), (2, .ref 110), (3, .int i)] [] 215 215 100784 (zx σ) (QL E bS L xs) := by
  refine y_aload_n (q := 1) d_L_2796 rfl rfl ?_
  refine y_aload_n (q := 0) d_L_2797 rfl rfl ?_
  refine y_iload_n (q := 3) d_L_2798 rfl rfl ?_
  refine y_iconst (v := 1) d_L_2799 (by decide) ?_
  refine y_iadd d_L_2800 ?_
  refine l_ld hv1 d_L_2801 ?_
  refine y_aload_n (q := 0) d_L_2802 rfl rfl ?_
  refine y_iload_n (q := 3) d_L_2803 rfl rfl ?_
  refine y_iconst (v := 2) d_L_2804 (by decide) ?_
  refine y_iadd d_L_2805 ?_
  refine l_ld hv2 d_L_2806 ?_
  refine lc_283 d_L_2807 (Nat.le_of_ble_eq_true rfl) rfl rfl (Cz.mono h ?_)
  rintro v σ1 ⟨r, rfl, h⟩
  show Wx E YL 2810 [(0, .ref 1021), (1, .ref 0), (2, .ref 110), (3, .int i)] [.int r] 215 215 100784 (zx σ1) _
  refine y_popi d_L_2810 ?_
  refine y_aload_n (q := 2) d_L_2811 rfl rfl ?_
  refine y_aload_n (q := 0) d_L_2812 rfl rfl ?_
  refine y_iload_n (q := 3) d_L_2813 rfl rfl ?_
  refine y_iconst (v := 1) d_L_2814 (by decide) ?_
  refine y_iadd d_L_2815 ?_
  refine l_ld hv1 d_L_2816 ?_
  refine y_aload_n (q := 0) d_L_2817 rfl rfl ?_
  refine y_iload_n (q := 3) d_L_2818 rfl rfl ?_
  refine y_iconst (v := 2) d_L_2819 (by decide) ?_
  refine y_iadd d_L_2820 ?_
  refine l_ld hv2 d_L_2821 ?_
  refine lc_286 d_L_2822 (Nat.le_of_ble_eq_true rfl) rfl rfl (Cz.mono h ?_)
  rintro v σ2 ⟨⟨r2, rfl⟩, h⟩
  show Wx E YL 2825 [(0, .ref 1021), (1, .ref 0), (2, .ref 110), (3, .int i)] [.int r2] 215 215 100784 (zx σ2) _
  refine y_popi d_L_2825 ?_
  exact y_goto (tgt := 3476) d_L_2826 h
theorem L_65 {E : xV} {bS L : Nat} {xs : Nat → Int32} {i : Int32} {σ : zS} (hv1 : vp_in (i + 1) L) (h : Cz E Y_H_flow [.ref 0, .int (xs (i + 1).toNatClampNeg)] σ (fun v σ1 => ∃ r : Int32, v = some (.int r) ∧ Cz E Y_M_flow [.ref 110, .int (xs (i + 1).toNatClampNeg)] σ1 (fun v' σ2 => (∃ r2 : Int32, v' = some (.int r2)) ∧ Wx E YL 3476 [(0, .ref 1021), (1, .ref 0), (2, .ref 110), (3, .int i)] [] 215 215 100784 (zx σ2) (QL E bS L xs)))) : Wx E YL 2829 [(0, .ref 1021), (1, .ref 0), (2, .ref 110), (3, .int i)] [] 215 215 100784 (zx σ) (QL E bS L xs) := by
  refine y_aload_n (q := 1) d_L_2829 rfl rfl ?_
  refine y_aload_n (q := 0) d_L_2830 rfl rfl ?_
  refine y_iload_n (q := 3) d_L_2831 rfl rfl ?_
  refine y_iconst (v := 1) d_L_2832 (by decide) ?_
  refine y_iadd d_L_2833 ?_
  refine l_ld hv1 d_L_2834 ?_
  refine lc_287 d_L_2835 (Nat.le_of_ble_eq_true rfl) rfl rfl (Cz.mono h ?_)
  rintro v σ1 ⟨r, rfl, h⟩
  show Wx E YL 2838 [(0, .ref 1021), (1, .ref 0), (2, .ref 110), (3, .int i)] [.int r] 215 215 100784 (zx σ1) _
  refine y_popi d_L_2838 ?_
  refine y_aload_n (q := 2) d_L_2839 rfl rfl ?_
  refine y_aload_n (q := 0) d_L_2840 rfl rfl ?_
  refine y_iload_n (q := 3) d_L_2841 rfl rfl ?_
  refine y_iconst (v := 1) d_L_2842 (by decide) ?_
  refine y_iadd d_L_2843 ?_
  refine l_ld hv1 d_L_2844 ?_
  refine lc_290 d_L_2845 (Nat.le_of_ble_eq_true rfl) rfl rfl (Cz.mono h ?_)
  rintro v σ2 ⟨⟨r2, rfl⟩, h⟩
  show Wx E YL 2848 [(0, .ref 1021), (1, .ref 0), (2, .ref 110), (3, .int i)] [.int r2] 215 215 100784 (zx σ2) _
  refine y_popi d_L_2848 ?_
  exact y_goto (tgt := 3476) d_L_2849 h
theorem L_66 {E : xV} {bS L : Nat} {xs : Nat → Int32} {i : Int32} {σ : zS} (hv1 : vp_in (i + 1) L) (hv2 : vp_in (i + 2) L) (h : Cz E Y_H_said [.ref 0, .int (xs (i + 1).toNatClampNeg), .int (xs (i + 2).toNatClampNeg)] σ (fun v σ1 => ∃ r : Int32, v = some (.int r) ∧ Cz E Y_M_said [.ref 110, .int (xs (i + 1).toNatClampNeg), .int (xs (i + 2).toNatClampNeg)] σ1 (fun v' σ2 => (∃ r2 : Int32, v' = some (.int r2)) ∧ Wx E YL 3476 [(0, .ref 1021), (1, .ref 0), (2, .ref 110), (3, .int i)] [] 215 215 100784 (zx σ2) (QL E bS L xs)))) : Wx E YL 2852 [(0, .ref 1021), (1, .ref 0), (2, .ref 110), (3, .int i)] [] 215 215 100784 (zx σ) (QL E bS L xs) := by
  refine y_aload_n (q := 1) d_L_2852 rfl rfl ?_
  refine y_aload_n (q := 0) d_L_2853 rfl rfl ?_
  refine y_iload_n (q := 3) d_L_2854 rfl rfl ?_
  refine y_iconst (v := 1) d_L_2855 (by decide) ?_
  refine y_iadd d_L_2856 ?_
  refine l_ld hv1 d_L_2857 ?_
  refine y_aload_n (q := 0) d_L_2858 rfl rfl ?_
  refine y_iload_n (q := 3) d_L_2859 rfl rfl ?_
  refine y_iconst (v := 2) d_L_2860 (by decide) ?_
  refine y_iadd d_L_2861 ?_
  refine l_ld hv2 d_L_2862 ?_
  refine lc_291 d_L_2863 (Nat.le_of_ble_eq_true rfl) rfl rfl (Cz.mono h ?_)
  rintro v σ1 ⟨r, rfl, h⟩
  show Wx E YL 2866 [(0, .ref 1021), (1, .ref 0), (2, .ref 110), (3, .int i)] [.int r] 215 215 100784 (zx σ1) _
  refine y_popi d_L_2866 ?_
  refine y_aload_n (q := 2) d_L_2867 rfl rfl ?_
  refine y_aload_n (q := 0) d_L_2868 rfl rfl ?_
  refine y_iload_n (q := 3) d_L_2869 rfl rfl ?_
  refine y_iconst (v := 1) d_L_2870 (by decide) ?_
  refine y_iadd d_L_2871 ?_
  refine l_ld hv1 d_L_2872 ?_
  refine y_aload_n (q := 0) d_L_2873 rfl rfl ?_
  refine y_iload_n (q := 3) d_L_2874 rfl rfl ?_
  refine y_iconst (v := 2) d_L_2875 (by decide) ?_
  refine y_iadd d_L_2876 ?_
  refine l_ld hv2 d_L_2877 ?_
  refine lc_294 d_L_2878 (Nat.le_of_ble_eq_true rfl) rfl rfl (Cz.mono h ?_)
  rintro v σ2 ⟨⟨r2, rfl⟩, h⟩
  show Wx E YL 2881 [(0, .ref 1021), (1, .ref 0), (2, .ref 110), (3, .int i)] [.int r2] 215 215 100784 (zx σ2) _
  refine y_popi d_L_2881 ?_
  exact y_goto (tgt := 3476) d_L_2882 h
theorem L_67 {E : xV} {bS L : Nat} {xs : Nat → Int32} {i : Int32} {σ : zS} (hv1 : vp_in (i + 1) L) (h : Cz E Y_H_variable [.ref 0, .int (xs (i + 1).toNatClampNeg)] σ (fun v σ1 => ∃ r : Int32, v = some (.int r) ∧ Cz E Y_M_variable [.ref 110, .int (xs (i + 1).toNatClampNeg)] σ1 (fun v' σ2 => (∃ r2 : Int32, v' = some (.int r2)) ∧ Wx E YL 3476 [(0, .ref 1021), (1, .ref 0), (2, .ref 110), (3, .int i)] [] 215 215 100784 (zx σ2) (QL E bS L xs)))) : Wx E YL 2885 [(0, .ref 1021), (1, .ref 0), (2, .ref 110), (3, .int i)] [] 215 215 100784 (zx σ) (QL E bS L xs) := by
  refine y_aload_n (q := 1) d_L_2885 rfl rfl ?_
  refine y_aload_n (q := 0) d_L_2886 rfl rfl ?_
  refine y_iload_n (q := 3) d_L_2887 rfl rfl ?_
  refine y_iconst (v := 1) d_L_2888 (by decide) ?_
  refine y_iadd d_L_2889 ?_
  refine l_ld hv1 d_L_2890 ?_
  refine lc_295 d_L_2891 (Nat.le_of_ble_eq_true rfl) rfl rfl (Cz.mono h ?_)
  rintro v σ1 ⟨r, rfl, h⟩
  show Wx E YL 2894 [(0, .ref 1021), (1, .ref 0), (2, .ref 110), (3, .int i)] [.int r] 215 215 100784 (zx σ1) _
  refine y_popi d_L_2894 ?_
  refine y_aload_n (q := 2) d_L_2895 rfl rfl ?_
  refine y_aload_n (q := 0) d_L_2896 rfl rfl ?_
  refine y_iload_n (q := 3) d_L_2897 rfl rfl ?_
  refine y_iconst (v := 1) d_L_2898 (by decide) ?_
  refine y_iadd d_L_2899 ?_
  refine l_ld hv1 d_L_2900 ?_
  refine lc_298 d_L_2901 (Nat.le_of_ble_eq_true rfl) rfl rfl (Cz.mono h ?_)
  rintro v σ2 ⟨⟨r2, rfl⟩, h⟩
  show Wx E YL 2904 [(0, .ref 1021), (1, .ref 0), (2, .ref 110), (3, .int i)] [.int r2] 215 215 100784 (zx σ2) _
  refine y_popi d_L_2904 ?_
  exact y_goto (tgt := 3476) d_L_2905 h
theorem L_68 {E : xV} {bS L : Nat} {xs : Nat → Int32} {i : Int32} {σ : zS} (hv1 : vp_in (i + 1) L) (hv2 : vp_in (i + 2) L) (hv3 : vp_in (i + 3) L) (h : Cz E Y_H_guarded [.ref 0, .int (xs (i + 1).toNatClampNeg), .long ((j_lshl (Int32.toInt64 (xs (i + 2).toNatClampNeg)) 32) ||| ((Int32.toInt64 (xs (i + 3).toNatClampNeg)) &&& 4294967295))] σ (fun v σ1 => ∃ r : Int64, v = some (.long r) ∧ Cz E Y_M_guarded [.ref 110, .int (xs (i + 1).toNatClampNeg), .long ((j_lshl (Int32.toInt64 (xs (i + 2).toNatClampNeg)) 32) ||| ((Int32.toInt64 (xs (i + 3).toNatClampNeg)) &&& 4294967295))] σ1 (fun v' σ2 => (∃ r2 : Int64, v' = some (.long r2)) ∧ Wx E YL 3476 [(0, .ref 1021), (1, .ref 0), (2, .ref 110), (3, .int i)] [] 215 215 100784 (zx σ2) (QL E bS L xs)))) : Wx E YL 2908 [(0, .ref 1021), (1, .ref 0), (2, .ref 110), (3, .int i)] [] 215 215 100784 (zx σ) (QL E bS L xs) := by
  refine y_aload_n (q := 1) d_L_2908 rfl rfl ?_
  refine y_aload_n (q := 0) d_L_2909 rfl rfl ?_
  refine y_iload_n (q := 3) d_L_2910 rfl rfl ?_
  refine y_iconst (v := 1) d_L_2911 (by decide) ?_
  refine y_iadd d_L_2912 ?_
  refine l_ld hv1 d_L_2913 ?_
  refine y_aload_n (q := 0) d_L_2914 rfl rfl ?_
  refine y_iload_n (q := 3) d_L_2915 rfl rfl ?_
  refine y_iconst (v := 2) d_L_2916 (by decide) ?_
  refine y_iadd d_L_2917 ?_
  refine l_ld hv2 d_L_2918 ?_
  refine y_i2l (v := (Int32.toInt64 (xs (i + 2).toNatClampNeg))) d_L_2919 rfl ?_
  refine y_bipush (v := 32) d_L_2920 (by decide) ?_
  refine y_lshl (v := (j_lshl (Int32.toInt64 (xs (i + 2).toNatClampNeg)) 32)) d_L_2922 rfl ?_
  refine y_aload_n (q := 0) d_L_2923 rfl rfl ?_
  refine y_iload_n (q := 3) d_L_2924 rfl rfl ?_
  refine y_iconst (v := 3) d_L_2925 (by decide) ?_
  refine y_iadd d_L_2926 ?_
  refine l_ld hv3 d_L_2927 ?_
  refine y_i2l (v := (Int32.toInt64 (xs (i + 3).toNatClampNeg))) d_L_2928 rfl ?_
  refine y_ldc2 (v := 4294967295) d_L_2929 k_13_224 ?_
  refine y_land d_L_2932 ?_
  refine y_lor d_L_2933 ?_
  refine lc_299 d_L_2934 (Nat.le_of_ble_eq_true rfl) rfl rfl (Cz.mono h ?_)
  rintro v σ1 ⟨r, rfl, h⟩
  show Wx E YL 2937 [(0, .ref 1021), (1, .ref 0), (2, .ref 110), (3, .int i)] [.long r] 215 215 100784 (zx σ1) _
  refine y_pop2l d_L_2937 ?_
  refine y_aload_n (q := 2) d_L_2938 rfl rfl ?_
  refine y_aload_n (q := 0) d_L_2939 rfl rfl ?_
  refine y_iload_n (q := 3) d_L_2940 rfl rfl ?_
  refine y_iconst (v := 1) d_L_2941 (by decide) ?_
  refine y_iadd d_L_2942 ?_
  refine l_ld hv1 d_L_2943 ?_
  refine y_aload_n (q := 0) d_L_2944 rfl rfl ?_
  refine y_iload_n (q := 3) d_L_2945 rfl rfl ?_
  refine y_iconst (v := 2) d_L_2946 (by decide) ?_
  refine y_iadd d_L_2947 ?_
  refine l_ld hv2 d_L_2948 ?_
  refine y_i2l (v := (Int32.toInt64 (xs (i + 2).toNatClampNeg))) d_L_2949 rfl ?_
  refine y_bipush (v := 32) d_L_2950 (by decide) ?_
  refine y_lshl (v := (j_lshl (Int32.toInt64 (xs (i + 2).toNatClampNeg)) 32)) d_L_2952 rfl ?_
  refine y_aload_n (q := 0) d_L_2953 rfl rfl ?_
  refine y_iload_n (q := 3) d_L_2954 rfl rfl ?_
  refine y_iconst (v := 3) d_L_2955 (by decide) ?_
  refine y_iadd d_L_2956 ?_
  refine l_ld hv3 d_L_2957 ?_
  refine y_i2l (v := (Int32.toInt64 (xs (i + 3).toNatClampNeg))) d_L_2958 rfl ?_
  refine y_ldc2 (v := 4294967295) d_L_2959 k_13_224 ?_
  refine y_land d_L_2962 ?_
  refine y_lor d_L_2963 ?_
  refine lc_303 d_L_2964 (Nat.le_of_ble_eq_true rfl) rfl rfl (Cz.mono h ?_)
  rintro v σ2 ⟨⟨r2, rfl⟩, h⟩
  show Wx E YL 2967 [(0, .ref 1021), (1, .ref 0), (2, .ref 110), (3, .int i)] [.long r2] 215 215 100784 (zx σ2) _
  refine y_pop2l d_L_2967 ?_
  exact y_goto (tgt := 3476) d_L_2968 h
theorem L_69 {E : xV} {bS L : Nat} {xs : Nat → Int32} {i : Int32} {σ : zS} (hv1 : vp_in (i + 1) L) (hv2 : vp_in (i + 2) L) (hv3 : vp_in (i + 3) L) (h : Cz E Y_H_sum [.ref 0, .int (xs (i + 1).toNatClampNeg), .long ((j_lshl (Int32.toInt64 (xs (i + 2).toNatClampNeg)) 32) ||| ((Int32.toInt64 (xs (i + 3).toNatClampNeg)) &&& 4294967295))] σ (fun v σ1 => ∃ r : Int64, v = some (.long r) ∧ Cz E Y_M_sum [.ref 110, .int (xs (i + 1).toNatClampNeg), .long ((j_lshl (Int32.toInt64 (xs (i + 2).toNatClampNeg)) 32) ||| ((Int32.toInt64 (xs (i + 3).toNatClampNeg)) &&& 4294967295))] σ1 (fun v' σ2 => (∃ r2 : Int64, v' = some (.long r2)) ∧ Wx E YL 3476 [(0, .ref 1021), (1, .ref 0), (2, .ref 110), (3, .int i)] [] 215 215 100784 (zx σ2) (QL E bS L xs)))) : Wx E YL 2971 [(0, .ref 1021), (1, .ref 0), (2, .ref 110), (3, .int i)] [] 215 215 100784 (zx σ) (QL E bS L xs) := by
  refine y_aload_n (q := 1) d_L_2971 rfl rfl ?_
  refine y_aload_n (q := 0) d_L_2972 rfl rfl ?_
  refine y_iload_n (q := 3) d_L_2973 rfl rfl ?_
  refine y_iconst (v := 1) d_L_2974 (by decide) ?_
  refine y_iadd d_L_2975 ?_
  refine l_ld hv1 d_L_2976 ?_
  refine y_aload_n (q := 0) d_L_2977 rfl rfl ?_
  refine y_iload_n (q := 3) d_L_2978 rfl rfl ?_
  refine y_iconst (v := 2) d_L_2979 (by decide) ?_
  refine y_iadd d_L_2980 ?_
  refine l_ld hv2 d_L_2981 ?_
  refine y_i2l (v := (Int32.toInt64 (xs (i + 2).toNatClampNeg))) d_L_2982 rfl ?_
  refine y_bipush (v := 32) d_L_2983 (by decide) ?_
  refine y_lshl (v := (j_lshl (Int32.toInt64 (xs (i + 2).toNatClampNeg)) 32)) d_L_2985 rfl ?_
  refine y_aload_n (q := 0) d_L_2986 rfl rfl ?_
  refine y_iload_n (q := 3) d_L_2987 rfl rfl ?_
  refine y_iconst (v := 3) d_L_2988 (by decide) ?_
  refine y_iadd d_L_2989 ?_
  refine l_ld hv3 d_L_2990 ?_
  refine y_i2l (v := (Int32.toInt64 (xs (i + 3).toNatClampNeg))) d_L_2991 rfl ?_
  refine y_ldc2 (v := 4294967295) d_L_2992 k_13_224 ?_
  refine y_land d_L_2995 ?_
  refine y_lor d_L_2996 ?_
  refine lc_304 d_L_2997 (Nat.le_of_ble_eq_true rfl) rfl rfl (Cz.mono h ?_)
  rintro v σ1 ⟨r, rfl, h⟩
  show Wx E YL 3000 [(0, .ref 1021), (1, .ref 0), (2, .ref 110), (3, .int i)] [.long r] 215 215 100784 (zx σ1) _
  refine y_pop2l d_L_3000 ?_
  refine y_aload_n (q := 2) d_L_3001 rfl rfl ?_
  refine y_aload_n (q := 0) d_L_3002 rfl rfl ?_
  refine y_iload_n (q := 3) d_L_3003 rfl rfl ?_
  refine y_iconst (v := 1) d_L_3004 (by decide) ?_
  refine y_iadd d_L_3005 ?_
  refine l_ld hv1 d_L_3006 ?_
  refine y_aload_n (q := 0) d_L_3007 rfl rfl ?_
  refine y_iload_n (q := 3) d_L_3008 rfl rfl ?_
  refine y_iconst (v := 2) d_L_3009 (by decide) ?_
  refine y_iadd d_L_3010 ?_
  refine l_ld hv2 d_L_3011 ?_
  refine y_i2l (v := (Int32.toInt64 (xs (i + 2).toNatClampNeg))) d_L_3012 rfl ?_
  refine y_bipush (v := 32) d_L_3013 (by decide) ?_
  refine y_lshl (v := (j_lshl (Int32.toInt64 (xs (i + 2).toNatClampNeg)) 32)) d_L_3015 rfl ?_
  refine y_aload_n (q := 0) d_L_3016 rfl rfl ?_
  refine y_iload_n (q := 3) d_L_3017 rfl rfl ?_
  refine y_iconst (v := 3) d_L_3018 (by decide) ?_
  refine y_iadd d_L_3019 ?_
  refine l_ld hv3 d_L_3020 ?_
  refine y_i2l (v := (Int32.toInt64 (xs (i + 3).toNatClampNeg))) d_L_3021 rfl ?_
  refine y_ldc2 (v := 4294967295) d_L_3022 k_13_224 ?_
  refine y_land d_L_3025 ?_
  refine y_lor d_L_3026 ?_
  refine lc_307 d_L_3027 (Nat.le_of_ble_eq_true rfl) rfl rfl (Cz.mono h ?_)
  rintro v σ2 ⟨⟨r2, rfl⟩, h⟩
  show Wx E YL 3030 [(0, .ref 1021), (1, .ref 0), (2, .ref 110), (3, .int i)] [.long r2] 215 215 100784 (zx σ2) _
  refine y_pop2l d_L_3030 ?_
  exact y_goto (tgt := 3476) d_L_3031 h
theorem L_70 {E : xV} {bS L : Nat} {xs : Nat → Int32} {i : Int32} {σ : zS} (hv1 : vp_in (i + 1) L) (hv2 : vp_in (i + 2) L) (h : Cz E Y_H_share [.ref 0, .int (xs (i + 1).toNatClampNeg), .int (xs (i + 2).toNatClampNeg)] σ (fun v σ1 => ∃ r : Int32, v = some (.int r) ∧ Cz E Y_M_share [.ref 110, .int (xs (i + 1).toNatClampNeg), .int (xs (i + 2).toNatClampNeg)] σ1 (fun v' σ2 => (∃ r2 : Int32, v' = some (.int r2)) ∧ Wx E YL 3476 [(0, .ref 1021), (1, .ref 0), (2, .ref 110), (3, .int i)] [] 215 215 100784 (zx σ2) (QL E bS L xs)))) : Wx E YL 3034 [(0, .ref 1021), (1, .ref 0), (2, .ref 110), (3, .int i)] [] 215 215 100784 (zx σ) (QL E bS L xs) := by
  refine y_aload_n (q := 1) d_L_3034 rfl rfl ?_
  refine y_aload_n (q := 0) d_L_3035 rfl rfl ?_
  refine y_iload_n (q := 3) d_L_3036 rfl rfl ?_
  refine y_iconst (v := 1) d_L_3037 (by decide) ?_
  refine y_iadd d_L_3038 ?_
  refine l_ld hv1 d_L_3039 ?_
  refine y_aload_n (q := 0) d_L_3040 rfl rfl ?_
  refine y_iload_n (q := 3) d_L_3041 rfl rfl ?_
  refine y_iconst (v := 2) d_L_3042 (by decide) ?_
  refine y_iadd d_L_3043 ?_
  refine l_ld hv2 d_L_3044 ?_
  refine lc_308 d_L_3045 (Nat.le_of_ble_eq_true rfl) rfl rfl (Cz.mono h ?_)
  rintro v σ1 ⟨r, rfl, h⟩
  show Wx E YL 3048 [(0, .ref 1021), (1, .ref 0), (2, .ref 110), (3, .int i)] [.int r] 215 215 100784 (zx σ1) _
  refine y_popi d_L_3048 ?_
  refine y_aload_n (q := 2) d_L_3049 rfl rfl ?_
  refine y_aload_n (q := 0) d_L_3050 rfl rfl ?_
  refine y_iload_n (q := 3) d_L_3051 rfl rfl ?_
  refine y_iconst (v := 1) d_L_3052 (by decide) ?_
  refine y_iadd d_L_3053 ?_
  refine l_ld hv1 d_L_3054 ?_
  refine y_aload_n (q := 0) d_L_3055 rfl rfl ?_
  refine y_iload_n (q := 3) d_L_3056 rfl rfl ?_
  refine y_iconst (v := 2) d_L_3057 (by decide) ?_
  refine y_iadd d_L_3058 ?_
  refine l_ld hv2 d_L_3059 ?_
  refine lc_311 d_L_3060 (Nat.le_of_ble_eq_true rfl) rfl rfl (Cz.mono h ?_)
  rintro v σ2 ⟨⟨r2, rfl⟩, h⟩
  show Wx E YL 3063 [(0, .ref 1021), (1, .ref 0), (2, .ref 110), (3, .int i)] [.int r2] 215 215 100784 (zx σ2) _
  refine y_popi d_L_3063 ?_
  exact y_goto (tgt := 3476) d_L_3064 h
theorem L_71 {E : xV} {bS L : Nat} {xs : Nat → Int32} {i : Int32} {σ : zS} (hv1 : vp_in (i + 1) L) (hv2 : vp_in (i + 2) L) (h : Cz E Y_H_knows [.ref 0, .int (xs (i + 1).toNatClampNeg), .int (xs (i + 2).toNatClampNeg)] σ (fun v σ1 => ∃ r : Int32, v = some (.int r) ∧ Cz E Y_M_knows [.ref 110, .int (xs (i + 1).toNatClampNeg), .int (xs (i + 2).toNatClampNeg)] σ1 (fun v' σ2 => (∃ r2 : Int32, v' = some (.int r2)) ∧ Wx E YL 3476 [(0, .ref 1021), (1, .ref 0), (2, .ref 110), (3, .int i)] [] 215 215 100784 (zx σ2) (QL E bS L xs)))) : Wx E YL 3067 [(0, .ref 1021), (1, .ref 0), (2, .ref 110), (3, .int i)] [] 215 215 100784 (zx σ) (QL E bS L xs) := by
  refine y_aload_n (q := 1) d_L_3067 rfl rfl ?_
  refine y_aload_n (q := 0) d_L_3068 rfl rfl ?_
  refine y_iload_n (q := 3) d_L_3069 rfl rfl ?_
  refine y_iconst (v := 1) d_L_3070 (by decide) ?_
  refine y_iadd d_L_3071 ?_
  refine l_ld hv1 d_L_3072 ?_
  refine y_aload_n (q := 0) d_L_3073 rfl rfl ?_
  refine y_iload_n (q := 3) d_L_3074 rfl rfl ?_
  refine y_iconst (v := 2) d_L_3075 (by decide) ?_
  refine y_iadd d_L_3076 ?_
  refine l_ld hv2 d_L_3077 ?_
  refine lc_312 d_L_3078 (Nat.le_of_ble_eq_true rfl) rfl rfl (Cz.mono h ?_)
  rintro v σ1 ⟨r, rfl, h⟩
  show Wx E YL 3081 [(0, .ref 1021), (1, .ref 0), (2, .ref 110), (3, .int i)] [.int r] 215 215 100784 (zx σ1) _
  refine y_popi d_L_3081 ?_
  refine y_aload_n (q := 2) d_L_3082 rfl rfl ?_
  refine y_aload_n (q := 0) d_L_3083 rfl rfl ?_
  refine y_iload_n (q := 3) d_L_3084 rfl rfl ?_
  refine y_iconst (v := 1) d_L_3085 (by decide) ?_
  refine y_iadd d_L_3086 ?_
  refine l_ld hv1 d_L_3087 ?_
  refine y_aload_n (q := 0) d_L_3088 rfl rfl ?_
  refine y_iload_n (q := 3) d_L_3089 rfl rfl ?_
  refine y_iconst (v := 2) d_L_3090 (by decide) ?_
  refine y_iadd d_L_3091 ?_
  refine l_ld hv2 d_L_3092 ?_
  refine lc_315 d_L_3093 (Nat.le_of_ble_eq_true rfl) rfl rfl (Cz.mono h ?_)
  rintro v σ2 ⟨⟨r2, rfl⟩, h⟩
  show Wx E YL 3096 [(0, .ref 1021), (1, .ref 0), (2, .ref 110), (3, .int i)] [.int r2] 215 215 100784 (zx σ2) _
  refine y_popi d_L_3096 ?_
  exact y_goto (tgt := 3476) d_L_3097 h
theorem L_72 {E : xV} {bS L : Nat} {xs : Nat → Int32} {i : Int32} {σ : zS} (hv1 : vp_in (i + 1) L) (h : Cz E Y_H_room [.ref 0, .int (xs (i + 1).toNatClampNeg)] σ (fun v σ1 => ∃ r : Int32, v = some (.int r) ∧ Cz E Y_M_room [.ref 110, .int (xs (i + 1).toNatClampNeg)] σ1 (fun v' σ2 => (∃ r2 : Int32, v' = some (.int r2)) ∧ Wx E YL 3476 [(0, .ref 1021), (1, .ref 0), (2, .ref 110), (3, .int i)] [] 215 215 100784 (zx σ2) (QL E bS L xs)))) : Wx E YL 3100 [(0, .ref 1021), (1, .ref 0), (2, .ref 110), (3, .int i)] [] 215 215 100784 (zx σ) (QL E bS L xs) := by
  refine y_aload_n (q := 1) d_L_3100 rfl rfl ?_
  refine y_aload_n (q := 0) d_L_3101 rfl rfl ?_
  refine y_iload_n (q := 3) d_L_3102 rfl rfl ?_
  refine y_iconst (v := 1) d_L_3103 (by decide) ?_
  refine y_iadd d_L_3104 ?_
  refine l_ld hv1 d_L_3105 ?_
  refine lc_316 d_L_3106 (Nat.le_of_ble_eq_true rfl) rfl rfl (Cz.mono h ?_)
  rintro v σ1 ⟨r, rfl, h⟩
  show Wx E YL 3109 [(0, .ref 1021), (1, .ref 0), (2, .ref 110), (3, .int i)] [.int r] 215 215 100784 (zx σ1) _
  refine y_popi d_L_3109 ?_
  refine y_aload_n (q := 2) d_L_3110 rfl rfl ?_
  refine y_aload_n (q := 0) d_L_3111 rfl rfl ?_
  refine y_iload_n (q := 3) d_L_3112 rfl rfl ?_
  refine y_iconst (v := 1) d_L_3113 (by decide) ?_
  refine y_iadd d_L_3114 ?_
  refine l_ld hv1 d_L_3115 ?_
  refine lc_319 d_L_3116 (Nat.le_of_ble_eq_true rfl) rfl rfl (Cz.mono h ?_)
  rintro v σ2 ⟨⟨r2, rfl⟩, h⟩
  show Wx E YL 3119 [(0, .ref 1021), (1, .ref 0), (2, .ref 110), (3, .int i)] [.int r2] 215 215 100784 (zx σ2) _
  refine y_popi d_L_3119 ?_
  exact y_goto (tgt := 3476) d_L_3120 h
theorem L_73 {E : xV} {bS L : Nat} {xs : Nat → Int32} {i : Int32} {σ : zS} (hv1 : vp_in (i + 1) L) (h : Cz E Y_H_method [.ref 0, .int (xs (i + 1).toNatClampNeg)] σ (fun v σ1 => ∃ r : Int32, v = some (.int r) ∧ Cz E Y_M_method [.ref 110, .int (xs (i + 1).toNatClampNeg)] σ1 (fun v' σ2 => (∃ r2 : Int32, v' = some (.int r2)) ∧ Wx E YL 3476 [(0, .ref 1021), (1, .ref 0), (2, .ref 110), (3, .int i)] [] 215 215 100784 (zx σ2) (QL E bS L xs)))) : Wx E YL 3123 [(0, .ref 1021), (1, .ref 0), (2, .ref 110), (3, .int i)] [] 215 215 100784 (zx σ) (QL E bS L xs) := by
  refine y_aload_n (q := 1) d_L_3123 rfl rfl ?_
  refine y_aload_n (q := 0) d_L_3124 rfl rfl ?_
  refine y_iload_n (q := 3) d_L_3125 rfl rfl ?_
  refine y_iconst (v := 1) d_L_3126 (by decide) ?_
  refine y_iadd d_L_3127 ?_
  refine l_ld hv1 d_L_3128 ?_
  refine lc_320 d_L_3129 (Nat.le_of_ble_eq_true rfl) rfl rfl (Cz.mono h ?_)
  rintro v σ1 ⟨r, rfl, h⟩
  show Wx E YL 3132 [(0, .ref 1021), (1, .ref 0), (2, .ref 110), (3, .int i)] [.int r] 215 215 100784 (zx σ1) _
  refine y_popi d_L_3132 ?_
  refine y_aload_n (q := 2) d_L_3133 rfl rfl ?_
  refine y_aload_n (q := 0) d_L_3134 rfl rfl ?_
  refine y_iload_n (q := 3) d_L_3135 rfl rfl ?_
  refine y_iconst (v := 1) d_L_3136 (by decide) ?_
  refine y_iadd d_L_3137 ?_
  refine l_ld hv1 d_L_3138 ?_
  refine lc_323 d_L_3139 (Nat.le_of_ble_eq_true rfl) rfl rfl (Cz.mono h ?_)
  rintro v σ2 ⟨⟨r2, rfl⟩, h⟩
  show Wx E YL 3142 [(0, .ref 1021), (1, .ref 0), (2, .ref 110), (3, .int i)] [.int r2] 215 215 100784 (zx σ2) _
  refine y_popi d_L_3142 ?_
  exact y_goto (tgt := 3476) d_L_3143 h
theorem L_74 {E : xV} {bS L : Nat} {xs : Nat → Int32} {i : Int32} {σ : zS} (hv1 : vp_in (i + 1) L) (hv2 : vp_in (i + 2) L) (hv3 : vp_in (i + 3) L) (hv4 : vp_in (i + 4) L) (h : Cz E Y_H_op [.ref 0, .int (xs (i + 1).toNatClampNeg), .int (xs (i + 2).toNatClampNeg), .int (xs (i + 3).toNatClampNeg), .int (xs (i + 4).toNatClampNeg)] σ (fun v σ1 => ∃ r : Int32, v = some (.int r) ∧ Cz E Y_M_op [.ref 110, .int (xs (i + 1).toNatClampNeg), .int (xs (i + 2).toNatClampNeg), .int (xs (i + 3).toNatClampNeg), .int (xs (i + 4).toNatClampNeg)] σ1 (fun v' σ2 => (∃ r2 : Int32, v' = some (.int r2)) ∧ Wx E YL 3476 [(0, .ref 1021), (1, .ref 0), (2, .ref 110), (3, .int i)] [] 215 215 100784 (zx σ2) (QL E bS L xs)))) : Wx E YL 3146 [(0, .ref 1021), (1, .ref 0), (2, .ref 110), (3, .int i)] [] 215 215 100784 (zx σ) (QL E bS L xs) := by
  refine y_aload_n (q := 1) d_L_3146 rfl rfl ?_
  refine y_aload_n (q := 0) d_L_3147 rfl rfl ?_
  refine y_iload_n (q := 3) d_L_3148 rfl rfl ?_
  refine y_iconst (v := 1) d_L_3149 (by decide) ?_
  refine y_iadd d_L_3150 ?_
  refine l_ld hv1 d_L_3151 ?_
  refine y_aload_n (q := 0) d_L_3152 rfl rfl ?_
  refine y_iload_n (q := 3) d_L_3153 rfl rfl ?_
  refine y_iconst (v := 2) d_L_3154 (by decide) ?_
  refine y_iadd d_L_3155 ?_
  refine l_ld hv2 d_L_3156 ?_
  refine y_aload_n (q := 0) d_L_3157 rfl rfl ?_
  refine y_iload_n (q := 3) d_L_3158 rfl rfl ?_
  refine y_iconst (v := 3) d_L_3159 (by decide) ?_
  refine y_iadd d_L_3160 ?_
  refine l_ld hv3 d_L_3161 ?_
  refine y_aload_n (q := 0) d_L_3162 rfl rfl ?_
  refine y_iload_n (q := 3) d_L_3163 rfl rfl ?_
  refine y_iconst (v := 4) d_L_3164 (by decide) ?_
  refine y_iadd d_L_3165 ?_
  refine l_ld hv4 d_L_3166 ?_
  refine lc_324 d_L_3167 (Nat.le_of_ble_eq_true rfl) rfl rfl (Cz.mono h ?_)
  rintro v σ1 ⟨r, rfl, h⟩
  show Wx E YL 3170 [(0, .ref 1021), (1, .ref 0), (2, .ref 110), (3, .int i)] [.int r] 215 215 100784 (zx σ1) _
  refine y_popi d_L_3170 ?_
  refine y_aload_n (q := 2) d_L_3171 rfl rfl ?_
  refine y_aload_n (q := 0) d_L_3172 rfl rfl ?_
  refine y_iload_n (q := 3) d_L_3173 rfl rfl ?_
  refine y_iconst (v := 1) d_L_3174 (by decide) ?_
  refine y_iadd d_L_3175 ?_
  refine l_ld hv1 d_L_3176 ?_
  refine y_aload_n (q := 0) d_L_3177 rfl rfl ?_
  refine y_iload_n (q := 3) d_L_3178 rfl rfl ?_
  refine y_iconst (v := 2) d_L_3179 (by decide) ?_
  refine y_iadd d_L_3180 ?_
  refine l_ld hv2 d_L_3181 ?_
  refine y_aload_n (q := 0) d_L_3182 rfl rfl ?_
  refine y_iload_n (q := 3) d_L_3183 rfl rfl ?_
  refine y_iconst (v := 3) d_L_3184 (by decide) ?_
  refine y_iadd d_L_3185 ?_
  refine l_ld hv3 d_L_3186 ?_
  refine y_aload_n (q := 0) d_L_3187 rfl rfl ?_
  refine y_iload_n (q := 3) d_L_3188 rfl rfl ?_
  refine y_iconst (v := 4) d_L_3189 (by decide) ?_
  refine y_iadd d_L_3190 ?_
  refine l_ld hv4 d_L_3191 ?_
  refine lc_327 d_L_3192 (Nat.le_of_ble_eq_true rfl) rfl rfl (Cz.mono h ?_)
  rintro v σ2 ⟨⟨r2, rfl⟩, h⟩
  show Wx E YL 3195 [(0, .ref 1021), (1, .ref 0), (2, .ref 110), (3, .int i)] [.int r2] 215 215 100784 (zx σ2) _
  refine y_popi d_L_3195 ?_
  exact y_goto (tgt := 3476) d_L_3196 h
theorem L_75 {E : xV} {bS L : Nat} {xs : Nat → Int32} {i : Int32} {σ : zS} (hv1 : vp_in (i + 1) L) (hv2 : vp_in (i + 2) L) (h : Cz E Y_H_enter [.ref 0, .int (xs (i + 1).toNatClampNeg), .int (xs (i + 2).toNatClampNeg)] σ (fun v σ1 => ∃ r : Int32, v = some (.int r) ∧ Cz E Y_M_enter [.ref 110, .int (xs (i + 1).toNatClampNeg), .int (xs (i + 2).toNatClampNeg)] σ1 (fun v' σ2 => (∃ r2 : Int32, v' = some (.int r2)) ∧ Wx E YL 3476 [(0, .ref 1021), (1, .ref 0), (2, .ref 110), (3, .int i)] [] 215 215 100784 (zx σ2) (QL E bS L xs)))) : Wx E YL 3199 [(0, .ref 1021), (1, .ref 0), (2, .ref 110), (3, .int i)] [] 215 215 100784 (zx σ) (QL E bS L xs) := by
  refine y_aload_n (q := 1) d_L_3199 rfl rfl ?_
  refine y_aload_n (q := 0) d_L_3200 rfl rfl ?_
  refine y_iload_n (q := 3) d_L_3201 rfl rfl ?_
  refine y_iconst (v := 1) d_L_3202 (by decide) ?_
  refine y_iadd d_L_3203 ?_
  refine l_ld hv1 d_L_3204 ?_
  refine y_aload_n (q := 0) d_L_3205 rfl rfl ?_
  refine y_iload_n (q := 3) d_L_3206 rfl rfl ?_
  refine y_iconst (v := 2) d_L_3207 (by decide) ?_
  refine y_iadd d_L_3208 ?_
  refine l_ld hv2 d_L_3209 ?_
  refine lc_328 d_L_3210 (Nat.le_of_ble_eq_true rfl) rfl rfl (Cz.mono h ?_)
  rintro v σ1 ⟨r, rfl, h⟩
  show Wx E YL 3213 [(0, .ref 1021), (1, .ref 0), (2, .ref 110), (3, .int i)] [.int r] 215 215 100784 (zx σ1) _
  refine y_popi d_L_3213 ?_
  refine y_aload_n (q := 2) d_L_3214 rfl rfl ?_
  refine y_aload_n (q := 0) d_L_3215 rfl rfl ?_
  refine y_iload_n (q := 3) d_L_3216 rfl rfl ?_
  refine y_iconst (v := 1) d_L_3217 (by decide) ?_
  refine y_iadd d_L_3218 ?_
  refine l_ld hv1 d_L_3219 ?_
  refine y_aload_n (q := 0) d_L_3220 rfl rfl ?_
  refine y_iload_n (q := 3) d_L_3221 rfl rfl ?_
  refine y_iconst (v := 2) d_L_3222 (by decide) ?_
  refine y_iadd d_L_3223 ?_
  refine l_ld hv2 d_L_3224 ?_
  refine lc_331 d_L_3225 (Nat.le_of_ble_eq_true rfl) rfl rfl (Cz.mono h ?_)
  rintro v σ2 ⟨⟨r2, rfl⟩, h⟩
  show Wx E YL 3228 [(0, .ref 1021), (1, .ref 0), (2, .ref 110), (3, .int i)] [.int r2] 215 215 100784 (zx σ2) _
  refine y_popi d_L_3228 ?_
  exact y_goto (tgt := 3476) d_L_3229 h
theorem L_76 {E : xV} {bS L : Nat} {xs : Nat → Int32} {i : Int32} {σ : zS} (hv1 : vp_in (i + 1) L) (h : Cz E Y_H_entered [.ref 0, .int (xs (i + 1).toNatClampNeg)] σ (fun v σ1 => ∃ r : Int32, v = some (.int r) ∧ Cz E Y_M_entered [.ref 110, .int (xs (i + 1).toNatClampNeg)] σ1 (fun v' σ2 => (∃ r2 : Int32, v' = some (.int r2)) ∧ Wx E YL 3476 [(0, .ref 1021), (1, .ref 0), (2, .ref 110), (3, .int i)] [] 215 215 100784 (zx σ2) (QL E bS L xs)))) : Wx E YL 3232 [(0, .ref 1021), (1, .ref 0), (2, .ref 110), (3, .int i)] [] 215 215 100784 (zx σ) (QL E bS L xs) := by
  refine y_aload_n (q := 1) d_L_3232 rfl rfl ?_
  refine y_aload_n (q := 0) d_L_3233 rfl rfl ?_
  refine y_iload_n (q := 3) d_L_3234 rfl rfl ?_
  refine y_iconst (v := 1) d_L_3235 (by decide) ?_
  refine y_iadd d_L_3236 ?_
  refine l_ld hv1 d_L_3237 ?_
  refine lc_332 d_L_3238 (Nat.le_of_ble_eq_true rfl) rfl rfl (Cz.mono h ?_)
  rintro v σ1 ⟨r, rfl, h⟩
  show Wx E YL 3241 [(0, .ref 1021), (1, .ref 0), (2, .ref 110), (3, .int i)] [.int r] 215 215 100784 (zx σ1) _
  refine y_popi d_L_3241 ?_
  refine y_aload_n (q := 2) d_L_3242 rfl rfl ?_
  refine y_aload_n (q := 0) d_L_3243 rfl rfl ?_
  refine y_iload_n (q := 3) d_L_3244 rfl rfl ?_
  refine y_iconst (v := 1) d_L_3245 (by decide) ?_
  refine y_iadd d_L_3246 ?_
  refine l_ld hv1 d_L_3247 ?_
  refine lc_335 d_L_3248 (Nat.le_of_ble_eq_true rfl) rfl rfl (Cz.mono h ?_)
  rintro v σ2 ⟨⟨r2, rfl⟩, h⟩
  show Wx E YL 3251 [(0, .ref 1021), (1, .ref 0), (2, .ref 110), (3, .int i)] [.int r2] 215 215 100784 (zx σ2) _
  refine y_popi d_L_3251 ?_
  exact y_goto (tgt := 3476) d_L_3252 h
theorem L_77 {E : xV} {bS L : Nat} {xs : Nat → Int32} {i : Int32} {σ : zS} (hv1 : vp_in (i + 1) L) (hv2 : vp_in (i + 2) L) (h : Cz E Y_H_half [.ref 0, .int (xs (i + 1).toNatClampNeg), .int (xs (i + 2).toNatClampNeg)] σ (fun v σ1 => ∃ r : Int32, v = some (.int r) ∧ Cz E Y_M_half [.ref 110, .int (xs (i + 1).toNatClampNeg), .int (xs (i + 2).toNatClampNeg)] σ1 (fun v' σ2 => (∃ r2 : Int32, v' = some (.int r2)) ∧ Wx E YL 3476 [(0, .ref 1021), (1, .ref 0), (2, .ref 110), (3, .int i)] [] 215 215 100784 (zx σ2) (QL E bS L xs)))) : Wx E YL 3255 [(0, .ref 1021), (1, .ref 0), (2, .ref 110), (3, .int i)] [] 215 215 100784 (zx σ) (QL E bS L xs) := by
  refine y_aload_n (q := 1) d_L_3255 rfl rfl ?_
  refine y_aload_n (q := 0) d_L_3256 rfl rfl ?_
  refine y_iload_n (q := 3) d_L_3257 rfl rfl ?_
  refine y_iconst (v := 1) d_L_3258 (by decide) ?_
  refine y_iadd d_L_3259 ?_
  refine l_ld hv1 d_L_3260 ?_
  refine y_aload_n (q := 0) d_L_3261 rfl rfl ?_
  refine y_iload_n (q := 3) d_L_3262 rfl rfl ?_
  refine y_iconst (v := 2) d_L_3263 (by decide) ?_
  refine y_iadd d_L_3264 ?_
  refine l_ld hv2 d_L_3265 ?_
  refine lc_336 d_L_3266 (Nat.le_of_ble_eq_true rfl) rfl rfl (Cz.mono h ?_)
  rintro v σ1 ⟨r, rfl, h⟩
  show Wx E YL 3269 [(0, .ref 1021), (1, .ref 0), (2, .ref 110), (3, .int i)] [.int r] 215 215 100784 (zx σ1) _
  refine y_popi d_L_3269 ?_
  refine y_aload_n (q := 2) d_L_3270 rfl rfl ?_
  refine y_aload_n (q := 0) d_L_3271 rfl rfl ?_
  refine y_iload_n (q := 3) d_L_3272 rfl rfl ?_
  refine y_iconst (v := 1) d_L_3273 (by decide) ?_
  refine y_iadd d_L_3274 ?_
  refine l_ld hv1 d_L_3275 ?_
  refine y_aload_n (q := 0) d_L_3276 rfl rfl ?_
  refine y_iload_n (q := 3) d_L_3277 rfl rfl ?_
  refine y_iconst (v := 2) d_L_3278 (by decide) ?_
  refine y_iadd d_L_3279 ?_
  refine l_ld hv2 d_L_3280 ?_
  refine lc_339 d_L_3281 (Nat.le_of_ble_eq_true rfl) rfl rfl (Cz.mono h ?_)
  rintro v σ2 ⟨⟨r2, rfl⟩, h⟩
  show Wx E YL 3284 [(0, .ref 1021), (1, .ref 0), (2, .ref 110), (3, .int i)] [.int r2] 215 215 100784 (zx σ2) _
  refine y_popi d_L_3284 ?_
  exact y_goto (tgt := 3476) d_L_3285 h
theorem L_78 {E : xV} {bS L : Nat} {xs : Nat → Int32} {i : Int32} {σ : zS}  (h : Cz E Y_H_joined [.ref 0] σ (fun v σ1 => ∃ r : Int32, v = some (.int r) ∧ Cz E Y_M_joined [.ref 110] σ1 (fun v' σ2 => (∃ r2 : Int32, v' = some (.int r2)) ∧ Wx E YL 3476 [(0, .ref 1021), (1, .ref 0), (2, .ref 110), (3, .int i)] [] 215 215 100784 (zx σ2) (QL E bS L xs)))) : Wx E YL 3288 [(0, .ref 1021), (1, .ref 0), (2, .ref 110), (3, .int i)] [] 215 215 100784 (zx σ) (QL E bS L xs) := by
  refine y_aload_n (q := 1) d_L_3288 rfl rfl ?_
  refine lc_340 d_L_3289 (Nat.le_of_ble_eq_true rfl) rfl rfl (Cz.mono h ?_)
  rintro v σ1 ⟨r, rfl, h⟩
  show Wx E YL 3292 [(0, .ref 1021), (1, .ref 0), (2, .ref 110), (3, .int i)] [.int r] 215 215 100784 (zx σ1) _
  refine y_popi d_L_3292 ?_
  refine y_aload_n (q := 2) d_L_3293 rfl rfl ?_
  refine lc_343 d_L_3294 (Nat.le_of_ble_eq_true rfl) rfl rfl (Cz.mono h ?_)
  rintro v σ2 ⟨⟨r2, rfl⟩, h⟩
  show Wx E YL 3297 [(0, .ref 1021), (1, .ref 0), (2, .ref 110), (3, .int i)] [.int r2] 215 215 100784 (zx σ2) _
  refine y_popi d_L_3297 ?_
  exact y_goto (tgt := 3476) d_L_3298 h
theorem L_79 {E : xV} {bS L : Nat} {xs : Nat → Int32} {i : Int32} {σ : zS} (hv1 : vp_in (i + 1) L) (hv2 : vp_in (i + 2) L) (h : Cz E Y_H_logged [.ref 0, .int (xs (i + 1).toNatClampNeg), .int (xs (i + 2).toNatClampNeg)] σ (fun v σ1 => ∃ r : Int32, v = some (.int r) ∧ Cz E Y_M_logged [.ref 110, .int (xs (i + 1).toNatClampNeg), .int (xs (i + 2).toNatClampNeg)] σ1 (fun v' σ2 => (∃ r2 : Int32, v' = some (.int r2)) ∧ Wx E YL 3476 [(0, .ref 1021), (1, .ref 0), (2, .ref 110), (3, .int i)] [] 215 215 100784 (zx σ2) (QL E bS L xs)))) : Wx E YL 3301 [(0, .ref 1021), (1, .ref 0), (2, .ref 110), (3, .int i)] [] 215 215 100784 (zx σ) (QL E bS L xs) := by
  refine y_aload_n (q := 1) d_L_3301 rfl rfl ?_
  refine y_aload_n (q := 0) d_L_3302 rfl rfl ?_
  refine y_iload_n (q := 3) d_L_3303 rfl rfl ?_
  refine y_iconst (v := 1) d_L_3304 (by decide) ?_
  refine y_iadd d_L_3305 ?_
  refine l_ld hv1 d_L_3306 ?_
  refine y_aload_n (q := 0) d_L_3307 rfl rfl ?_
  refine y_iload_n (q := 3) d_L_3308 rfl rfl ?_
  refine y_iconst (v := 2) d_L_3309 (by decide) ?_
  refine y_iadd d_L_3310 ?_
  refine l_ld hv2 d_L_3311 ?_
  refine lc_344 d_L_3312 (Nat.le_of_ble_eq_true rfl) rfl rfl (Cz.mono h ?_)
  rintro v σ1 ⟨r, rfl, h⟩
  show Wx E YL 3315 [(0, .ref 1021), (1, .ref 0), (2, .ref 110), (3, .int i)] [.int r] 215 215 100784 (zx σ1) _
  refine y_popi d_L_3315 ?_
  refine y_aload_n (q := 2) d_L_3316 rfl rfl ?_
  refine y_aload_n (q := 0) d_L_3317 rfl rfl ?_
  refine y_iload_n (q := 3) d_L_3318 rfl rfl ?_
  refine y_iconst (v := 1) d_L_3319 (by decide) ?_
  refine y_iadd d_L_3320 ?_
  refine l_ld hv1 d_L_3321 ?_
  refine y_aload_n (q := 0) d_L_3322 rfl rfl ?_
  refine y_iload_n (q := 3) d_L_3323 rfl rfl ?_
  refine y_iconst (v := 2) d_L_3324 (by decide) ?_
  refine y_iadd d_L_3325 ?_
  refine l_ld hv2 d_L_3326 ?_
  refine lc_347 d_L_3327 (Nat.le_of_ble_eq_true rfl) rfl rfl (Cz.mono h ?_)
  rintro v σ2 ⟨⟨r2, rfl⟩, h⟩
  show Wx E YL 3330 [(0, .ref 1021), (1, .ref 0), (2, .ref 110), (3, .int i)] [.int r2] 215 215 100784 (zx σ2) _
  refine y_popi d_L_3330 ?_
  exact y_goto (tgt := 3476) d_L_3331 h
theorem L_80 {E : xV} {bS L : Nat} {xs : Nat → Int32} {i : Int32} {σ : zS} (hv1 : vp_in (i + 1) L) (hv2 : vp_in (i + 2) L) (hv3 : vp_in (i + 3) L) (h : Cz E Y_H_forge [.ref 0, .int (xs (i + 1).toNatClampNeg), .int (xs (i + 2).toNatClampNeg), .int (xs (i + 3).toNatClampNeg)] σ (fun v σ1 => ∃ r : Int32, v = some (.int r) ∧ Cz E Y_M_forge [.ref 110, .int (xs (i + 1).toNatClampNeg), .int (xs (i + 2).toNatClampNeg), .int (xs (i + 3).toNatClampNeg)] σ1 (fun v' σ2 => (∃ r2 : Int32, v' = some (.int r2)) ∧ Wx E YL 3476 [(0, .ref 1021), (1, .ref 0), (2, .ref 110), (3, .int i)] [] 215 215 100784 (zx σ2) (QL E bS L xs)))) : Wx E YL 3334 [(0, .ref 1021), (1, .ref 0), (2, .ref 110), (3, .int i)] [] 215 215 100784 (zx σ) (QL E bS L xs) := by
  refine y_aload_n (q := 1) d_L_3334 rfl rfl ?_
  refine y_aload_n (q := 0) d_L_3335 rfl rfl ?_
  refine y_iload_n (q := 3) d_L_3336 rfl rfl ?_
  refine y_iconst (v := 1) d_L_3337 (by decide) ?_
  refine y_iadd d_L_3338 ?_
  refine l_ld hv1 d_L_3339 ?_
  refine y_aload_n (q := 0) d_L_3340 rfl rfl ?_
  refine y_iload_n (q := 3) d_L_3341 rfl rfl ?_
  refine y_iconst (v := 2) d_L_3342 (by decide) ?_
  refine y_iadd d_L_3343 ?_
  refine l_ld hv2 d_L_3344 ?_
  refine y_aload_n (q := 0) d_L_3345 rfl rfl ?_
  refine y_iload_n (q := 3) d_L_3346 rfl rfl ?_
  refine y_iconst (v := 3) d_L_3347 (by decide) ?_
  refine y_iadd d_L_3348 ?_
  refine l_ld hv3 d_L_3349 ?_
  refine lc_348 d_L_3350 (Nat.le_of_ble_eq_true rfl) rfl rfl (Cz.mono h ?_)
  rintro v σ1 ⟨r, rfl, h⟩
  show Wx E YL 3353 [(0, .ref 1021), (1, .ref 0), (2, .ref 110), (3, .int i)] [.int r] 215 215 100784 (zx σ1) _
  refine y_popi d_L_3353 ?_
  refine y_aload_n (q := 2) d_L_3354 rfl rfl ?_
  refine y_aload_n (q := 0) d_L_3355 rfl rfl ?_
  refine y_iload_n (q := 3) d_L_3356 rfl rfl ?_
  refine y_iconst (v := 1) d_L_3357 (by decide) ?_
  refine y_iadd d_L_3358 ?_
  refine l_ld hv1 d_L_3359 ?_
  refine y_aload_n (q := 0) d_L_3360 rfl rfl ?_
  refine y_iload_n (q := 3) d_L_3361 rfl rfl ?_
  refine y_iconst (v := 2) d_L_3362 (by decide) ?_
  refine y_iadd d_L_3363 ?_
  refine l_ld hv2 d_L_3364 ?_
  refine y_aload_n (q := 0) d_L_3365 rfl rfl ?_
  refine y_iload_n (q := 3) d_L_3366 rfl rfl ?_
  refine y_iconst (v := 3) d_L_3367 (by decide) ?_
  refine y_iadd d_L_3368 ?_
  refine l_ld hv3 d_L_3369 ?_
  refine lc_351 d_L_3370 (Nat.le_of_ble_eq_true rfl) rfl rfl (Cz.mono h ?_)
  rintro v σ2 ⟨⟨r2, rfl⟩, h⟩
  show Wx E YL 3373 [(0, .ref 1021), (1, .ref 0), (2, .ref 110), (3, .int i)] [.int r2] 215 215 100784 (zx σ2) _
  refine y_popi d_L_3373 ?_
  exact y_goto (tgt := 3476) d_L_3374 h
theorem L_81 {E : xV} {bS L : Nat} {xs : Nat → Int32} {i : Int32} {σ : zS}  (h : Cz E Y_H_wrong [.ref 0] σ (fun v σ1 => ∃ r : Int32, v = some (.int r) ∧ Cz E Y_M_wrong [.ref 110] σ1 (fun v' σ2 => (∃ r2 : Int32, v' = some (.int r2)) ∧ Wx E YL 3476 [(0, .ref 1021), (1, .ref 0), (2, .ref 110), (3, .int i)] [] 215 215 100784 (zx σ2) (QL E bS L xs)))) : Wx E YL 3377 [(0, .ref 1021), (1, .ref 0), (2, .ref 110), (3, .int i)] [] 215 215 100784 (zx σ) (QL E bS L xs) := by
  refine y_aload_n (q := 1) d_L_3377 rfl rfl ?_
  refine lc_352 d_L_3378 (Nat.le_of_ble_eq_true rfl) rfl rfl (Cz.mono h ?_)
  rintro v σ1 ⟨r, rfl, h⟩
  show Wx E YL 3381 [(0, .ref 1021), (1, .ref 0), (2, .ref 110), (3, .int i)] [.int r] 215 215 100784 (zx σ1) _
  refine y_popi d_L_3381 ?_
  refine y_aload_n (q := 2) d_L_3382 rfl rfl ?_
  refine lc_355 d_L_3383 (Nat.le_of_ble_eq_true rfl) rfl rfl (Cz.mono h ?_)
  rintro v σ2 ⟨⟨r2, rfl⟩, h⟩
  show Wx E YL 3386 [(0, .ref 1021), (1, .ref 0), (2, .ref 110), (3, .int i)] [.int r2] 215 215 100784 (zx σ2) _
  refine y_popi d_L_3386 ?_
  exact y_goto (tgt := 3476) d_L_3387 h
theorem L_82 {E : xV} {bS L : Nat} {xs : Nat → Int32} {i : Int32} {σ : zS} (hv1 : vp_in (i + 1) L) (hv2 : vp_in (i + 2) L) (h : Cz E Y_H_sealed [.ref 0, .int (xs (i + 1).toNatClampNeg), .int (xs (i + 2).toNatClampNeg)] σ (fun v σ1 => ∃ r : Int32, v = some (.int r) ∧ Cz E Y_M_sealed [.ref 110, .int (xs (i + 1).toNatClampNeg), .int (xs (i + 2).toNatClampNeg)] σ1 (fun v' σ2 => (∃ r2 : Int32, v' = some (.int r2)) ∧ Wx E YL 3476 [(0, .ref 1021), (1, .ref 0), (2, .ref 110), (3, .int i)] [] 215 215 100784 (zx σ2) (QL E bS L xs)))) : Wx E YL 3390 [(0, .ref 1021), (1, .ref 0), (2, .ref 110), (3, .int i)] [] 215 215 100784 (zx σ) (QL E bS L xs) := by
  refine y_aload_n (q := 1) d_L_3390 rfl rfl ?_
  refine y_aload_n (q := 0) d_L_3391 rfl rfl ?_
  refine y_iload_n (q := 3) d_L_3392 rfl rfl ?_
  refine y_iconst (v := 1) d_L_3393 (by decide) ?_
  refine y_iadd d_L_3394 ?_
  refine l_ld hv1 d_L_3395 ?_
  refine y_aload_n (q := 0) d_L_3396 rfl rfl ?_
  refine y_iload_n (q := 3) d_L_3397 rfl rfl ?_
  refine y_iconst (v := 2) d_L_3398 (by decide) ?_
  refine y_iadd d_L_3399 ?_
  refine l_ld hv2 d_L_3400 ?_
  refine lc_356 d_L_3401 (Nat.le_of_ble_eq_true rfl) rfl rfl (Cz.mono h ?_)
  rintro v σ1 ⟨r, rfl, h⟩
  show Wx E YL 3404 [(0, .ref 1021), (1, .ref 0), (2, .ref 110), (3, .int i)] [.int r] 215 215 100784 (zx σ1) _
  refine y_popi d_L_3404 ?_
  refine y_aload_n (q := 2) d_L_3405 rfl rfl ?_
  refine y_aload_n (q := 0) d_L_3406 rfl rfl ?_
  refine y_iload_n (q := 3) d_L_3407 rfl rfl ?_
  refine y_iconst (v := 1) d_L_3408 (by decide) ?_
  refine y_iadd d_L_3409 ?_
  refine l_ld hv1 d_L_3410 ?_
  refine y_aload_n (q := 0) d_L_3411 rfl rfl ?_
  refine y_iload_n (q := 3) d_L_3412 rfl rfl ?_
  refine y_iconst (v := 2) d_L_3413 (by decide) ?_
  refine y_iadd d_L_3414 ?_
  refine l_ld hv2 d_L_3415 ?_
  refine lc_359 d_L_3416 (Nat.le_of_ble_eq_true rfl) rfl rfl (Cz.mono h ?_)
  rintro v σ2 ⟨⟨r2, rfl⟩, h⟩
  show Wx E YL 3419 [(0, .ref 1021), (1, .ref 0), (2, .ref 110), (3, .int i)] [.int r2] 215 215 100784 (zx σ2) _
  refine y_popi d_L_3419 ?_
  exact y_goto (tgt := 3476) d_L_3420 h
theorem L_83 {E : xV} {bS L : Nat} {xs : Nat → Int32} {i : Int32} {σ : zS} (hv1 : vp_in (i + 1) L) (hv2 : vp_in (i + 2) L) (hv3 : vp_in (i + 3) L) (hv4 : vp_in (i + 4) L) (h : Cz E Y_H_could [.ref 0, .int (xs (i + 1).toNatClampNeg), .int (xs (i + 2).toNatClampNeg), .int (xs (i + 3).toNatClampNeg), .int (xs (i + 4).toNatClampNeg)] σ (fun v σ1 => ∃ r : Int32, v = some (.int r) ∧ Cz E Y_M_could [.ref 110, .int (xs (i + 1).toNatClampNeg), .int (xs (i + 2).toNatClampNeg), .int (xs (i + 3).toNatClampNeg), .int (xs (i + 4).toNatClampNeg)] σ1 (fun v' σ2 => (∃ r2 : Int32, v' = some (.int r2)) ∧ Wx E YL 3476 [(0, .ref 1021), (1, .ref 0), (2, .ref 110), (3, .int i)] [] 215 215 100784 (zx σ2) (QL E bS L xs)))) : Wx E YL 3423 [(0, .ref 1021), (1, .ref 0), (2, .ref 110), (3, .int i)] [] 215 215 100784 (zx σ) (QL E bS L xs) := by
  refine y_aload_n (q := 1) d_L_3423 rfl rfl ?_
  refine y_aload_n (q := 0) d_L_3424 rfl rfl ?_
  refine y_iload_n (q := 3) d_L_3425 rfl rfl ?_
  refine y_iconst (v := 1) d_L_3426 (by decide) ?_
  refine y_iadd d_L_3427 ?_
  refine l_ld hv1 d_L_3428 ?_
  refine y_aload_n (q := 0) d_L_3429 rfl rfl ?_
  refine y_iload_n (q := 3) d_L_3430 rfl rfl ?_
  refine y_iconst (v := 2) d_L_3431 (by decide) ?_
  refine y_iadd d_L_3432 ?_
  refine l_ld hv2 d_L_3433 ?_
  refine y_aload_n (q := 0) d_L_3434 rfl rfl ?_
  refine y_iload_n (q := 3) d_L_3435 rfl rfl ?_
  refine y_iconst (v := 3) d_L_3436 (by decide) ?_
  refine y_iadd d_L_3437 ?_
  refine l_ld hv3 d_L_3438 ?_
  refine y_aload_n (q := 0) d_L_3439 rfl rfl ?_
  refine y_iload_n (q := 3) d_L_3440 rfl rfl ?_
  refine y_iconst (v := 4) d_L_3441 (by decide) ?_
  refine y_iadd d_L_3442 ?_
  refine l_ld hv4 d_L_3443 ?_
  refine lc_360 d_L_3444 (Nat.le_of_ble_eq_true rfl) rfl rfl (Cz.mono h ?_)
  rintro v σ1 ⟨r, rfl, h⟩
  show Wx E YL 3447 [(0, .ref 1021), (1, .ref 0), (2, .ref 110), (3, .int i)] [.int r] 215 215 100784 (zx σ1) _
  refine y_popi d_L_3447 ?_
  refine y_aload_n (q := 2) d_L_3448 rfl rfl ?_
  refine y_aload_n (q := 0) d_L_3449 rfl rfl ?_
  refine y_iload_n (q := 3) d_L_3450 rfl rfl ?_
  refine y_iconst (v := 1) d_L_3451 (by decide) ?_
  refine y_iadd d_L_3452 ?_
  refine l_ld hv1 d_L_3453 ?_
  refine y_aload_n (q := 0) d_L_3454 rfl rfl ?_
  refine y_iload_n (q := 3) d_L_3455 rfl rfl ?_
  refine y_iconst (v := 2) d_L_3456 (by decide) ?_
  refine y_iadd d_L_3457 ?_
  refine l_ld hv2 d_L_3458 ?_
  refine y_aload_n (q := 0) d_L_3459 rfl rfl ?_
  refine y_iload_n (q := 3) d_L_3460 rfl rfl ?_
  refine y_iconst (v := 3) d_L_3461 (by decide) ?_
  refine y_iadd d_L_3462 ?_
  refine l_ld hv3 d_L_3463 ?_
  refine y_aload_n (q := 0) d_L_3464 rfl rfl ?_
  refine y_iload_n (q := 3) d_L_3465 rfl rfl ?_
  refine y_iconst (v := 4) d_L_3466 (by decide) ?_
  refine y_iadd d_L_3467 ?_
  refine l_ld hv4 d_L_3468 ?_
  refine lc_363 d_L_3469 (Nat.le_of_ble_eq_true rfl) rfl rfl (Cz.mono h ?_)
  rintro v σ2 ⟨⟨r2, rfl⟩, h⟩
  show Wx E YL 3472 [(0, .ref 1021), (1, .ref 0), (2, .ref 110), (3, .int i)] [.int r2] 215 215 100784 (zx σ2) _
  refine y_popi d_L_3472 ?_
  exact y_goto (tgt := 3476) d_L_3473 h
