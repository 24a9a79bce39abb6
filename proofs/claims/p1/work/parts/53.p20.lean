def p20_s_6_4 : Sy := ⟨2, [(0, [(5, 5)]), (1, [(3, 3)])], [(110, (.c 26, .c 0)), (16, (.c 0, .c 1)), (16, (.c 1, .c 3)), (16, (.c 2, .c 4)), (16, (.c 3, .c 8)), (16, (.c 4, .c 16)), (16, (.c 5, .c 63))], [(125, (40, .c 0)), (126, (40, .c 0)), (129, (36, .c 0))]⟩
theorem p20_ok_6_4 : chkPair p20_x false 100000 51 332 p20_c p20_c [.r 0, .i 0 0, .i 1 0] [.r 110, .i 0 0, .i 1 0] p20_s_6_4 = true := by decide +kernel
theorem p20_me_6_4 : meOk p20_s_6_4 = true := by decide +kernel
def p20_s_6_5 : Sy := ⟨2, [(0, [(5, 5)]), (1, [(4, 4)])], [(110, (.c 26, .c 0)), (16, (.c 0, .c 1)), (16, (.c 1, .c 3)), (16, (.c 2, .c 4)), (16, (.c 3, .c 8)), (16, (.c 4, .c 16)), (16, (.c 5, .c 63))], [(125, (40, .c 0)), (126, (40, .c 0)), (129, (36, .c 0))]⟩
theorem p20_ok_6_5 : chkPair p20_x false 100000 51 332 p20_c p20_c [.r 0, .i 0 0, .i 1 0] [.r 110, .i 0 0, .i 1 0] p20_s_6_5 = true := by decide +kernel
theorem p20_me_6_5 : meOk p20_s_6_5 = true := by decide +kernel
def p20_s_6_6 : Sy := ⟨2, [(0, [(5, 5)]), (1, [(5, 5)])], [(110, (.c 26, .c 0)), (16, (.c 0, .c 1)), (16, (.c 1, .c 3)), (16, (.c 2, .c 4)), (16, (.c 3, .c 8)), (16, (.c 4, .c 16)), (16, (.c 5, .c 63))], [(125, (40, .c 0)), (126, (40, .c 0)), (129, (36, .c 0))]⟩
theorem p20_ok_6_6 : chkPair p20_x false 100000 51 332 p20_c p20_c [.r 0, .i 0 0, .i 1 0] [.r 110, .i 0 0, .i 1 0] p20_s_6_6 = true := by decide +kernel
theorem p20_me_6_6 : meOk p20_s_6_6 = true := by decide +kernel
def p20_s_6_7 : Sy := ⟨2, [(0, [(5, 5)]), (1, [(6, 2147483647)])], [(110, (.c 26, .c 0)), (16, (.c 0, .c 1)), (16, (.c 1, .c 3)), (16, (.c 2, .c 4)), (16, (.c 3, .c 8)), (16, (.c 4, .c 16)), (16, (.c 5, .c 63))], [(125, (40, .c 0)), (126, (40, .c 0)), (129, (36, .c 0))]⟩
theorem p20_ok_6_7 : chkPair p20_x false 100000 51 332 p20_c p20_c [.r 0, .i 0 0, .i 1 0] [.r 110, .i 0 0, .i 1 0] p20_s_6_7 = true := by decide +kernel
theorem p20_me_6_7 : meOk p20_s_6_7 = true := by decide +kernel
def p20_s_7 : Sy := ⟨2, [(0, [(6, 2147483647)]), (1, [((-2147483648), 2147483647)])], [(110, (.c 26, .c 0)), (16, (.c 0, .c 1)), (16, (.c 1, .c 3)), (16, (.c 2, .c 4)), (16, (.c 3, .c 8)), (16, (.c 4, .c 16)), (16, (.c 5, .c 63))], [(125, (40, .c 0)), (126, (40, .c 0)), (129, (36, .c 0))]⟩
theorem p20_ok_7 : chkPair p20_x false 100000 51 332 p20_c p20_c [.r 0, .i 0 0, .i 1 0] [.r 110, .i 0 0, .i 1 0] p20_s_7 = true := by decide +kernel
theorem p20_me_7 : meOk p20_s_7 = true := by decide +kernel
theorem p20_st : startOk p20_fi p20_ai = true := by decide +kernel
theorem p20_yh : Yf 51 = Y_H_doesHold := rfl
theorem p20_ym : Yf 332 = Y_M_doesHold := rfl
theorem P_20 {E : xV} : LC_20 E σ00 (fun _ => True) := by
  intro x0 x1
  have a1 := inD_one (a := -2147483648) (b := 2147483647) (in32 x0)
  have a2 := inD_one (a := -2147483648) (b := 2147483647) (in32 x1)
  rcases (by omega : ((-2147483648) ≤ x0.toInt ∧ x0.toInt ≤ (-1)) ∨ (0 ≤ x0.toInt ∧ x0.toInt ≤ 0) ∨ (1 ≤ x0.toInt ∧ x0.toInt ≤ 1) ∨ (2 ≤ x0.toInt ∧ x0.toInt ≤ 2) ∨ (3 ≤ x0.toInt ∧ x0.toInt ≤ 3) ∨ (4 ≤ x0.toInt ∧ x0.toInt ≤ 4) ∨ (5 ≤ x0.toInt ∧ x0.toInt ≤ 5) ∨ (6 ≤ x0.toInt ∧ x0.toInt ≤ 2147483647)) with hp | hp | hp | hp | hp | hp | hp | hp
  · have ho : Ok (Jd (mkG p20_fi p20_ai)) p20_s_0 [x0.toInt, x1.toInt] σ00 := ok_start p20_st p20_me_0 rfl (fun e he => by
      rcases List.mem_cons.mp he with rfl | he
      · exact ⟨_, rfl, inp hp⟩
      rcases List.mem_cons.mp he with rfl | he
      · exact ⟨_, rfl, in32 x1⟩
      cases he)
    have h := pairI (E := E) (Y := Yf) (G := p20_x) (G_ok _ _ _) Jd_ok (all_ok (G_ok _ _ _) Jd_ok (fun r c h => (BT.all_P p20_rt).at h)) rfl rfl p20_ok_0 ho (av1 := [.ref 0, .int x0, .int x1]) (av2 := [.ref 110, .int x0, .int x1]) (⟨rfl, ⟨x0, rfl, evi rfl⟩, ⟨x1, rfl, evi rfl⟩, trivial⟩) (⟨rfl, ⟨x0, rfl, evi rfl⟩, ⟨x1, rfl, evi rfl⟩, trivial⟩)
    rw [p20_yh, p20_ym] at h
    exact h
  · rcases (by omega : ((-2147483648) ≤ x1.toInt ∧ x1.toInt ≤ (-1)) ∨ (0 ≤ x1.toInt ∧ x1.toInt ≤ 0) ∨ (1 ≤ x1.toInt ∧ x1.toInt ≤ 1) ∨ (2 ≤ x1.toInt ∧ x1.toInt ≤ 2) ∨ (3 ≤ x1.toInt ∧ x1.toInt ≤ 3) ∨ (4 ≤ x1.toInt ∧ x1.toInt ≤ 4) ∨ (5 ≤ x1.toInt ∧ x1.toInt ≤ 5) ∨ (6 ≤ x1.toInt ∧ x1.toInt ≤ 2147483647)) with hq | hq | hq | hq | hq | hq | hq | hq
    · have ho : Ok (Jd (mkG p20_fi p20_ai)) p20_s_1_0 [x0.toInt, x1.toInt] σ00 := ok_start p20_st p20_me_1_0 rfl (fun e he => by
        rcases List.mem_cons.mp he with rfl | he
        · exact ⟨_, rfl, inp hp⟩
        rcases List.mem_cons.mp he with rfl | he
        · exact ⟨_, rfl, inp hq⟩
        cases he)
      have h := pairI (E := E) (Y := Yf) (G := p20_x) (G_ok _ _ _) Jd_ok (all_ok (G_ok _ _ _) Jd_ok (fun r c h => (BT.all_P p20_rt).at h)) rfl rfl p20_ok_1_0 ho (av1 := [.ref 0, .int x0, .int x1]) (av2 := [.ref 110, .int x0, .int x1]) (⟨rfl, ⟨x0, rfl, evi rfl⟩, ⟨x1, rfl, evi rfl⟩, trivial⟩) (⟨rfl, ⟨x0, rfl, evi rfl⟩, ⟨x1, rfl, evi rfl⟩, trivial⟩)
      rw [p20_yh, p20_ym] at h
      exact h
    · have ho : Ok (Jd (mkG p20_fi p20_ai)) p20_s_1_1 [x0.toInt, x1.toInt] σ00 := ok_start p20_st p20_me_1_1 rfl (fun e he => by
        rcases List.mem_cons.mp he with rfl | he
        · exact ⟨_, rfl, inp hp⟩
        rcases List.mem_cons.mp he with rfl | he
        · exact ⟨_, rfl, inp hq⟩
        cases he)
      have h := pairI (E := E) (Y := Yf) (G := p20_x) (G_ok _ _ _) Jd_ok (all_ok (G_ok _ _ _) Jd_ok (fun r c h => (BT.all_P p20_rt).at h)) rfl rfl p20_ok_1_1 ho (av1 := [.ref 0, .int x0, .int x1]) (av2 := [.ref 110, .int x0, .int x1]) (⟨rfl, ⟨x0, rfl, evi rfl⟩, ⟨x1, rfl, evi rfl⟩, trivial⟩) (⟨rfl, ⟨x0, rfl, evi rfl⟩, ⟨x1, rfl, evi rfl⟩, trivial⟩)
      rw [p20_yh, p20_ym] at h
      exact h
    · have ho : Ok (Jd (mkG p20_fi p20_ai)) p20_s_1_2 [x0.toInt, x1.toInt] σ00 := ok_start p20_st p20_me_1_2 rfl (fun e he => by
        rcases List.mem_cons.mp he with rfl | he
        · exact ⟨_, rfl, inp hp⟩
        rcases List.mem_cons.mp he with rfl | he
        · exact ⟨_, rfl, inp hq⟩
        cases he)
      have h := pairI (E := E) (Y := Yf) (G := p20_x) (G_ok _ _ _) Jd_ok (all_ok (G_ok _ _ _) Jd_ok (fun r c h => (BT.all_P p20_rt).at h)) rfl rfl p20_ok_1_2 ho (av1 := [.ref 0, .int x0, .int x1]) (av2 := [.ref 110, .int x0, .int x1]) (⟨rfl, ⟨x0, rfl, evi rfl⟩, ⟨x1, rfl, evi rfl⟩, trivial⟩) (⟨rfl, ⟨x0, rfl, evi rfl⟩, ⟨x1, rfl, evi rfl⟩, trivial⟩)
      rw [p20_yh, p20_ym] at h
      exact h
    · have ho : Ok (Jd (mkG p20_fi p20_ai)) p20_s_1_3 [x0.toInt, x1.toInt] σ00 := ok_start p20_st p20_me_1_3 rfl (fun e he => by
        rcases List.mem_cons.mp he with rfl | he
        · exact ⟨_, rfl, inp hp⟩
        rcases List.mem_cons.mp he with rfl | he
        · exact ⟨_, rfl, inp hq⟩
        cases he)
      have h := pairI (E := E) (Y := Yf) (G := p20_x) (G_ok _ _ _) Jd_ok (all_ok (G_ok _ _ _) Jd_ok (fun r c h => (BT.all_P p20_rt).at h)) rfl rfl p20_ok_1_3 ho (av1 := [.ref 0, .int x0, .int x1]) (av2 := [.ref 110, .int x0, .int x1]) (⟨rfl, ⟨x0, rfl, evi rfl⟩, ⟨x1, rfl, evi rfl⟩, trivial⟩) (⟨rfl, ⟨x0, rfl, evi rfl⟩, ⟨x1, rfl, evi rfl⟩, trivial⟩)
      rw [p20_yh, p20_ym] at h
      exact h
    · have ho : Ok (Jd (mkG p20_fi p20_ai)) p20_s_1_4 [x0.toInt, x1.toInt] σ00 := ok_start p20_st p20_me_1_4 rfl (fun e he => by
        rcases List.mem_cons.mp he with rfl | he
        · exact ⟨_, rfl, inp hp⟩
        rcases List.mem_cons.mp he with rfl | he
        · exact ⟨_, rfl, inp hq⟩
        cases he)
      have h := pairI (E := E) (Y := Yf) (G := p20_x) (G_ok _ _ _) Jd_ok (all_ok (G_ok _ _ _) Jd_ok (fun r c h => (BT.all_P p20_rt).at h)) rfl rfl p20_ok_1_4 ho (av1 := [.ref 0, .int x0, .int x1]) (av2 := [.ref 110, .int x0, .int x1]) (⟨rfl, ⟨x0, rfl, evi rfl⟩, ⟨x1, rfl, evi rfl⟩, trivial⟩) (⟨rfl, ⟨x0, rfl, evi rfl⟩, ⟨x1, rfl, evi rfl⟩, trivial⟩)
      rw [p20_yh, p20_ym] at h
      exact h
    · have ho : Ok (Jd (mkG p20_fi p20_ai)) p20_s_1_5 [x0.toInt, x1.toInt] σ00 := ok_start p20_st p20_me_1_5 rfl (fun e he => by
        rcases List.mem_cons.mp he with rfl | he
        · exact ⟨_, rfl, inp hp⟩
        rcases List.mem_cons.mp he with rfl | he
        · exact ⟨_, rfl, inp hq⟩
        cases he)
      have h := pairI (E := E) (Y := Yf) (G := p20_x) (G_ok _ _ _) Jd_ok (all_ok (G_ok _ _ _) Jd_ok (fun r c h => (BT.all_P p20_rt).at h)) rfl rfl p20_ok_1_5 ho (av1 := [.ref 0, .int x0, .int x1]) (av2 := [.ref 110, .int x0, .int x1]) (⟨rfl, ⟨x0, rfl, evi rfl⟩, ⟨x1, rfl, evi rfl⟩, trivial⟩) (⟨rfl, ⟨x0, rfl, evi rfl⟩, ⟨x1, rfl, evi rfl⟩, trivial⟩)
      rw [p20_yh, p20_ym] at h
      exact h
    · have ho : Ok (Jd (mkG p20_fi p20_ai)) p20_s_1_6 [x0.toInt, x1.toInt] σ00 := ok_start p20_st p20_me_1_6 rfl (fun e he => by
        rcases List.mem_cons.mp he with rfl | he
        · exact ⟨_, rfl, inp hp⟩
        rcases List.mem_cons.mp he with rfl | he
        · exact ⟨_, rfl, inp hq⟩
        cases he)
      have h := pairI (E := E) (Y := Yf) (G := p20_x) (G_ok _ _ _) Jd_ok (all_ok (G_ok _ _ _) Jd_ok (fun r c h => (BT.all_P p20_rt).at h)) rfl rfl p20_ok_1_6 ho (av1 := [.ref 0, .int x0, .int x1]) (av2 := [.ref 110, .int x0, .int x1]) (⟨rfl, ⟨x0, rfl, evi rfl⟩, ⟨x1, rfl, evi rfl⟩, trivial⟩) (⟨rfl, ⟨x0, rfl, evi rfl⟩, ⟨x1, rfl, evi rfl⟩, trivial⟩)
      rw [p20_yh, p20_ym] at h
      exact h
    · have ho : Ok (Jd (mkG p20_fi p20_ai)) p20_s_1_7 [x0.toInt, x1.toInt] σ00 := ok_start p20_st p20_me_1_7 rfl (fun e he => by
        rcases List.mem_cons.mp he with rfl | he
        · exact ⟨_, rfl, inp hp⟩
        rcases List.mem_cons.mp he with rfl | he
        · exact ⟨_, rfl, inp hq⟩
        cases he)
      have h := pairI (E := E) (Y := Yf) (G := p20_x) (G_ok _ _ _) Jd_ok (all_ok (G_ok _ _ _) Jd_ok (fun r c h => (BT.all_P p20_rt).at h)) rfl rfl p20_ok_1_7 ho (av1 := [.ref 0, .int x0, .int x1]) (av2 := [.ref 110, .int x0, .int x1]) (⟨rfl, ⟨x0, rfl, evi rfl⟩, ⟨x1, rfl, evi rfl⟩, trivial⟩) (⟨rfl, ⟨x0, rfl, evi rfl⟩, ⟨x1, rfl, evi rfl⟩, trivial⟩)
      rw [p20_yh, p20_ym] at h
      exact h
  · rcases (by omega : ((-2147483648) ≤ x1.toInt ∧ x1.toInt ≤ (-1)) ∨ (0 ≤ x1.toInt ∧ x1.toInt ≤ 0) ∨ (1 ≤ x1.toInt ∧ x1.toInt ≤ 1) ∨ (2 ≤ x1.toInt ∧ x1.toInt ≤ 2) ∨ (3 ≤ x1.toInt ∧ x1.toInt ≤ 3) ∨ (4 ≤ x1.toInt ∧ x1.toInt ≤ 4) ∨ (5 ≤ x1.toInt ∧ x1.toInt ≤ 5) ∨ (6 ≤ x1.toInt ∧ x1.toInt ≤ 2147483647)) with hq | hq | hq | hq | hq | hq | hq | hq
    · have ho : Ok (Jd (mkG p20_fi p20_ai)) p20_s_2_0 [x0.toInt, x1.toInt] σ00 := ok_start p20_st p20_me_2_0 rfl (fun e he => by
        rcases List.mem_cons.mp he with rfl | he
        · exact ⟨_, rfl, inp hp⟩
        rcases List.mem_cons.mp he with rfl | he
        · exact ⟨_, rfl, inp hq⟩
        cases he)
      have h := pairI (E := E) (Y := Yf) (G := p20_x) (G_ok _ _ _) Jd_ok (all_ok (G_ok _ _ _) Jd_ok (fun r c h => (BT.all_P p20_rt).at h)) rfl rfl p20_ok_2_0 ho (av1 := [.ref 0, .int x0, .int x1]) (av2 := [.ref 110, .int x0, .int x1]) (⟨rfl, ⟨x0, rfl, evi rfl⟩, ⟨x1, rfl, evi rfl⟩, trivial⟩) (⟨rfl, ⟨x0, rfl, evi rfl⟩, ⟨x1, rfl, evi rfl⟩, trivial⟩)
      rw [p20_yh, p20_ym] at h
      exact h
    · have ho : Ok (Jd (mkG p20_fi p20_ai)) p20_s_2_1 [x0.toInt, x1.toInt] σ00 := ok_start p20_st p20_me_2_1 rfl (fun e he => by
        rcases List.mem_cons.mp he with rfl | he
        · exact ⟨_, rfl, inp hp⟩
        rcases List.mem_cons.mp he with rfl | he
        · exact ⟨_, rfl, inp hq⟩
        cases he)
      have h := pairI (E := E) (Y := Yf) (G := p20_x) (G_ok _ _ _) Jd_ok (all_ok (G_ok _ _ _) Jd_ok (fun r c h => (BT.all_P p20_rt).at h)) rfl rfl p20_ok_2_1 ho (av1 := [.ref 0, .int x0, .int x1]) (av2 := [.ref 110, .int x0, .int x1]) (⟨rfl, ⟨x0, rfl, evi rfl⟩, ⟨x1, rfl, evi rfl⟩, trivial⟩) (⟨rfl, ⟨x0, rfl, evi rfl⟩, ⟨x1, rfl, evi rfl⟩, trivial⟩)
      rw [p20_yh, p20_ym] at h
      exact h
    · have ho : Ok (Jd (mkG p20_fi p20_ai)) p20_s_2_2 [x0.toInt, x1.toInt] σ00 := ok_start p20_st p20_me_2_2 rfl (fun e he => by
        rcases List.mem_cons.mp he with rfl | he
        · exact ⟨_, rfl, inp hp⟩
        rcases List.mem_cons.mp he with rfl | he
        · exact ⟨_, rfl, inp hq⟩
        cases he)
      have h := pairI (E := E) (Y := Yf) (G := p20_x) (G_ok _ _ _) Jd_ok (all_ok (G_ok _ _ _) Jd_ok (fun r c h => (BT.all_P p20_rt).at h)) rfl rfl p20_ok_2_2 ho (av1 := [.ref 0, .int x0, .int x1]) (av2 := [.ref 110, .int x0, .int x1]) (⟨rfl, ⟨x0, rfl, evi rfl⟩, ⟨x1, rfl, evi rfl⟩, trivial⟩) (⟨rfl, ⟨x0, rfl, evi rfl⟩, ⟨x1, rfl, evi rfl⟩, trivial⟩)
      rw [p20_yh, p20_ym] at h
      exact h
    · have ho : Ok (Jd (mkG p20_fi p20_ai)) p20_s_2_3 [x0.toInt, x1.toInt] σ00 := ok_start p20_st p20_me_2_3 rfl (fun e he => by
        rcases List.mem_cons.mp he with rfl | he
        · exact ⟨_, rfl, inp hp⟩
        rcases List.mem_cons.mp he with rfl | he
        · exact ⟨_, rfl, inp hq⟩
        cases he)
      have h := pairI (E := E) (Y := Yf) (G := p20_x) (G_ok _ _ _) Jd_ok (all_ok (G_ok _ _ _) Jd_ok (fun r c h => (BT.all_P p20_rt).at h)) rfl rfl p20_ok_2_3 ho (av1 := [.ref 0, .int x0, .int x1]) (av2 := [.ref 110, .int x0, .int x1]) (⟨rfl, ⟨x0, rfl, evi rfl⟩, ⟨x1, rfl, evi rfl⟩, trivial⟩) (⟨rfl, ⟨x0, rfl, evi rfl⟩, ⟨x1, rfl, evi rfl⟩, trivial⟩)
      rw [p20_yh, p20_ym] at h
      exact h
    · have ho : Ok (Jd (mkG p20_fi p20_ai)) p20_s_2_4 [x0.toInt, x1.toInt] σ00 := ok_start p20_st p20_me_2_4 rfl (fun e he => by
        rcases List.mem_cons.mp he with rfl | he
        · exact ⟨_, rfl, inp hp⟩
        rcases List.mem_cons.mp he with rfl | he
        · exact ⟨_, rfl, inp hq⟩
        cases he)
      have h := pairI (E := E) (Y := Yf) (G := p20_x) (G_ok _ _ _) Jd_ok (all_ok (G_ok _ _ _) Jd_ok (fun r c h => (BT.all_P p20_rt).at h)) rfl rfl p20_ok_2_4 ho (av1 := [.ref 0, .int x0, .int x1]) (av2 := [.ref 110, .int x0, .int x1]) (⟨rfl, ⟨x0, rfl, evi rfl⟩, ⟨x1, rfl, evi rfl⟩, trivial⟩) (⟨rfl, ⟨x0, rfl, evi rfl⟩, ⟨x1, rfl, evi rfl⟩, trivial⟩)
      rw [p20_yh, p20_ym] at h
      exact h
    · have ho : Ok (Jd (mkG p20_fi p20_ai)) p20_s_2_5 [x0.toInt, x1.toInt] σ00 := ok_start p20_st p20_me_2_5 rfl (fun e he => by
        rcases List.mem_cons.mp he with rfl | he
        · exact ⟨_, rfl, inp hp⟩
        rcases List.mem_cons.mp he with rfl | he
        · exact ⟨_, rfl, inp hq⟩
        cases he)
      have h := pairI (E := E) (Y := Yf) (G := p20_x) (G_ok _ _ _) Jd_ok (all_ok (G_ok _ _ _) Jd_ok (fun r c h => (BT.all_P p20_rt).at h)) rfl rfl p20_ok_2_5 ho (av1 := [.ref 0, .int x0, .int x1]) (av2 := [.ref 110, .int x0, .int x1]) (⟨rfl, ⟨x0, rfl, evi rfl⟩, ⟨x1, rfl, evi rfl⟩, trivial⟩) (⟨rfl, ⟨x0, rfl, evi rfl⟩, ⟨x1, rfl, evi rfl⟩, trivial⟩)
      rw [p20_yh, p20_ym] at h
      exact h
    · have ho : Ok (Jd (mkG p20_fi p20_ai)) p20_s_2_6 [x0.toInt, x1.toInt] σ00 := ok_start p20_st p20_me_2_6 rfl (fun e he => by
        rcases List.mem_cons.mp he with rfl | he
        · exact ⟨_, rfl, inp hp⟩
        rcases List.mem_cons.mp he with rfl | he
        · exact ⟨_, rfl, inp hq⟩
        cases he)
      have h := pairI (E := E) (Y := Yf) (G := p20_x) (G_ok _ _ _) Jd_ok (all_ok (G_ok _ _ _) Jd_ok (fun r c h => (BT.all_P p20_rt).at h)) rfl rfl p20_ok_2_6 ho (av1 := [.ref 0, .int x0, .int x1]) (av2 := [.ref 110, .int x0, .int x1]) (⟨rfl, ⟨x0, rfl, evi rfl⟩, ⟨x1, rfl, evi rfl⟩, trivial⟩) (⟨rfl, ⟨x0, rfl, evi rfl⟩, ⟨x1, rfl, evi rfl⟩, trivial⟩)
      rw [p20_yh, p20_ym] at h
      exact h
    · have ho : Ok (Jd (mkG p20_fi p20_ai)) p20_s_2_7 [x0.toInt, x1.toInt] σ00 := ok_start p20_st p20_me_2_7 rfl (fun e he => by
        rcases List.mem_cons.mp he with rfl | he
        · exact ⟨_, rfl, inp hp⟩
        rcases List.mem_cons.mp he with rfl | he
        · exact ⟨_, rfl, inp hq⟩
        cases he)
      have h := pairI (E := E) (Y := Yf) (G := p20_x) (G_ok _ _ _) Jd_ok (all_ok (G_ok _ _ _) Jd_ok (fun r c h => (BT.all_P p20_rt).at h)) rfl rfl p20_ok_2_7 ho (av1 := [.ref 0, .int x0, .int x1]) (av2 := [.ref 110, .int x0, .int x1]) (⟨rfl, ⟨x0, rfl, evi rfl⟩, ⟨x1, rfl, evi rfl⟩, trivial⟩) (⟨rfl, ⟨x0, rfl, evi rfl⟩, ⟨x1, rfl, evi rfl⟩, trivial⟩)
      rw [p20_yh, p20_ym] at h
      exact h
  · rcases (by omega : ((-2147483648) ≤ x1.toInt ∧ x1.toInt ≤ (-1)) ∨ (0 ≤ x1.toInt ∧ x1.toInt ≤ 0) ∨ (1 ≤ x1.toInt ∧ x1.toInt ≤ 1) ∨ (2 ≤ x1.toInt ∧ x1.toInt ≤ 2) ∨ (3 ≤ x1.toInt ∧ x1.toInt ≤ 3) ∨ (4 ≤ x1.toInt ∧ x1.toInt ≤ 4) ∨ (5 ≤ x1.toInt ∧ x1.toInt ≤ 5) ∨ (6 ≤ x1.toInt ∧ x1.toInt ≤ 2147483647)) with hq | hq | hq | hq | hq | hq | hq | hq
    · have ho : Ok (Jd (mkG p20_fi p20_ai)) p20_s_3_0 [x0.toInt, x1.toInt] σ00 := ok_start p20_st p20_me_3_0 rfl (fun e he => by
        rcases List.mem_cons.mp he with rfl | he
        · exact ⟨_, rfl, inp hp⟩
        rcases List.mem_cons.mp he with rfl | he
        · exact ⟨_, rfl, inp hq⟩
        cases he)
      have h := pairI (E := E) (Y := Yf) (G := p20_x) (G_ok _ _ _) Jd_ok (all_ok (G_ok _ _ _) Jd_ok (fun r c h => (BT.all_P p20_rt).at h)) rfl rfl p20_ok_3_0 ho (av1 := [.ref 0, .int x0, .int x1]) (av2 := [.ref 110, .int x0, .int x1]) (⟨rfl, ⟨x0, rfl, evi rfl⟩, ⟨x1, rfl, evi rfl⟩, trivial⟩) (⟨rfl, ⟨x0, rfl, evi rfl⟩, ⟨x1, rfl, evi rfl⟩, trivial⟩)
      rw [p20_yh, p20_ym] at h
      exact h
    · have ho : Ok (Jd (mkG p20_fi p20_ai)) p20_s_3_1 [x0.toInt, x1.toInt] σ00 := ok_start p20_st p20_me_3_1 rfl (fun e he => by
        rcases List.mem_cons.mp he with rfl | he
        · exact ⟨_, rfl, inp hp⟩
        rcases List.mem_cons.mp he with rfl | he
        · exact ⟨_, rfl, inp hq⟩
        cases he)
      have h := pairI (E := E) (Y := Yf) (G := p20_x) (G_ok _ _ _) Jd_ok (all_ok (G_ok _ _ _) Jd_ok (fun r c h => (BT.all_P p20_rt).at h)) rfl rfl p20_ok_3_1 ho (av1 := [.ref 0, .int x0, .int x1]) (av2 := [.ref 110, .int x0, .int x1]) (⟨rfl, ⟨x0, rfl, evi rfl⟩, ⟨x1, rfl, evi rfl⟩, trivial⟩) (⟨rfl, ⟨x0, rfl, evi rfl⟩, ⟨x1, rfl, evi rfl⟩, trivial⟩)
      rw [p20_yh, p20_ym] at h
      exact h
    · have ho : Ok (Jd (mkG p20_fi p20_ai)) p20_s_3_2 [x0.toInt, x1.toInt] σ00 := ok_start p20_st p20_me_3_2 rfl (fun e he => by
        rcases List.mem_cons.mp he with rfl | he
        · exact ⟨_, rfl, inp hp⟩
        rcases List.mem_cons.mp he with rfl | he
        · exact ⟨_, rfl, inp hq⟩
        cases he)
      have h := pairI (E := E) (Y := Yf) (G := p20_x) (G_ok _ _ _) Jd_ok (all_ok (G_ok _ _ _) Jd_ok (fun r c h => (BT.all_P p20_rt).at h)) rfl rfl p20_ok_3_2 ho (av1 := [.ref 0, .int x0, .int x1]) (av2 := [.ref 110, .int x0, .int x1]) (⟨rfl, ⟨x0, rfl, evi rfl⟩, ⟨x1, rfl, evi rfl⟩, trivial⟩) (⟨rfl, ⟨x0, rfl, evi rfl⟩, ⟨x1, rfl, evi rfl⟩, trivial⟩)
      rw [p20_yh, p20_ym] at h
      exact h
    · have ho : Ok (Jd (mkG p20_fi p20_ai)) p20_s_3_3 [x0.toInt, x1.toInt] σ00 := ok_start p20_st p20_me_3_3 rfl (fun e he => by
        rcases List.mem_cons.mp he with rfl | he
        · exact ⟨_, rfl, inp hp⟩
        rcases List.mem_cons.mp he with rfl | he
        · exact ⟨_, rfl, inp hq⟩
        cases he)
      have h := pairI (E := E) (Y := Yf) (G := p20_x) (G_ok _ _ _) Jd_ok (all_ok (G_ok _ _ _) Jd_ok (fun r c h => (BT.all_P p20_rt).at h)) rfl rfl p20_ok_3_3 ho (av1 := [.ref 0, .int x0, .int x1]) (av2 := [.ref 110, .int x0, .int x1]) (⟨rfl, ⟨x0, rfl, evi rfl⟩, ⟨x1, rfl, evi rfl⟩, trivial⟩) (⟨rfl, ⟨x0, rfl, evi rfl⟩, ⟨x1, rfl, evi rfl⟩, trivial⟩)
      rw [p20_yh, p20_ym] at h
      exact h
    · have ho : Ok (Jd (mkG p20_fi p20_ai)) p20_s_3_4 [x0.toInt, x1.toInt] σ00 := ok_start p20_st p20_me_3_4 rfl (fun e he => by
        rcases List.mem_cons.mp he with rfl | he
        · exact ⟨_, rfl, inp hp⟩
        rcases List.mem_cons.mp he with rfl | he
        · exact ⟨_, rfl, inp hq⟩
        cases he)
      have h := pairI (E := E) (Y := Yf) (G := p20_x) (G_ok _ _ _) Jd_ok (all_ok (G_ok _ _ _) Jd_ok (fun r c h => (BT.all_P p20_rt).at h)) rfl rfl p20_ok_3_4 ho (av1 := [.ref 0, .int x0, .int x1]) (av2 := [.ref 110, .int x0, .int x1]) (⟨rfl, ⟨x0, rfl, evi rfl⟩, ⟨x1, rfl, evi rfl⟩, trivial⟩) (⟨rfl, ⟨x0, rfl, evi rfl⟩, ⟨x1, rfl, evi rfl⟩, trivial⟩)
      rw [p20_yh, p20_ym] at h
      exact h
    · have ho : Ok (Jd (mkG p20_fi p20_ai)) p20_s_3_5 [x0.toInt, x1.toInt] σ00 := ok_start p20_st p20_me_3_5 rfl (fun e he => by
        rcases List.mem_cons.mp he with rfl | he
        · exact ⟨_, rfl, inp hp⟩
        rcases List.mem_cons.mp he with rfl | he
        · exact ⟨_, rfl, inp hq⟩
        cases he)
      have h := pairI (E := E) (Y := Yf) (G := p20_x) (G_ok _ _ _) Jd_ok (all_ok (G_ok _ _ _) Jd_ok (fun r c h => (BT.all_P p20_rt).at h)) rfl rfl p20_ok_3_5 ho (av1 := [.ref 0, .int x0, .int x1]) (av2 := [.ref 110, .int x0, .int x1]) (⟨rfl, ⟨x0, rfl, evi rfl⟩, ⟨x1, rfl, evi rfl⟩, trivial⟩) (⟨rfl, ⟨x0, rfl, evi rfl⟩, ⟨x1, rfl, evi rfl⟩, trivial⟩)
      rw [p20_yh, p20_ym] at h
      exact h
    · have ho : Ok (Jd (mkG p20_fi p20_ai)) p20_s_3_6 [x0.toInt, x1.toInt] σ00 := ok_start p20_st p20_me_3_6 rfl (fun e he => by
        rcases List.mem_cons.mp he with rfl | he
        · exact ⟨_, rfl, inp hp⟩
        rcases List.mem_cons.mp he with rfl | he
        · exact ⟨_, rfl, inp hq⟩
        cases he)
      have h := pairI (E := E) (Y := Yf) (G := p20_x) (G_ok _ _ _) Jd_ok (all_ok (G_ok _ _ _) Jd_ok (fun r c h => (BT.all_P p20_rt).at h)) rfl rfl p20_ok_3_6 ho (av1 := [.ref 0, .int x0, .int x1]) (av2 := [.ref 110, .int x0, .int x1]) (⟨rfl, ⟨x0, rfl, evi rfl⟩, ⟨x1, rfl, evi rfl⟩, trivial⟩) (⟨rfl, ⟨x0, rfl, evi rfl⟩, ⟨x1, rfl, evi rfl⟩, trivial⟩)
      rw [p20_yh, p20_ym] at h
      exact h
    · have ho : Ok (Jd (mkG p20_fi p20_ai)) p20_s_3_7 [x0.toInt, x1.toInt] σ00 := ok_start p20_st p20_me_3_7 rfl (fun e he => by
        rcases List.mem_cons.mp he with rfl | he
        · exact ⟨_, rfl, inp hp⟩
        rcases List.mem_cons.mp he with rfl | he
        · exact ⟨_, rfl, inp hq⟩
        cases he)
      have h := pairI (E := E) (Y := Yf) (G := p20_x) (G_ok _ _ _) Jd_ok (all_ok (G_ok _ _ _) Jd_ok (fun r c h => (BT.all_P p20_rt).at h)) rfl rfl p20_ok_3_7 ho (av1 := [.ref 0, .int x0, .int x1]) (av2 := [.ref 110, .int x0, .int x1]) (⟨rfl, ⟨x0, rfl, evi rfl⟩, ⟨x1, rfl, evi rfl⟩, trivial⟩) (⟨rfl, ⟨x0, rfl, evi rfl⟩, ⟨x1, rfl, evi rfl⟩, trivial⟩)
      rw [p20_yh, p20_ym] at h
      exact h
  · rcases (by omega : ((-2147483648) ≤ x1.toInt ∧ x1.toInt ≤ (-1)) ∨ (0 ≤ x1.toInt ∧ x1.toInt ≤ 0) ∨ (1 ≤ x1.toInt ∧ x1.toInt ≤ 1) ∨ (2 ≤ x1.toInt ∧ x1.toInt ≤ 2) ∨ (3 ≤ x1.toInt ∧ x1.toInt ≤ 3) ∨ (4 ≤ x1.toInt ∧ x1.toInt ≤ 4) ∨ (5 ≤ x1.toInt ∧ x1.toInt ≤ 5) ∨ (6 ≤ x1.toInt ∧ x1.toInt ≤ 2147483647)) with hq | hq | hq | hq | hq | hq | hq | hq
    · have ho : Ok (Jd (mkG p20_fi p20_ai)) p20_s_4_0 [x0.toInt, x1.toInt] σ00 := ok_start p20_st p20_me_4_0 rfl (fun e he => by
        rcases List.mem_cons.mp he with rfl | he
        · exact ⟨_, rfl, inp hp⟩
        rcases List.mem_cons.mp he with rfl | he
        · exact ⟨_, rfl, inp hq⟩
        cases he)
      have h := pairI (E := E) (Y := Yf) (G := p20_x) (G_ok _ _ _) Jd_ok (all_ok (G_ok _ _ _) Jd_ok (fun r c h => (BT.all_P p20_rt).at h)) rfl rfl p20_ok_4_0 ho (av1 := [.ref 0, .int x0, .int x1]) (av2 := [.ref 110, .int x0, .int x1]) (⟨rfl, ⟨x0, rfl, evi rfl⟩, ⟨x1, rfl, evi rfl⟩, trivial⟩) (⟨rfl, ⟨x0, rfl, evi rfl⟩, ⟨x1, rfl, evi rfl⟩, trivial⟩)
      rw [p20_yh, p20_ym] at h
      exact h
    · have ho : Ok (Jd (mkG p20_fi p20_ai)) p20_s_4_1 [x0.toInt, x1.toInt] σ00 := ok_start p20_st p20_me_4_1 rfl (fun e he => by
        rcases List.mem_cons.mp he with rfl | he
        · exact ⟨_, rfl, inp hp⟩
        rcases List.mem_cons.mp he with rfl | he
        · exact ⟨_, rfl, inp hq⟩
        cases he)
      have h := pairI (E := E) (Y := Yf) (G := p20_x) (G_ok _ _ _) Jd_ok (all_ok (G_ok _ _ _) Jd_ok (fun r c h => (BT.all_P p20_rt).at h)) rfl rfl p20_ok_4_1 ho (av1 := [.ref 0, .int x0, .int x1]) (av2 := [.ref 110, .int x0, .int x1]) (⟨rfl, ⟨x0, rfl, evi rfl⟩, ⟨x1, rfl, evi rfl⟩, trivial⟩) (⟨rfl, ⟨x0, rfl, evi rfl⟩, ⟨x1, rfl, evi rfl⟩, trivial⟩)
      rw [p20_yh, p20_ym] at h
      exact h
    · have ho : Ok (Jd (mkG p20_fi p20_ai)) p20_s_4_2 [x0.toInt, x1.toInt] σ00 := ok_start p20_st p20_me_4_2 rfl (fun e he => by
        rcases List.mem_cons.mp he with rfl | he
        · exact ⟨_, rfl, inp hp⟩
        rcases List.mem_cons.mp he with rfl | he
        · exact ⟨_, rfl, inp hq⟩
        cases he)
      have h := pairI (E := E) (Y := Yf) (G := p20_x) (G_ok _ _ _) Jd_ok (all_ok (G_ok _ _ _) Jd_ok (fun r c h => (BT.all_P p20_rt).at h)) rfl rfl p20_ok_4_2 ho (av1 := [.ref 0, .int x0, .int x1]) (av2 := [.ref 110, .int x0, .int x1]) (⟨rfl, ⟨x0, rfl, evi rfl⟩, ⟨x1, rfl, evi rfl⟩, trivial⟩) (⟨rfl, ⟨x0, rfl, evi rfl⟩, ⟨x1, rfl, evi rfl⟩, trivial⟩)
      rw [p20_yh, p20_ym] at h
      exact h
    · have ho : Ok (Jd (mkG p20_fi p20_ai)) p20_s_4_3 [x0.toInt, x1.toInt] σ00 := ok_start p20_st p20_me_4_3 rfl (fun e he => by
        rcases List.mem_cons.mp he with rfl | he
        · exact ⟨_, rfl, inp hp⟩
        rcases List.mem_cons.mp he with rfl | he
        · exact ⟨_, rfl, inp hq⟩
        cases he)
      have h := pairI (E := E) (Y := Yf) (G := p20_x) (G_ok _ _ _) Jd_ok (all_ok (G_ok _ _ _) Jd_ok (fun r c h => (BT.all_P p20_rt).at h)) rfl rfl p20_ok_4_3 ho (av1 := [.ref 0, .int x0, .int x1]) (av2 := [.ref 110, .int x0, .int x1]) (⟨rfl, ⟨x0, rfl, evi rfl⟩, ⟨x1, rfl, evi rfl⟩, trivial⟩) (⟨rfl, ⟨x0, rfl, evi rfl⟩, ⟨x1, rfl, evi rfl⟩, trivial⟩)
      rw [p20_yh, p20_ym] at h
      exact h
    · have ho : Ok (Jd (mkG p20_fi p20_ai)) p20_s_4_4 [x0.toInt, x1.toInt] σ00 := ok_start p20_st p20_me_4_4 rfl (fun e he => by
        rcases List.mem_cons.mp he with rfl | he
        · exact ⟨_, rfl, inp hp⟩
        rcases List.mem_cons.mp he with rfl | he
        · exact ⟨_, rfl, inp hq⟩
        cases he)
      have h := pairI (E := E) (Y := Yf) (G := p20_x) (G_ok _ _ _) Jd_ok (all_ok (G_ok _ _ _) Jd_ok (fun r c h => (BT.all_P p20_rt).at h)) rfl rfl p20_ok_4_4 ho (av1 := [.ref 0, .int x0, .int x1]) (av2 := [.ref 110, .int x0, .int x1]) (⟨rfl, ⟨x0, rfl, evi rfl⟩, ⟨x1, rfl, evi rfl⟩, trivial⟩) (⟨rfl, ⟨x0, rfl, evi rfl⟩, ⟨x1, rfl, evi rfl⟩, trivial⟩)
      rw [p20_yh, p20_ym] at h
      exact h
    · have ho : Ok (Jd (mkG p20_fi p20_ai)) p20_s_4_5 [x0.toInt, x1.toInt] σ00 := ok_start p20_st p20_me_4_5 rfl (fun e he => by
        rcases List.mem_cons.mp he with rfl | he
        · exact ⟨_, rfl, inp hp⟩
        rcases List.mem_cons.mp he with rfl | he
        · exact ⟨_, rfl, inp hq⟩
        cases he)
      have h := pairI (E := E) (Y := Yf) (G := p20_x) (G_ok _ _ _) Jd_ok (all_ok (G_ok _ _ _) Jd_ok (fun r c h => (BT.all_P p20_rt).at h)) rfl rfl p20_ok_4_5 ho (av1 := [.ref 0, .int x0, .int x1]) (av2 := [.ref 110, .int x0, .int x1]) (⟨rfl, ⟨x0, rfl, evi rfl⟩, ⟨x1, rfl, evi rfl⟩, trivial⟩) (⟨rfl, ⟨x0, rfl, evi rfl⟩, ⟨x1, rfl, evi rfl⟩, trivial⟩)
      rw [p20_yh, p20_ym] at h
      exact h
    · have ho : Ok (Jd (mkG p20_fi p20_ai)) p20_s_4_6 [x0.toInt, x1.toInt] σ00 := ok_start p20_st p20_me_4_6 rfl (fun e he => by
        rcases List.mem_cons.mp he with rfl | he
        · exact ⟨_, rfl, inp hp⟩
        rcases List.mem_cons.mp he with rfl | he
        · exact ⟨_, rfl, inp hq⟩
        cases he)
      have h := pairI (E := E) (Y := Yf) (G := p20_x) (G_ok _ _ _) Jd_ok (all_ok (G_ok _ _ _) Jd_ok (fun r c h => (BT.all_P p20_rt).at h)) rfl rfl p20_ok_4_6 ho (av1 := [.ref 0, .int x0, .int x1]) (av2 := [.ref 110, .int x0, .int x1]) (⟨rfl, ⟨x0, rfl, evi rfl⟩, ⟨x1, rfl, evi rfl⟩, trivial⟩) (⟨rfl, ⟨x0, rfl, evi rfl⟩, ⟨x1, rfl, evi rfl⟩, trivial⟩)
      rw [p20_yh, p20_ym] at h
      exact h
    · have ho : Ok (Jd (mkG p20_fi p20_ai)) p20_s_4_7 [x0.toInt, x1.toInt] σ00 := ok_start p20_st p20_me_4_7 rfl (fun e he => by
        rcases List.mem_cons.mp he with rfl | he
        · exact ⟨_, rfl, inp hp⟩
        rcases List.mem_cons.mp he with rfl | he
        · exact ⟨_, rfl, inp hq⟩
        cases he)
      have h := pairI (E := E) (Y := Yf) (G := p20_x) (G_ok _ _ _) Jd_ok (all_ok (G_ok _ _ _) Jd_ok (fun r c h => (BT.all_P p20_rt).at h)) rfl rfl p20_ok_4_7 ho (av1 := [.ref 0, .int x0, .int x1]) (av2 := [.ref 110, .int x0, .int x1]) (⟨rfl, ⟨x0, rfl, evi rfl⟩, ⟨x1, rfl, evi rfl⟩, trivial⟩) (⟨rfl, ⟨x0, rfl, evi rfl⟩, ⟨x1, rfl, evi rfl⟩, trivial⟩)
      rw [p20_yh, p20_ym] at h
      exact h
  · rcases (by omega : ((-2147483648) ≤ x1.toInt ∧ x1.toInt ≤ (-1)) ∨ (0 ≤ x1.toInt ∧ x1.toInt ≤ 0) ∨ (1 ≤ x1.toInt ∧ x1.toInt ≤ 1) ∨ (2 ≤ x1.toInt ∧ x1.toInt ≤ 2) ∨ (3 ≤ x1.toInt ∧ x1.toInt ≤ 3) ∨ (4 ≤ x1.toInt ∧ x1.toInt ≤ 4) ∨ (5 ≤ x1.toInt ∧ x1.toInt ≤ 5) ∨ (6 ≤ x1.toInt ∧ x1.toInt ≤ 2147483647)) with hq | hq | hq | hq | hq | hq | hq | hq
    · have ho : Ok (Jd (mkG p20_fi p20_ai)) p20_s_5_0 [x0.toInt, x1.toInt] σ00 := ok_start p20_st p20_me_5_0 rfl (fun e he => by
        rcases List.mem_cons.mp he with rfl | he
        · exact ⟨_, rfl, inp hp⟩
        rcases List.mem_cons.mp he with rfl | he
        · exact ⟨_, rfl, inp hq⟩
        cases he)
      have h := pairI (E := E) (Y := Yf) (G := p20_x) (G_ok _ _ _) Jd_ok (all_ok (G_ok _ _ _) Jd_ok (fun r c h => (BT.all_P p20_rt).at h)) rfl rfl p20_ok_5_0 ho (av1 := [.ref 0, .int x0, .int x1]) (av2 := [.ref 110, .int x0, .int x1]) (⟨rfl, ⟨x0, rfl, evi rfl⟩, ⟨x1, rfl, evi rfl⟩, trivial⟩) (⟨rfl, ⟨x0, rfl, evi rfl⟩, ⟨x1, rfl, evi rfl⟩, trivial⟩)
      rw [p20_yh, p20_ym] at h
      exact h
    · have ho : Ok (Jd (mkG p20_fi p20_ai)) p20_s_5_1 [x0.toInt, x1.toInt] σ00 := ok_start p20_st p20_me_5_1 rfl (fun e he => by
        rcases List.mem_cons.mp he with rfl | he
        · exact ⟨_, rfl, inp hp⟩
        rcases List.mem_cons.mp he with rfl | he
        · exact ⟨_, rfl, inp hq⟩
        cases he)
      have h := pairI (E := E) (Y := Yf) (G := p20_x) (G_ok _ _ _) Jd_ok (all_ok (G_ok _ _ _) Jd_ok (fun r c h => (BT.all_P p20_rt).at h)) rfl rfl p20_ok_5_1 ho (av1 := [.ref 0, .int x0, .int x1]) (av2 := [.ref 110, .int x0, .int x1]) (⟨rfl, ⟨x0, rfl, evi rfl⟩, ⟨x1, rfl, evi rfl⟩, trivial⟩) (⟨rfl, ⟨x0, rfl, evi rfl⟩, ⟨x1, rfl, evi rfl⟩, trivial⟩)
      rw [p20_yh, p20_ym] at h
      exact h
    · have ho : Ok (Jd (mkG p20_fi p20_ai)) p20_s_5_2 [x0.toInt, x1.toInt] σ00 := ok_start p20_st p20_me_5_2 rfl (fun e he => by
        rcases List.mem_cons.mp he with rfl | he
        · exact ⟨_, rfl, inp hp⟩
        rcases List.mem_cons.mp he with rfl | he
        · exact ⟨_, rfl, inp hq⟩
        cases he)
      have h := pairI (E := E) (Y := Yf) (G := p20_x) (G_ok _ _ _) Jd_ok (all_ok (G_ok _ _ _) Jd_ok (fun r c h => (BT.all_P p20_rt).at h)) rfl rfl p20_ok_5_2 ho (av1 := [.ref 0, .int x0, .int x1]) (av2 := [.ref 110, .int x0, .int x1]) (⟨rfl, ⟨x0, rfl, evi rfl⟩, ⟨x1, rfl, evi rfl⟩, trivial⟩) (⟨rfl, ⟨x0, rfl, evi rfl⟩, ⟨x1, rfl, evi rfl⟩, trivial⟩)
      rw [p20_yh, p20_ym] at h
      exact h
    · have ho : Ok (Jd (mkG p20_fi p20_ai)) p20_s_5_3 [x0.toInt, x1.toInt] σ00 := ok_start p20_st p20_me_5_3 rfl (fun e he => by
        rcases List.mem_cons.mp he with rfl | he
        · exact ⟨_, rfl, inp hp⟩
        rcases List.mem_cons.mp he with rfl | he
        · exact ⟨_, rfl, inp hq⟩
        cases he)
      have h := pairI (E := E) (Y := Yf) (G := p20_x) (G_ok _ _ _) Jd_ok (all_ok (G_ok _ _ _) Jd_ok (fun r c h => (BT.all_P p20_rt).at h)) rfl rfl p20_ok_5_3 ho (av1 := [.ref 0, .int x0, .int x1]) (av2 := [.ref 110, .int x0, .int x1]) (⟨rfl, ⟨x0, rfl, evi rfl⟩, ⟨x1, rfl, evi rfl⟩, trivial⟩) (⟨rfl, ⟨x0, rfl, evi rfl⟩, ⟨x1, rfl, evi rfl⟩, trivial⟩)
      rw [p20_yh, p20_ym] at h
      exact h
    · have ho : Ok (Jd (mkG p20_fi p20_ai)) p20_s_5_4 [x0.toInt, x1.toInt] σ00 := ok_start p20_st p20_me_5_4 rfl (fun e he => by
        rcases List.mem_cons.mp he with rfl | he
        · exact ⟨_, rfl, inp hp⟩
        rcases List.mem_cons.mp he with rfl | he
        · exact ⟨_, rfl, inp hq⟩
        cases he)
      have h := pairI (E := E) (Y := Yf) (G := p20_x) (G_ok _ _ _) Jd_ok (all_ok (G_ok _ _ _) Jd_ok (fun r c h => (BT.all_P p20_rt).at h)) rfl rfl p20_ok_5_4 ho (av1 := [.ref 0, .int x0, .int x1]) (av2 := [.ref 110, .int x0, .int x1]) (⟨rfl, ⟨x0, rfl, evi rfl⟩, ⟨x1, rfl, evi rfl⟩, trivial⟩) (⟨rfl, ⟨x0, rfl, evi rfl⟩, ⟨x1, rfl, evi rfl⟩, trivial⟩)
      rw [p20_yh, p20_ym] at h
      exact h
    · have ho : Ok (Jd (mkG p20_fi p20_ai)) p20_s_5_5 [x0.toInt, x1.toInt] σ00 := ok_start p20_st p20_me_5_5 rfl (fun e he => by
        rcases List.mem_cons.mp he with rfl | he
        · exact ⟨_, rfl, inp hp⟩
        rcases List.mem_cons.mp he with rfl | he
        · exact ⟨_, rfl, inp hq⟩
        cases he)
      have h := pairI (E := E) (Y := Yf) (G := p20_x) (G_ok _ _ _) Jd_ok (all_ok (G_ok _ _ _) Jd_ok (fun r c h => (BT.all_P p20_rt).at h)) rfl rfl p20_ok_5_5 ho (av1 := [.ref 0, .int x0, .int x1]) (av2 := [.ref 110, .int x0, .int x1]) (⟨rfl, ⟨x0, rfl, evi rfl⟩, ⟨x1, rfl, evi rfl⟩, trivial⟩) (⟨rfl, ⟨x0, rfl, evi rfl⟩, ⟨x1, rfl, evi rfl⟩, trivial⟩)
      rw [p20_yh, p20_ym] at h
      exact h
    · have ho : Ok (Jd (mkG p20_fi p20_ai)) p20_s_5_6 [x0.toInt, x1.toInt] σ00 := ok_start p20_st p20_me_5_6 rfl (fun e he => by
        rcases List.mem_cons.mp he with rfl | he
        · exact ⟨_, rfl, inp hp⟩
        rcases List.mem_cons.mp he with rfl | he
        · exact ⟨_, rfl, inp hq⟩
        cases he)
      have h := pairI (E := E) (Y := Yf) (G := p20_x) (G_ok _ _ _) Jd_ok (all_ok (G_ok _ _ _) Jd_ok (fun r c h => (BT.all_P p20_rt).at h)) rfl rfl p20_ok_5_6 ho (av1 := [.ref 0, .int x0, .int x1]) (av2 := [.ref 110, .int x0, .int x1]) (⟨rfl, ⟨x0, rfl, evi rfl⟩, ⟨x1, rfl, evi rfl⟩, trivial⟩) (⟨rfl, ⟨x0, rfl, evi rfl⟩, ⟨x1, rfl, evi rfl⟩, trivial⟩)
      rw [p20_yh, p20_ym] at h
      exact h
    · have ho : Ok (Jd (mkG p20_fi p20_ai)) p20_s_5_7 [x0.toInt, x1.toInt] σ00 := ok_start p20_st p20_me_5_7 rfl (fun e he => by
        rcases List.mem_cons.mp he with rfl | he
        · exact ⟨_, rfl, inp hp⟩
        rcases List.mem_cons.mp he with rfl | he
        · exact ⟨_, rfl, inp hq⟩
        cases he)
      have h := pairI (E := E) (Y := Yf) (G := p20_x) (G_ok _ _ _) Jd_ok (all_ok (G_ok _ _ _) Jd_ok (fun r c h => (BT.all_P p20_rt).at h)) rfl rfl p20_ok_5_7 ho (av1 := [.ref 0, .int x0, .int x1]) (av2 := [.ref 110, .int x0, .int x1]) (⟨rfl, ⟨x0, rfl, evi rfl⟩, ⟨x1, rfl, evi rfl⟩, trivial⟩) (⟨rfl, ⟨x0, rfl, evi rfl⟩, ⟨x1, rfl, evi rfl⟩, trivial⟩)
      rw [p20_yh, p20_ym] at h
      exact h
  · rcases (by omega : ((-2147483648) ≤ x1.toInt ∧ x1.toInt ≤ (-1)) ∨ (0 ≤ x1.toInt ∧ x1.toInt ≤ 0) ∨ (1 ≤ x1.toInt ∧ x1.toInt ≤ 1) ∨ (2 ≤ x1.toInt ∧ x1.toInt ≤ 2) ∨ (3 ≤ x1.toInt ∧ x1.toInt ≤ 3) ∨ (4 ≤ x1.toInt ∧ x1.toInt ≤ 4) ∨ (5 ≤ x1.toInt ∧ x1.toInt ≤ 5) ∨ (6 ≤ x1.toInt ∧ x1.toInt ≤ 2147483647)) with hq | hq | hq | hq | hq | hq | hq | hq
    · have ho : Ok (Jd (mkG p20_fi p20_ai)) p20_s_6_0 [x0.toInt, x1.toInt] σ00 := ok_start p20_st p20_me_6_0 rfl (fun e he => by
        rcases List.mem_cons.mp he with rfl | he
        · exact ⟨_, rfl, inp hp⟩
        rcases List.mem_cons.mp he with rfl | he
        · exact ⟨_, rfl, inp hq⟩
        cases he)
      have h := pairI (E := E) (Y := Yf) (G := p20_x) (G_ok _ _ _) Jd_ok (all_ok (G_ok _ _ _) Jd_ok (fun r c h => (BT.all_P p20_rt).at h)) rfl rfl p20_ok_6_0 ho (av1 := [.ref 0, .int x0, .int x1]) (av2 := [.ref 110, .int x0, .int x1]) (⟨rfl, ⟨x0, rfl, evi rfl⟩, ⟨x1, rfl, evi rfl⟩, trivial⟩) (⟨rfl, ⟨x0, rfl, evi rfl⟩, ⟨x1, rfl, evi rfl⟩, trivial⟩)
      rw [p20_yh, p20_ym] at h
      exact h
    · have ho : Ok (Jd (mkG p20_fi p20_ai)) p20_s_6_1 [x0.toInt, x1.toInt] σ00 := ok_start p20_st p20_me_6_1 rfl (fun e he => by
        rcases List.mem_cons.mp he with rfl | he
        · exact ⟨_, rfl, inp hp⟩
        rcases List.mem_cons.mp he with rfl | he
        · exact ⟨_, rfl, inp hq⟩
        cases he)
      have h := pairI (E := E) (Y := Yf) (G := p20_x) (G_ok _ _ _) Jd_ok (all_ok (G_ok _ _ _) Jd_ok (fun r c h => (BT.all_P p20_rt).at h)) rfl rfl p20_ok_6_1 ho (av1 := [.ref 0, .int x0, .int x1]) (av2 := [.ref 110, .int x0, .int x1]) (⟨rfl, ⟨x0, rfl, evi rfl⟩, ⟨x1, rfl, evi rfl⟩, trivial⟩) (⟨rfl, ⟨x0, rfl, evi rfl⟩, ⟨x1, rfl, evi rfl⟩, trivial⟩)
      rw [p20_yh, p20_ym] at h
      exact h
    · have ho : Ok (Jd (mkG p20_fi p20_ai)) p20_s_6_2 [x0.toInt, x1.toInt] σ00 := ok_start p20_st p20_me_6_2 rfl (fun e he => by
        rcases List.mem_cons.mp he with rfl | he
        · exact ⟨_, rfl, inp hp⟩
        rcases List.mem_cons.mp he with rfl | he
        · exact ⟨_, rfl, inp hq⟩
        cases he)
      have h := pairI (E := E) (Y := Yf) (G := p20_x) (G_ok _ _ _) Jd_ok (all_ok (G_ok _ _ _) Jd_ok (fun r c h => (BT.all_P p20_rt).at h)) rfl rfl p20_ok_6_2 ho (av1 := [.ref 0, .int x0, .int x1]) (av2 := [.ref 110, .int x0, .int x1]) (⟨rfl, ⟨x0, rfl, evi rfl⟩, ⟨x1, rfl, evi rfl⟩, trivial⟩) (⟨rfl, ⟨x0, rfl, evi rfl⟩, ⟨x1, rfl, evi rfl⟩, trivial⟩)
      rw [p20_yh, p20_ym] at h
      exact h
    · have ho : Ok (Jd (mkG p20_fi p20_ai)) p20_s_6_3 [x0.toInt, x1.toInt] σ00 := ok_start p20_st p20_me_6_3 rfl (fun e he => by
        rcases List.mem_cons.mp he with rfl | he
        · exact ⟨_, rfl, inp hp⟩
        rcases List.mem_cons.mp he with rfl | he
        · exact ⟨_, rfl, inp hq⟩
        cases he)
      have h := pairI (E := E) (Y := Yf) (G := p20_x) (G_ok _ _ _) Jd_ok (all_ok (G_ok _ _ _) Jd_ok (fun r c h => (BT.all_P p20_rt).at h)) rfl rfl p20_ok_6_3 ho (av1 := [.ref 0, .int x0, .int x1]) (av2 := [.ref 110, .int x0, .int x1]) (⟨rfl, ⟨x0, rfl, evi rfl⟩, ⟨x1, rfl, evi rfl⟩, trivial⟩) (⟨rfl, ⟨x0, rfl, evi rfl⟩, ⟨x1, rfl, evi rfl⟩, trivial⟩)
      rw [p20_yh, p20_ym] at h
      exact h
    · have ho : Ok (Jd (mkG p20_fi p20_ai)) p20_s_6_4 [x0.toInt, x1.toInt] σ00 := ok_start p20_st p20_me_6_4 rfl (fun e he => by
        rcases List.mem_cons.mp he with rfl | he
        · exact ⟨_, rfl, inp hp⟩
        rcases List.mem_cons.mp he with rfl | he
        · exact ⟨_, rfl, inp hq⟩
        cases he)
      have h := pairI (E := E) (Y := Yf) (G := p20_x) (G_ok _ _ _) Jd_ok (all_ok (G_ok _ _ _) Jd_ok (fun r c h => (BT.all_P p20_rt).at h)) rfl rfl p20_ok_6_4 ho (av1 := [.ref 0, .int x0, .int x1]) (av2 := [.ref 110, .int x0, .int x1]) (⟨rfl, ⟨x0, rfl, evi rfl⟩, ⟨x1, rfl, evi rfl⟩, trivial⟩) (⟨rfl, ⟨x0, rfl, evi rfl⟩, ⟨x1, rfl, evi rfl⟩, trivial⟩)
      rw [p20_yh, p20_ym] at h
      exact h
    · have ho : Ok (Jd (mkG p20_fi p20_ai)) p20_s_6_5 [x0.toInt, x1.toInt] σ00 := ok_start p20_st p20_me_6_5 rfl (fun e he => by
        rcases List.mem_cons.mp he with rfl | he
        · exact ⟨_, rfl, inp hp⟩
        rcases List.mem_cons.mp he with rfl | he
        · exact ⟨_, rfl, inp hq⟩
        cases he)
      have h := pairI (E := E) (Y := Yf) (G := p20_x) (G_ok _ _ _) Jd_ok (all_ok (G_ok _ _ _) Jd_ok (fun r c h => (BT.all_P p20_rt).at h)) rfl rfl p20_ok_6_5 ho (av1 := [.ref 0, .int x0, .int x1]) (av2 := [.ref 110, .int x0, .int x1]) (⟨rfl, ⟨x0, rfl, evi rfl⟩, ⟨x1, rfl, evi rfl⟩, trivial⟩) (⟨rfl, ⟨x0, rfl, evi rfl⟩, ⟨x1, rfl, evi rfl⟩, trivial⟩)
      rw [p20_yh, p20_ym] at h
      exact h
    · have ho : Ok (Jd (mkG p20_fi p20_ai)) p20_s_6_6 [x0.toInt, x1.toInt] σ00 := ok_start p20_st p20_me_6_6 rfl (fun e he => by
        rcases List.mem_cons.mp he with rfl | he
        · exact ⟨_, rfl, inp hp⟩
        rcases List.mem_cons.mp he with rfl | he
        · exact ⟨_, rfl, inp hq⟩
        cases he)
      have h := pairI (E := E) (Y := Yf) (G := p20_x) (G_ok _ _ _) Jd_ok (all_ok (G_ok _ _ _) Jd_ok (fun r c h => (BT.all_P p20_rt).at h)) rfl rfl p20_ok_6_6 ho (av1 := [.ref 0, .int x0, .int x1]) (av2 := [.ref 110, .int x0, .int x1]) (⟨rfl, ⟨x0, rfl, evi rfl⟩, ⟨x1, rfl, evi rfl⟩, trivial⟩) (⟨rfl, ⟨x0, rfl, evi rfl⟩, ⟨x1, rfl, evi rfl⟩, trivial⟩)
      rw [p20_yh, p20_ym] at h
      exact h
    · have ho : Ok (Jd (mkG p20_fi p20_ai)) p20_s_6_7 [x0.toInt, x1.toInt] σ00 := ok_start p20_st p20_me_6_7 rfl (fun e he => by
        rcases List.mem_cons.mp he with rfl | he
        · exact ⟨_, rfl, inp hp⟩
        rcases List.mem_cons.mp he with rfl | he
        · exact ⟨_, rfl, inp hq⟩
        cases he)
      have h := pairI (E := E) (Y := Yf) (G := p20_x) (G_ok _ _ _) Jd_ok (all_ok (G_ok _ _ _) Jd_ok (fun r c h => (BT.all_P p20_rt).at h)) rfl rfl p20_ok_6_7 ho (av1 := [.ref 0, .int x0, .int x1]) (av2 := [.ref 110, .int x0, .int x1]) (⟨rfl, ⟨x0, rfl, evi rfl⟩, ⟨x1, rfl, evi rfl⟩, trivial⟩) (⟨rfl, ⟨x0, rfl, evi rfl⟩, ⟨x1, rfl, evi rfl⟩, trivial⟩)
      rw [p20_yh, p20_ym] at h
      exact h
  · have ho : Ok (Jd (mkG p20_fi p20_ai)) p20_s_7 [x0.toInt, x1.toInt] σ00 := ok_start p20_st p20_me_7 rfl (fun e he => by
      rcases List.mem_cons.mp he with rfl | he
      · exact ⟨_, rfl, inp hp⟩
      rcases List.mem_cons.mp he with rfl | he
      · exact ⟨_, rfl, in32 x1⟩
      cases he)
    have h := pairI (E := E) (Y := Yf) (G := p20_x) (G_ok _ _ _) Jd_ok (all_ok (G_ok _ _ _) Jd_ok (fun r c h => (BT.all_P p20_rt).at h)) rfl rfl p20_ok_7 ho (av1 := [.ref 0, .int x0, .int x1]) (av2 := [.ref 110, .int x0, .int x1]) (⟨rfl, ⟨x0, rfl, evi rfl⟩, ⟨x1, rfl, evi rfl⟩, trivial⟩) (⟨rfl, ⟨x0, rfl, evi rfl⟩, ⟨x1, rfl, evi rfl⟩, trivial⟩)
    rw [p20_yh, p20_ym] at h
    exact h
def p70_fi : BT Dom := [(71686, [(71686, [(0, 0)])]), (112646, [(112646, [(0, 0)])]), (112774, [(112774, [(0, 0)])])]
def p70_ai : BT Dom := [(74, [(73, [(0, 0)]), (74, [(0, 6), (8, 10), (12, 12)])]), (200, [(199, [(0, 0)]), (200, [(0, 1)])]), (201, [(201, [(0, 1)])])]
def p70_ct : BT Ct := []
def p70_c : Ct := ⟨[], 0, [], [], 0, [], [], [], [(234, [(229, 0), (233, 0), (234, 0)]), (239, [(235, 0), (236, 0), (239, 0)]), (447, [(272, 0), (446, 0), (447, 0)]), (450, [(449, 0), (450, 0)])], true, 0, [(15728656, [(15728656, ())]), (15728669, [(15728669, ())])]⟩
def p70_s : Sy := ⟨2, [(0, [((-2147483648), 2147483647)]), (1, [((-2147483648), 2147483647)])], [(74, (.c 0, .c 1)), (74, (.c 1, .c 2)), (74, (.c 2, .c 4)), (74, (.c 3, .c 8))], [(200, (16, .c 0)), (201, (4, .c 0))]⟩
def p70_x : Gx := mkX p70_fi p70_ai p70_ct
theorem p70_rt : (p70_ct.all fun r c => chkRoot p70_x 100000 r c) = true := by decide +kernel
def p70_s_0 : Sy := ⟨2, [(0, [((-2147483648), (-1))]), (1, [((-2147483648), 2147483647)])], [(74, (.c 0, .c 1)), (74, (.c 1, .c 2)), (74, (.c 2, .c 4)), (74, (.c 3, .c 8))], [(200, (16, .c 0)), (201, (4, .c 0))]⟩
theorem p70_ok_0 : chkPair p70_x false 100000 240 453 p70_c p70_c [.r 0, .i 0 0, .i 1 0] [.r 110, .i 0 0, .i 1 0] p70_s_0 = true := by decide +kernel
theorem p70_me_0 : meOk p70_s_0 = true := by decide +kernel
def p70_s_1_0 : Sy := ⟨2, [(0, [(0, 0)]), (1, [((-2147483648), (-1))])], [(74, (.c 0, .c 1)), (74, (.c 1, .c 2)), (74, (.c 2, .c 4)), (74, (.c 3, .c 8))], [(200, (16, .c 0)), (201, (4, .c 0))]⟩
theorem p70_ok_1_0 : chkPair p70_x false 100000 240 453 p70_c p70_c [.r 0, .i 0 0, .i 1 0] [.r 110, .i 0 0, .i 1 0] p70_s_1_0 = true := by decide +kernel
theorem p70_me_1_0 : meOk p70_s_1_0 = true := by decide +kernel
