def p70_s_4_3 : Sy := ⟨2, [(0, [(3, 3)]), (1, [(2, 2)])], [(74, (.c 0, .c 1)), (74, (.c 1, .c 2)), (74, (.c 2, .c 4)), (74, (.c 3, .c 8))], [(200, (16, .c 0)), (201, (4, .c 0))]⟩
theorem p70_ok_4_3 : chkPair p70_x false 100000 240 453 p70_c p70_c [.r 0, .i 0 0, .i 1 0] [.r 110, .i 0 0, .i 1 0] p70_s_4_3 = true := by decide +kernel
theorem p70_me_4_3 : meOk p70_s_4_3 = true := by decide +kernel
def p70_s_4_4 : Sy := ⟨2, [(0, [(3, 3)]), (1, [(3, 3)])], [(74, (.c 0, .c 1)), (74, (.c 1, .c 2)), (74, (.c 2, .c 4)), (74, (.c 3, .c 8))], [(200, (16, .c 0)), (201, (4, .c 0))]⟩
theorem p70_ok_4_4 : chkPair p70_x false 100000 240 453 p70_c p70_c [.r 0, .i 0 0, .i 1 0] [.r 110, .i 0 0, .i 1 0] p70_s_4_4 = true := by decide +kernel
theorem p70_me_4_4 : meOk p70_s_4_4 = true := by decide +kernel
def p70_s_4_5 : Sy := ⟨2, [(0, [(3, 3)]), (1, [(4, 2147483647)])], [(74, (.c 0, .c 1)), (74, (.c 1, .c 2)), (74, (.c 2, .c 4)), (74, (.c 3, .c 8))], [(200, (16, .c 0)), (201, (4, .c 0))]⟩
theorem p70_ok_4_5 : chkPair p70_x false 100000 240 453 p70_c p70_c [.r 0, .i 0 0, .i 1 0] [.r 110, .i 0 0, .i 1 0] p70_s_4_5 = true := by decide +kernel
theorem p70_me_4_5 : meOk p70_s_4_5 = true := by decide +kernel
def p70_s_5 : Sy := ⟨2, [(0, [(4, 2147483647)]), (1, [((-2147483648), 2147483647)])], [(74, (.c 0, .c 1)), (74, (.c 1, .c 2)), (74, (.c 2, .c 4)), (74, (.c 3, .c 8))], [(200, (16, .c 0)), (201, (4, .c 0))]⟩
theorem p70_ok_5 : chkPair p70_x false 100000 240 453 p70_c p70_c [.r 0, .i 0 0, .i 1 0] [.r 110, .i 0 0, .i 1 0] p70_s_5 = true := by decide +kernel
theorem p70_me_5 : meOk p70_s_5 = true := by decide +kernel
theorem p70_st : startOk p70_fi p70_ai = true := by decide +kernel
theorem p70_yh : Yf 240 = Y_H_share := rfl
theorem p70_ym : Yf 453 = Y_M_share := rfl
theorem P_70 {E : xV} : LC_70 E σ00 (fun _ => True) := by
  intro x0 x1
  have a1 := inD_one (a := -2147483648) (b := 2147483647) (in32 x0)
  have a2 := inD_one (a := -2147483648) (b := 2147483647) (in32 x1)
  rcases (by omega : ((-2147483648) ≤ x0.toInt ∧ x0.toInt ≤ (-1)) ∨ (0 ≤ x0.toInt ∧ x0.toInt ≤ 0) ∨ (1 ≤ x0.toInt ∧ x0.toInt ≤ 1) ∨ (2 ≤ x0.toInt ∧ x0.toInt ≤ 2) ∨ (3 ≤ x0.toInt ∧ x0.toInt ≤ 3) ∨ (4 ≤ x0.toInt ∧ x0.toInt ≤ 2147483647)) with hp | hp | hp | hp | hp | hp
  · have ho : Ok (Jd (mkG p70_fi p70_ai)) p70_s_0 [x0.toInt, x1.toInt] σ00 := ok_start p70_st p70_me_0 rfl (fun e he => by
      rcases List.mem_cons.mp he with rfl | he
      · exact ⟨_, rfl, inp hp⟩
      rcases List.mem_cons.mp he with rfl | he
      · exact ⟨_, rfl, in32 x1⟩
      cases he)
    have h := pairI (E := E) (Y := Yf) (G := p70_x) (G_ok _ _ _) Jd_ok (all_ok (G_ok _ _ _) Jd_ok (fun r c h => (BT.all_P p70_rt).at h)) rfl rfl p70_ok_0 ho (av1 := [.ref 0, .int x0, .int x1]) (av2 := [.ref 110, .int x0, .int x1]) (⟨rfl, ⟨x0, rfl, evi rfl⟩, ⟨x1, rfl, evi rfl⟩, trivial⟩) (⟨rfl, ⟨x0, rfl, evi rfl⟩, ⟨x1, rfl, evi rfl⟩, trivial⟩)
    rw [p70_yh, p70_ym] at h
    exact h
  · rcases (by omega : ((-2147483648) ≤ x1.toInt ∧ x1.toInt ≤ (-1)) ∨ (0 ≤ x1.toInt ∧ x1.toInt ≤ 0) ∨ (1 ≤ x1.toInt ∧ x1.toInt ≤ 1) ∨ (2 ≤ x1.toInt ∧ x1.toInt ≤ 2) ∨ (3 ≤ x1.toInt ∧ x1.toInt ≤ 3) ∨ (4 ≤ x1.toInt ∧ x1.toInt ≤ 2147483647)) with hq | hq | hq | hq | hq | hq
    · have ho : Ok (Jd (mkG p70_fi p70_ai)) p70_s_1_0 [x0.toInt, x1.toInt] σ00 := ok_start p70_st p70_me_1_0 rfl (fun e he => by
        rcases List.mem_cons.mp he with rfl | he
        · exact ⟨_, rfl, inp hp⟩
        rcases List.mem_cons.mp he with rfl | he
        · exact ⟨_, rfl, inp hq⟩
        cases he)
      have h := pairI (E := E) (Y := Yf) (G := p70_x) (G_ok _ _ _) Jd_ok (all_ok (G_ok _ _ _) Jd_ok (fun r c h => (BT.all_P p70_rt).at h)) rfl rfl p70_ok_1_0 ho (av1 := [.ref 0, .int x0, .int x1]) (av2 := [.ref 110, .int x0, .int x1]) (⟨rfl, ⟨x0, rfl, evi rfl⟩, ⟨x1, rfl, evi rfl⟩, trivial⟩) (⟨rfl, ⟨x0, rfl, evi rfl⟩, ⟨x1, rfl, evi rfl⟩, trivial⟩)
      rw [p70_yh, p70_ym] at h
      exact h
    · have ho : Ok (Jd (mkG p70_fi p70_ai)) p70_s_1_1 [x0.toInt, x1.toInt] σ00 := ok_start p70_st p70_me_1_1 rfl (fun e he => by
        rcases List.mem_cons.mp he with rfl | he
        · exact ⟨_, rfl, inp hp⟩
        rcases List.mem_cons.mp he with rfl | he
        · exact ⟨_, rfl, inp hq⟩
        cases he)
      have h := pairI (E := E) (Y := Yf) (G := p70_x) (G_ok _ _ _) Jd_ok (all_ok (G_ok _ _ _) Jd_ok (fun r c h => (BT.all_P p70_rt).at h)) rfl rfl p70_ok_1_1 ho (av1 := [.ref 0, .int x0, .int x1]) (av2 := [.ref 110, .int x0, .int x1]) (⟨rfl, ⟨x0, rfl, evi rfl⟩, ⟨x1, rfl, evi rfl⟩, trivial⟩) (⟨rfl, ⟨x0, rfl, evi rfl⟩, ⟨x1, rfl, evi rfl⟩, trivial⟩)
      rw [p70_yh, p70_ym] at h
      exact h
    · have ho : Ok (Jd (mkG p70_fi p70_ai)) p70_s_1_2 [x0.toInt, x1.toInt] σ00 := ok_start p70_st p70_me_1_2 rfl (fun e he => by
        rcases List.mem_cons.mp he with rfl | he
        · exact ⟨_, rfl, inp hp⟩
        rcases List.mem_cons.mp he with rfl | he
        · exact ⟨_, rfl, inp hq⟩
        cases he)
      have h := pairI (E := E) (Y := Yf) (G := p70_x) (G_ok _ _ _) Jd_ok (all_ok (G_ok _ _ _) Jd_ok (fun r c h => (BT.all_P p70_rt).at h)) rfl rfl p70_ok_1_2 ho (av1 := [.ref 0, .int x0, .int x1]) (av2 := [.ref 110, .int x0, .int x1]) (⟨rfl, ⟨x0, rfl, evi rfl⟩, ⟨x1, rfl, evi rfl⟩, trivial⟩) (⟨rfl, ⟨x0, rfl, evi rfl⟩, ⟨x1, rfl, evi rfl⟩, trivial⟩)
      rw [p70_yh, p70_ym] at h
      exact h
    · have ho : Ok (Jd (mkG p70_fi p70_ai)) p70_s_1_3 [x0.toInt, x1.toInt] σ00 := ok_start p70_st p70_me_1_3 rfl (fun e he => by
        rcases List.mem_cons.mp he with rfl | he
        · exact ⟨_, rfl, inp hp⟩
        rcases List.mem_cons.mp he with rfl | he
        · exact ⟨_, rfl, inp hq⟩
        cases he)
      have h := pairI (E := E) (Y := Yf) (G := p70_x) (G_ok _ _ _) Jd_ok (all_ok (G_ok _ _ _) Jd_ok (fun r c h => (BT.all_P p70_rt).at h)) rfl rfl p70_ok_1_3 ho (av1 := [.ref 0, .int x0, .int x1]) (av2 := [.ref 110, .int x0, .int x1]) (⟨rfl, ⟨x0, rfl, evi rfl⟩, ⟨x1, rfl, evi rfl⟩, trivial⟩) (⟨rfl, ⟨x0, rfl, evi rfl⟩, ⟨x1, rfl, evi rfl⟩, trivial⟩)
      rw [p70_yh, p70_ym] at h
      exact h
    · have ho : Ok (Jd (mkG p70_fi p70_ai)) p70_s_1_4 [x0.toInt, x1.toInt] σ00 := ok_start p70_st p70_me_1_4 rfl (fun e he => by
        rcases List.mem_cons.mp he with rfl | he
        · exact ⟨_, rfl, inp hp⟩
        rcases List.mem_cons.mp he with rfl | he
        · exact ⟨_, rfl, inp hq⟩
        cases he)
      have h := pairI (E := E) (Y := Yf) (G := p70_x) (G_ok _ _ _) Jd_ok (all_ok (G_ok _ _ _) Jd_ok (fun r c h => (BT.all_P p70_rt).at h)) rfl rfl p70_ok_1_4 ho (av1 := [.ref 0, .int x0, .int x1]) (av2 := [.ref 110, .int x0, .int x1]) (⟨rfl, ⟨x0, rfl, evi rfl⟩, ⟨x1, rfl, evi rfl⟩, trivial⟩) (⟨rfl, ⟨x0, rfl, evi rfl⟩, ⟨x1, rfl, evi rfl⟩, trivial⟩)
      rw [p70_yh, p70_ym] at h
      exact h
    · have ho : Ok (Jd (mkG p70_fi p70_ai)) p70_s_1_5 [x0.toInt, x1.toInt] σ00 := ok_start p70_st p70_me_1_5 rfl (fun e he => by
        rcases List.mem_cons.mp he with rfl | he
        · exact ⟨_, rfl, inp hp⟩
        rcases List.mem_cons.mp he with rfl | he
        · exact ⟨_, rfl, inp hq⟩
        cases he)
      have h := pairI (E := E) (Y := Yf) (G := p70_x) (G_ok _ _ _) Jd_ok (all_ok (G_ok _ _ _) Jd_ok (fun r c h => (BT.all_P p70_rt).at h)) rfl rfl p70_ok_1_5 ho (av1 := [.ref 0, .int x0, .int x1]) (av2 := [.ref 110, .int x0, .int x1]) (⟨rfl, ⟨x0, rfl, evi rfl⟩, ⟨x1, rfl, evi rfl⟩, trivial⟩) (⟨rfl, ⟨x0, rfl, evi rfl⟩, ⟨x1, rfl, evi rfl⟩, trivial⟩)
      rw [p70_yh, p70_ym] at h
      exact h
  · rcases (by omega : ((-2147483648) ≤ x1.toInt ∧ x1.toInt ≤ (-1)) ∨ (0 ≤ x1.toInt ∧ x1.toInt ≤ 0) ∨ (1 ≤ x1.toInt ∧ x1.toInt ≤ 1) ∨ (2 ≤ x1.toInt ∧ x1.toInt ≤ 2) ∨ (3 ≤ x1.toInt ∧ x1.toInt ≤ 3) ∨ (4 ≤ x1.toInt ∧ x1.toInt ≤ 2147483647)) with hq | hq | hq | hq | hq | hq
    · have ho : Ok (Jd (mkG p70_fi p70_ai)) p70_s_2_0 [x0.toInt, x1.toInt] σ00 := ok_start p70_st p70_me_2_0 rfl (fun e he => by
        rcases List.mem_cons.mp he with rfl | he
        · exact ⟨_, rfl, inp hp⟩
        rcases List.mem_cons.mp he with rfl | he
        · exact ⟨_, rfl, inp hq⟩
        cases he)
      have h := pairI (E := E) (Y := Yf) (G := p70_x) (G_ok _ _ _) Jd_ok (all_ok (G_ok _ _ _) Jd_ok (fun r c h => (BT.all_P p70_rt).at h)) rfl rfl p70_ok_2_0 ho (av1 := [.ref 0, .int x0, .int x1]) (av2 := [.ref 110, .int x0, .int x1]) (⟨rfl, ⟨x0, rfl, evi rfl⟩, ⟨x1, rfl, evi rfl⟩, trivial⟩) (⟨rfl, ⟨x0, rfl, evi rfl⟩, ⟨x1, rfl, evi rfl⟩, trivial⟩)
      rw [p70_yh, p70_ym] at h
      exact h
    · have ho : Ok (Jd (mkG p70_fi p70_ai)) p70_s_2_1 [x0.toInt, x1.toInt] σ00 := ok_start p70_st p70_me_2_1 rfl (fun e he => by
        rcases List.mem_cons.mp he with rfl | he
        · exact ⟨_, rfl, inp hp⟩
        rcases List.mem_cons.mp he with rfl | he
        · exact ⟨_, rfl, inp hq⟩
        cases he)
      have h := pairI (E := E) (Y := Yf) (G := p70_x) (G_ok _ _ _) Jd_ok (all_ok (G_ok _ _ _) Jd_ok (fun r c h => (BT.all_P p70_rt).at h)) rfl rfl p70_ok_2_1 ho (av1 := [.ref 0, .int x0, .int x1]) (av2 := [.ref 110, .int x0, .int x1]) (⟨rfl, ⟨x0, rfl, evi rfl⟩, ⟨x1, rfl, evi rfl⟩, trivial⟩) (⟨rfl, ⟨x0, rfl, evi rfl⟩, ⟨x1, rfl, evi rfl⟩, trivial⟩)
      rw [p70_yh, p70_ym] at h
      exact h
    · have ho : Ok (Jd (mkG p70_fi p70_ai)) p70_s_2_2 [x0.toInt, x1.toInt] σ00 := ok_start p70_st p70_me_2_2 rfl (fun e he => by
        rcases List.mem_cons.mp he with rfl | he
        · exact ⟨_, rfl, inp hp⟩
        rcases List.mem_cons.mp he with rfl | he
        · exact ⟨_, rfl, inp hq⟩
        cases he)
      have h := pairI (E := E) (Y := Yf) (G := p70_x) (G_ok _ _ _) Jd_ok (all_ok (G_ok _ _ _) Jd_ok (fun r c h => (BT.all_P p70_rt).at h)) rfl rfl p70_ok_2_2 ho (av1 := [.ref 0, .int x0, .int x1]) (av2 := [.ref 110, .int x0, .int x1]) (⟨rfl, ⟨x0, rfl, evi rfl⟩, ⟨x1, rfl, evi rfl⟩, trivial⟩) (⟨rfl, ⟨x0, rfl, evi rfl⟩, ⟨x1, rfl, evi rfl⟩, trivial⟩)
      rw [p70_yh, p70_ym] at h
      exact h
    · have ho : Ok (Jd (mkG p70_fi p70_ai)) p70_s_2_3 [x0.toInt, x1.toInt] σ00 := ok_start p70_st p70_me_2_3 rfl (fun e he => by
        rcases List.mem_cons.mp he with rfl | he
        · exact ⟨_, rfl, inp hp⟩
        rcases List.mem_cons.mp he with rfl | he
        · exact ⟨_, rfl, inp hq⟩
        cases he)
      have h := pairI (E := E) (Y := Yf) (G := p70_x) (G_ok _ _ _) Jd_ok (all_ok (G_ok _ _ _) Jd_ok (fun r c h => (BT.all_P p70_rt).at h)) rfl rfl p70_ok_2_3 ho (av1 := [.ref 0, .int x0, .int x1]) (av2 := [.ref 110, .int x0, .int x1]) (⟨rfl, ⟨x0, rfl, evi rfl⟩, ⟨x1, rfl, evi rfl⟩, trivial⟩) (⟨rfl, ⟨x0, rfl, evi rfl⟩, ⟨x1, rfl, evi rfl⟩, trivial⟩)
      rw [p70_yh, p70_ym] at h
      exact h
    · have ho : Ok (Jd (mkG p70_fi p70_ai)) p70_s_2_4 [x0.toInt, x1.toInt] σ00 := ok_start p70_st p70_me_2_4 rfl (fun e he => by
        rcases List.mem_cons.mp he with rfl | he
        · exact ⟨_, rfl, inp hp⟩
        rcases List.mem_cons.mp he with rfl | he
        · exact ⟨_, rfl, inp hq⟩
        cases he)
      have h := pairI (E := E) (Y := Yf) (G := p70_x) (G_ok _ _ _) Jd_ok (all_ok (G_ok _ _ _) Jd_ok (fun r c h => (BT.all_P p70_rt).at h)) rfl rfl p70_ok_2_4 ho (av1 := [.ref 0, .int x0, .int x1]) (av2 := [.ref 110, .int x0, .int x1]) (⟨rfl, ⟨x0, rfl, evi rfl⟩, ⟨x1, rfl, evi rfl⟩, trivial⟩) (⟨rfl, ⟨x0, rfl, evi rfl⟩, ⟨x1, rfl, evi rfl⟩, trivial⟩)
      rw [p70_yh, p70_ym] at h
      exact h
    · have ho : Ok (Jd (mkG p70_fi p70_ai)) p70_s_2_5 [x0.toInt, x1.toInt] σ00 := ok_start p70_st p70_me_2_5 rfl (fun e he => by
        rcases List.mem_cons.mp he with rfl | he
        · exact ⟨_, rfl, inp hp⟩
        rcases List.mem_cons.mp he with rfl | he
        · exact ⟨_, rfl, inp hq⟩
        cases he)
      have h := pairI (E := E) (Y := Yf) (G := p70_x) (G_ok _ _ _) Jd_ok (all_ok (G_ok _ _ _) Jd_ok (fun r c h => (BT.all_P p70_rt).at h)) rfl rfl p70_ok_2_5 ho (av1 := [.ref 0, .int x0, .int x1]) (av2 := [.ref 110, .int x0, .int x1]) (⟨rfl, ⟨x0, rfl, evi rfl⟩, ⟨x1, rfl, evi rfl⟩, trivial⟩) (⟨rfl, ⟨x0, rfl, evi rfl⟩, ⟨x1, rfl, evi rfl⟩, trivial⟩)
      rw [p70_yh, p70_ym] at h
      exact h
  · rcases (by omega : ((-2147483648) ≤ x1.toInt ∧ x1.toInt ≤ (-1)) ∨ (0 ≤ x1.toInt ∧ x1.toInt ≤ 0) ∨ (1 ≤ x1.toInt ∧ x1.toInt ≤ 1) ∨ (2 ≤ x1.toInt ∧ x1.toInt ≤ 2) ∨ (3 ≤ x1.toInt ∧ x1.toInt ≤ 3) ∨ (4 ≤ x1.toInt ∧ x1.toInt ≤ 2147483647)) with hq | hq | hq | hq | hq | hq
    · have ho : Ok (Jd (mkG p70_fi p70_ai)) p70_s_3_0 [x0.toInt, x1.toInt] σ00 := ok_start p70_st p70_me_3_0 rfl (fun e he => by
        rcases List.mem_cons.mp he with rfl | he
        · exact ⟨_, rfl, inp hp⟩
        rcases List.mem_cons.mp he with rfl | he
        · exact ⟨_, rfl, inp hq⟩
        cases he)
      have h := pairI (E := E) (Y := Yf) (G := p70_x) (G_ok _ _ _) Jd_ok (all_ok (G_ok _ _ _) Jd_ok (fun r c h => (BT.all_P p70_rt).at h)) rfl rfl p70_ok_3_0 ho (av1 := [.ref 0, .int x0, .int x1]) (av2 := [.ref 110, .int x0, .int x1]) (⟨rfl, ⟨x0, rfl, evi rfl⟩, ⟨x1, rfl, evi rfl⟩, trivial⟩) (⟨rfl, ⟨x0, rfl, evi rfl⟩, ⟨x1, rfl, evi rfl⟩, trivial⟩)
      rw [p70_yh, p70_ym] at h
      exact h
    · have ho : Ok (Jd (mkG p70_fi p70_ai)) p70_s_3_1 [x0.toInt, x1.toInt] σ00 := ok_start p70_st p70_me_3_1 rfl (fun e he => by
        rcases List.mem_cons.mp he with rfl | he
        · exact ⟨_, rfl, inp hp⟩
        rcases List.mem_cons.mp he with rfl | he
        · exact ⟨_, rfl, inp hq⟩
        cases he)
      have h := pairI (E := E) (Y := Yf) (G := p70_x) (G_ok _ _ _) Jd_ok (all_ok (G_ok _ _ _) Jd_ok (fun r c h => (BT.all_P p70_rt).at h)) rfl rfl p70_ok_3_1 ho (av1 := [.ref 0, .int x0, .int x1]) (av2 := [.ref 110, .int x0, .int x1]) (⟨rfl, ⟨x0, rfl, evi rfl⟩, ⟨x1, rfl, evi rfl⟩, trivial⟩) (⟨rfl, ⟨x0, rfl, evi rfl⟩, ⟨x1, rfl, evi rfl⟩, trivial⟩)
      rw [p70_yh, p70_ym] at h
      exact h
    · have ho : Ok (Jd (mkG p70_fi p70_ai)) p70_s_3_2 [x0.toInt, x1.toInt] σ00 := ok_start p70_st p70_me_3_2 rfl (fun e he => by
        rcases List.mem_cons.mp he with rfl | he
        · exact ⟨_, rfl, inp hp⟩
        rcases List.mem_cons.mp he with rfl | he
        · exact ⟨_, rfl, inp hq⟩
        cases he)
      have h := pairI (E := E) (Y := Yf) (G := p70_x) (G_ok _ _ _) Jd_ok (all_ok (G_ok _ _ _) Jd_ok (fun r c h => (BT.all_P p70_rt).at h)) rfl rfl p70_ok_3_2 ho (av1 := [.ref 0, .int x0, .int x1]) (av2 := [.ref 110, .int x0, .int x1]) (⟨rfl, ⟨x0, rfl, evi rfl⟩, ⟨x1, rfl, evi rfl⟩, trivial⟩) (⟨rfl, ⟨x0, rfl, evi rfl⟩, ⟨x1, rfl, evi rfl⟩, trivial⟩)
      rw [p70_yh, p70_ym] at h
      exact h
    · have ho : Ok (Jd (mkG p70_fi p70_ai)) p70_s_3_3 [x0.toInt, x1.toInt] σ00 := ok_start p70_st p70_me_3_3 rfl (fun e he => by
        rcases List.mem_cons.mp he with rfl | he
        · exact ⟨_, rfl, inp hp⟩
        rcases List.mem_cons.mp he with rfl | he
        · exact ⟨_, rfl, inp hq⟩
        cases he)
      have h := pairI (E := E) (Y := Yf) (G := p70_x) (G_ok _ _ _) Jd_ok (all_ok (G_ok _ _ _) Jd_ok (fun r c h => (BT.all_P p70_rt).at h)) rfl rfl p70_ok_3_3 ho (av1 := [.ref 0, .int x0, .int x1]) (av2 := [.ref 110, .int x0, .int x1]) (⟨rfl, ⟨x0, rfl, evi rfl⟩, ⟨x1, rfl, evi rfl⟩, trivial⟩) (⟨rfl, ⟨x0, rfl, evi rfl⟩, ⟨x1, rfl, evi rfl⟩, trivial⟩)
      rw [p70_yh, p70_ym] at h
      exact h
    · have ho : Ok (Jd (mkG p70_fi p70_ai)) p70_s_3_4 [x0.toInt, x1.toInt] σ00 := ok_start p70_st p70_me_3_4 rfl (fun e he => by
        rcases List.mem_cons.mp he with rfl | he
        · exact ⟨_, rfl, inp hp⟩
        rcases List.mem_cons.mp he with rfl | he
        · exact ⟨_, rfl, inp hq⟩
        cases he)
      have h := pairI (E := E) (Y := Yf) (G := p70_x) (G_ok _ _ _) Jd_ok (all_ok (G_ok _ _ _) Jd_ok (fun r c h => (BT.all_P p70_rt).at h)) rfl rfl p70_ok_3_4 ho (av1 := [.ref 0, .int x0, .int x1]) (av2 := [.ref 110, .int x0, .int x1]) (⟨rfl, ⟨x0, rfl, evi rfl⟩, ⟨x1, rfl, evi rfl⟩, trivial⟩) (⟨rfl, ⟨x0, rfl, evi rfl⟩, ⟨x1, rfl, evi rfl⟩, trivial⟩)
      rw [p70_yh, p70_ym] at h
      exact h
    · have ho : Ok (Jd (mkG p70_fi p70_ai)) p70_s_3_5 [x0.toInt, x1.toInt] σ00 := ok_start p70_st p70_me_3_5 rfl (fun e he => by
        rcases List.mem_cons.mp he with rfl | he
        · exact ⟨_, rfl, inp hp⟩
        rcases List.mem_cons.mp he with rfl | he
        · exact ⟨_, rfl, inp hq⟩
        cases he)
      have h := pairI (E := E) (Y := Yf) (G := p70_x) (G_ok _ _ _) Jd_ok (all_ok (G_ok _ _ _) Jd_ok (fun r c h => (BT.all_P p70_rt).at h)) rfl rfl p70_ok_3_5 ho (av1 := [.ref 0, .int x0, .int x1]) (av2 := [.ref 110, .int x0, .int x1]) (⟨rfl, ⟨x0, rfl, evi rfl⟩, ⟨x1, rfl, evi rfl⟩, trivial⟩) (⟨rfl, ⟨x0, rfl, evi rfl⟩, ⟨x1, rfl, evi rfl⟩, trivial⟩)
      rw [p70_yh, p70_ym] at h
      exact h
  · rcases (by omega : ((-2147483648) ≤ x1.toInt ∧ x1.toInt ≤ (-1)) ∨ (0 ≤ x1.toInt ∧ x1.toInt ≤ 0) ∨ (1 ≤ x1.toInt ∧ x1.toInt ≤ 1) ∨ (2 ≤ x1.toInt ∧ x1.toInt ≤ 2) ∨ (3 ≤ x1.toInt ∧ x1.toInt ≤ 3) ∨ (4 ≤ x1.toInt ∧ x1.toInt ≤ 2147483647)) with hq | hq | hq | hq | hq | hq
    · have ho : Ok (Jd (mkG p70_fi p70_ai)) p70_s_4_0 [x0.toInt, x1.toInt] σ00 := ok_start p70_st p70_me_4_0 rfl (fun e he => by
        rcases List.mem_cons.mp he with rfl | he
        · exact ⟨_, rfl, inp hp⟩
        rcases List.mem_cons.mp he with rfl | he
        · exact ⟨_, rfl, inp hq⟩
        cases he)
      have h := pairI (E := E) (Y := Yf) (G := p70_x) (G_ok _ _ _) Jd_ok (all_ok (G_ok _ _ _) Jd_ok (fun r c h => (BT.all_P p70_rt).at h)) rfl rfl p70_ok_4_0 ho (av1 := [.ref 0, .int x0, .int x1]) (av2 := [.ref 110, .int x0, .int x1]) (⟨rfl, ⟨x0, rfl, evi rfl⟩, ⟨x1, rfl, evi rfl⟩, trivial⟩) (⟨rfl, ⟨x0, rfl, evi rfl⟩, ⟨x1, rfl, evi rfl⟩, trivial⟩)
      rw [p70_yh, p70_ym] at h
      exact h
    · have ho : Ok (Jd (mkG p70_fi p70_ai)) p70_s_4_1 [x0.toInt, x1.toInt] σ00 := ok_start p70_st p70_me_4_1 rfl (fun e he => by
        rcases List.mem_cons.mp he with rfl | he
        · exact ⟨_, rfl, inp hp⟩
        rcases List.mem_cons.mp he with rfl | he
        · exact ⟨_, rfl, inp hq⟩
        cases he)
      have h := pairI (E := E) (Y := Yf) (G := p70_x) (G_ok _ _ _) Jd_ok (all_ok (G_ok _ _ _) Jd_ok (fun r c h => (BT.all_P p70_rt).at h)) rfl rfl p70_ok_4_1 ho (av1 := [.ref 0, .int x0, .int x1]) (av2 := [.ref 110, .int x0, .int x1]) (⟨rfl, ⟨x0, rfl, evi rfl⟩, ⟨x1, rfl, evi rfl⟩, trivial⟩) (⟨rfl, ⟨x0, rfl, evi rfl⟩, ⟨x1, rfl, evi rfl⟩, trivial⟩)
      rw [p70_yh, p70_ym] at h
      exact h
    · have ho : Ok (Jd (mkG p70_fi p70_ai)) p70_s_4_2 [x0.toInt, x1.toInt] σ00 := ok_start p70_st p70_me_4_2 rfl (fun e he => by
        rcases List.mem_cons.mp he with rfl | he
        · exact ⟨_, rfl, inp hp⟩
        rcases List.mem_cons.mp he with rfl | he
        · exact ⟨_, rfl, inp hq⟩
        cases he)
      have h := pairI (E := E) (Y := Yf) (G := p70_x) (G_ok _ _ _) Jd_ok (all_ok (G_ok _ _ _) Jd_ok (fun r c h => (BT.all_P p70_rt).at h)) rfl rfl p70_ok_4_2 ho (av1 := [.ref 0, .int x0, .int x1]) (av2 := [.ref 110, .int x0, .int x1]) (⟨rfl, ⟨x0, rfl, evi rfl⟩, ⟨x1, rfl, evi rfl⟩, trivial⟩) (⟨rfl, ⟨x0, rfl, evi rfl⟩, ⟨x1, rfl, evi rfl⟩, trivial⟩)
      rw [p70_yh, p70_ym] at h
      exact h
    · have ho : Ok (Jd (mkG p70_fi p70_ai)) p70_s_4_3 [x0.toInt, x1.toInt] σ00 := ok_start p70_st p70_me_4_3 rfl (fun e he => by
        rcases List.mem_cons.mp he with rfl | he
        · exact ⟨_, rfl, inp hp⟩
        rcases List.mem_cons.mp he with rfl | he
        · exact ⟨_, rfl, inp hq⟩
        cases he)
      have h := pairI (E := E) (Y := Yf) (G := p70_x) (G_ok _ _ _) Jd_ok (all_ok (G_ok _ _ _) Jd_ok (fun r c h => (BT.all_P p70_rt).at h)) rfl rfl p70_ok_4_3 ho (av1 := [.ref 0, .int x0, .int x1]) (av2 := [.ref 110, .int x0, .int x1]) (⟨rfl, ⟨x0, rfl, evi rfl⟩, ⟨x1, rfl, evi rfl⟩, trivial⟩) (⟨rfl, ⟨x0, rfl, evi rfl⟩, ⟨x1, rfl, evi rfl⟩, trivial⟩)
      rw [p70_yh, p70_ym] at h
      exact h
    · have ho : Ok (Jd (mkG p70_fi p70_ai)) p70_s_4_4 [x0.toInt, x1.toInt] σ00 := ok_start p70_st p70_me_4_4 rfl (fun e he => by
        rcases List.mem_cons.mp he with rfl | he
        · exact ⟨_, rfl, inp hp⟩
        rcases List.mem_cons.mp he with rfl | he
        · exact ⟨_, rfl, inp hq⟩
        cases he)
      have h := pairI (E := E) (Y := Yf) (G := p70_x) (G_ok _ _ _) Jd_ok (all_ok (G_ok _ _ _) Jd_ok (fun r c h => (BT.all_P p70_rt).at h)) rfl rfl p70_ok_4_4 ho (av1 := [.ref 0, .int x0, .int x1]) (av2 := [.ref 110, .int x0, .int x1]) (⟨rfl, ⟨x0, rfl, evi rfl⟩, ⟨x1, rfl, evi rfl⟩, trivial⟩) (⟨rfl, ⟨x0, rfl, evi rfl⟩, ⟨x1, rfl, evi rfl⟩, trivial⟩)
      rw [p70_yh, p70_ym] at h
      exact h
    · have ho : Ok (Jd (mkG p70_fi p70_ai)) p70_s_4_5 [x0.toInt, x1.toInt] σ00 := ok_start p70_st p70_me_4_5 rfl (fun e he => by
        rcases List.mem_cons.mp he with rfl | he
        · exact ⟨_, rfl, inp hp⟩
        rcases List.mem_cons.mp he with rfl | he
        · exact ⟨_, rfl, inp hq⟩
        cases he)
      have h := pairI (E := E) (Y := Yf) (G := p70_x) (G_ok _ _ _) Jd_ok (all_ok (G_ok _ _ _) Jd_ok (fun r c h => (BT.all_P p70_rt).at h)) rfl rfl p70_ok_4_5 ho (av1 := [.ref 0, .int x0, .int x1]) (av2 := [.ref 110, .int x0, .int x1]) (⟨rfl, ⟨x0, rfl, evi rfl⟩, ⟨x1, rfl, evi rfl⟩, trivial⟩) (⟨rfl, ⟨x0, rfl, evi rfl⟩, ⟨x1, rfl, evi rfl⟩, trivial⟩)
      rw [p70_yh, p70_ym] at h
      exact h
  · have ho : Ok (Jd (mkG p70_fi p70_ai)) p70_s_5 [x0.toInt, x1.toInt] σ00 := ok_start p70_st p70_me_5 rfl (fun e he => by
      rcases List.mem_cons.mp he with rfl | he
      · exact ⟨_, rfl, inp hp⟩
      rcases List.mem_cons.mp he with rfl | he
      · exact ⟨_, rfl, in32 x1⟩
      cases he)
    have h := pairI (E := E) (Y := Yf) (G := p70_x) (G_ok _ _ _) Jd_ok (all_ok (G_ok _ _ _) Jd_ok (fun r c h => (BT.all_P p70_rt).at h)) rfl rfl p70_ok_5 ho (av1 := [.ref 0, .int x0, .int x1]) (av2 := [.ref 110, .int x0, .int x1]) (⟨rfl, ⟨x0, rfl, evi rfl⟩, ⟨x1, rfl, evi rfl⟩, trivial⟩) (⟨rfl, ⟨x0, rfl, evi rfl⟩, ⟨x1, rfl, evi rfl⟩, trivial⟩)
    rw [p70_yh, p70_ym] at h
    exact h
