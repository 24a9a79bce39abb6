def p19_s_5 : Sy := ⟨3, [(0, [(4, 4)]), (1, [((-2147483648), 2147483647)]), (2, [(0, 1)])], [(110, (.c 26, .c 0)), (15, (.c 0, .c 0)), (15, (.c 1, .c 1)), (15, (.c 2, .c 0)), (15, (.c 3, .c 0)), (15, (.c 4, .c 0)), (15, (.c 5, .c 63)), (16, (.c 0, .c 1)), (16, (.c 1, .c 3)), (16, (.c 2, .c 4)), (16, (.c 3, .c 8)), (16, (.c 4, .c 16)), (16, (.c 5, .c 63))], [(125, (40, .c 0)), (126, (40, .c 0)), (129, (36, .c 0))]⟩
theorem p19_ok_5 : chkPair p19_x false 100000 49 329 p19_c p19_c [.r 0, .i 0 0, .i 1 0, .i 2 0] [.r 110, .i 0 0, .i 1 0, .i 2 0] p19_s_5 = true := by decide +kernel
theorem p19_me_5 : meOk p19_s_5 = true := by decide +kernel
def p19_s_6 : Sy := ⟨3, [(0, [(5, 5)]), (1, [((-2147483648), 2147483647)]), (2, [(0, 1)])], [(110, (.c 26, .c 0)), (15, (.c 0, .c 0)), (15, (.c 1, .c 1)), (15, (.c 2, .c 0)), (15, (.c 3, .c 0)), (15, (.c 4, .c 0)), (15, (.c 5, .c 63)), (16, (.c 0, .c 1)), (16, (.c 1, .c 3)), (16, (.c 2, .c 4)), (16, (.c 3, .c 8)), (16, (.c 4, .c 16)), (16, (.c 5, .c 63))], [(125, (40, .c 0)), (126, (40, .c 0)), (129, (36, .c 0))]⟩
theorem p19_ok_6 : chkPair p19_x false 100000 49 329 p19_c p19_c [.r 0, .i 0 0, .i 1 0, .i 2 0] [.r 110, .i 0 0, .i 1 0, .i 2 0] p19_s_6 = true := by decide +kernel
theorem p19_me_6 : meOk p19_s_6 = true := by decide +kernel
def p19_s_7 : Sy := ⟨3, [(0, [(6, 2147483647)]), (1, [((-2147483648), 2147483647)]), (2, [(0, 1)])], [(110, (.c 26, .c 0)), (15, (.c 0, .c 0)), (15, (.c 1, .c 1)), (15, (.c 2, .c 0)), (15, (.c 3, .c 0)), (15, (.c 4, .c 0)), (15, (.c 5, .c 63)), (16, (.c 0, .c 1)), (16, (.c 1, .c 3)), (16, (.c 2, .c 4)), (16, (.c 3, .c 8)), (16, (.c 4, .c 16)), (16, (.c 5, .c 63))], [(125, (40, .c 0)), (126, (40, .c 0)), (129, (36, .c 0))]⟩
theorem p19_ok_7 : chkPair p19_x false 100000 49 329 p19_c p19_c [.r 0, .i 0 0, .i 1 0, .i 2 0] [.r 110, .i 0 0, .i 1 0, .i 2 0] p19_s_7 = true := by decide +kernel
theorem p19_me_7 : meOk p19_s_7 = true := by decide +kernel
theorem p19_st : startOk p19_fi p19_ai = true := by decide +kernel
theorem p19_yh : Yf 49 = Y_H_holds := rfl
theorem p19_ym : Yf 329 = Y_M_holds := rfl
theorem P_19 {E : xV} : LC_19 E σ00 (fun _ => True) := by
  intro x0 x1 x2 h2
  have a1 := inD_one (a := -2147483648) (b := 2147483647) (in32 x0)
  rcases (by omega : ((-2147483648) ≤ x0.toInt ∧ x0.toInt ≤ (-1)) ∨ (0 ≤ x0.toInt ∧ x0.toInt ≤ 0) ∨ (1 ≤ x0.toInt ∧ x0.toInt ≤ 1) ∨ (2 ≤ x0.toInt ∧ x0.toInt ≤ 2) ∨ (3 ≤ x0.toInt ∧ x0.toInt ≤ 3) ∨ (4 ≤ x0.toInt ∧ x0.toInt ≤ 4) ∨ (5 ≤ x0.toInt ∧ x0.toInt ≤ 5) ∨ (6 ≤ x0.toInt ∧ x0.toInt ≤ 2147483647)) with hp | hp | hp | hp | hp | hp | hp | hp
  · have ho : Ok (Jd (mkG p19_fi p19_ai)) p19_s_0 [x0.toInt, x1.toInt, x2.toInt] σ00 := ok_start p19_st p19_me_0 rfl (fun e he => by
      rcases List.mem_cons.mp he with rfl | he
      · exact ⟨_, rfl, inp hp⟩
      rcases List.mem_cons.mp he with rfl | he
      · exact ⟨_, rfl, in32 x1⟩
      rcases List.mem_cons.mp he with rfl | he
      · exact ⟨_, rfl, in01 h2⟩
      cases he)
    have h := pairI (E := E) (Y := Yf) (G := p19_x) (G_ok _ _ _) Jd_ok (all_ok (G_ok _ _ _) Jd_ok (fun r c h => (BT.all_P p19_rt).at h)) rfl rfl p19_ok_0 ho (av1 := [.ref 0, .int x0, .int x1, .int x2]) (av2 := [.ref 110, .int x0, .int x1, .int x2]) (⟨rfl, ⟨x0, rfl, evi rfl⟩, ⟨x1, rfl, evi rfl⟩, ⟨x2, rfl, evi rfl⟩, trivial⟩) (⟨rfl, ⟨x0, rfl, evi rfl⟩, ⟨x1, rfl, evi rfl⟩, ⟨x2, rfl, evi rfl⟩, trivial⟩)
    rw [p19_yh, p19_ym] at h
    exact h
  · have ho : Ok (Jd (mkG p19_fi p19_ai)) p19_s_1 [x0.toInt, x1.toInt, x2.toInt] σ00 := ok_start p19_st p19_me_1 rfl (fun e he => by
      rcases List.mem_cons.mp he with rfl | he
      · exact ⟨_, rfl, inp hp⟩
      rcases List.mem_cons.mp he with rfl | he
      · exact ⟨_, rfl, in32 x1⟩
      rcases List.mem_cons.mp he with rfl | he
      · exact ⟨_, rfl, in01 h2⟩
      cases he)
    have h := pairI (E := E) (Y := Yf) (G := p19_x) (G_ok _ _ _) Jd_ok (all_ok (G_ok _ _ _) Jd_ok (fun r c h => (BT.all_P p19_rt).at h)) rfl rfl p19_ok_1 ho (av1 := [.ref 0, .int x0, .int x1, .int x2]) (av2 := [.ref 110, .int x0, .int x1, .int x2]) (⟨rfl, ⟨x0, rfl, evi rfl⟩, ⟨x1, rfl, evi rfl⟩, ⟨x2, rfl, evi rfl⟩, trivial⟩) (⟨rfl, ⟨x0, rfl, evi rfl⟩, ⟨x1, rfl, evi rfl⟩, ⟨x2, rfl, evi rfl⟩, trivial⟩)
    rw [p19_yh, p19_ym] at h
    exact h
  · have ho : Ok (Jd (mkG p19_fi p19_ai)) p19_s_2 [x0.toInt, x1.toInt, x2.toInt] σ00 := ok_start p19_st p19_me_2 rfl (fun e he => by
      rcases List.mem_cons.mp he with rfl | he
      · exact ⟨_, rfl, inp hp⟩
      rcases List.mem_cons.mp he with rfl | he
      · exact ⟨_, rfl, in32 x1⟩
      rcases List.mem_cons.mp he with rfl | he
      · exact ⟨_, rfl, in01 h2⟩
      cases he)
    have h := pairI (E := E) (Y := Yf) (G := p19_x) (G_ok _ _ _) Jd_ok (all_ok (G_ok _ _ _) Jd_ok (fun r c h => (BT.all_P p19_rt).at h)) rfl rfl p19_ok_2 ho (av1 := [.ref 0, .int x0, .int x1, .int x2]) (av2 := [.ref 110, .int x0, .int x1, .int x2]) (⟨rfl, ⟨x0, rfl, evi rfl⟩, ⟨x1, rfl, evi rfl⟩, ⟨x2, rfl, evi rfl⟩, trivial⟩) (⟨rfl, ⟨x0, rfl, evi rfl⟩, ⟨x1, rfl, evi rfl⟩, ⟨x2, rfl, evi rfl⟩, trivial⟩)
    rw [p19_yh, p19_ym] at h
    exact h
  · have ho : Ok (Jd (mkG p19_fi p19_ai)) p19_s_3 [x0.toInt, x1.toInt, x2.toInt] σ00 := ok_start p19_st p19_me_3 rfl (fun e he => by
      rcases List.mem_cons.mp he with rfl | he
      · exact ⟨_, rfl, inp hp⟩
      rcases List.mem_cons.mp he with rfl | he
      · exact ⟨_, rfl, in32 x1⟩
      rcases List.mem_cons.mp he with rfl | he
      · exact ⟨_, rfl, in01 h2⟩
      cases he)
    have h := pairI (E := E) (Y := Yf) (G := p19_x) (G_ok _ _ _) Jd_ok (all_ok (G_ok _ _ _) Jd_ok (fun r c h => (BT.all_P p19_rt).at h)) rfl rfl p19_ok_3 ho (av1 := [.ref 0, .int x0, .int x1, .int x2]) (av2 := [.ref 110, .int x0, .int x1, .int x2]) (⟨rfl, ⟨x0, rfl, evi rfl⟩, ⟨x1, rfl, evi rfl⟩, ⟨x2, rfl, evi rfl⟩, trivial⟩) (⟨rfl, ⟨x0, rfl, evi rfl⟩, ⟨x1, rfl, evi rfl⟩, ⟨x2, rfl, evi rfl⟩, trivial⟩)
    rw [p19_yh, p19_ym] at h
    exact h
  · have ho : Ok (Jd (mkG p19_fi p19_ai)) p19_s_4 [x0.toInt, x1.toInt, x2.toInt] σ00 := ok_start p19_st p19_me_4 rfl (fun e he => by
      rcases List.mem_cons.mp he with rfl | he
      · exact ⟨_, rfl, inp hp⟩
      rcases List.mem_cons.mp he with rfl | he
      · exact ⟨_, rfl, in32 x1⟩
      rcases List.mem_cons.mp he with rfl | he
      · exact ⟨_, rfl, in01 h2⟩
      cases he)
    have h := pairI (E := E) (Y := Yf) (G := p19_x) (G_ok _ _ _) Jd_ok (all_ok (G_ok _ _ _) Jd_ok (fun r c h => (BT.all_P p19_rt).at h)) rfl rfl p19_ok_4 ho (av1 := [.ref 0, .int x0, .int x1, .int x2]) (av2 := [.ref 110, .int x0, .int x1, .int x2]) (⟨rfl, ⟨x0, rfl, evi rfl⟩, ⟨x1, rfl, evi rfl⟩, ⟨x2, rfl, evi rfl⟩, trivial⟩) (⟨rfl, ⟨x0, rfl, evi rfl⟩, ⟨x1, rfl, evi rfl⟩, ⟨x2, rfl, evi rfl⟩, trivial⟩)
    rw [p19_yh, p19_ym] at h
    exact h
  · have ho : Ok (Jd (mkG p19_fi p19_ai)) p19_s_5 [x0.toInt, x1.toInt, x2.toInt] σ00 := ok_start p19_st p19_me_5 rfl (fun e he => by
      rcases List.mem_cons.mp he with rfl | he
      · exact ⟨_, rfl, inp hp⟩
      rcases List.mem_cons.mp he with rfl | he
      · exact ⟨_, rfl, in32 x1⟩
      rcases List.mem_cons.mp he with rfl | he
      · exact ⟨_, rfl, in01 h2⟩
      cases he)
    have h := pairI (E := E) (Y := Yf) (G := p19_x) (G_ok _ _ _) Jd_ok (all_ok (G_ok _ _ _) Jd_ok (fun r c h => (BT.all_P p19_rt).at h)) rfl rfl p19_ok_5 ho (av1 := [.ref 0, .int x0, .int x1, .int x2]) (av2 := [.ref 110, .int x0, .int x1, .int x2]) (⟨rfl, ⟨x0, rfl, evi rfl⟩, ⟨x1, rfl, evi rfl⟩, ⟨x2, rfl, evi rfl⟩, trivial⟩) (⟨rfl, ⟨x0, rfl, evi rfl⟩, ⟨x1, rfl, evi rfl⟩, ⟨x2, rfl, evi rfl⟩, trivial⟩)
    rw [p19_yh, p19_ym] at h
    exact h
  · have ho : Ok (Jd (mkG p19_fi p19_ai)) p19_s_6 [x0.toInt, x1.toInt, x2.toInt] σ00 := ok_start p19_st p19_me_6 rfl (fun e he => by
      rcases List.mem_cons.mp he with rfl | he
      · exact ⟨_, rfl, inp hp⟩
      rcases List.mem_cons.mp he with rfl | he
      · exact ⟨_, rfl, in32 x1⟩
      rcases List.mem_cons.mp he with rfl | he
      · exact ⟨_, rfl, in01 h2⟩
      cases he)
    have h := pairI (E := E) (Y := Yf) (G := p19_x) (G_ok _ _ _) Jd_ok (all_ok (G_ok _ _ _) Jd_ok (fun r c h => (BT.all_P p19_rt).at h)) rfl rfl p19_ok_6 ho (av1 := [.ref 0, .int x0, .int x1, .int x2]) (av2 := [.ref 110, .int x0, .int x1, .int x2]) (⟨rfl, ⟨x0, rfl, evi rfl⟩, ⟨x1, rfl, evi rfl⟩, ⟨x2, rfl, evi rfl⟩, trivial⟩) (⟨rfl, ⟨x0, rfl, evi rfl⟩, ⟨x1, rfl, evi rfl⟩, ⟨x2, rfl, evi rfl⟩, trivial⟩)
    rw [p19_yh, p19_ym] at h
    exact h
  · have ho : Ok (Jd (mkG p19_fi p19_ai)) p19_s_7 [x0.toInt, x1.toInt, x2.toInt] σ00 := ok_start p19_st p19_me_7 rfl (fun e he => by
      rcases List.mem_cons.mp he with rfl | he
      · exact ⟨_, rfl, inp hp⟩
      rcases List.mem_cons.mp he with rfl | he
      · exact ⟨_, rfl, in32 x1⟩
      rcases List.mem_cons.mp he with rfl | he
      · exact ⟨_, rfl, in01 h2⟩
      cases he)
    have h := pairI (E := E) (Y := Yf) (G := p19_x) (G_ok _ _ _) Jd_ok (all_ok (G_ok _ _ _) Jd_ok (fun r c h => (BT.all_P p19_rt).at h)) rfl rfl p19_ok_7 ho (av1 := [.ref 0, .int x0, .int x1, .int x2]) (av2 := [.ref 110, .int x0, .int x1, .int x2]) (⟨rfl, ⟨x0, rfl, evi rfl⟩, ⟨x1, rfl, evi rfl⟩, ⟨x2, rfl, evi rfl⟩, trivial⟩) (⟨rfl, ⟨x0, rfl, evi rfl⟩, ⟨x1, rfl, evi rfl⟩, ⟨x2, rfl, evi rfl⟩, trivial⟩)
    rw [p19_yh, p19_ym] at h
    exact h
def p21_fi : BT Dom := [(17417, [(1, [(0, 0)]), (17408, [(0, 0)]), (17417, [(0, 0)])]), (17423, [(17421, [(0, 1)]), (17422, [(0, 0)]), (17423, [(0, 0)])]), (112666, [(17424, [(0, 0)]), (112641, [(0, 0)]), (112666, [(0, 1)])]), (112669, [(112667, [(0, 0)]), (112668, [(0, 0)]), (112669, [(0, 0)])]), (112698, [(112672, [(0, 0)]), (112686, [(0, 0)]), (112698, [((-1), 0)])])]
def p21_ai : BT Dom := [(23, [(1, [(0, 0)]), (23, [(0, 0)])]), (25, [(24, [(0, 0)]), (25, [(0, 0)])]), (126, [(125, [((-4), (-4)), (0, 0)]), (126, [((-4), (-4)), (0, 0)])]), (132, [(129, [(0, 1)]), (132, [((-1), 0)])])]
def p21_ct : BT Ct := []
def p21_c : Ct := ⟨[], 0, [], [], 0, [], [], [], [(68, [(53, 0), (66, 0), (67, 0), (68, 0)]), (93, [(69, 0), (70, 0), (92, 0), (93, 0)]), (338, [(272, 0), (319, 0), (333, 0), (338, 0)]), (362, [(340, 0), (357, 0), (358, 0), (362, 0)])], true, 0, []⟩
def p21_s : Sy := ⟨1, [(0, [((-2147483648), 2147483647)])], [(110, (.c 26, .c 0)), (110, (.c 58, .c 0)), (17, (.c 13, .c 0))], [(125, (40, .c 0)), (126, (40, .c 0)), (129, (36, .c 0)), (132, (240, .c 0))]⟩
def p21_x : Gx := mkX p21_fi p21_ai p21_ct
theorem p21_ok : chkPair p21_x false 100000 94 363 p21_c p21_c [.r 0, .i 0 0] [.r 110, .i 0 0] p21_s = true := by decide +kernel
theorem p21_rt : (p21_ct.all fun r c => chkRoot p21_x 100000 r c) = true := by decide +kernel
theorem p21_me : meOk p21_s = true := by decide +kernel
theorem p21_st : startOk p21_fi p21_ai = true := by decide +kernel
theorem p21_yh : Yf 94 = Y_H_policy := rfl
theorem p21_ym : Yf 363 = Y_M_policy := rfl
theorem P_21 {E : xV} : LC_21 E σ00 (fun _ => True) := by
  intro x0
  have ho : Ok (Jd (mkG p21_fi p21_ai)) p21_s [x0.toInt] σ00 := ok_start p21_st p21_me rfl (fun e he => by
    rcases List.mem_cons.mp he with rfl | he
    · exact ⟨_, rfl, in32 x0⟩
    cases he)
  have h := pairI (E := E) (Y := Yf) (G := p21_x) (G_ok _ _ _) Jd_ok (all_ok (G_ok _ _ _) Jd_ok (fun r c h => (BT.all_P p21_rt).at h)) rfl rfl p21_ok ho (av1 := [.ref 0, .int x0]) (av2 := [.ref 110, .int x0]) (⟨rfl, ⟨x0, rfl, evi rfl⟩, trivial⟩) (⟨rfl, ⟨x0, rfl, evi rfl⟩, trivial⟩)
  rw [p21_yh, p21_ym] at h
  exact h
def p22_fi : BT Dom := [(17408, [(17408, [(0, 0)])]), (112672, [(112672, [(0, 0)])])]
def p22_ai : BT Dom := []
def p22_ct : BT Ct := []
def p22_c : Ct := ⟨[], 0, [], [], 0, [], [], [], [(7, [(7, 0)]), (272, [(272, 0)]), (364, [(364, 0)])], true, 0, []⟩
def p22_s : Sy := ⟨1, [(0, [((-2147483648), 2147483647)])], [], []⟩
def p22_x : Gx := mkX p22_fi p22_ai p22_ct
theorem p22_ok : chkPair p22_x false 100000 95 365 p22_c p22_c [.r 0, .i 0 0] [.r 110, .i 0 0] p22_s = true := by decide +kernel
theorem p22_rt : (p22_ct.all fun r c => chkRoot p22_x 100000 r c) = true := by decide +kernel
theorem p22_me : meOk p22_s = true := by decide +kernel
theorem p22_st : startOk p22_fi p22_ai = true := by decide +kernel
theorem p22_yh : Yf 95 = Y_H_rules := rfl
theorem p22_ym : Yf 365 = Y_M_rules := rfl
theorem P_22 {E : xV} : LC_22 E σ00 (fun _ => True) := by
  intro x0
  have ho : Ok (Jd (mkG p22_fi p22_ai)) p22_s [x0.toInt] σ00 := ok_start p22_st p22_me rfl (fun e he => by
    rcases List.mem_cons.mp he with rfl | he
    · exact ⟨_, rfl, in32 x0⟩
    cases he)
  have h := pairI (E := E) (Y := Yf) (G := p22_x) (G_ok _ _ _) Jd_ok (all_ok (G_ok _ _ _) Jd_ok (fun r c h => (BT.all_P p22_rt).at h)) rfl rfl p22_ok ho (av1 := [.ref 0, .int x0]) (av2 := [.ref 110, .int x0]) (⟨rfl, ⟨x0, rfl, evi rfl⟩, trivial⟩) (⟨rfl, ⟨x0, rfl, evi rfl⟩, trivial⟩)
  rw [p22_yh, p22_ym] at h
  exact h
def p23_fi : BT Dom := [(17408, [(17408, [(0, 0)])]), (112672, [(112672, [(0, 0)])])]
def p23_ai : BT Dom := []
def p23_ct : BT Ct := []
def p23_c : Ct := ⟨[], 0, [], [], 0, [], [], [], [(7, [(7, 0)]), (272, [(272, 0)]), (364, [(364, 0)])], true, 0, []⟩
def p23_s : Sy := ⟨1, [(0, [((-2147483648), 2147483647)])], [], []⟩
def p23_x : Gx := mkX p23_fi p23_ai p23_ct
theorem p23_ok : chkPair p23_x false 100000 99 379 p23_c p23_c [.r 0, .i 0 0] [.r 110, .i 0 0] p23_s = true := by decide +kernel
theorem p23_rt : (p23_ct.all fun r c => chkRoot p23_x 100000 r c) = true := by decide +kernel
theorem p23_me : meOk p23_s = true := by decide +kernel
theorem p23_st : startOk p23_fi p23_ai = true := by decide +kernel
theorem p23_yh : Yf 99 = Y_H_inForce := rfl
theorem p23_ym : Yf 379 = Y_M_inForce := rfl
theorem P_23 {E : xV} : LC_23 E σ00 (fun _ => True) := by
  intro x0
  have ho : Ok (Jd (mkG p23_fi p23_ai)) p23_s [x0.toInt] σ00 := ok_start p23_st p23_me rfl (fun e he => by
    rcases List.mem_cons.mp he with rfl | he
    · exact ⟨_, rfl, in32 x0⟩
    cases he)
  have h := pairI (E := E) (Y := Yf) (G := p23_x) (G_ok _ _ _) Jd_ok (all_ok (G_ok _ _ _) Jd_ok (fun r c h => (BT.all_P p23_rt).at h)) rfl rfl p23_ok ho (av1 := [.ref 0, .int x0]) (av2 := [.ref 110, .int x0]) (⟨rfl, ⟨x0, rfl, evi rfl⟩, trivial⟩) (⟨rfl, ⟨x0, rfl, evi rfl⟩, trivial⟩)
  rw [p23_yh, p23_ym] at h
  exact h
def p24_fi : BT Dom := [(5120, [(5120, [(0, 0)])]), (112646, [(112646, [(0, 0)])])]
def p24_ai : BT Dom := []
def p24_ct : BT Ct := []
def p24_c : Ct := ⟨[], 0, [], [], 0, [], [], [], [(101, [(10, 0), (101, 0)]), (302, [(272, 0), (302, 0)])], true, 0, []⟩
def p24_s : Sy := ⟨3, [(0, [((-2147483648), 2147483647)]), (1, [((-2147483648), 2147483647)]), (2, [((-2147483648), 2147483647)])], [], []⟩
def p24_x : Gx := mkX p24_fi p24_ai p24_ct
theorem p24_ok : chkPair p24_x false 100000 132 380 p24_c p24_c [.r 0, .i 0 0, .i 1 0, .i 2 0] [.r 110, .i 0 0, .i 1 0, .i 2 0] p24_s = true := by decide +kernel
theorem p24_rt : (p24_ct.all fun r c => chkRoot p24_x 100000 r c) = true := by decide +kernel
theorem p24_me : meOk p24_s = true := by decide +kernel
theorem p24_st : startOk p24_fi p24_ai = true := by decide +kernel
theorem p24_yh : Yf 132 = Y_H_ask := rfl
theorem p24_ym : Yf 380 = Y_M_ask := rfl
theorem P_24 {E : xV} : LC_24 E σ00 (fun _ => True) := by
  intro x0 x1 x2
  have ho : Ok (Jd (mkG p24_fi p24_ai)) p24_s [x0.toInt, x1.toInt, x2.toInt] σ00 := ok_start p24_st p24_me rfl (fun e he => by
    rcases List.mem_cons.mp he with rfl | he
    · exact ⟨_, rfl, in32 x0⟩
    rcases List.mem_cons.mp he with rfl | he
    · exact ⟨_, rfl, in32 x1⟩
    rcases List.mem_cons.mp he with rfl | he
    · exact ⟨_, rfl, in32 x2⟩
    cases he)
  have h := pairI (E := E) (Y := Yf) (G := p24_x) (G_ok _ _ _) Jd_ok (all_ok (G_ok _ _ _) Jd_ok (fun r c h => (BT.all_P p24_rt).at h)) rfl rfl p24_ok ho (av1 := [.ref 0, .int x0, .int x1, .int x2]) (av2 := [.ref 110, .int x0, .int x1, .int x2]) (⟨rfl, ⟨x0, rfl, evi rfl⟩, ⟨x1, rfl, evi rfl⟩, ⟨x2, rfl, evi rfl⟩, trivial⟩) (⟨rfl, ⟨x0, rfl, evi rfl⟩, ⟨x1, rfl, evi rfl⟩, ⟨x2, rfl, evi rfl⟩, trivial⟩)
  rw [p24_yh, p24_ym] at h
  exact h
def p25_fi : BT Dom := [(17408, [(17408, [(0, 0)])]), (112672, [(112672, [(0, 0)])])]
def p25_ai : BT Dom := []
def p25_ct : BT Ct := []
def p25_c : Ct := ⟨[], 0, [], [], 0, [], [], [], [(7, [(7, 0)]), (272, [(272, 0)]), (364, [(364, 0)])], true, 0, []⟩
def p25_s : Sy := ⟨5, [(0, [((-2147483648), 2147483647)]), (1, [((-2147483648), 2147483647)]), (2, [((-2147483648), 2147483647)]), (3, [((-2147483648), 2147483647)]), (4, [((-2147483648), 2147483647)])], [], []⟩
def p25_x : Gx := mkX p25_fi p25_ai p25_ct
theorem p25_ok : chkPair p25_x false 100000 133 381 p25_c p25_c [.r 0, .i 0 0, .i 1 0, .i 2 0, .i 3 0, .i 4 0] [.r 110, .i 0 0, .i 1 0, .i 2 0, .i 3 0, .i 4 0] p25_s = true := by decide +kernel
theorem p25_rt : (p25_ct.all fun r c => chkRoot p25_x 100000 r c) = true := by decide +kernel
theorem p25_me : meOk p25_s = true := by decide +kernel
theorem p25_st : startOk p25_fi p25_ai = true := by decide +kernel
theorem p25_yh : Yf 133 = Y_H_asked := rfl
theorem p25_ym : Yf 381 = Y_M_asked := rfl
theorem P_25 {E : xV} : LC_25 E σ00 (fun _ => True) := by
  intro x0 x1 x2 x3 x4
  have ho : Ok (Jd (mkG p25_fi p25_ai)) p25_s [x0.toInt, x1.toInt, x2.toInt, x3.toInt, x4.toInt] σ00 := ok_start p25_st p25_me rfl (fun e he => by
    rcases List.mem_cons.mp he with rfl | he
    · exact ⟨_, rfl, in32 x0⟩
    rcases List.mem_cons.mp he with rfl | he
    · exact ⟨_, rfl, in32 x1⟩
    rcases List.mem_cons.mp he with rfl | he
    · exact ⟨_, rfl, in32 x2⟩
    rcases List.mem_cons.mp he with rfl | he
    · exact ⟨_, rfl, in32 x3⟩
    rcases List.mem_cons.mp he with rfl | he
    · exact ⟨_, rfl, in32 x4⟩
    cases he)
  have h := pairI (E := E) (Y := Yf) (G := p25_x) (G_ok _ _ _) Jd_ok (all_ok (G_ok _ _ _) Jd_ok (fun r c h => (BT.all_P p25_rt).at h)) rfl rfl p25_ok ho (av1 := [.ref 0, .int x0, .int x1, .int x2, .int x3, .int x4]) (av2 := [.ref 110, .int x0, .int x1, .int x2, .int x3, .int x4]) (⟨rfl, ⟨x0, rfl, evi rfl⟩, ⟨x1, rfl, evi rfl⟩, ⟨x2, rfl, evi rfl⟩, ⟨x3, rfl, evi rfl⟩, ⟨x4, rfl, evi rfl⟩, trivial⟩) (⟨rfl, ⟨x0, rfl, evi rfl⟩, ⟨x1, rfl, evi rfl⟩, ⟨x2, rfl, evi rfl⟩, ⟨x3, rfl, evi rfl⟩, ⟨x4, rfl, evi rfl⟩, trivial⟩)
  rw [p25_yh, p25_ym] at h
  exact h
def p26_fi : BT Dom := [(27664, [(27664, [(0, 0)])]), (112709, [(112709, [(0, 0)])])]
def p26_ai : BT Dom := []
def p26_ct : BT Ct := []
def p26_c : Ct := ⟨[], 0, [], [], 0, [], [], [], [(7, [(7, 0)]), (272, [(272, 0)])], true, 0, []⟩
def p26_s : Sy := ⟨1, [(0, [((-2147483648), 2147483647)])], [], []⟩
def p26_x : Gx := mkX p26_fi p26_ai p26_ct
theorem p26_ok : chkPair p26_x false 100000 134 382 p26_c p26_c [.r 0, .i 0 0] [.r 110, .i 0 0] p26_s = true := by decide +kernel
theorem p26_rt : (p26_ct.all fun r c => chkRoot p26_x 100000 r c) = true := by decide +kernel
theorem p26_me : meOk p26_s = true := by decide +kernel
theorem p26_st : startOk p26_fi p26_ai = true := by decide +kernel
theorem p26_yh : Yf 134 = Y_H_made := rfl
theorem p26_ym : Yf 382 = Y_M_made := rfl
theorem P_26 {E : xV} : LC_26 E σ00 (fun _ => True) := by
  intro x0
  have ho : Ok (Jd (mkG p26_fi p26_ai)) p26_s [x0.toInt] σ00 := ok_start p26_st p26_me rfl (fun e he => by
    rcases List.mem_cons.mp he with rfl | he
    · exact ⟨_, rfl, in32 x0⟩
    cases he)
  have h := pairI (E := E) (Y := Yf) (G := p26_x) (G_ok _ _ _) Jd_ok (all_ok (G_ok _ _ _) Jd_ok (fun r c h => (BT.all_P p26_rt).at h)) rfl rfl p26_ok ho (av1 := [.ref 0, .int x0]) (av2 := [.ref 110, .int x0]) (⟨rfl, ⟨x0, rfl, evi rfl⟩, trivial⟩) (⟨rfl, ⟨x0, rfl, evi rfl⟩, trivial⟩)
  rw [p26_yh, p26_ym] at h
  exact h
def p27_fi : BT Dom := [(17408, [(17408, [(0, 0)])]), (112672, [(112672, [(0, 0)])])]
def p27_ai : BT Dom := []
def p27_ct : BT Ct := []
def p27_c : Ct := ⟨[], 0, [], [], 0, [], [], [], [(7, [(7, 0)]), (272, [(272, 0)]), (364, [(364, 0)])], true, 0, []⟩
def p27_s : Sy := ⟨4, [(0, [((-2147483648), 2147483647)]), (1, [((-2147483648), 2147483647)]), (2, [((-2147483648), 2147483647)]), (3, [((-2147483648), 2147483647)])], [], []⟩
def p27_x : Gx := mkX p27_fi p27_ai p27_ct
theorem p27_ok : chkPair p27_x false 100000 136 383 p27_c p27_c [.r 0, .i 0 0, .i 1 0, .i 2 0, .i 3 0] [.r 110, .i 0 0, .i 1 0, .i 2 0, .i 3 0] p27_s = true := by decide +kernel
theorem p27_rt : (p27_ct.all fun r c => chkRoot p27_x 100000 r c) = true := by decide +kernel
theorem p27_me : meOk p27_s = true := by decide +kernel
theorem p27_st : startOk p27_fi p27_ai = true := by decide +kernel
theorem p27_yh : Yf 136 = Y_H_may := rfl
theorem p27_ym : Yf 383 = Y_M_may := rfl
theorem P_27 {E : xV} : LC_27 E σ00 (fun _ => True) := by
  intro x0 x1 x2 x3
  have ho : Ok (Jd (mkG p27_fi p27_ai)) p27_s [x0.toInt, x1.toInt, x2.toInt, x3.toInt] σ00 := ok_start p27_st p27_me rfl (fun e he => by
    rcases List.mem_cons.mp he with rfl | he
    · exact ⟨_, rfl, in32 x0⟩
    rcases List.mem_cons.mp he with rfl | he
    · exact ⟨_, rfl, in32 x1⟩
    rcases List.mem_cons.mp he with rfl | he
    · exact ⟨_, rfl, in32 x2⟩
    rcases List.mem_cons.mp he with rfl | he
    · exact ⟨_, rfl, in32 x3⟩
    cases he)
  have h := pairI (E := E) (Y := Yf) (G := p27_x) (G_ok _ _ _) Jd_ok (all_ok (G_ok _ _ _) Jd_ok (fun r c h => (BT.all_P p27_rt).at h)) rfl rfl p27_ok ho (av1 := [.ref 0, .int x0, .int x1, .int x2, .int x3]) (av2 := [.ref 110, .int x0, .int x1, .int x2, .int x3]) (⟨rfl, ⟨x0, rfl, evi rfl⟩, ⟨x1, rfl, evi rfl⟩, ⟨x2, rfl, evi rfl⟩, ⟨x3, rfl, evi rfl⟩, trivial⟩) (⟨rfl, ⟨x0, rfl, evi rfl⟩, ⟨x1, rfl, evi rfl⟩, ⟨x2, rfl, evi rfl⟩, ⟨x3, rfl, evi rfl⟩, trivial⟩)
  rw [p27_yh, p27_ym] at h
  exact h
def p28_fi : BT Dom := [(17408, [(17408, [(0, 0)])]), (112672, [(112672, [(0, 0)])])]
def p28_ai : BT Dom := []
def p28_ct : BT Ct := []
def p28_c : Ct := ⟨[], 0, [], [], 0, [], [], [], [(7, [(7, 0)]), (272, [(272, 0)]), (364, [(364, 0)])], true, 0, []⟩
def p28_s : Sy := ⟨4, [(0, [((-2147483648), 2147483647)]), (1, [((-2147483648), 2147483647)]), (2, [((-2147483648), 2147483647)]), (3, [((-2147483648), 2147483647)])], [], []⟩
def p28_x : Gx := mkX p28_fi p28_ai p28_ct
theorem p28_ok : chkPair p28_x false 100000 138 385 p28_c p28_c [.r 0, .i 0 0, .i 1 0, .i 2 0, .i 3 0] [.r 110, .i 0 0, .i 1 0, .i 2 0, .i 3 0] p28_s = true := by decide +kernel
theorem p28_rt : (p28_ct.all fun r c => chkRoot p28_x 100000 r c) = true := by decide +kernel
theorem p28_me : meOk p28_s = true := by decide +kernel
theorem p28_st : startOk p28_fi p28_ai = true := by decide +kernel
theorem p28_yh : Yf 138 = Y_H_who := rfl
theorem p28_ym : Yf 385 = Y_M_who := rfl
theorem P_28 {E : xV} : LC_28 E σ00 (fun _ => True) := by
  intro x0 x1 x2 x3
  have ho : Ok (Jd (mkG p28_fi p28_ai)) p28_s [x0.toInt, x1.toInt, x2.toInt, x3.toInt] σ00 := ok_start p28_st p28_me rfl (fun e he => by
    rcases List.mem_cons.mp he with rfl | he
    · exact ⟨_, rfl, in32 x0⟩
    rcases List.mem_cons.mp he with rfl | he
    · exact ⟨_, rfl, in32 x1⟩
    rcases List.mem_cons.mp he with rfl | he
    · exact ⟨_, rfl, in32 x2⟩
    rcases List.mem_cons.mp he with rfl | he
    · exact ⟨_, rfl, in32 x3⟩
    cases he)
  have h := pairI (E := E) (Y := Yf) (G := p28_x) (G_ok _ _ _) Jd_ok (all_ok (G_ok _ _ _) Jd_ok (fun r c h => (BT.all_P p28_rt).at h)) rfl rfl p28_ok ho (av1 := [.ref 0, .int x0, .int x1, .int x2, .int x3]) (av2 := [.ref 110, .int x0, .int x1, .int x2, .int x3]) (⟨rfl, ⟨x0, rfl, evi rfl⟩, ⟨x1, rfl, evi rfl⟩, ⟨x2, rfl, evi rfl⟩, ⟨x3, rfl, evi rfl⟩, trivial⟩) (⟨rfl, ⟨x0, rfl, evi rfl⟩, ⟨x1, rfl, evi rfl⟩, ⟨x2, rfl, evi rfl⟩, ⟨x3, rfl, evi rfl⟩, trivial⟩)
  rw [p28_yh, p28_ym] at h
  exact h
def p29_fi : BT Dom := [(17408, [(17408, [(0, 0)])]), (112672, [(112672, [(0, 0)])])]
def p29_ai : BT Dom := []
def p29_ct : BT Ct := []
def p29_c : Ct := ⟨[], 0, [], [], 0, [], [], [], [(7, [(7, 0)]), (272, [(272, 0)]), (364, [(364, 0)])], true, 0, []⟩
def p29_s : Sy := ⟨2, [(0, [((-2147483648), 2147483647)]), (1, [((-2147483648), 2147483647)])], [], []⟩
def p29_x : Gx := mkX p29_fi p29_ai p29_ct
theorem p29_ok : chkPair p29_x false 100000 141 387 p29_c p29_c [.r 0, .i 0 0, .i 1 0] [.r 110, .i 0 0, .i 1 0] p29_s = true := by decide +kernel
theorem p29_rt : (p29_ct.all fun r c => chkRoot p29_x 100000 r c) = true := by decide +kernel
theorem p29_me : meOk p29_s = true := by decide +kernel
theorem p29_st : startOk p29_fi p29_ai = true := by decide +kernel
theorem p29_yh : Yf 141 = Y_H_compare := rfl
theorem p29_ym : Yf 387 = Y_M_compare := rfl
theorem P_29 {E : xV} : LC_29 E σ00 (fun _ => True) := by
  intro x0 x1
  have ho : Ok (Jd (mkG p29_fi p29_ai)) p29_s [x0.toInt, x1.toInt] σ00 := ok_start p29_st p29_me rfl (fun e he => by
    rcases List.mem_cons.mp he with rfl | he
    · exact ⟨_, rfl, in32 x0⟩
    rcases List.mem_cons.mp he with rfl | he
    · exact ⟨_, rfl, in32 x1⟩
    cases he)
  have h := pairI (E := E) (Y := Yf) (G := p29_x) (G_ok _ _ _) Jd_ok (all_ok (G_ok _ _ _) Jd_ok (fun r c h => (BT.all_P p29_rt).at h)) rfl rfl p29_ok ho (av1 := [.ref 0, .int x0, .int x1]) (av2 := [.ref 110, .int x0, .int x1]) (⟨rfl, ⟨x0, rfl, evi rfl⟩, ⟨x1, rfl, evi rfl⟩, trivial⟩) (⟨rfl, ⟨x0, rfl, evi rfl⟩, ⟨x1, rfl, evi rfl⟩, trivial⟩)
  rw [p29_yh, p29_ym] at h
  exact h
def p30_fi : BT Dom := [(27666, [(27666, [(0, 0)])]), (112714, [(112714, [(0, 0)])])]
def p30_ai : BT Dom := []
def p30_ct : BT Ct := []
def p30_c : Ct := ⟨[], 0, [], [], 0, [], [], [], [(7, [(7, 0)]), (272, [(272, 0)])], true, 0, []⟩
def p30_s : Sy := ⟨1, [(0, [((-2147483648), 2147483647)])], [], []⟩
def p30_x : Gx := mkX p30_fi p30_ai p30_ct
theorem p30_ok : chkPair p30_x false 100000 142 388 p30_c p30_c [.r 0, .i 0 0] [.r 110, .i 0 0] p30_s = true := by decide +kernel
theorem p30_rt : (p30_ct.all fun r c => chkRoot p30_x 100000 r c) = true := by decide +kernel
theorem p30_me : meOk p30_s = true := by decide +kernel
theorem p30_st : startOk p30_fi p30_ai = true := by decide +kernel
theorem p30_yh : Yf 142 = Y_H_compared := rfl
theorem p30_ym : Yf 388 = Y_M_compared := rfl
theorem P_30 {E : xV} : LC_30 E σ00 (fun _ => True) := by
  intro x0
  have ho : Ok (Jd (mkG p30_fi p30_ai)) p30_s [x0.toInt] σ00 := ok_start p30_st p30_me rfl (fun e he => by
    rcases List.mem_cons.mp he with rfl | he
    · exact ⟨_, rfl, in32 x0⟩
    cases he)
  have h := pairI (E := E) (Y := Yf) (G := p30_x) (G_ok _ _ _) Jd_ok (all_ok (G_ok _ _ _) Jd_ok (fun r c h => (BT.all_P p30_rt).at h)) rfl rfl p30_ok ho (av1 := [.ref 0, .int x0]) (av2 := [.ref 110, .int x0]) (⟨rfl, ⟨x0, rfl, evi rfl⟩, trivial⟩) (⟨rfl, ⟨x0, rfl, evi rfl⟩, trivial⟩)
  rw [p30_yh, p30_ym] at h
  exact h
def p31_fi : BT Dom := [(17408, [(17408, [(0, 0)])]), (112672, [(112672, [(0, 0)])])]
def p31_ai : BT Dom := []
def p31_ct : BT Ct := []
def p31_c : Ct := ⟨[], 0, [], [], 0, [], [], [], [(7, [(7, 0)]), (272, [(272, 0)]), (364, [(364, 0)])], true, 0, []⟩
def p31_s : Sy := ⟨2, [(0, [((-2147483648), 2147483647)]), (1, [((-2147483648), 2147483647)])], [], []⟩
def p31_x : Gx := mkX p31_fi p31_ai p31_ct
theorem p31_ok : chkPair p31_x false 100000 144 389 p31_c p31_c [.r 0, .i 0 0, .i 1 0] [.r 110, .i 0 0, .i 1 0] p31_s = true := by decide +kernel
theorem p31_rt : (p31_ct.all fun r c => chkRoot p31_x 100000 r c) = true := by decide +kernel
theorem p31_me : meOk p31_s = true := by decide +kernel
theorem p31_st : startOk p31_fi p31_ai = true := by decide +kernel
theorem p31_yh : Yf 144 = Y_H_decides := rfl
theorem p31_ym : Yf 389 = Y_M_decides := rfl
theorem P_31 {E : xV} : LC_31 E σ00 (fun _ => True) := by
  intro x0 x1
  have ho : Ok (Jd (mkG p31_fi p31_ai)) p31_s [x0.toInt, x1.toInt] σ00 := ok_start p31_st p31_me rfl (fun e he => by
    rcases List.mem_cons.mp he with rfl | he
    · exact ⟨_, rfl, in32 x0⟩
    rcases List.mem_cons.mp he with rfl | he
    · exact ⟨_, rfl, in32 x1⟩
    cases he)
  have h := pairI (E := E) (Y := Yf) (G := p31_x) (G_ok _ _ _) Jd_ok (all_ok (G_ok _ _ _) Jd_ok (fun r c h => (BT.all_P p31_rt).at h)) rfl rfl p31_ok ho (av1 := [.ref 0, .int x0, .int x1]) (av2 := [.ref 110, .int x0, .int x1]) (⟨rfl, ⟨x0, rfl, evi rfl⟩, ⟨x1, rfl, evi rfl⟩, trivial⟩) (⟨rfl, ⟨x0, rfl, evi rfl⟩, ⟨x1, rfl, evi rfl⟩, trivial⟩)
  rw [p31_yh, p31_ym] at h
  exact h
def p32_fi : BT Dom := [(5121, [(5121, [(0, 0)])]), (112647, [(112647, [(0, 0)])])]
def p32_ai : BT Dom := []
def p32_ct : BT Ct := []
def p32_c : Ct := ⟨[], 0, [], [], 0, [], [], [], [(11, [(11, 0)]), (272, [(272, 0)]), (303, [(303, 0)])], true, 0, []⟩
def p32_s : Sy := ⟨3, [(0, [((-2147483648), 2147483647)]), (1, [((-2147483648), 2147483647)]), (2, [((-2147483648), 2147483647)])], [], []⟩
def p32_x : Gx := mkX p32_fi p32_ai p32_ct
theorem p32_ok : chkPair p32_x false 100000 146 390 p32_c p32_c [.r 0, .i 0 0, .i 1 0, .i 2 0] [.r 110, .i 0 0, .i 1 0, .i 2 0] p32_s = true := by decide +kernel
theorem p32_rt : (p32_ct.all fun r c => chkRoot p32_x 100000 r c) = true := by decide +kernel
theorem p32_me : meOk p32_s = true := by decide +kernel
theorem p32_st : startOk p32_fi p32_ai = true := by decide +kernel
theorem p32_yh : Yf 146 = Y_H_law := rfl
theorem p32_ym : Yf 390 = Y_M_law := rfl
theorem P_32 {E : xV} : LC_32 E σ00 (fun _ => True) := by
  intro x0 x1 x2
  have ho : Ok (Jd (mkG p32_fi p32_ai)) p32_s [x0.toInt, x1.toInt, x2.toInt] σ00 := ok_start p32_st p32_me rfl (fun e he => by
    rcases List.mem_cons.mp he with rfl | he
    · exact ⟨_, rfl, in32 x0⟩
    rcases List.mem_cons.mp he with rfl | he
    · exact ⟨_, rfl, in32 x1⟩
    rcases List.mem_cons.mp he with rfl | he
    · exact ⟨_, rfl, in32 x2⟩
    cases he)
  have h := pairI (E := E) (Y := Yf) (G := p32_x) (G_ok _ _ _) Jd_ok (all_ok (G_ok _ _ _) Jd_ok (fun r c h => (BT.all_P p32_rt).at h)) rfl rfl p32_ok ho (av1 := [.ref 0, .int x0, .int x1, .int x2]) (av2 := [.ref 110, .int x0, .int x1, .int x2]) (⟨rfl, ⟨x0, rfl, evi rfl⟩, ⟨x1, rfl, evi rfl⟩, ⟨x2, rfl, evi rfl⟩, trivial⟩) (⟨rfl, ⟨x0, rfl, evi rfl⟩, ⟨x1, rfl, evi rfl⟩, ⟨x2, rfl, evi rfl⟩, trivial⟩)
  rw [p32_yh, p32_ym] at h
  exact h
def p33_fi : BT Dom := [(5120, [(5120, [(0, 0)])]), (112646, [(112646, [(0, 0)])])]
def p33_ai : BT Dom := []
def p33_ct : BT Ct := []
def p33_c : Ct := ⟨[], 0, [], [], 0, [], [], [], [(10, [(10, 0)]), (272, [(272, 0)]), (302, [(302, 0)])], true, 0, []⟩
def p33_s : Sy := ⟨4, [(0, [((-2147483648), 2147483647)]), (1, [((-2147483648), 2147483647)]), (2, [((-2147483648), 2147483647)]), (3, [((-2147483648), 2147483647)])], [], []⟩
def p33_x : Gx := mkX p33_fi p33_ai p33_ct
theorem p33_ok : chkPair p33_x false 100000 152 393 p33_c p33_c [.r 0, .i 0 0, .i 1 0, .i 2 0, .i 3 0] [.r 110, .i 0 0, .i 1 0, .i 2 0, .i 3 0] p33_s = true := by decide +kernel
theorem p33_rt : (p33_ct.all fun r c => chkRoot p33_x 100000 r c) = true := by decide +kernel
theorem p33_me : meOk p33_s = true := by decide +kernel
theorem p33_st : startOk p33_fi p33_ai = true := by decide +kernel
theorem p33_yh : Yf 152 = Y_H_give := rfl
theorem p33_ym : Yf 393 = Y_M_give := rfl
theorem P_33 {E : xV} : LC_33 E σ00 (fun _ => True) := by
  intro x0 x1 x2 x3
  have ho : Ok (Jd (mkG p33_fi p33_ai)) p33_s [x0.toInt, x1.toInt, x2.toInt, x3.toInt] σ00 := ok_start p33_st p33_me rfl (fun e he => by
    rcases List.mem_cons.mp he with rfl | he
    · exact ⟨_, rfl, in32 x0⟩
    rcases List.mem_cons.mp he with rfl | he
    · exact ⟨_, rfl, in32 x1⟩
    rcases List.mem_cons.mp he with rfl | he
    · exact ⟨_, rfl, in32 x2⟩
    rcases List.mem_cons.mp he with rfl | he
    · exact ⟨_, rfl, in32 x3⟩
    cases he)
  have h := pairI (E := E) (Y := Yf) (G := p33_x) (G_ok _ _ _) Jd_ok (all_ok (G_ok _ _ _) Jd_ok (fun r c h => (BT.all_P p33_rt).at h)) rfl rfl p33_ok ho (av1 := [.ref 0, .int x0, .int x1, .int x2, .int x3]) (av2 := [.ref 110, .int x0, .int x1, .int x2, .int x3]) (⟨rfl, ⟨x0, rfl, evi rfl⟩, ⟨x1, rfl, evi rfl⟩, ⟨x2, rfl, evi rfl⟩, ⟨x3, rfl, evi rfl⟩, trivial⟩) (⟨rfl, ⟨x0, rfl, evi rfl⟩, ⟨x1, rfl, evi rfl⟩, ⟨x2, rfl, evi rfl⟩, ⟨x3, rfl, evi rfl⟩, trivial⟩)
  rw [p33_yh, p33_ym] at h
  exact h
def p34_fi : BT Dom := [(5120, [(5120, [(0, 0)])]), (112646, [(112646, [(0, 0)])])]
def p34_ai : BT Dom := []
def p34_ct : BT Ct := []
def p34_c : Ct := ⟨[], 0, [], [], 0, [], [], [], [(10, [(10, 0)]), (272, [(272, 0)]), (302, [(302, 0)])], true, 0, []⟩
def p34_s : Sy := ⟨3, [(0, [((-2147483648), 2147483647)]), (1, [((-2147483648), 2147483647)]), (2, [((-2147483648), 2147483647)])], [], []⟩
def p34_x : Gx := mkX p34_fi p34_ai p34_ct
theorem p34_ok : chkPair p34_x false 100000 154 394 p34_c p34_c [.r 0, .i 0 0, .i 1 0, .i 2 0] [.r 110, .i 0 0, .i 1 0, .i 2 0] p34_s = true := by decide +kernel
theorem p34_rt : (p34_ct.all fun r c => chkRoot p34_x 100000 r c) = true := by decide +kernel
theorem p34_me : meOk p34_s = true := by decide +kernel
theorem p34_st : startOk p34_fi p34_ai = true := by decide +kernel
theorem p34_yh : Yf 154 = Y_H_take := rfl
theorem p34_ym : Yf 394 = Y_M_take := rfl
theorem P_34 {E : xV} : LC_34 E σ00 (fun _ => True) := by
  intro x0 x1 x2
  have ho : Ok (Jd (mkG p34_fi p34_ai)) p34_s [x0.toInt, x1.toInt, x2.toInt] σ00 := ok_start p34_st p34_me rfl (fun e he => by
    rcases List.mem_cons.mp he with rfl | he
    · exact ⟨_, rfl, in32 x0⟩
    rcases List.mem_cons.mp he with rfl | he
    · exact ⟨_, rfl, in32 x1⟩
    rcases List.mem_cons.mp he with rfl | he
    · exact ⟨_, rfl, in32 x2⟩
    cases he)
  have h := pairI (E := E) (Y := Yf) (G := p34_x) (G_ok _ _ _) Jd_ok (all_ok (G_ok _ _ _) Jd_ok (fun r c h => (BT.all_P p34_rt).at h)) rfl rfl p34_ok ho (av1 := [.ref 0, .int x0, .int x1, .int x2]) (av2 := [.ref 110, .int x0, .int x1, .int x2]) (⟨rfl, ⟨x0, rfl, evi rfl⟩, ⟨x1, rfl, evi rfl⟩, ⟨x2, rfl, evi rfl⟩, trivial⟩) (⟨rfl, ⟨x0, rfl, evi rfl⟩, ⟨x1, rfl, evi rfl⟩, ⟨x2, rfl, evi rfl⟩, trivial⟩)
  rw [p34_yh, p34_ym] at h
  exact h
def p35_fi : BT Dom := [(34821, [(34821, [((-4), (-4))])]), (112721, [(112721, [((-4), (-4))])])]
def p35_ai : BT Dom := []
def p35_ct : BT Ct := []
def p35_c : Ct := ⟨[], 0, [], [], 0, [], [], [], [], true, 0, []⟩
def p35_s : Sy := ⟨0, [], [], []⟩
def p35_x : Gx := mkX p35_fi p35_ai p35_ct
theorem p35_ok : chkPair p35_x false 100000 155 395 p35_c p35_c [.r 0] [.r 110] p35_s = true := by decide +kernel
theorem p35_rt : (p35_ct.all fun r c => chkRoot p35_x 100000 r c) = true := by decide +kernel
theorem p35_me : meOk p35_s = true := by decide +kernel
theorem p35_st : startOk p35_fi p35_ai = true := by decide +kernel
theorem p35_yh : Yf 155 = Y_H_broken := rfl
theorem p35_ym : Yf 395 = Y_M_broken := rfl
theorem P_35 {E : xV} : LC_35 E σ00 (fun _ => True) := by
  have ho : Ok (Jd (mkG p35_fi p35_ai)) p35_s [] σ00 := ok_start p35_st p35_me rfl (fun e he => by cases he)
  have h := pairI (E := E) (Y := Yf) (G := p35_x) (G_ok _ _ _) Jd_ok (all_ok (G_ok _ _ _) Jd_ok (fun r c h => (BT.all_P p35_rt).at h)) rfl rfl p35_ok ho (av1 := [.ref 0]) (av2 := [.ref 110]) (⟨rfl, trivial⟩) (⟨rfl, trivial⟩)
  rw [p35_yh, p35_ym] at h
  exact h
def p36_fi : BT Dom := [(5120, [(2, [(0, 0)]), (5120, [(0, 0)])]), (112717, [(34817, [(0, 0)]), (112717, [(0, 0)])])]
def p36_ai : BT Dom := []
def p36_ct : BT Ct := []
def p36_c : Ct := ⟨[], 0, [], [], 0, [], [], [], [(150, [(150, 0)]), (272, [(272, 0)])], true, 0, []⟩
def p36_s : Sy := ⟨1, [(0, [((-2147483648), 2147483647)])], [], []⟩
def p36_x : Gx := mkX p36_fi p36_ai p36_ct
theorem p36_ok : chkPair p36_x false 100000 156 396 p36_c p36_c [.r 0, .i 0 0] [.r 110, .i 0 0] p36_s = true := by decide +kernel
theorem p36_rt : (p36_ct.all fun r c => chkRoot p36_x 100000 r c) = true := by decide +kernel
theorem p36_me : meOk p36_s = true := by decide +kernel
theorem p36_st : startOk p36_fi p36_ai = true := by decide +kernel
theorem p36_yh : Yf 156 = Y_H_breach := rfl
theorem p36_ym : Yf 396 = Y_M_breach := rfl
theorem P_36 {E : xV} : LC_36 E σ00 (fun _ => True) := by
  intro x0
  have ho : Ok (Jd (mkG p36_fi p36_ai)) p36_s [x0.toInt] σ00 := ok_start p36_st p36_me rfl (fun e he => by
    rcases List.mem_cons.mp he with rfl | he
    · exact ⟨_, rfl, in32 x0⟩
    cases he)
  have h := pairI (E := E) (Y := Yf) (G := p36_x) (G_ok _ _ _) Jd_ok (all_ok (G_ok _ _ _) Jd_ok (fun r c h => (BT.all_P p36_rt).at h)) rfl rfl p36_ok ho (av1 := [.ref 0, .int x0]) (av2 := [.ref 110, .int x0]) (⟨rfl, ⟨x0, rfl, evi rfl⟩, trivial⟩) (⟨rfl, ⟨x0, rfl, evi rfl⟩, trivial⟩)
  rw [p36_yh, p36_ym] at h
  exact h
def p37_fi : BT Dom := [(5120, [(5120, [(0, 0)])]), (112646, [(112646, [(0, 0)])])]
def p37_ai : BT Dom := []
def p37_ct : BT Ct := []
def p37_c : Ct := ⟨[], 0, [], [], 0, [], [], [], [(10, [(10, 0)]), (272, [(272, 0)]), (302, [(302, 0)])], true, 0, []⟩
def p37_s : Sy := ⟨1, [(0, [((-2147483648), 2147483647)])], [], []⟩
def p37_x : Gx := mkX p37_fi p37_ai p37_ct
theorem p37_ok : chkPair p37_x false 100000 158 397 p37_c p37_c [.r 0, .i 0 0] [.r 110, .i 0 0] p37_s = true := by decide +kernel
theorem p37_rt : (p37_ct.all fun r c => chkRoot p37_x 100000 r c) = true := by decide +kernel
theorem p37_me : meOk p37_s = true := by decide +kernel
theorem p37_st : startOk p37_fi p37_ai = true := by decide +kernel
theorem p37_yh : Yf 158 = Y_H_session := rfl
theorem p37_ym : Yf 397 = Y_M_session := rfl
theorem P_37 {E : xV} : LC_37 E σ00 (fun _ => True) := by
  intro x0
  have ho : Ok (Jd (mkG p37_fi p37_ai)) p37_s [x0.toInt] σ00 := ok_start p37_st p37_me rfl (fun e he => by
    rcases List.mem_cons.mp he with rfl | he
    · exact ⟨_, rfl, in32 x0⟩
    cases he)
  have h := pairI (E := E) (Y := Yf) (G := p37_x) (G_ok _ _ _) Jd_ok (all_ok (G_ok _ _ _) Jd_ok (fun r c h => (BT.all_P p37_rt).at h)) rfl rfl p37_ok ho (av1 := [.ref 0, .int x0]) (av2 := [.ref 110, .int x0]) (⟨rfl, ⟨x0, rfl, evi rfl⟩, trivial⟩) (⟨rfl, ⟨x0, rfl, evi rfl⟩, trivial⟩)
  rw [p37_yh, p37_ym] at h
  exact h
def p38_fi : BT Dom := [(34822, [(34822, [(0, 0)])]), (112722, [(112722, [(0, 0)])])]
def p38_ai : BT Dom := []
def p38_ct : BT Ct := []
def p38_c : Ct := ⟨[], 0, [], [], 0, [], [], [], [(7, [(7, 0)]), (272, [(272, 0)])], true, 0, []⟩
def p38_s : Sy := ⟨2, [(0, [((-2147483648), 2147483647)]), (1, [((-2147483648), 2147483647)])], [], []⟩
def p38_x : Gx := mkX p38_fi p38_ai p38_ct
theorem p38_ok : chkPair p38_x false 100000 160 398 p38_c p38_c [.r 0, .i 0 0, .i 1 0] [.r 110, .i 0 0, .i 1 0] p38_s = true := by decide +kernel
theorem p38_rt : (p38_ct.all fun r c => chkRoot p38_x 100000 r c) = true := by decide +kernel
theorem p38_me : meOk p38_s = true := by decide +kernel
theorem p38_st : startOk p38_fi p38_ai = true := by decide +kernel
theorem p38_yh : Yf 160 = Y_H_switchOn := rfl
theorem p38_ym : Yf 398 = Y_M_switchOn := rfl
theorem P_38 {E : xV} : LC_38 E σ00 (fun _ => True) := by
  intro x0 x1
  have ho : Ok (Jd (mkG p38_fi p38_ai)) p38_s [x0.toInt, x1.toInt] σ00 := ok_start p38_st p38_me rfl (fun e he => by
    rcases List.mem_cons.mp he with rfl | he
    · exact ⟨_, rfl, in32 x0⟩
    rcases List.mem_cons.mp he with rfl | he
    · exact ⟨_, rfl, in32 x1⟩
    cases he)
  have h := pairI (E := E) (Y := Yf) (G := p38_x) (G_ok _ _ _) Jd_ok (all_ok (G_ok _ _ _) Jd_ok (fun r c h => (BT.all_P p38_rt).at h)) rfl rfl p38_ok ho (av1 := [.ref 0, .int x0, .int x1]) (av2 := [.ref 110, .int x0, .int x1]) (⟨rfl, ⟨x0, rfl, evi rfl⟩, ⟨x1, rfl, evi rfl⟩, trivial⟩) (⟨rfl, ⟨x0, rfl, evi rfl⟩, ⟨x1, rfl, evi rfl⟩, trivial⟩)
  rw [p38_yh, p38_ym] at h
  exact h
def p39_fi : BT Dom := [(34822, [(34822, [(0, 0)])]), (112722, [(112722, [(0, 0)])])]
def p39_ai : BT Dom := []
def p39_ct : BT Ct := []
def p39_c : Ct := ⟨[], 0, [], [], 0, [], [], [], [(7, [(7, 0)]), (272, [(272, 0)])], true, 0, []⟩
def p39_s : Sy := ⟨2, [(0, [((-2147483648), 2147483647)]), (1, [((-2147483648), 2147483647)])], [], []⟩
def p39_x : Gx := mkX p39_fi p39_ai p39_ct
theorem p39_ok : chkPair p39_x false 100000 161 399 p39_c p39_c [.r 0, .i 0 0, .i 1 0] [.r 110, .i 0 0, .i 1 0] p39_s = true := by decide +kernel
theorem p39_rt : (p39_ct.all fun r c => chkRoot p39_x 100000 r c) = true := by decide +kernel
theorem p39_me : meOk p39_s = true := by decide +kernel
theorem p39_st : startOk p39_fi p39_ai = true := by decide +kernel
theorem p39_yh : Yf 161 = Y_H_switchOff := rfl
theorem p39_ym : Yf 399 = Y_M_switchOff := rfl
theorem P_39 {E : xV} : LC_39 E σ00 (fun _ => True) := by
  intro x0 x1
  have ho : Ok (Jd (mkG p39_fi p39_ai)) p39_s [x0.toInt, x1.toInt] σ00 := ok_start p39_st p39_me rfl (fun e he => by
    rcases List.mem_cons.mp he with rfl | he
    · exact ⟨_, rfl, in32 x0⟩
    rcases List.mem_cons.mp he with rfl | he
    · exact ⟨_, rfl, in32 x1⟩
    cases he)
  have h := pairI (E := E) (Y := Yf) (G := p39_x) (G_ok _ _ _) Jd_ok (all_ok (G_ok _ _ _) Jd_ok (fun r c h => (BT.all_P p39_rt).at h)) rfl rfl p39_ok ho (av1 := [.ref 0, .int x0, .int x1]) (av2 := [.ref 110, .int x0, .int x1]) (⟨rfl, ⟨x0, rfl, evi rfl⟩, ⟨x1, rfl, evi rfl⟩, trivial⟩) (⟨rfl, ⟨x0, rfl, evi rfl⟩, ⟨x1, rfl, evi rfl⟩, trivial⟩)
  rw [p39_yh, p39_ym] at h
  exact h
def p40_fi : BT Dom := [(34822, [(34822, [(0, 0)])]), (112722, [(112722, [(0, 0)])])]
def p40_ai : BT Dom := []
def p40_ct : BT Ct := []
def p40_c : Ct := ⟨[], 0, [], [], 0, [], [], [], [(7, [(7, 0)]), (272, [(272, 0)])], true, 0, []⟩
def p40_s : Sy := ⟨3, [(0, [((-2147483648), 2147483647)]), (1, [((-2147483648), 2147483647)]), (2, [((-2147483648), 2147483647)])], [], []⟩
def p40_x : Gx := mkX p40_fi p40_ai p40_ct
theorem p40_ok : chkPair p40_x false 100000 163 400 p40_c p40_c [.r 0, .i 0 0, .i 1 0, .i 2 0] [.r 110, .i 0 0, .i 1 0, .i 2 0] p40_s = true := by decide +kernel
theorem p40_rt : (p40_ct.all fun r c => chkRoot p40_x 100000 r c) = true := by decide +kernel
theorem p40_me : meOk p40_s = true := by decide +kernel
theorem p40_st : startOk p40_fi p40_ai = true := by decide +kernel
theorem p40_yh : Yf 163 = Y_H_askIn := rfl
theorem p40_ym : Yf 400 = Y_M_askIn := rfl
theorem P_40 {E : xV} : LC_40 E σ00 (fun _ => True) := by
  intro x0 x1 x2
  have ho : Ok (Jd (mkG p40_fi p40_ai)) p40_s [x0.toInt, x1.toInt, x2.toInt] σ00 := ok_start p40_st p40_me rfl (fun e he => by
    rcases List.mem_cons.mp he with rfl | he
    · exact ⟨_, rfl, in32 x0⟩
    rcases List.mem_cons.mp he with rfl | he
    · exact ⟨_, rfl, in32 x1⟩
    rcases List.mem_cons.mp he with rfl | he
    · exact ⟨_, rfl, in32 x2⟩
    cases he)
  have h := pairI (E := E) (Y := Yf) (G := p40_x) (G_ok _ _ _) Jd_ok (all_ok (G_ok _ _ _) Jd_ok (fun r c h => (BT.all_P p40_rt).at h)) rfl rfl p40_ok ho (av1 := [.ref 0, .int x0, .int x1, .int x2]) (av2 := [.ref 110, .int x0, .int x1, .int x2]) (⟨rfl, ⟨x0, rfl, evi rfl⟩, ⟨x1, rfl, evi rfl⟩, ⟨x2, rfl, evi rfl⟩, trivial⟩) (⟨rfl, ⟨x0, rfl, evi rfl⟩, ⟨x1, rfl, evi rfl⟩, ⟨x2, rfl, evi rfl⟩, trivial⟩)
  rw [p40_yh, p40_ym] at h
  exact h
def p41_fi : BT Dom := [(41985, [(41985, [(0, 1)])]), (112725, [(112725, [(0, 1)])])]
def p41_ai : BT Dom := []
def p41_ct : BT Ct := []
def p41_c : Ct := ⟨[], 0, [], [], 0, [], [], [], [], true, 0, []⟩
def p41_s : Sy := ⟨0, [], [(110, (.c 85, .c 0)), (41, (.c 1, .c 0))], []⟩
def p41_x : Gx := mkX p41_fi p41_ai p41_ct
theorem p41_ok : chkPair p41_x false 100000 164 401 p41_c p41_c [.r 0] [.r 110] p41_s = true := by decide +kernel
theorem p41_rt : (p41_ct.all fun r c => chkRoot p41_x 100000 r c) = true := by decide +kernel
theorem p41_me : meOk p41_s = true := by decide +kernel
theorem p41_st : startOk p41_fi p41_ai = true := by decide +kernel
theorem p41_yh : Yf 164 = Y_H_work := rfl
theorem p41_ym : Yf 401 = Y_M_work := rfl
theorem P_41 {E : xV} : LC_41 E σ00 (fun _ => True) := by
  have ho : Ok (Jd (mkG p41_fi p41_ai)) p41_s [] σ00 := ok_start p41_st p41_me rfl (fun e he => by cases he)
  have h := pairI (E := E) (Y := Yf) (G := p41_x) (G_ok _ _ _) Jd_ok (all_ok (G_ok _ _ _) Jd_ok (fun r c h => (BT.all_P p41_rt).at h)) rfl rfl p41_ok ho (av1 := [.ref 0]) (av2 := [.ref 110]) (⟨rfl, trivial⟩) (⟨rfl, trivial⟩)
  rw [p41_yh, p41_ym] at h
  exact h
def p42_fi : BT Dom := [(41985, [(41985, [(0, 0)])]), (112725, [(112725, [(0, 0)])])]
def p42_ai : BT Dom := []
def p42_ct : BT Ct := []
def p42_c : Ct := ⟨[], 0, [], [], 0, [], [], [], [(7, [(7, 0)]), (272, [(272, 0)]), (402, [(402, 0)])], true, 0, []⟩
def p42_s : Sy := ⟨2, [(0, [((-2147483648), 2147483647)]), (1, [((-2147483648), 2147483647)])], [], []⟩
def p42_x : Gx := mkX p42_fi p42_ai p42_ct
theorem p42_ok : chkPair p42_x false 100000 166 404 p42_c p42_c [.r 0, .i 0 0, .i 1 0] [.r 110, .i 0 0, .i 1 0] p42_s = true := by decide +kernel
theorem p42_rt : (p42_ct.all fun r c => chkRoot p42_x 100000 r c) = true := by decide +kernel
theorem p42_me : meOk p42_s = true := by decide +kernel
theorem p42_st : startOk p42_fi p42_ai = true := by decide +kernel
theorem p42_yh : Yf 166 = Y_H_step := rfl
theorem p42_ym : Yf 404 = Y_M_step := rfl
theorem P_42 {E : xV} : LC_42 E σ00 (fun _ => True) := by
  intro x0 x1
  have ho : Ok (Jd (mkG p42_fi p42_ai)) p42_s [x0.toInt, x1.toInt] σ00 := ok_start p42_st p42_me rfl (fun e he => by
    rcases List.mem_cons.mp he with rfl | he
    · exact ⟨_, rfl, in32 x0⟩
    rcases List.mem_cons.mp he with rfl | he
    · exact ⟨_, rfl, in32 x1⟩
    cases he)
  have h := pairI (E := E) (Y := Yf) (G := p42_x) (G_ok _ _ _) Jd_ok (all_ok (G_ok _ _ _) Jd_ok (fun r c h => (BT.all_P p42_rt).at h)) rfl rfl p42_ok ho (av1 := [.ref 0, .int x0, .int x1]) (av2 := [.ref 110, .int x0, .int x1]) (⟨rfl, ⟨x0, rfl, evi rfl⟩, ⟨x1, rfl, evi rfl⟩, trivial⟩) (⟨rfl, ⟨x0, rfl, evi rfl⟩, ⟨x1, rfl, evi rfl⟩, trivial⟩)
  rw [p42_yh, p42_ym] at h
  exact h
def p43_fi : BT Dom := [(41985, [(41985, [(0, 0)])]), (112725, [(112725, [(0, 0)])])]
def p43_ai : BT Dom := []
def p43_ct : BT Ct := []
def p43_c : Ct := ⟨[], 0, [], [], 0, [], [], [], [(7, [(7, 0)]), (272, [(272, 0)]), (402, [(402, 0)])], true, 0, []⟩
def p43_s : Sy := ⟨4, [(0, [((-2147483648), 2147483647)]), (1, [((-2147483648), 2147483647)]), (2, [((-2147483648), 2147483647)]), (3, [((-2147483648), 2147483647)])], [], []⟩
def p43_x : Gx := mkX p43_fi p43_ai p43_ct
theorem p43_ok : chkPair p43_x false 100000 168 405 p43_c p43_c [.r 0, .i 0 0, .i 1 0, .i 2 0, .i 3 0] [.r 110, .i 0 0, .i 1 0, .i 2 0, .i 3 0] p43_s = true := by decide +kernel
theorem p43_rt : (p43_ct.all fun r c => chkRoot p43_x 100000 r c) = true := by decide +kernel
theorem p43_me : meOk p43_s = true := by decide +kernel
theorem p43_st : startOk p43_fi p43_ai = true := by decide +kernel
theorem p43_yh : Yf 168 = Y_H_tie := rfl
theorem p43_ym : Yf 405 = Y_M_tie := rfl
theorem P_43 {E : xV} : LC_43 E σ00 (fun _ => True) := by
  intro x0 x1 x2 x3
  have ho : Ok (Jd (mkG p43_fi p43_ai)) p43_s [x0.toInt, x1.toInt, x2.toInt, x3.toInt] σ00 := ok_start p43_st p43_me rfl (fun e he => by
    rcases List.mem_cons.mp he with rfl | he
    · exact ⟨_, rfl, in32 x0⟩
    rcases List.mem_cons.mp he with rfl | he
    · exact ⟨_, rfl, in32 x1⟩
    rcases List.mem_cons.mp he with rfl | he
    · exact ⟨_, rfl, in32 x2⟩
    rcases List.mem_cons.mp he with rfl | he
    · exact ⟨_, rfl, in32 x3⟩
    cases he)
  have h := pairI (E := E) (Y := Yf) (G := p43_x) (G_ok _ _ _) Jd_ok (all_ok (G_ok _ _ _) Jd_ok (fun r c h => (BT.all_P p43_rt).at h)) rfl rfl p43_ok ho (av1 := [.ref 0, .int x0, .int x1, .int x2, .int x3]) (av2 := [.ref 110, .int x0, .int x1, .int x2, .int x3]) (⟨rfl, ⟨x0, rfl, evi rfl⟩, ⟨x1, rfl, evi rfl⟩, ⟨x2, rfl, evi rfl⟩, ⟨x3, rfl, evi rfl⟩, trivial⟩) (⟨rfl, ⟨x0, rfl, evi rfl⟩, ⟨x1, rfl, evi rfl⟩, ⟨x2, rfl, evi rfl⟩, ⟨x3, rfl, evi rfl⟩, trivial⟩)
  rw [p43_yh, p43_ym] at h
  exact h
def p44_fi : BT Dom := [(41985, [(41985, [(0, 0)])]), (112725, [(112725, [(0, 0)])])]
def p44_ai : BT Dom := []
def p44_ct : BT Ct := []
def p44_c : Ct := ⟨[], 0, [], [], 0, [], [], [], [(169, [(7, 0), (169, 0)]), (402, [(272, 0), (402, 0)])], true, 0, []⟩
def p44_s : Sy := ⟨2, [(0, [((-2147483648), 2147483647)]), (1, [((-2147483648), 2147483647)])], [], []⟩
def p44_x : Gx := mkX p44_fi p44_ai p44_ct
theorem p44_ok : chkPair p44_x false 100000 176 409 p44_c p44_c [.r 0, .i 0 0, .i 1 0] [.r 110, .i 0 0, .i 1 0] p44_s = true := by decide +kernel
theorem p44_rt : (p44_ct.all fun r c => chkRoot p44_x 100000 r c) = true := by decide +kernel
theorem p44_me : meOk p44_s = true := by decide +kernel
theorem p44_st : startOk p44_fi p44_ai = true := by decide +kernel
theorem p44_yh : Yf 176 = Y_H_fill := rfl
theorem p44_ym : Yf 409 = Y_M_fill := rfl
theorem P_44 {E : xV} : LC_44 E σ00 (fun _ => True) := by
  intro x0 x1
  have ho : Ok (Jd (mkG p44_fi p44_ai)) p44_s [x0.toInt, x1.toInt] σ00 := ok_start p44_st p44_me rfl (fun e he => by
    rcases List.mem_cons.mp he with rfl | he
    · exact ⟨_, rfl, in32 x0⟩
    rcases List.mem_cons.mp he with rfl | he
    · exact ⟨_, rfl, in32 x1⟩
    cases he)
  have h := pairI (E := E) (Y := Yf) (G := p44_x) (G_ok _ _ _) Jd_ok (all_ok (G_ok _ _ _) Jd_ok (fun r c h => (BT.all_P p44_rt).at h)) rfl rfl p44_ok ho (av1 := [.ref 0, .int x0, .int x1]) (av2 := [.ref 110, .int x0, .int x1]) (⟨rfl, ⟨x0, rfl, evi rfl⟩, ⟨x1, rfl, evi rfl⟩, trivial⟩) (⟨rfl, ⟨x0, rfl, evi rfl⟩, ⟨x1, rfl, evi rfl⟩, trivial⟩)
  rw [p44_yh, p44_ym] at h
  exact h
def p45_fi : BT Dom := [(41985, [(41985, [(0, 0)])]), (112725, [(112725, [(0, 0)])])]
def p45_ai : BT Dom := []
def p45_ct : BT Ct := []
def p45_c : Ct := ⟨[], 0, [], [], 0, [], [], [], [(272, [(7, 0), (272, 0)]), (403, [(402, 0), (403, 0)])], true, 0, []⟩
def p45_s : Sy := ⟨2, [(0, [((-2147483648), 2147483647)]), (1, [((-2147483648), 2147483647)])], [], []⟩
def p45_x : Gx := mkX p45_fi p45_ai p45_ct
theorem p45_ok : chkPair p45_x false 100000 177 410 p45_c p45_c [.r 0, .i 0 0, .i 1 0] [.r 110, .i 0 0, .i 1 0] p45_s = true := by decide +kernel
theorem p45_rt : (p45_ct.all fun r c => chkRoot p45_x 100000 r c) = true := by decide +kernel
theorem p45_me : meOk p45_s = true := by decide +kernel
theorem p45_st : startOk p45_fi p45_ai = true := by decide +kernel
theorem p45_yh : Yf 177 = Y_H_filled := rfl
theorem p45_ym : Yf 410 = Y_M_filled := rfl
theorem P_45 {E : xV} : LC_45 E σ00 (fun _ => True) := by
  intro x0 x1
  have ho : Ok (Jd (mkG p45_fi p45_ai)) p45_s [x0.toInt, x1.toInt] σ00 := ok_start p45_st p45_me rfl (fun e he => by
    rcases List.mem_cons.mp he with rfl | he
    · exact ⟨_, rfl, in32 x0⟩
    rcases List.mem_cons.mp he with rfl | he
    · exact ⟨_, rfl, in32 x1⟩
    cases he)
  have h := pairI (E := E) (Y := Yf) (G := p45_x) (G_ok _ _ _) Jd_ok (all_ok (G_ok _ _ _) Jd_ok (fun r c h => (BT.all_P p45_rt).at h)) rfl rfl p45_ok ho (av1 := [.ref 0, .int x0, .int x1]) (av2 := [.ref 110, .int x0, .int x1]) (⟨rfl, ⟨x0, rfl, evi rfl⟩, ⟨x1, rfl, evi rfl⟩, trivial⟩) (⟨rfl, ⟨x0, rfl, evi rfl⟩, ⟨x1, rfl, evi rfl⟩, trivial⟩)
  rw [p45_yh, p45_ym] at h
  exact h
def p46_fi : BT Dom := [(41985, [(41985, [(0, 0)])]), (112725, [(112725, [(0, 0)])])]
def p46_ai : BT Dom := []
def p46_ct : BT Ct := []
def p46_c : Ct := ⟨[], 0, [], [], 0, [], [], [], [(169, [(7, 0), (169, 0)]), (402, [(272, 0), (402, 0)]), (411, [(403, 0), (411, 0)])], true, 0, []⟩
def p46_s : Sy := ⟨4, [(0, [((-2147483648), 2147483647)]), (1, [((-2147483648), 2147483647)]), (2, [((-2147483648), 2147483647)]), (3, [((-2147483648), 2147483647)])], [], []⟩
def p46_x : Gx := mkX p46_fi p46_ai p46_ct
theorem p46_ok : chkPair p46_x false 100000 179 412 p46_c p46_c [.r 0, .i 0 0, .i 1 0, .i 2 0, .i 3 0] [.r 110, .i 0 0, .i 1 0, .i 2 0, .i 3 0] p46_s = true := by decide +kernel
theorem p46_rt : (p46_ct.all fun r c => chkRoot p46_x 100000 r c) = true := by decide +kernel
theorem p46_me : meOk p46_s = true := by decide +kernel
theorem p46_st : startOk p46_fi p46_ai = true := by decide +kernel
theorem p46_yh : Yf 179 = Y_H_next := rfl
theorem p46_ym : Yf 412 = Y_M_next := rfl
theorem P_46 {E : xV} : LC_46 E σ00 (fun _ => True) := by
  intro x0 x1 x2 x3
  have ho : Ok (Jd (mkG p46_fi p46_ai)) p46_s [x0.toInt, x1.toInt, x2.toInt, x3.toInt] σ00 := ok_start p46_st p46_me rfl (fun e he => by
    rcases List.mem_cons.mp he with rfl | he
    · exact ⟨_, rfl, in32 x0⟩
    rcases List.mem_cons.mp he with rfl | he
    · exact ⟨_, rfl, in32 x1⟩
    rcases List.mem_cons.mp he with rfl | he
    · exact ⟨_, rfl, in32 x2⟩
    rcases List.mem_cons.mp he with rfl | he
    · exact ⟨_, rfl, in32 x3⟩
    cases he)
  have h := pairI (E := E) (Y := Yf) (G := p46_x) (G_ok _ _ _) Jd_ok (all_ok (G_ok _ _ _) Jd_ok (fun r c h => (BT.all_P p46_rt).at h)) rfl rfl p46_ok ho (av1 := [.ref 0, .int x0, .int x1, .int x2, .int x3]) (av2 := [.ref 110, .int x0, .int x1, .int x2, .int x3]) (⟨rfl, ⟨x0, rfl, evi rfl⟩, ⟨x1, rfl, evi rfl⟩, ⟨x2, rfl, evi rfl⟩, ⟨x3, rfl, evi rfl⟩, trivial⟩) (⟨rfl, ⟨x0, rfl, evi rfl⟩, ⟨x1, rfl, evi rfl⟩, ⟨x2, rfl, evi rfl⟩, ⟨x3, rfl, evi rfl⟩, trivial⟩)
  rw [p46_yh, p46_ym] at h
  exact h
def p47_fi : BT Dom := [(41985, [(41985, [(0, 0)])]), (112725, [(112725, [(0, 0)])])]
def p47_ai : BT Dom := []
def p47_ct : BT Ct := []
def p47_c : Ct := ⟨[], 0, [], [], 0, [], [], [], [(169, [(7, 0), (169, 0)]), (272, [(179, 0), (272, 0)]), (403, [(402, 0), (403, 0)]), (411, [(411, 0)])], true, 0, []⟩
def p47_s : Sy := ⟨4, [(0, [((-2147483648), 2147483647)]), (1, [((-2147483648), 2147483647)]), (2, [((-2147483648), 2147483647)]), (3, [((-2147483648), 2147483647)])], [], []⟩
def p47_x : Gx := mkX p47_fi p47_ai p47_ct
theorem p47_ok : chkPair p47_x false 100000 180 413 p47_c p47_c [.r 0, .i 0 0, .i 1 0, .i 2 0, .i 3 0] [.r 110, .i 0 0, .i 1 0, .i 2 0, .i 3 0] p47_s = true := by decide +kernel
theorem p47_rt : (p47_ct.all fun r c => chkRoot p47_x 100000 r c) = true := by decide +kernel
theorem p47_me : meOk p47_s = true := by decide +kernel
theorem p47_st : startOk p47_fi p47_ai = true := by decide +kernel
theorem p47_yh : Yf 180 = Y_H_perform := rfl
theorem p47_ym : Yf 413 = Y_M_perform := rfl
theorem P_47 {E : xV} : LC_47 E σ00 (fun _ => True) := by
  intro x0 x1 x2 x3
  have ho : Ok (Jd (mkG p47_fi p47_ai)) p47_s [x0.toInt, x1.toInt, x2.toInt, x3.toInt] σ00 := ok_start p47_st p47_me rfl (fun e he => by
    rcases List.mem_cons.mp he with rfl | he
    · exact ⟨_, rfl, in32 x0⟩
    rcases List.mem_cons.mp he with rfl | he
    · exact ⟨_, rfl, in32 x1⟩
    rcases List.mem_cons.mp he with rfl | he
    · exact ⟨_, rfl, in32 x2⟩
    rcases List.mem_cons.mp he with rfl | he
    · exact ⟨_, rfl, in32 x3⟩
    cases he)
  have h := pairI (E := E) (Y := Yf) (G := p47_x) (G_ok _ _ _) Jd_ok (all_ok (G_ok _ _ _) Jd_ok (fun r c h => (BT.all_P p47_rt).at h)) rfl rfl p47_ok ho (av1 := [.ref 0, .int x0, .int x1, .int x2, .int x3]) (av2 := [.ref 110, .int x0, .int x1, .int x2, .int x3]) (⟨rfl, ⟨x0, rfl, evi rfl⟩, ⟨x1, rfl, evi rfl⟩, ⟨x2, rfl, evi rfl⟩, ⟨x3, rfl, evi rfl⟩, trivial⟩) (⟨rfl, ⟨x0, rfl, evi rfl⟩, ⟨x1, rfl, evi rfl⟩, ⟨x2, rfl, evi rfl⟩, ⟨x3, rfl, evi rfl⟩, trivial⟩)
  rw [p47_yh, p47_ym] at h
  exact h
def p48_fi : BT Dom := [(41985, [(41985, [(0, 0)])]), (112725, [(112725, [(0, 0)])])]
def p48_ai : BT Dom := []
def p48_ct : BT Ct := []
def p48_c : Ct := ⟨[], 0, [], [], 0, [], [], [], [(169, [(7, 0), (169, 0)]), (402, [(272, 0), (402, 0)])], true, 0, []⟩
def p48_s : Sy := ⟨3, [(0, [((-2147483648), 2147483647)]), (1, [((-2147483648), 2147483647)]), (2, [((-2147483648), 2147483647)])], [], []⟩
def p48_x : Gx := mkX p48_fi p48_ai p48_ct
theorem p48_ok : chkPair p48_x false 100000 182 414 p48_c p48_c [.r 0, .i 0 0, .i 1 0, .i 2 0] [.r 110, .i 0 0, .i 1 0, .i 2 0] p48_s = true := by decide +kernel
theorem p48_rt : (p48_ct.all fun r c => chkRoot p48_x 100000 r c) = true := by decide +kernel
theorem p48_me : meOk p48_s = true := by decide +kernel
theorem p48_st : startOk p48_fi p48_ai = true := by decide +kernel
theorem p48_yh : Yf 182 = Y_H_needed := rfl
theorem p48_ym : Yf 414 = Y_M_needed := rfl
theorem P_48 {E : xV} : LC_48 E σ00 (fun _ => True) := by
  intro x0 x1 x2
  have ho : Ok (Jd (mkG p48_fi p48_ai)) p48_s [x0.toInt, x1.toInt, x2.toInt] σ00 := ok_start p48_st p48_me rfl (fun e he => by
    rcases List.mem_cons.mp he with rfl | he
    · exact ⟨_, rfl, in32 x0⟩
    rcases List.mem_cons.mp he with rfl | he
    · exact ⟨_, rfl, in32 x1⟩
    rcases List.mem_cons.mp he with rfl | he
    · exact ⟨_, rfl, in32 x2⟩
    cases he)
  have h := pairI (E := E) (Y := Yf) (G := p48_x) (G_ok _ _ _) Jd_ok (all_ok (G_ok _ _ _) Jd_ok (fun r c h => (BT.all_P p48_rt).at h)) rfl rfl p48_ok ho (av1 := [.ref 0, .int x0, .int x1, .int x2]) (av2 := [.ref 110, .int x0, .int x1, .int x2]) (⟨rfl, ⟨x0, rfl, evi rfl⟩, ⟨x1, rfl, evi rfl⟩, ⟨x2, rfl, evi rfl⟩, trivial⟩) (⟨rfl, ⟨x0, rfl, evi rfl⟩, ⟨x1, rfl, evi rfl⟩, ⟨x2, rfl, evi rfl⟩, trivial⟩)
  rw [p48_yh, p48_ym] at h
  exact h
def p49_fi : BT Dom := [(41998, [(41998, [(0, 0)])]), (112735, [(112735, [(0, 0)])])]
def p49_ai : BT Dom := []
def p49_ct : BT Ct := []
def p49_c : Ct := ⟨[], 0, [], [], 0, [], [], [], [], true, 0, []⟩
def p49_s : Sy := ⟨0, [], [], []⟩
def p49_x : Gx := mkX p49_fi p49_ai p49_ct
theorem p49_ok : chkPair p49_x false 100000 183 415 p49_c p49_c [.r 0] [.r 110] p49_s = true := by decide +kernel
theorem p49_rt : (p49_ct.all fun r c => chkRoot p49_x 100000 r c) = true := by decide +kernel
theorem p49_me : meOk p49_s = true := by decide +kernel
theorem p49_st : startOk p49_fi p49_ai = true := by decide +kernel
theorem p49_yh : Yf 183 = Y_H_tries := rfl
theorem p49_ym : Yf 415 = Y_M_tries := rfl
theorem P_49 {E : xV} : LC_49 E σ00 (fun _ => True) := by
  have ho : Ok (Jd (mkG p49_fi p49_ai)) p49_s [] σ00 := ok_start p49_st p49_me rfl (fun e he => by cases he)
  have h := pairI (E := E) (Y := Yf) (G := p49_x) (G_ok _ _ _) Jd_ok (all_ok (G_ok _ _ _) Jd_ok (fun r c h => (BT.all_P p49_rt).at h)) rfl rfl p49_ok ho (av1 := [.ref 0]) (av2 := [.ref 110]) (⟨rfl, trivial⟩) (⟨rfl, trivial⟩)
  rw [p49_yh, p49_ym] at h
  exact h
