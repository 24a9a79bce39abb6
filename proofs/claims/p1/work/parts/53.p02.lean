def p13_fi : BT Dom := [(10240, [(5120, [(0, 0)]), (10240, [(1, 2)])]), (112660, [(112646, [(0, 0)]), (112660, [(1, 2)])]), (112666, [(112666, [(0, 1)])])]
def p13_ai : BT Dom := [(12, [(11, [((-4), (-4)), (0, 0)]), (12, [((-4), (-4)), (0, 0)])]), (125, [(14, [(0, 0)]), (125, [((-4), (-4)), (0, 0)])]), (128, [(126, [((-4), (-4)), (0, 0)]), (128, [(0, 0)])]), (129, [(129, [(0, 1)])])]
def p13_ct : BT Ct := []
def p13_c : Ct := ⟨[], 0, [], [], 0, [], [], [], [(26, [(10, 0), (26, 0)]), (272, [(37, 0), (272, 0)]), (313, [(302, 0), (313, 0)]), (320, [(319, 0), (320, 0)])], true, 0, []⟩
def p13_s : Sy := ⟨2, [(0, [((-2147483648), 2147483647)]), (1, [((-2147483648), 2147483647)])], [(10, (.c 0, .c 1)), (11, (.c 0, .c (-4))), (11, (.c 1, .c 0)), (11, (.c 10, .c 0)), (11, (.c 11, .c 0)), (11, (.c 12, .c 0)), (11, (.c 13, .c 0)), (11, (.c 14, .c 0)), (11, (.c 15, .c 0)), (11, (.c 16, .c 0)), (11, (.c 17, .c 0)), (11, (.c 18, .c 0)), (11, (.c 19, .c 0)), (11, (.c 2, .c 0)), (11, (.c 20, .c 0)), (11, (.c 21, .c 0)), (11, (.c 22, .c 0)), (11, (.c 23, .c 0)), (11, (.c 24, .c 0)), (11, (.c 25, .c 0)), (11, (.c 26, .c 0)), (11, (.c 27, .c 0)), (11, (.c 28, .c 0)), (11, (.c 29, .c 0)), (11, (.c 3, .c 0)), (11, (.c 30, .c 0)), (11, (.c 31, .c 0)), (11, (.c 32, .c 0)), (11, (.c 33, .c 0)), (11, (.c 34, .c 0)), (11, (.c 35, .c 0)), (11, (.c 36, .c 0)), (11, (.c 37, .c 0)), (11, (.c 38, .c 0)), (11, (.c 39, .c 0)), (11, (.c 4, .c 0)), (11, (.c 5, .c 0)), (11, (.c 6, .c 0)), (11, (.c 7, .c 0)), (11, (.c 8, .c 0)), (11, (.c 9, .c 0)), (110, (.c 20, .c 1)), (110, (.c 26, .c 0)), (12, (.c 0, .c (-4))), (12, (.c 1, .c 0)), (12, (.c 10, .c 0)), (12, (.c 11, .c 0)), (12, (.c 12, .c 0)), (12, (.c 13, .c 0)), (12, (.c 14, .c 0)), (12, (.c 15, .c 0)), (12, (.c 16, .c 0)), (12, (.c 17, .c 0)), (12, (.c 18, .c 0)), (12, (.c 19, .c 0)), (12, (.c 2, .c 0)), (12, (.c 20, .c 0)), (12, (.c 21, .c 0)), (12, (.c 22, .c 0)), (12, (.c 23, .c 0)), (12, (.c 24, .c 0)), (12, (.c 25, .c 0)), (12, (.c 26, .c 0)), (12, (.c 27, .c 0)), (12, (.c 28, .c 0)), (12, (.c 29, .c 0)), (12, (.c 3, .c 0)), (12, (.c 30, .c 0)), (12, (.c 31, .c 0)), (12, (.c 32, .c 0)), (12, (.c 33, .c 0)), (12, (.c 34, .c 0)), (12, (.c 35, .c 0)), (12, (.c 36, .c 0)), (12, (.c 37, .c 0)), (12, (.c 38, .c 0)), (12, (.c 39, .c 0)), (12, (.c 4, .c 0)), (12, (.c 5, .c 0)), (12, (.c 6, .c 0)), (12, (.c 7, .c 0)), (12, (.c 8, .c 0)), (12, (.c 9, .c 0))], [(125, (40, .c 0)), (126, (40, .c 0)), (129, (36, .c 0))]⟩
def p13_x : Gx := mkX p13_fi p13_ai p13_ct
theorem p13_ok : chkPair p13_x false 100000 38 321 p13_c p13_c [.r 0, .i 0 0, .i 1 0] [.r 110, .i 0 0, .i 1 0] p13_s = true := by decide +kernel
theorem p13_rt : (p13_ct.all fun r c => chkRoot p13_x 100000 r c) = true := by decide +kernel
theorem p13_me : meOk p13_s = true := by decide +kernel
theorem p13_st : startOk p13_fi p13_ai = true := by decide +kernel
theorem p13_yh : Yf 38 = Y_H_thing := rfl
theorem p13_ym : Yf 321 = Y_M_thing := rfl
theorem P_13 {E : xV} : LC_13 E σ00 (fun _ => True) := by
  intro x0 x1
  have ho : Ok (Jd (mkG p13_fi p13_ai)) p13_s [x0.toInt, x1.toInt] σ00 := ok_start p13_st p13_me rfl (fun e he => by
    rcases List.mem_cons.mp he with rfl | he
    · exact ⟨_, rfl, in32 x0⟩
    rcases List.mem_cons.mp he with rfl | he
    · exact ⟨_, rfl, in32 x1⟩
    cases he)
  have h := pairI (E := E) (Y := Yf) (G := p13_x) (G_ok _ _ _) Jd_ok (all_ok (G_ok _ _ _) Jd_ok (fun r c h => (BT.all_P p13_rt).at h)) rfl rfl p13_ok ho (av1 := [.ref 0, .int x0, .int x1]) (av2 := [.ref 110, .int x0, .int x1]) (⟨rfl, ⟨x0, rfl, evi rfl⟩, ⟨x1, rfl, evi rfl⟩, trivial⟩) (⟨rfl, ⟨x0, rfl, evi rfl⟩, ⟨x1, rfl, evi rfl⟩, trivial⟩)
  rw [p13_yh, p13_ym] at h
  exact h
def p14_fi : BT Dom := [(10240, [(10240, [(1, 1)])]), (112660, [(112660, [(1, 1)])]), (112666, [(112666, [(0, 1)])])]
def p14_ai : BT Dom := [(126, [(125, [((-4), (-4)), (0, 0)]), (126, [((-4), (-4)), (0, 0)])]), (129, [(128, [(0, 0)]), (129, [(0, 1)])])]
def p14_ct : BT Ct := []
def p14_c : Ct := ⟨[], 0, [], [], 0, [], [], [], [(272, [(26, 0), (272, 0)]), (319, [(313, 0), (319, 0)]), (320, [(320, 0)])], true, 0, []⟩
def p14_s : Sy := ⟨2, [(0, [((-2147483648), 2147483647)]), (1, [((-2147483648), 2147483647)])], [(110, (.c 26, .c 0))], [(125, (40, .c 0)), (126, (40, .c 0)), (129, (36, .c 0))]⟩
def p14_x : Gx := mkX p14_fi p14_ai p14_ct
theorem p14_ok : chkPair p14_x false 100000 40 322 p14_c p14_c [.r 0, .i 0 0, .i 1 0] [.r 110, .i 0 0, .i 1 0] p14_s = true := by decide +kernel
theorem p14_rt : (p14_ct.all fun r c => chkRoot p14_x 100000 r c) = true := by decide +kernel
theorem p14_me : meOk p14_s = true := by decide +kernel
theorem p14_st : startOk p14_fi p14_ai = true := by decide +kernel
theorem p14_yh : Yf 40 = Y_H_move := rfl
theorem p14_ym : Yf 322 = Y_M_move := rfl
theorem P_14 {E : xV} : LC_14 E σ00 (fun _ => True) := by
  intro x0 x1
  have ho : Ok (Jd (mkG p14_fi p14_ai)) p14_s [x0.toInt, x1.toInt] σ00 := ok_start p14_st p14_me rfl (fun e he => by
    rcases List.mem_cons.mp he with rfl | he
    · exact ⟨_, rfl, in32 x0⟩
    rcases List.mem_cons.mp he with rfl | he
    · exact ⟨_, rfl, in32 x1⟩
    cases he)
  have h := pairI (E := E) (Y := Yf) (G := p14_x) (G_ok _ _ _) Jd_ok (all_ok (G_ok _ _ _) Jd_ok (fun r c h => (BT.all_P p14_rt).at h)) rfl rfl p14_ok ho (av1 := [.ref 0, .int x0, .int x1]) (av2 := [.ref 110, .int x0, .int x1]) (⟨rfl, ⟨x0, rfl, evi rfl⟩, ⟨x1, rfl, evi rfl⟩, trivial⟩) (⟨rfl, ⟨x0, rfl, evi rfl⟩, ⟨x1, rfl, evi rfl⟩, trivial⟩)
  rw [p14_yh, p14_ym] at h
  exact h
def p15_fi : BT Dom := [(10240, [(10240, [(1, 1)])]), (112660, [(112660, [(1, 1)])])]
def p15_ai : BT Dom := [(14, [(13, [(0, 1)]), (14, [(0, 0)])]), (128, [(127, [(0, 1)]), (128, [(0, 0)])])]
def p15_ct : BT Ct := []
def p15_c : Ct := ⟨[], 0, [], [], 0, [], [], [], [(272, [(26, 0), (272, 0)]), (320, [(313, 0), (320, 0)])], true, 0, []⟩
def p15_s : Sy := ⟨2, [(0, [((-2147483648), 2147483647)]), (1, [(0, 1)])], [], [(13, (40, .c 0)), (127, (40, .c 0))]⟩
def p15_x : Gx := mkX p15_fi p15_ai p15_ct
theorem p15_ok : chkPair p15_x false 100000 41 323 p15_c p15_c [.r 0, .i 0 0, .i 1 0] [.r 110, .i 0 0, .i 1 0] p15_s = true := by decide +kernel
theorem p15_rt : (p15_ct.all fun r c => chkRoot p15_x 100000 r c) = true := by decide +kernel
theorem p15_me : meOk p15_s = true := by decide +kernel
theorem p15_st : startOk p15_fi p15_ai = true := by decide +kernel
theorem p15_yh : Yf 41 = Y_H_cutOff := rfl
theorem p15_ym : Yf 323 = Y_M_cutOff := rfl
theorem P_15 {E : xV} : LC_15 E σ00 (fun _ => True) := by
  intro x0 x1 h1
  have ho : Ok (Jd (mkG p15_fi p15_ai)) p15_s [x0.toInt, x1.toInt] σ00 := ok_start p15_st p15_me rfl (fun e he => by
    rcases List.mem_cons.mp he with rfl | he
    · exact ⟨_, rfl, in32 x0⟩
    rcases List.mem_cons.mp he with rfl | he
    · exact ⟨_, rfl, in01 h1⟩
    cases he)
  have h := pairI (E := E) (Y := Yf) (G := p15_x) (G_ok _ _ _) Jd_ok (all_ok (G_ok _ _ _) Jd_ok (fun r c h => (BT.all_P p15_rt).at h)) rfl rfl p15_ok ho (av1 := [.ref 0, .int x0, .int x1]) (av2 := [.ref 110, .int x0, .int x1]) (⟨rfl, ⟨x0, rfl, evi rfl⟩, ⟨x1, rfl, evi rfl⟩, trivial⟩) (⟨rfl, ⟨x0, rfl, evi rfl⟩, ⟨x1, rfl, evi rfl⟩, trivial⟩)
  rw [p15_yh, p15_ym] at h
  exact h
def p16_fi : BT Dom := [(10240, [(10240, [(1, 1)])]), (112660, [(112660, [(1, 1)])]), (112666, [(112666, [(0, 1)])])]
def p16_ai : BT Dom := [(126, [(125, [((-4), (-4)), (0, 0)]), (126, [((-4), (-4)), (0, 0)])]), (129, [(128, [(0, 0)]), (129, [(0, 1)])])]
def p16_ct : BT Ct := []
def p16_c : Ct := ⟨[], 0, [], [], 0, [], [], [], [(272, [(26, 0), (272, 0)]), (319, [(313, 0), (319, 0)]), (320, [(320, 0)])], true, 0, []⟩
def p16_s : Sy := ⟨1, [(0, [((-2147483648), 2147483647)])], [(110, (.c 26, .c 0))], [(125, (40, .c 0)), (126, (40, .c 0)), (129, (36, .c 0))]⟩
def p16_x : Gx := mkX p16_fi p16_ai p16_ct
theorem p16_ok : chkPair p16_x false 100000 43 324 p16_c p16_c [.r 0, .i 0 0] [.r 110, .i 0 0] p16_s = true := by decide +kernel
theorem p16_rt : (p16_ct.all fun r c => chkRoot p16_x 100000 r c) = true := by decide +kernel
theorem p16_me : meOk p16_s = true := by decide +kernel
theorem p16_st : startOk p16_fi p16_ai = true := by decide +kernel
theorem p16_yh : Yf 43 = Y_H_drop := rfl
theorem p16_ym : Yf 324 = Y_M_drop := rfl
theorem P_16 {E : xV} : LC_16 E σ00 (fun _ => True) := by
  intro x0
  have ho : Ok (Jd (mkG p16_fi p16_ai)) p16_s [x0.toInt] σ00 := ok_start p16_st p16_me rfl (fun e he => by
    rcases List.mem_cons.mp he with rfl | he
    · exact ⟨_, rfl, in32 x0⟩
    cases he)
  have h := pairI (E := E) (Y := Yf) (G := p16_x) (G_ok _ _ _) Jd_ok (all_ok (G_ok _ _ _) Jd_ok (fun r c h => (BT.all_P p16_rt).at h)) rfl rfl p16_ok ho (av1 := [.ref 0, .int x0]) (av2 := [.ref 110, .int x0]) (⟨rfl, ⟨x0, rfl, evi rfl⟩, trivial⟩) (⟨rfl, ⟨x0, rfl, evi rfl⟩, trivial⟩)
  rw [p16_yh, p16_ym] at h
  exact h
def p17_fi : BT Dom := [(10240, [(10240, [(1, 1)])]), (112660, [(112660, [(1, 1)])]), (112666, [(112666, [(0, 1)])])]
def p17_ai : BT Dom := [(13, [(11, [((-4), (-4)), (0, 0)]), (12, [((-4), (-4)), (0, 0)]), (13, [(0, 0)])]), (126, [(14, [(0, 0)]), (125, [((-4), (-4)), (0, 0)]), (126, [((-4), (-4)), (0, 0)])]), (129, [(127, [(0, 0)]), (128, [(0, 0)]), (129, [(0, 1)])])]
def p17_ct : BT Ct := []
def p17_c : Ct := ⟨[], 0, [], [], 0, [], [], [], [(44, [(7, 0), (44, 0)]), (313, [(272, 0), (313, 0)]), (325, [(319, 0), (325, 0)])], true, 0, []⟩
def p17_s : Sy := ⟨2, [(0, [((-2147483648), 2147483647)]), (1, [((-2147483648), 2147483647)])], [(11, (.c 0, .c (-4))), (11, (.c 1, .c 0)), (11, (.c 10, .c 0)), (11, (.c 11, .c 0)), (11, (.c 12, .c 0)), (11, (.c 13, .c 0)), (11, (.c 14, .c 0)), (11, (.c 15, .c 0)), (11, (.c 16, .c 0)), (11, (.c 17, .c 0)), (11, (.c 18, .c 0)), (11, (.c 19, .c 0)), (11, (.c 2, .c 0)), (11, (.c 20, .c 0)), (11, (.c 21, .c 0)), (11, (.c 22, .c 0)), (11, (.c 23, .c 0)), (11, (.c 24, .c 0)), (11, (.c 25, .c 0)), (11, (.c 26, .c 0)), (11, (.c 27, .c 0)), (11, (.c 28, .c 0)), (11, (.c 29, .c 0)), (11, (.c 3, .c 0)), (11, (.c 30, .c 0)), (11, (.c 31, .c 0)), (11, (.c 32, .c 0)), (11, (.c 33, .c 0)), (11, (.c 34, .c 0)), (11, (.c 35, .c 0)), (11, (.c 36, .c 0)), (11, (.c 37, .c 0)), (11, (.c 38, .c 0)), (11, (.c 39, .c 0)), (11, (.c 4, .c 0)), (11, (.c 5, .c 0)), (11, (.c 6, .c 0)), (11, (.c 7, .c 0)), (11, (.c 8, .c 0)), (11, (.c 9, .c 0)), (110, (.c 26, .c 0)), (12, (.c 0, .c (-4))), (12, (.c 1, .c 0)), (12, (.c 10, .c 0)), (12, (.c 11, .c 0)), (12, (.c 12, .c 0)), (12, (.c 13, .c 0)), (12, (.c 14, .c 0)), (12, (.c 15, .c 0)), (12, (.c 16, .c 0)), (12, (.c 17, .c 0)), (12, (.c 18, .c 0)), (12, (.c 19, .c 0)), (12, (.c 2, .c 0)), (12, (.c 20, .c 0)), (12, (.c 21, .c 0)), (12, (.c 22, .c 0)), (12, (.c 23, .c 0)), (12, (.c 24, .c 0)), (12, (.c 25, .c 0)), (12, (.c 26, .c 0)), (12, (.c 27, .c 0)), (12, (.c 28, .c 0)), (12, (.c 29, .c 0)), (12, (.c 3, .c 0)), (12, (.c 30, .c 0)), (12, (.c 31, .c 0)), (12, (.c 32, .c 0)), (12, (.c 33, .c 0)), (12, (.c 34, .c 0)), (12, (.c 35, .c 0)), (12, (.c 36, .c 0)), (12, (.c 37, .c 0)), (12, (.c 38, .c 0)), (12, (.c 39, .c 0)), (12, (.c 4, .c 0)), (12, (.c 5, .c 0)), (12, (.c 6, .c 0)), (12, (.c 7, .c 0)), (12, (.c 8, .c 0)), (12, (.c 9, .c 0))], [(125, (40, .c 0)), (126, (40, .c 0)), (129, (36, .c 0))]⟩
def p17_x : Gx := mkX p17_fi p17_ai p17_ct
theorem p17_ok : chkPair p17_x false 100000 45 326 p17_c p17_c [.r 0, .i 0 0, .i 1 0] [.r 110, .i 0 0, .i 1 0] p17_s = true := by decide +kernel
theorem p17_rt : (p17_ct.all fun r c => chkRoot p17_x 100000 r c) = true := by decide +kernel
theorem p17_me : meOk p17_s = true := by decide +kernel
theorem p17_st : startOk p17_fi p17_ai = true := by decide +kernel
theorem p17_yh : Yf 45 = Y_H_thingOf := rfl
theorem p17_ym : Yf 326 = Y_M_thingOf := rfl
theorem P_17 {E : xV} : LC_17 E σ00 (fun _ => True) := by
  intro x0 x1
  have ho : Ok (Jd (mkG p17_fi p17_ai)) p17_s [x0.toInt, x1.toInt] σ00 := ok_start p17_st p17_me rfl (fun e he => by
    rcases List.mem_cons.mp he with rfl | he
    · exact ⟨_, rfl, in32 x0⟩
    rcases List.mem_cons.mp he with rfl | he
    · exact ⟨_, rfl, in32 x1⟩
    cases he)
  have h := pairI (E := E) (Y := Yf) (G := p17_x) (G_ok _ _ _) Jd_ok (all_ok (G_ok _ _ _) Jd_ok (fun r c h => (BT.all_P p17_rt).at h)) rfl rfl p17_ok ho (av1 := [.ref 0, .int x0, .int x1]) (av2 := [.ref 110, .int x0, .int x1]) (⟨rfl, ⟨x0, rfl, evi rfl⟩, ⟨x1, rfl, evi rfl⟩, trivial⟩) (⟨rfl, ⟨x0, rfl, evi rfl⟩, ⟨x1, rfl, evi rfl⟩, trivial⟩)
  rw [p17_yh, p17_ym] at h
  exact h
def p18_fi : BT Dom := [(10240, [(10240, [(1, 1)])]), (112660, [(112660, [(1, 1)])]), (112666, [(112666, [(0, 1)])])]
def p18_ai : BT Dom := [(125, [(14, [(0, 0)]), (125, [((-4), (-4)), (0, 0)])]), (128, [(126, [((-4), (-4)), (0, 0)]), (128, [(0, 0)])]), (129, [(129, [(0, 1)])])]
def p18_ct : BT Ct := []
def p18_c : Ct := ⟨[], 0, [], [], 0, [], [], [], [(46, [(26, 0), (46, 0)]), (313, [(272, 0), (313, 0)]), (320, [(319, 0), (320, 0)]), (327, [(327, 0)])], true, 0, []⟩
def p18_s : Sy := ⟨2, [(0, [((-2147483648), 2147483647)]), (1, [((-2147483648), 2147483647)])], [(110, (.c 26, .c 0))], [(125, (40, .c 0)), (126, (40, .c 0)), (129, (36, .c 0))]⟩
def p18_x : Gx := mkX p18_fi p18_ai p18_ct
theorem p18_ok : chkPair p18_x false 100000 47 328 p18_c p18_c [.r 0, .i 0 0, .i 1 0] [.r 110, .i 0 0, .i 1 0] p18_s = true := by decide +kernel
theorem p18_rt : (p18_ct.all fun r c => chkRoot p18_x 100000 r c) = true := by decide +kernel
theorem p18_me : meOk p18_s = true := by decide +kernel
theorem p18_st : startOk p18_fi p18_ai = true := by decide +kernel
theorem p18_yh : Yf 47 = Y_H_under := rfl
theorem p18_ym : Yf 328 = Y_M_under := rfl
theorem P_18 {E : xV} : LC_18 E σ00 (fun _ => True) := by
  intro x0 x1
  have ho : Ok (Jd (mkG p18_fi p18_ai)) p18_s [x0.toInt, x1.toInt] σ00 := ok_start p18_st p18_me rfl (fun e he => by
    rcases List.mem_cons.mp he with rfl | he
    · exact ⟨_, rfl, in32 x0⟩
    rcases List.mem_cons.mp he with rfl | he
    · exact ⟨_, rfl, in32 x1⟩
    cases he)
  have h := pairI (E := E) (Y := Yf) (G := p18_x) (G_ok _ _ _) Jd_ok (all_ok (G_ok _ _ _) Jd_ok (fun r c h => (BT.all_P p18_rt).at h)) rfl rfl p18_ok ho (av1 := [.ref 0, .int x0, .int x1]) (av2 := [.ref 110, .int x0, .int x1]) (⟨rfl, ⟨x0, rfl, evi rfl⟩, ⟨x1, rfl, evi rfl⟩, trivial⟩) (⟨rfl, ⟨x0, rfl, evi rfl⟩, ⟨x1, rfl, evi rfl⟩, trivial⟩)
  rw [p18_yh, p18_ym] at h
  exact h
def p19_fi : BT Dom := [(112666, [(112666, [(0, 1)])])]
def p19_ai : BT Dom := [(16, [(15, [(0, 9), (16, 17), (32, 33), (47, 63)]), (16, [((-2147483648), 2147483647)])]), (126, [(125, [((-4), (-4)), (0, 0)]), (126, [((-4), (-4)), (0, 0)])]), (129, [(129, [(0, 1)])])]
def p19_ct : BT Ct := [(1, [(1, ⟨[.r 10], 0, [], [(110, (.c 26, .c 0))], 0, [], [(17407, [(17407, ())])], [(2, [(2, ⟨[(0, .r 10), (1, .i 0 0)], [], 1, [(0, [(0, 6)])], [(110, (.c 26, .c 0))], ([(0, (-2))], 124)⟩)]), (32, [(32, ⟨[(0, .r 10), (1, .i 0 0)], [], 1, [(0, [(0, 6)])], [(110, (.c 26, .c 0))], ([(0, (-16))], 110)⟩)]), (40, [(40, ⟨[(0, .r 10), (1, .i 0 0), (2, .i 1 0)], [], 2, [(0, [(0, 5)]), (1, [(0, 6)])], [(110, (.c 26, .c 0))], ([(0, (-16)), (1, (-2))], 108)⟩)])], [(48, [(6, 0), (48, 0)]), (319, [(272, 0), (319, 0)])], false, 127, []⟩)])]
def p19_c : Ct := ⟨[], 0, [], [], 0, [], [], [], [(48, [(6, 0), (48, 0)]), (319, [(272, 0), (319, 0)])], true, 0, [(3145733, [(3145733, ())]), (3211280, [(3211280, ())])]⟩
def p19_s : Sy := ⟨3, [(0, [((-2147483648), 2147483647)]), (1, [((-2147483648), 2147483647)]), (2, [(0, 1)])], [(110, (.c 26, .c 0)), (15, (.c 0, .c 0)), (15, (.c 1, .c 1)), (15, (.c 2, .c 0)), (15, (.c 3, .c 0)), (15, (.c 4, .c 0)), (15, (.c 5, .c 63)), (16, (.c 0, .c 1)), (16, (.c 1, .c 3)), (16, (.c 2, .c 4)), (16, (.c 3, .c 8)), (16, (.c 4, .c 16)), (16, (.c 5, .c 63))], [(125, (40, .c 0)), (126, (40, .c 0)), (129, (36, .c 0))]⟩
def p19_x : Gx := mkX p19_fi p19_ai p19_ct
theorem p19_rt : (p19_ct.all fun r c => chkRoot p19_x 100000 r c) = true := by decide +kernel
def p19_s_0 : Sy := ⟨3, [(0, [((-2147483648), (-1))]), (1, [((-2147483648), 2147483647)]), (2, [(0, 1)])], [(110, (.c 26, .c 0)), (15, (.c 0, .c 0)), (15, (.c 1, .c 1)), (15, (.c 2, .c 0)), (15, (.c 3, .c 0)), (15, (.c 4, .c 0)), (15, (.c 5, .c 63)), (16, (.c 0, .c 1)), (16, (.c 1, .c 3)), (16, (.c 2, .c 4)), (16, (.c 3, .c 8)), (16, (.c 4, .c 16)), (16, (.c 5, .c 63))], [(125, (40, .c 0)), (126, (40, .c 0)), (129, (36, .c 0))]⟩
theorem p19_ok_0 : chkPair p19_x false 100000 49 329 p19_c p19_c [.r 0, .i 0 0, .i 1 0, .i 2 0] [.r 110, .i 0 0, .i 1 0, .i 2 0] p19_s_0 = true := by decide +kernel
theorem p19_me_0 : meOk p19_s_0 = true := by decide +kernel
def p19_s_1 : Sy := ⟨3, [(0, [(0, 0)]), (1, [((-2147483648), 2147483647)]), (2, [(0, 1)])], [(110, (.c 26, .c 0)), (15, (.c 0, .c 0)), (15, (.c 1, .c 1)), (15, (.c 2, .c 0)), (15, (.c 3, .c 0)), (15, (.c 4, .c 0)), (15, (.c 5, .c 63)), (16, (.c 0, .c 1)), (16, (.c 1, .c 3)), (16, (.c 2, .c 4)), (16, (.c 3, .c 8)), (16, (.c 4, .c 16)), (16, (.c 5, .c 63))], [(125, (40, .c 0)), (126, (40, .c 0)), (129, (36, .c 0))]⟩
theorem p19_ok_1 : chkPair p19_x false 100000 49 329 p19_c p19_c [.r 0, .i 0 0, .i 1 0, .i 2 0] [.r 110, .i 0 0, .i 1 0, .i 2 0] p19_s_1 = true := by decide +kernel
theorem p19_me_1 : meOk p19_s_1 = true := by decide +kernel
