def p14_fi : BT Dom := [(10240, [(10240, [(1, 1)])]), (112660, [(112660, [(1, 1)])]), (112666, [(112666, [(0, 1)])])]
def p14_ai : BT Dom := [(126, [(125, [((-4), (-4)), (0, 0)]), (126, [((-4), (-4)), (0, 0)])]), (129, [(128, [(0, 0)]), (129, [(0, 1)])])]
def p14_ct : BT Ct := []
def p14_c : Ct := ⟨[], 0, [], [], 0, [], [], [], [(272, [(26, 0), (272, 0)]), (319, [(313, 0), (319, 0)]), (320, [(320, 0)])], true, 0, []⟩
def p14_s : Sy := ⟨2, [(0, [((-2147483648), 2147483647)]), (1, [((-2147483648), 2147483647)])], [(110, (.c 26, .c 0))], [(125, (40, .c 0)), (126, (40, .c 0)), (129, (36, .c 0))]⟩
def p14_x : Gx := mkX p14_fi p14_ai p14_ct
theorem p14_ok : chkPair p14_x false 100000 40 322 p14_c p14_c [.r 0, .i 0 0, .i 1 0] [.r 110, .i 0 0, .i 1 0] p14_s = true := by decide +kernel
theorem p14_rt : (p14_ct.all fun r c => chkRoot p14_x 100000 r c) = true := by decide +kernel
theorem p14_st : startOk p14_fi p14_ai = true := by decide +kernel
theorem p14_me : meOk p14_s = true := by decide +kernel
theorem p14_yh : Yf 40 = Y_H_move := rfl
theorem p14_ym : Yf 322 = Y_M_move := rfl
theorem P_14 {E : xV} : LC_14 E σ00 (fun _ => True) := by
  intro x0 x1
  have ho : Ok (Jd (mkG p14_fi p14_ai)) p14_s [x0.toInt, x1.toInt] σ00 := ok_start p14_st p14_me rfl (fun e he => by
    rcases List.mem_cons.mp he with rfl | he
    · exact ⟨_, rfl, in32 x0⟩
    rcases List.mem_cons.mp he with rfl | he
    · exact ⟨_, rfl, in32 x1⟩
    cases he)
  have h := pairI (E := E) (Y := Yf) (G := p14_x) (G_ok _ _ _) Jd_ok (all_ok (G_ok _ _ _) Jd_ok (fun r c h => (BT.all_P p14_rt).at h)) rfl rfl p14_ok ho (av1 := [.ref 0, .int x0, .int x1]) (av2 := [.ref 110, .int x0, .int x1]) (⟨rfl, ⟨x0, rfl, evi rfl⟩, ⟨x1, rfl, evi rfl⟩, trivial⟩) (⟨rfl, ⟨x0, rfl, evi rfl⟩, ⟨x1, rfl, evi rfl⟩, trivial⟩)
  rw [p14_yh, p14_ym] at h
  exact h
def p15_fi : BT Dom := [(10240, [(10240, [(1, 1)])]), (112660, [(112660, [(1, 1)])])]
def p15_ai : BT Dom := [(14, [(13, [(0, 1)]), (14, [(0, 0)])]), (128, [(127, [(0, 1)]), (128, [(0, 0)])])]
def p15_ct : BT Ct := []
def p15_c : Ct := ⟨[], 0, [], [], 0, [], [], [], [(272, [(26, 0), (272, 0)]), (320, [(313, 0), (320, 0)])], true, 0, []⟩
def p15_s : Sy := ⟨2, [(0, [((-2147483648), 2147483647)]), (1, [(0, 1)])], [], [(13, (40, .c 0)), (127, (40, .c 0))]⟩
def p15_x : Gx := mkX p15_fi p15_ai p15_ct
theorem p15_ok : chkPair p15_x false 100000 41 323 p15_c p15_c [.r 0, .i 0 0, .i 1 0] [.r 110, .i 0 0, .i 1 0] p15_s = true := by decide +kernel
theorem p15_rt : (p15_ct.all fun r c => chkRoot p15_x 100000 r c) = true := by decide +kernel
theorem p15_st : startOk p15_fi p15_ai = true := by decide +kernel
theorem p15_me : meOk p15_s = true := by decide +kernel
theorem p15_yh : Yf 41 = Y_H_cutOff := rfl
theorem p15_ym : Yf 323 = Y_M_cutOff := rfl
theorem P_15 {E : xV} : LC_15 E σ00 (fun _ => True) := by
  intro x0 x1 h1
  have ho : Ok (Jd (mkG p15_fi p15_ai)) p15_s [x0.toInt, x1.toInt] σ00 := ok_start p15_st p15_me rfl (fun e he => by
    rcases List.mem_cons.mp he with rfl | he
    · exact ⟨_, rfl, in32 x0⟩
    rcases List.mem_cons.mp he with rfl | he
    · exact ⟨_, rfl, in01 h1⟩
    cases he)
  have h := pairI (E := E) (Y := Yf) (G := p15_x) (G_ok _ _ _) Jd_ok (all_ok (G_ok _ _ _) Jd_ok (fun r c h => (BT.all_P p15_rt).at h)) rfl rfl p15_ok ho (av1 := [.ref 0, .int x0, .int x1]) (av2 := [.ref 110, .int x0, .int x1]) (⟨rfl, ⟨x0, rfl, evi rfl⟩, ⟨x1, rfl, evi rfl⟩, trivial⟩) (⟨rfl, ⟨x0, rfl, evi rfl⟩, ⟨x1, rfl, evi rfl⟩, trivial⟩)
  rw [p15_yh, p15_ym] at h
  exact h
def p16_fi : BT Dom := [(10240, [(10240, [(1, 1)])]), (112660, [(112660, [(1, 1)])]), (112666, [(112666, [(0, 1)])])]
def p16_ai : BT Dom := [(126, [(125, [((-4), (-4)), (0, 0)]), (126, [((-4), (-4)), (0, 0)])]), (129, [(128, [(0, 0)]), (129, [(0, 1)])])]
def p16_ct : BT Ct := []
def p16_c : Ct := ⟨[], 0, [], [], 0, [], [], [], [(272, [(26, 0), (272, 0)]), (319, [(313, 0), (319, 0)]), (320, [(320, 0)])], true, 0, []⟩
def p16_s : Sy := ⟨1, [(0, [((-2147483648), 2147483647)])], [(110, (.c 26, .c 0))], [(125, (40, .c 0)), (126, (40, .c 0)), (129, (36, .c 0))]⟩
def p16_x : Gx := mkX p16_fi p16_ai p16_ct
theorem p16_ok : chkPair p16_x false 100000 43 324 p16_c p16_c [.r 0, .i 0 0] [.r 110, .i 0 0] p16_s = true := by decide +kernel
theorem p16_rt : (p16_ct.all fun r c => chkRoot p16_x 100000 r c) = true := by decide +kernel
theorem p16_st : startOk p16_fi p16_ai = true := by decide +kernel
theorem p16_me : meOk p16_s = true := by decide +kernel
theorem p16_yh : Yf 43 = Y_H_drop := rfl
theorem p16_ym : Yf 324 = Y_M_drop := rfl
theorem P_16 {E : xV} : LC_16 E σ00 (fun _ => True) := by
  intro x0
  have ho : Ok (Jd (mkG p16_fi p16_ai)) p16_s [x0.toInt] σ00 := ok_start p16_st p16_me rfl (fun e he => by
    rcases List.mem_cons.mp he with rfl | he
    · exact ⟨_, rfl, in32 x0⟩
    cases he)
  have h := pairI (E := E) (Y := Yf) (G := p16_x) (G_ok _ _ _) Jd_ok (all_ok (G_ok _ _ _) Jd_ok (fun r c h => (BT.all_P p16_rt).at h)) rfl rfl p16_ok ho (av1 := [.ref 0, .int x0]) (av2 := [.ref 110, .int x0]) (⟨rfl, ⟨x0, rfl, evi rfl⟩, trivial⟩) (⟨rfl, ⟨x0, rfl, evi rfl⟩, trivial⟩)
  rw [p16_yh, p16_ym] at h
  exact h
def p17_fi : BT Dom := [(10240, [(10240, [(1, 1)])]), (112660, [(112660, [(1, 1)])]), (112666, [(112666, [(0, 1)])])]
def p17_ai : BT Dom := [(13, [(11, [((-4), (-4)), (0, 0)]), (12, [((-4), (-4)), (0, 0)]), (13, [(0, 0)])]), (126, [(14, [(0, 0)]), (125, [((-4), (-4)), (0, 0)]), (126, [((-4), (-4)), (0, 0)])]), (129, [(127, [(0, 0)]), (128, [(0, 0)]), (129, [(0, 1)])])]
def p17_ct : BT Ct := []
def p17_c : Ct := ⟨[], 0, [], [], 0, [], [], [], [(44, [(7, 0), (44, 0)]), (313, [(272, 0), (313, 0)]), (325, [(319, 0), (325, 0)])], true, 0, []⟩
def p17_s : Sy := ⟨2, [(0, [((-2147483648), 2147483647)]), (1, [((-2147483648), 2147483647)])], [(11, (.c 0, .c (-4))), (11, (.c 1, .c 0)), (11, (.c 10, .c 0)), (11, (.c 11, .c 0)), (11, (.c 12, .c 0)), (11, (.c 13, .c 0)), (11, (.c 14, .c 0)), (11, (.c 15, .c 0)), (11, (.c 16, .c 0)), (11, (.c 17, .c 0)), (11, (.c 18, .c 0)), (11, (.c 19, .c 0)), (11, (.c 2, .c 0)), (11, (.c 20, .c 0)), (11, (.c 21, .c 0)), (11, (.c 22, .c 0)), (11, (.c 23, .c 0)), (11, (.c 24, .c 0)), (11, (.c 25, .c 0)), (11, (.c 26, .c 0)), (11, (.c 27, .c 0)), (11, (.c 28, .c 0)), (11, (.c 29, .c 0)), (11, (.c 3, .c 0)), (11, (.c 30, .c 0)), (11, (.c 31, .c 0)), (11, (.c 32, .c 0)), (11, (.c 33, .c 0)), (11, (.c 34, .c 0)), (11, (.c 35, .c 0)), (11, (.c 36, .c 0)), (11, (.c 37, .c 0)), (11, (.c 38, .c 0)), (11, (.c 39, .c 0)), (11, (.c 4, .c 0)), (11, (.c 5, .c 0)), (11, (.c 6, .c 0)), (11, (.c 7, .c 0)), (11, (.c 8, .c 0)), (11, (.c 9, .c 0)), (110, (.c 26, .c 0)), (12, (.c 0, .c (-4))), (12, (.c 1, .c 0)), (12, (.c 10, .c 0)), (12, (.c 11, .c 0)), (12, (.c 12, .c 0)), (12, (.c 13, .c 0)), (12, (.c 14, .c 0)), (12, (.c 15, .c 0)), (12, (.c 16, .c 0)), (12, (.c 17, .c 0)), (12, (.c 18, .c 0)), (12, (.c 19, .c 0)), (12, (.c 2, .c 0)), (12, (.c 20, .c 0)), (12, (.c 21, .c 0)), (12, (.c 22, .c 0)), (12, (.c 23, .c 0)), (12, (.c 24, .c 0)), (12, (.c 25, .c 0)), (12, (.c 26, .c 0)), (12, (.c 27, .c 0)), (12, (.c 28, .c 0)), (12, (.c 29, .c 0)), (12, (.c 3, .c 0)), (12, (.c 30, .c 0)), (12, (.c 31, .c 0)), (12, (.c 32, .c 0)), (12, (.c 33, .c 0)), (12, (.c 34, .c 0)), (12, (.c 35, .c 0)), (12, (.c 36, .c 0)), (12, (.c 37, .c 0)), (12, (.c 38, .c 0)), (12, (.c 39, .c 0)), (12, (.c 4, .c 0)), (12, (.c 5, .c 0)), (12, (.c 6, .c 0)), (12, (.c 7, .c 0)), (12, (.c 8, .c 0)), (12, (.c 9, .c 0))], [(125, (40, .c 0)), (126, (40, .c 0)), (129, (36, .c 0))]⟩
def p17_x : Gx := mkX p17_fi p17_ai p17_ct
theorem p17_ok : chkPair p17_x false 100000 45 326 p17_c p17_c [.r 0, .i 0 0, .i 1 0] [.r 110, .i 0 0, .i 1 0] p17_s = true := by decide +kernel
theorem p17_rt : (p17_ct.all fun r c => chkRoot p17_x 100000 r c) = true := by decide +kernel
theorem p17_st : startOk p17_fi p17_ai = true := by decide +kernel
theorem p17_me : meOk p17_s = true := by decide +kernel
theorem p17_yh : Yf 45 = Y_H_thingOf := rfl
theorem p17_ym : Yf 326 = Y_M_thingOf := rfl
theorem P_17 {E : xV} : LC_17 E σ00 (fun _ => True) := by
  intro x0 x1
  have ho : Ok (Jd (mkG p17_fi p17_ai)) p17_s [x0.toInt, x1.toInt] σ00 := ok_start p17_st p17_me rfl (fun e he => by
    rcases List.mem_cons.mp he with rfl | he
    · exact ⟨_, rfl, in32 x0⟩
    rcases List.mem_cons.mp he with rfl | he
    · exact ⟨_, rfl, in32 x1⟩
    cases he)
  have h := pairI (E := E) (Y := Yf) (G := p17_x) (G_ok _ _ _) Jd_ok (all_ok (G_ok _ _ _) Jd_ok (fun r c h => (BT.all_P p17_rt).at h)) rfl rfl p17_ok ho (av1 := [.ref 0, .int x0, .int x1]) (av2 := [.ref 110, .int x0, .int x1]) (⟨rfl, ⟨x0, rfl, evi rfl⟩, ⟨x1, rfl, evi rfl⟩, trivial⟩) (⟨rfl, ⟨x0, rfl, evi rfl⟩, ⟨x1, rfl, evi rfl⟩, trivial⟩)
  rw [p17_yh, p17_ym] at h
  exact h
def p18_fi : BT Dom := [(10240, [(10240, [(1, 1)])]), (112660, [(112660, [(1, 1)])]), (112666, [(112666, [(0, 1)])])]
def p18_ai : BT Dom := [(125, [(14, [(0, 0)]), (125, [((-4), (-4)), (0, 0)])]), (128, [(126, [((-4), (-4)), (0, 0)]), (128, [(0, 0)])]), (129, [(129, [(0, 1)])])]
def p18_ct : BT Ct := []
def p18_c : Ct := ⟨[], 0, [], [], 0, [], [], [], [(46, [(26, 0), (46, 0)]), (313, [(272, 0), (313, 0)]), (320, [(319, 0), (320, 0)]), (327, [(327, 0)])], true, 0, []⟩
def p18_s : Sy := ⟨2, [(0, [((-2147483648), 2147483647)]), (1, [((-2147483648), 2147483647)])], [(110, (.c 26, .c 0))], [(125, (40, .c 0)), (126, (40, .c 0)), (129, (36, .c 0))]⟩
def p18_x : Gx := mkX p18_fi p18_ai p18_ct
theorem p18_ok : chkPair p18_x false 100000 47 328 p18_c p18_c [.r 0, .i 0 0, .i 1 0] [.r 110, .i 0 0, .i 1 0] p18_s = true := by decide +kernel
theorem p18_rt : (p18_ct.all fun r c => chkRoot p18_x 100000 r c) = true := by decide +kernel
theorem p18_st : startOk p18_fi p18_ai = true := by decide +kernel
theorem p18_me : meOk p18_s = true := by decide +kernel
theorem p18_yh : Yf 47 = Y_H_under := rfl
theorem p18_ym : Yf 328 = Y_M_under := rfl
theorem P_18 {E : xV} : LC_18 E σ00 (fun _ => True) := by
  intro x0 x1
  have ho : Ok (Jd (mkG p18_fi p18_ai)) p18_s [x0.toInt, x1.toInt] σ00 := ok_start p18_st p18_me rfl (fun e he => by
    rcases List.mem_cons.mp he with rfl | he
    · exact ⟨_, rfl, in32 x0⟩
    rcases List.mem_cons.mp he with rfl | he
    · exact ⟨_, rfl, in32 x1⟩
    cases he)
  have h := pairI (E := E) (Y := Yf) (G := p18_x) (G_ok _ _ _) Jd_ok (all_ok (G_ok _ _ _) Jd_ok (fun r c h => (BT.all_P p18_rt).at h)) rfl rfl p18_ok ho (av1 := [.ref 0, .int x0, .int x1]) (av2 := [.ref 110, .int x0, .int x1]) (⟨rfl, ⟨x0, rfl, evi rfl⟩, ⟨x1, rfl, evi rfl⟩, trivial⟩) (⟨rfl, ⟨x0, rfl, evi rfl⟩, ⟨x1, rfl, evi rfl⟩, trivial⟩)
  rw [p18_yh, p18_ym] at h
  exact h
def p19_fi : BT Dom := [(112666, [(112666, [(0, 1)])])]
def p19_ai : BT Dom := [(16, [(15, [(0, 9), (16, 17), (32, 33), (47, 63)]), (16, [((-2147483648), 2147483647)])]), (126, [(125, [((-4), (-4)), (0, 0)]), (126, [((-4), (-4)), (0, 0)])]), (129, [(129, [(0, 1)])])]
def p19_ct : BT Ct := [(1, [(1, ⟨[.r 10], 0, [], [(110, (.c 26, .c 0))], 0, [], [(17407, [(17407, ())])], [(2, [(2, ⟨[(0, .r 10), (1, .i 0 0)], [], 1, [(0, [(0, 6)])], [(110, (.c 26, .c 0))], ([(0, (-2))], 124)⟩)]), (32, [(32, ⟨[(0, .r 10), (1, .i 0 0)], [], 1, [(0, [(0, 6)])], [(110, (.c 26, .c 0))], ([(0, (-16))], 110)⟩)]), (40, [(40, ⟨[(0, .r 10), (1, .i 0 0), (2, .i 1 0)], [], 2, [(0, [(0, 5)]), (1, [(0, 6)])], [(110, (.c 26, .c 0))], ([(0, (-16)), (1, (-2))], 108)⟩)])], [(48, [(6, 0), (48, 0)]), (319, [(272, 0), (319, 0)])], false, 127, []⟩)])]
def p19_c : Ct := ⟨[], 0, [], [], 0, [], [], [], [(48, [(6, 0), (48, 0)]), (319, [(272, 0), (319, 0)])], true, 0, [(3145733, [(3145733, ())]), (3211280, [(3211280, ())])]⟩
def p19_s : Sy := ⟨3, [(0, [((-2147483648), 2147483647)]), (1, [((-2147483648), 2147483647)]), (2, [(0, 1)])], [(110, (.c 26, .c 0)), (15, (.c 0, .c 0)), (15, (.c 1, .c 1)), (15, (.c 2, .c 0)), (15, (.c 3, .c 0)), (15, (.c 4, .c 0)), (15, (.c 5, .c 63)), (16, (.c 0, .c 1)), (16, (.c 1, .c 3)), (16, (.c 2, .c 4)), (16, (.c 3, .c 8)), (16, (.c 4, .c 16)), (16, (.c 5, .c 63))], [(125, (40, .c 0)), (126, (40, .c 0)), (129, (36, .c 0))]⟩
def p19_x : Gx := mkX p19_fi p19_ai p19_ct
theorem p19_ok : chkPair p19_x false 100000 49 329 p19_c p19_c [.r 0, .i 0 0, .i 1 0, .i 2 0] [.r 110, .i 0 0, .i 1 0, .i 2 0] p19_s = true := by decide +kernel
theorem p19_rt : (p19_ct.all fun r c => chkRoot p19_x 100000 r c) = true := by decide +kernel
theorem p19_st : startOk p19_fi p19_ai = true := by decide +kernel
theorem p19_me : meOk p19_s = true := by decide +kernel
theorem p19_yh : Yf 49 = Y_H_holds := rfl
theorem p19_ym : Yf 329 = Y_M_holds := rfl
theorem P_19 {E : xV} : LC_19 E σ00 (fun _ => True) := by
  intro x0 x1 x2 h2
  have ho : Ok (Jd (mkG p19_fi p19_ai)) p19_s [x0.toInt, x1.toInt, x2.toInt] σ00 := ok_start p19_st p19_me rfl (fun e he => by
    rcases List.mem_cons.mp he with rfl | he
    · exact ⟨_, rfl, in32 x0⟩
    rcases List.mem_cons.mp he with rfl | he
    · exact ⟨_, rfl, in32 x1⟩
    rcases List.mem_cons.mp he with rfl | he
    · exact ⟨_, rfl, in01 h2⟩
    cases he)
  have h := pairI (E := E) (Y := Yf) (G := p19_x) (G_ok _ _ _) Jd_ok (all_ok (G_ok _ _ _) Jd_ok (fun r c h => (BT.all_P p19_rt).at h)) rfl rfl p19_ok ho (av1 := [.ref 0, .int x0, .int x1, .int x2]) (av2 := [.ref 110, .int x0, .int x1, .int x2]) (⟨rfl, ⟨x0, rfl, evi rfl⟩, ⟨x1, rfl, evi rfl⟩, ⟨x2, rfl, evi rfl⟩, trivial⟩) (⟨rfl, ⟨x0, rfl, evi rfl⟩, ⟨x1, rfl, evi rfl⟩, ⟨x2, rfl, evi rfl⟩, trivial⟩)
  rw [p19_yh, p19_ym] at h
  exact h
def p21_fi : BT Dom := [(17417, [(1, [(0, 0)]), (17408, [(0, 0)]), (17417, [(0, 0)])]), (17423, [(17421, [(0, 1)]), (17422, [(0, 0)]), (17423, [(0, 0)])]), (112666, [(17424, [(0, 0)]), (112641, [(0, 0)]), (112666, [(0, 1)])]), (112669, [(112667, [(0, 0)]), (112668, [(0, 0)]), (112669, [(0, 0)])]), (112698, [(112672, [(0, 0)]), (112686, [(0, 0)]), (112698, [((-1), 0)])])]
def p21_ai : BT Dom := [(23, [(1, [(0, 0)]), (23, [(0, 0)])]), (25, [(24, [(0, 0)]), (25, [(0, 0)])]), (126, [(125, [((-4), (-4)), (0, 0)]), (126, [((-4), (-4)), (0, 0)])]), (132, [(129, [(0, 1)]), (132, [((-1), 0)])])]
def p21_ct : BT Ct := []
def p21_c : Ct := ⟨[], 0, [], [], 0, [], [], [], [(68, [(53, 0), (66, 0), (67, 0), (68, 0)]), (93, [(69, 0), (70, 0), (92, 0), (93, 0)]), (338, [(272, 0), (319, 0), (333, 0), (338, 0)]), (362, [(340, 0), (357, 0), (358, 0), (362, 0)])], true, 0, []⟩
def p21_s : Sy := ⟨1, [(0, [((-2147483648), 2147483647)])], [(110, (.c 26, .c 0)), (110, (.c 58, .c 0)), (17, (.c 13, .c 0))], [(125, (40, .c 0)), (126, (40, .c 0)), (129, (36, .c 0)), (132, (240, .c 0))]⟩
def p21_x : Gx := mkX p21_fi p21_ai p21_ct
theorem p21_ok : chkPair p21_x false 100000 94 363 p21_c p21_c [.r 0, .i 0 0] [.r 110, .i 0 0] p21_s = true := by decide +kernel
theorem p21_rt : (p21_ct.all fun r c => chkRoot p21_x 100000 r c) = true := by decide +kernel
theorem p21_st : startOk p21_fi p21_ai = true := by decide +kernel
theorem p21_me : meOk p21_s = true := by decide +kernel
theorem p21_yh : Yf 94 = Y_H_policy := rfl
theorem p21_ym : Yf 363 = Y_M_policy := rfl
theorem P_21 {E : xV} : LC_21 E σ00 (fun _ => True) := by
  intro x0
  have ho : Ok (Jd (mkG p21_fi p21_ai)) p21_s [x0.toInt] σ00 := ok_start p21_st p21_me rfl (fun e he => by
    rcases List.mem_cons.mp he with rfl | he
    · exact ⟨_, rfl, in32 x0⟩
    cases he)
  have h := pairI (E := E) (Y := Yf) (G := p21_x) (G_ok _ _ _) Jd_ok (all_ok (G_ok _ _ _) Jd_ok (fun r c h => (BT.all_P p21_rt).at h)) rfl rfl p21_ok ho (av1 := [.ref 0, .int x0]) (av2 := [.ref 110, .int x0]) (⟨rfl, ⟨x0, rfl, evi rfl⟩, trivial⟩) (⟨rfl, ⟨x0, rfl, evi rfl⟩, trivial⟩)
  rw [p21_yh, p21_ym] at h
  exact h
def p22_fi : BT Dom := [(17408, [(17408, [(0, 0)])]), (112672, [(112672, [(0, 0)])])]
def p22_ai : BT Dom := []
def p22_ct : BT Ct := []
def p22_c : Ct := ⟨[], 0, [], [], 0, [], [], [], [(7, [(7, 0)]), (272, [(272, 0)]), (364, [(364, 0)])], true, 0, []⟩
def p22_s : Sy := ⟨1, [(0, [((-2147483648), 2147483647)])], [], []⟩
def p22_x : Gx := mkX p22_fi p22_ai p22_ct
theorem p22_ok : chkPair p22_x false 100000 95 365 p22_c p22_c [.r 0, .i 0 0] [.r 110, .i 0 0] p22_s = true := by decide +kernel
theorem p22_rt : (p22_ct.all fun r c => chkRoot p22_x 100000 r c) = true := by decide +kernel
theorem p22_st : startOk p22_fi p22_ai = true := by decide +kernel
theorem p22_me : meOk p22_s = true := by decide +kernel
theorem p22_yh : Yf 95 = Y_H_rules := rfl
theorem p22_ym : Yf 365 = Y_M_rules := rfl
theorem P_22 {E : xV} : LC_22 E σ00 (fun _ => True) := by
  intro x0
  have ho : Ok (Jd (mkG p22_fi p22_ai)) p22_s [x0.toInt] σ00 := ok_start p22_st p22_me rfl (fun e he => by
    rcases List.mem_cons.mp he with rfl | he
    · exact ⟨_, rfl, in32 x0⟩
    cases he)
  have h := pairI (E := E) (Y := Yf) (G := p22_x) (G_ok _ _ _) Jd_ok (all_ok (G_ok _ _ _) Jd_ok (fun r c h => (BT.all_P p22_rt).at h)) rfl rfl p22_ok ho (av1 := [.ref 0, .int x0]) (av2 := [.ref 110, .int x0]) (⟨rfl, ⟨x0, rfl, evi rfl⟩, trivial⟩) (⟨rfl, ⟨x0, rfl, evi rfl⟩, trivial⟩)
  rw [p22_yh, p22_ym] at h
  exact h
def p23_fi : BT Dom := [(17408, [(17408, [(0, 0)])]), (112672, [(112672, [(0, 0)])])]
def p23_ai : BT Dom := []
def p23_ct : BT Ct := []
def p23_c : Ct := ⟨[], 0, [], [], 0, [], [], [], [(7, [(7, 0)]), (272, [(272, 0)]), (364, [(364, 0)])], true, 0, []⟩
def p23_s : Sy := ⟨1, [(0, [((-2147483648), 2147483647)])], [], []⟩
def p23_x : Gx := mkX p23_fi p23_ai p23_ct
theorem p23_ok : chkPair p23_x false 100000 99 379 p23_c p23_c [.r 0, .i 0 0] [.r 110, .i 0 0] p23_s = true := by decide +kernel
theorem p23_rt : (p23_ct.all fun r c => chkRoot p23_x 100000 r c) = true := by decide +kernel
theorem p23_st : startOk p23_fi p23_ai = true := by decide +kernel
theorem p23_me : meOk p23_s = true := by decide +kernel
theorem p23_yh : Yf 99 = Y_H_inForce := rfl
theorem p23_ym : Yf 379 = Y_M_inForce := rfl
theorem P_23 {E : xV} : LC_23 E σ00 (fun _ => True) := by
  intro x0
  have ho : Ok (Jd (mkG p23_fi p23_ai)) p23_s [x0.toInt] σ00 := ok_start p23_st p23_me rfl (fun e he => by
    rcases List.mem_cons.mp he with rfl | he
    · exact ⟨_, rfl, in32 x0⟩
    cases he)
  have h := pairI (E := E) (Y := Yf) (G := p23_x) (G_ok _ _ _) Jd_ok (all_ok (G_ok _ _ _) Jd_ok (fun r c h => (BT.all_P p23_rt).at h)) rfl rfl p23_ok ho (av1 := [.ref 0, .int x0]) (av2 := [.ref 110, .int x0]) (⟨rfl, ⟨x0, rfl, evi rfl⟩, trivial⟩) (⟨rfl, ⟨x0, rfl, evi rfl⟩, trivial⟩)
  rw [p23_yh, p23_ym] at h
  exact h
def p24_fi : BT Dom := [(5120, [(5120, [(0, 0)])]), (112646, [(112646, [(0, 0)])])]
def p24_ai : BT Dom := []
def p24_ct : BT Ct := []
def p24_c : Ct := ⟨[], 0, [], [], 0, [], [], [], [(101, [(10, 0), (101, 0)]), (302, [(272, 0), (302, 0)])], true, 0, []⟩
def p24_s : Sy := ⟨3, [(0, [((-2147483648), 2147483647)]), (1, [((-2147483648), 2147483647)]), (2, [((-2147483648), 2147483647)])], [], []⟩
def p24_x : Gx := mkX p24_fi p24_ai p24_ct
theorem p24_ok : chkPair p24_x false 100000 132 380 p24_c p24_c [.r 0, .i 0 0, .i 1 0, .i 2 0] [.r 110, .i 0 0, .i 1 0, .i 2 0] p24_s = true := by decide +kernel
theorem p24_rt : (p24_ct.all fun r c => chkRoot p24_x 100000 r c) = true := by decide +kernel
theorem p24_st : startOk p24_fi p24_ai = true := by decide +kernel
theorem p24_me : meOk p24_s = true := by decide +kernel
theorem p24_yh : Yf 132 = Y_H_ask := rfl
theorem p24_ym : Yf 380 = Y_M_ask := rfl
theorem P_24 {E : xV} : LC_24 E σ00 (fun _ => True) := by
  intro x0 x1 x2
  have ho : Ok (Jd (mkG p24_fi p24_ai)) p24_s [x0.toInt, x1.toInt, x2.toInt] σ00 := ok_start p24_st p24_me rfl (fun e he => by
    rcases List.mem_cons.mp he with rfl | he
    · exact ⟨_, rfl, in32 x0⟩
    rcases List.mem_cons.mp he with rfl | he
    · exact ⟨_, rfl, in32 x1⟩
    rcases List.mem_cons.mp he with rfl | he
    · exact ⟨_, rfl, in32 x2⟩
    cases he)
  have h := pairI (E := E) (Y := Yf) (G := p24_x) (G_ok _ _ _) Jd_ok (all_ok (G_ok _ _ _) Jd_ok (fun r c h => (BT.all_P p24_rt).at h)) rfl rfl p24_ok ho (av1 := [.ref 0, .int x0, .int x1, .int x2]) (av2 := [.ref 110, .int x0, .int x1, .int x2]) (⟨rfl, ⟨x0, rfl, evi rfl⟩, ⟨x1, rfl, evi rfl⟩, ⟨x2, rfl, evi rfl⟩, trivial⟩) (⟨rfl, ⟨x0, rfl, evi rfl⟩, ⟨x1, rfl, evi rfl⟩, ⟨x2, rfl, evi rfl⟩, trivial⟩)
  rw [p24_yh, p24_ym] at h
  exact h
def p25_fi : BT Dom := [(17408, [(17408, [(0, 0)])]), (112672, [(112672, [(0, 0)])])]
def p25_ai : BT Dom := []
def p25_ct : BT Ct := []
def p25_c : Ct := ⟨[], 0, [], [], 0, [], [], [], [(7, [(7, 0)]), (272, [(272, 0)]), (364, [(364, 0)])], true, 0, []⟩
def p25_s : Sy := ⟨5, [(0, [((-2147483648), 2147483647)]), (1, [((-2147483648), 2147483647)]), (2, [((-2147483648), 2147483647)]), (3, [((-2147483648), 2147483647)]), (4, [((-2147483648), 2147483647)])], [], []⟩
def p25_x : Gx := mkX p25_fi p25_ai p25_ct
theorem p25_ok : chkPair p25_x false 100000 133 381 p25_c p25_c [.r 0, .i 0 0, .i 1 0, .i 2 0, .i 3 0, .i 4 0] [.r 110, .i 0 0, .i 1 0, .i 2 0, .i 3 0, .i 4 0] p25_s = true := by decide +kernel
theorem p25_rt : (p25_ct.all fun r c => chkRoot p25_x 100000 r c) = true := by decide +kernel
theorem p25_st : startOk p25_fi p25_ai = true := by decide +kernel
theorem p25_me : meOk p25_s = true := by decide +kernel
theorem p25_yh : Yf 133 = Y_H_asked := rfl
theorem p25_ym : Yf 381 = Y_M_asked := rfl
theorem P_25 {E : xV} : LC_25 E σ00 (fun _ => True) := by
  intro x0 x1 x2 x3 x4
  have ho : Ok (Jd (mkG p25_fi p25_ai)) p25_s [x0.toInt, x1.toInt, x2.toInt, x3.toInt, x4.toInt] σ00 := ok_start p25_st p25_me rfl (fun e he => by
    rcases List.mem_cons.mp he with rfl | he
    · exact ⟨_, rfl, in32 x0⟩
    rcases List.mem_cons.mp he with rfl | he
    · exact ⟨_, rfl, in32 x1⟩
    rcases List.mem_cons.mp he with rfl | he
    · exact ⟨_, rfl, in32 x2⟩
    rcases List.mem_cons.mp he with rfl | he
    · exact ⟨_, rfl, in32 x3⟩
    rcases List.mem_cons.mp he with rfl | he
    · exact ⟨_, rfl, in32 x4⟩
    cases he)
  have h := pairI (E := E) (Y := Yf) (G := p25_x) (G_ok _ _ _) Jd_ok (all_ok (G_ok _ _ _) Jd_ok (fun r c h => (BT.all_P p25_rt).at h)) rfl rfl p25_ok ho (av1 := [.ref 0, .int x0, .int x1, .int x2, .int x3, .int x4]) (av2 := [.ref 110, .int x0, .int x1, .int x2, .int x3, .int x4]) (⟨rfl, ⟨x0, rfl, evi rfl⟩, ⟨x1, rfl, evi rfl⟩, ⟨x2, rfl, evi rfl⟩, ⟨x3, rfl, evi rfl⟩, ⟨x4, rfl, evi rfl⟩, trivial⟩) (⟨rfl, ⟨x0, rfl, evi rfl⟩, ⟨x1, rfl, evi rfl⟩, ⟨x2, rfl, evi rfl⟩, ⟨x3, rfl, evi rfl⟩, ⟨x4, rfl, evi rfl⟩, trivial⟩)
  rw [p25_yh, p25_ym] at h
  exact h
def p26_fi : BT Dom := [(27664, [(27664, [(0, 0)])]), (112709, [(112709, [(0, 0)])])]
def p26_ai : BT Dom := []
def p26_ct : BT Ct := []
def p26_c : Ct := ⟨[], 0, [], [], 0, [], [], [], [(7, [(7, 0)]), (272, [(272, 0)])], true, 0, []⟩
def p26_s : Sy := ⟨1, [(0, [((-2147483648), 2147483647)])], [], []⟩
def p26_x : Gx := mkX p26_fi p26_ai p26_ct
theorem p26_ok : chkPair p26_x false 100000 134 382 p26_c p26_c [.r 0, .i 0 0] [.r 110, .i 0 0] p26_s = true := by decide +kernel
theorem p26_rt : (p26_ct.all fun r c => chkRoot p26_x 100000 r c) = true := by decide +kernel
theorem p26_st : startOk p26_fi p26_ai = true := by decide +kernel
theorem p26_me : meOk p26_s = true := by decide +kernel
theorem p26_yh : Yf 134 = Y_H_made := rfl
theorem p26_ym : Yf 382 = Y_M_made := rfl
theorem P_26 {E : xV} : LC_26 E σ00 (fun _ => True) := by
  intro x0
  have ho : Ok (Jd (mkG p26_fi p26_ai)) p26_s [x0.toInt] σ00 := ok_start p26_st p26_me rfl (fun e he => by
    rcases List.mem_cons.mp he with rfl | he
    · exact ⟨_, rfl, in32 x0⟩
    cases he)
  have h := pairI (E := E) (Y := Yf) (G := p26_x) (G_ok _ _ _) Jd_ok (all_ok (G_ok _ _ _) Jd_ok (fun r c h => (BT.all_P p26_rt).at h)) rfl rfl p26_ok ho (av1 := [.ref 0, .int x0]) (av2 := [.ref 110, .int x0]) (⟨rfl, ⟨x0, rfl, evi rfl⟩, trivial⟩) (⟨rfl, ⟨x0, rfl, evi rfl⟩, trivial⟩)
  rw [p26_yh, p26_ym] at h
  exact h
def p27_fi : BT Dom := [(17408, [(17408, [(0, 0)])]), (112672, [(112672, [(0, 0)])])]
def p27_ai : BT Dom := []
def p27_ct : BT Ct := []
def p27_c : Ct := ⟨[], 0, [], [], 0, [], [], [], [(7, [(7, 0)]), (272, [(272, 0)]), (364, [(364, 0)])], true, 0, []⟩
def p27_s : Sy := ⟨4, [(0, [((-2147483648), 2147483647)]), (1, [((-2147483648), 2147483647)]), (2, [((-2147483648), 2147483647)]), (3, [((-2147483648), 2147483647)])], [], []⟩
def p27_x : Gx := mkX p27_fi p27_ai p27_ct
theorem p27_ok : chkPair p27_x false 100000 136 383 p27_c p27_c [.r 0, .i 0 0, .i 1 0, .i 2 0, .i 3 0] [.r 110, .i 0 0, .i 1 0, .i 2 0, .i 3 0] p27_s = true := by decide +kernel
theorem p27_rt : (p27_ct.all fun r c => chkRoot p27_x 100000 r c) = true := by decide +kernel
theorem p27_st : startOk p27_fi p27_ai = true := by decide +kernel
theorem p27_me : meOk p27_s = true := by decide +kernel
theorem p27_yh : Yf 136 = Y_H_may := rfl
theorem p27_ym : Yf 383 = Y_M_may := rfl
theorem P_27 {E : xV} : LC_27 E σ00 (fun _ => True) := by
  intro x0 x1 x2 x3
  have ho : Ok (Jd (mkG p27_fi p27_ai)) p27_s [x0.toInt, x1.toInt, x2.toInt, x3.toInt] σ00 := ok_start p27_st p27_me rfl (fun e he => by
    rcases List.mem_cons.mp he with rfl | he
    · exact ⟨_, rfl, in32 x0⟩
    rcases List.mem_cons.mp he with rfl | he
    · exact ⟨_, rfl, in32 x1⟩
    rcases List.mem_cons.mp he with rfl | he
    · exact ⟨_, rfl, in32 x2⟩
    rcases List.mem_cons.mp he with rfl | he
    · exact ⟨_, rfl, in32 x3⟩
    cases he)
  have h := pairI (E := E) (Y := Yf) (G := p27_x) (G_ok _ _ _) Jd_ok (all_ok (G_ok _ _ _) Jd_ok (fun r c h => (BT.all_P p27_rt).at h)) rfl rfl p27_ok ho (av1 := [.ref 0, .int x0, .int x1, .int x2, .int x3]) (av2 := [.ref 110, .int x0, .int x1, .int x2, .int x3]) (⟨rfl, ⟨x0, rfl, evi rfl⟩, ⟨x1, rfl, evi rfl⟩, ⟨x2, rfl, evi rfl⟩, ⟨x3, rfl, evi rfl⟩, trivial⟩) (⟨rfl, ⟨x0, rfl, evi rfl⟩, ⟨x1, rfl, evi rfl⟩, ⟨x2, rfl, evi rfl⟩, ⟨x3, rfl, evi rfl⟩, trivial⟩)
  rw [p27_yh, p27_ym] at h
  exact h
def p28_fi : BT Dom := [(17408, [(17408, [(0, 0)])]), (112672, [(112672, [(0, 0)])])]
def p28_ai : BT Dom := []
def p28_ct : BT Ct := []
def p28_c : Ct := ⟨[], 0, [], [], 0, [], [], [], [(7, [(7, 0)]), (272, [(272, 0)]), (364, [(364, 0)])], true, 0, []⟩
def p28_s : Sy := ⟨4, [(0, [((-2147483648), 2147483647)]), (1, [((-2147483648), 2147483647)]), (2, [((-2147483648), 2147483647)]), (3, [((-2147483648), 2147483647)])], [], []⟩
def p28_x : Gx := mkX p28_fi p28_ai p28_ct
theorem p28_ok : chkPair p28_x false 100000 138 385 p28_c p28_c [.r 0, .i 0 0, .i 1 0, .i 2 0, .i 3 0] [.r 110, .i 0 0, .i 1 0, .i 2 0, .i 3 0] p28_s = true := by decide +kernel
theorem p28_rt : (p28_ct.all fun r c => chkRoot p28_x 100000 r c) = true := by decide +kernel
theorem p28_st : startOk p28_fi p28_ai = true := by decide +kernel
theorem p28_me : meOk p28_s = true := by decide +kernel
theorem p28_yh : Yf 138 = Y_H_who := rfl
theorem p28_ym : Yf 385 = Y_M_who := rfl
theorem P_28 {E : xV} : LC_28 E σ00 (fun _ => True) := by
  intro x0 x1 x2 x3
  have ho : Ok (Jd (mkG p28_fi p28_ai)) p28_s [x0.toInt, x1.toInt, x2.toInt, x3.toInt] σ00 := ok_start p28_st p28_me rfl (fun e he => by
    rcases List.mem_cons.mp he with rfl | he
    · exact ⟨_, rfl, in32 x0⟩
    rcases List.mem_cons.mp he with rfl | he
    · exact ⟨_, rfl, in32 x1⟩
    rcases List.mem_cons.mp he with rfl | he
    · exact ⟨_, rfl, in32 x2⟩
    rcases List.mem_cons.mp he with rfl | he
    · exact ⟨_, rfl, in32 x3⟩
    cases he)
  have h := pairI (E := E) (Y := Yf) (G := p28_x) (G_ok _ _ _) Jd_ok (all_ok (G_ok _ _ _) Jd_ok (fun r c h => (BT.all_P p28_rt).at h)) rfl rfl p28_ok ho (av1 := [.ref 0, .int x0, .int x1, .int x2, .int x3]) (av2 := [.ref 110, .int x0, .int x1, .int x2, .int x3]) (⟨rfl, ⟨x0, rfl, evi rfl⟩, ⟨x1, rfl, evi rfl⟩, ⟨x2, rfl, evi rfl⟩, ⟨x3, rfl, evi rfl⟩, trivial⟩) (⟨rfl, ⟨x0, rfl, evi rfl⟩, ⟨x1, rfl, evi rfl⟩, ⟨x2, rfl, evi rfl⟩, ⟨x3, rfl, evi rfl⟩, trivial⟩)
  rw [p28_yh, p28_ym] at h
  exact h
