def p0_fi : BT Dom := [(1, [(1, [(0, 8)])]), (112641, [(112641, [(0, 8)])])]
def p0_ai : BT Dom := [(1, [(1, [(0, 255)])]), (111, [(111, [((-2147483648), 2147483647)])])]
def p0_ct : BT Ct := []
def p0_c : Ct := ⟨[], 0, [], [], 0, [], [], [], [(272, [(272, 0)])], true, 0, []⟩
def p0_s : Sy := ⟨2, [(0, [((-2147483648), 2147483647)]), (1, [((-9223372036854775808), 9223372036854775807)])], [(0, (.c 1, .c 0)), (110, (.c 1, .c 0))], [(1, (1200, .c 0)), (111, (1200, .c 0))]⟩
def p0_x : Gx := mkX p0_fi p0_ai p0_ct
theorem p0_ok : chkPair p0_x false 100000 2 290 p0_c p0_c [.r 0, .i 0 0, .l 1 0] [.r 110, .i 0 0, .l 1 0] p0_s = true := by decide +kernel
theorem p0_rt : (p0_ct.all fun r c => chkRoot p0_x 100000 r c) = true := by decide +kernel
theorem p0_me : meOk p0_s = true := by decide +kernel
theorem p0_st : startOk p0_fi p0_ai = true := by decide +kernel
theorem p0_yh : Yf 2 = Y_H_feed := rfl
theorem p0_ym : Yf 290 = Y_M_feed := rfl
theorem P_0 {E : xV} : LC_0 E σ00 (fun _ => True) := by
  intro x0 x1
  have ho : Ok (Jd (mkG p0_fi p0_ai)) p0_s [x0.toInt, x1.toInt] σ00 := ok_start p0_st p0_me rfl (fun e he => by
    rcases List.mem_cons.mp he with rfl | he
    · exact ⟨_, rfl, in32 x0⟩
    rcases List.mem_cons.mp he with rfl | he
    · exact ⟨_, rfl, in64 x1⟩
    cases he)
  have h := pairI (E := E) (Y := Yf) (G := p0_x) (G_ok _ _ _) Jd_ok (all_ok (G_ok _ _ _) Jd_ok (fun r c h => (BT.all_P p0_rt).at h)) rfl rfl p0_ok ho (av1 := [.ref 0, .int x0, .long x1]) (av2 := [.ref 110, .int x0, .long x1]) (⟨rfl, ⟨x0, rfl, evi rfl⟩, ⟨x1, rfl, evl rfl⟩, trivial⟩) (⟨rfl, ⟨x0, rfl, evi rfl⟩, ⟨x1, rfl, evl rfl⟩, trivial⟩)
  rw [p0_yh, p0_ym] at h
  exact h
def p1_fi : BT Dom := [(1, [(1, [(0, 0)])]), (112641, [(112641, [(0, 0)])])]
def p1_ai : BT Dom := []
def p1_ct : BT Ct := []
def p1_c : Ct := ⟨[], 0, [], [], 0, [], [], [], [(272, [(272, 0)])], true, 0, []⟩
def p1_s : Sy := ⟨1, [(0, [((-2147483648), 2147483647)])], [], []⟩
def p1_x : Gx := mkX p1_fi p1_ai p1_ct
theorem p1_ok : chkPair p1_x false 100000 3 291 p1_c p1_c [.r 0, .i 0 0] [.r 110, .i 0 0] p1_s = true := by decide +kernel
theorem p1_rt : (p1_ct.all fun r c => chkRoot p1_x 100000 r c) = true := by decide +kernel
theorem p1_me : meOk p1_s = true := by decide +kernel
theorem p1_st : startOk p1_fi p1_ai = true := by decide +kernel
theorem p1_yh : Yf 3 = Y_H_cut := rfl
theorem p1_ym : Yf 291 = Y_M_cut := rfl
theorem P_1 {E : xV} : LC_1 E σ00 (fun _ => True) := by
  intro x0
  have ho : Ok (Jd (mkG p1_fi p1_ai)) p1_s [x0.toInt] σ00 := ok_start p1_st p1_me rfl (fun e he => by
    rcases List.mem_cons.mp he with rfl | he
    · exact ⟨_, rfl, in32 x0⟩
    cases he)
  have h := pairI (E := E) (Y := Yf) (G := p1_x) (G_ok _ _ _) Jd_ok (all_ok (G_ok _ _ _) Jd_ok (fun r c h => (BT.all_P p1_rt).at h)) rfl rfl p1_ok ho (av1 := [.ref 0, .int x0]) (av2 := [.ref 110, .int x0]) (⟨rfl, ⟨x0, rfl, evi rfl⟩, trivial⟩) (⟨rfl, ⟨x0, rfl, evi rfl⟩, trivial⟩)
  rw [p1_yh, p1_ym] at h
  exact h
def p2_fi : BT Dom := [(2, [(2, [(0, 1000000)])]), (112640, [(112640, [(0, 1000000)])])]
def p2_ai : BT Dom := []
def p2_ct : BT Ct := []
def p2_c : Ct := ⟨[], 0, [], [], 0, [], [], [], [(272, [(272, 0)])], true, 0, []⟩
def p2_s : Sy := ⟨1, [(0, [((-2147483648), 2147483647)])], [(0, (.c 2, .c 0)), (110, (.c 0, .c 0))], []⟩
def p2_x : Gx := mkX p2_fi p2_ai p2_ct
theorem p2_ok : chkPair p2_x false 100000 4 292 p2_c p2_c [.r 0, .i 0 0] [.r 110, .i 0 0] p2_s = true := by decide +kernel
theorem p2_rt : (p2_ct.all fun r c => chkRoot p2_x 100000 r c) = true := by decide +kernel
theorem p2_me : meOk p2_s = true := by decide +kernel
theorem p2_st : startOk p2_fi p2_ai = true := by decide +kernel
theorem p2_yh : Yf 4 = Y_H_tick := rfl
theorem p2_ym : Yf 292 = Y_M_tick := rfl
theorem P_2 {E : xV} : LC_2 E σ00 (fun _ => True) := by
  intro x0
  have ho : Ok (Jd (mkG p2_fi p2_ai)) p2_s [x0.toInt] σ00 := ok_start p2_st p2_me rfl (fun e he => by
    rcases List.mem_cons.mp he with rfl | he
    · exact ⟨_, rfl, in32 x0⟩
    cases he)
  have h := pairI (E := E) (Y := Yf) (G := p2_x) (G_ok _ _ _) Jd_ok (all_ok (G_ok _ _ _) Jd_ok (fun r c h => (BT.all_P p2_rt).at h)) rfl rfl p2_ok ho (av1 := [.ref 0, .int x0]) (av2 := [.ref 110, .int x0]) (⟨rfl, ⟨x0, rfl, evi rfl⟩, trivial⟩) (⟨rfl, ⟨x0, rfl, evi rfl⟩, trivial⟩)
  rw [p2_yh, p2_ym] at h
  exact h
def p3_fi : BT Dom := [(5120, [(5120, [(0, 1)])]), (112646, [(112646, [(0, 1)])])]
def p3_ai : BT Dom := []
def p3_ct : BT Ct := []
def p3_c : Ct := ⟨[], 0, [], [], 0, [], [], [], [], true, 0, []⟩
def p3_s : Sy := ⟨0, [], [(110, (.c 6, .c 0)), (5, (.c 0, .c 0))], []⟩
def p3_x : Gx := mkX p3_fi p3_ai p3_ct
theorem p3_ok : chkPair p3_x false 100000 8 300 p3_c p3_c [.r 0] [.r 110] p3_s = true := by decide +kernel
theorem p3_rt : (p3_ct.all fun r c => chkRoot p3_x 100000 r c) = true := by decide +kernel
theorem p3_me : meOk p3_s = true := by decide +kernel
theorem p3_st : startOk p3_fi p3_ai = true := by decide +kernel
theorem p3_yh : Yf 8 = Y_H_person := rfl
theorem p3_ym : Yf 300 = Y_M_person := rfl
theorem P_3 {E : xV} : LC_3 E σ00 (fun _ => True) := by
  have ho : Ok (Jd (mkG p3_fi p3_ai)) p3_s [] σ00 := ok_start p3_st p3_me rfl (fun e he => by cases he)
  have h := pairI (E := E) (Y := Yf) (G := p3_x) (G_ok _ _ _) Jd_ok (all_ok (G_ok _ _ _) Jd_ok (fun r c h => (BT.all_P p3_rt).at h)) rfl rfl p3_ok ho (av1 := [.ref 0]) (av2 := [.ref 110]) (⟨rfl, trivial⟩) (⟨rfl, trivial⟩)
  rw [p3_yh, p3_ym] at h
  exact h
def p4_fi : BT Dom := [(5121, [(5121, [(0, 1)])]), (112647, [(112647, [(0, 1)])])]
def p4_ai : BT Dom := []
def p4_ct : BT Ct := []
def p4_c : Ct := ⟨[], 0, [], [], 0, [], [], [], [], true, 0, []⟩
def p4_s : Sy := ⟨0, [], [(110, (.c 7, .c 0)), (5, (.c 1, .c 0))], []⟩
def p4_x : Gx := mkX p4_fi p4_ai p4_ct
theorem p4_ok : chkPair p4_x false 100000 9 301 p4_c p4_c [.r 0] [.r 110] p4_s = true := by decide +kernel
theorem p4_rt : (p4_ct.all fun r c => chkRoot p4_x 100000 r c) = true := by decide +kernel
theorem p4_me : meOk p4_s = true := by decide +kernel
theorem p4_st : startOk p4_fi p4_ai = true := by decide +kernel
theorem p4_yh : Yf 9 = Y_H_group := rfl
theorem p4_ym : Yf 301 = Y_M_group := rfl
theorem P_4 {E : xV} : LC_4 E σ00 (fun _ => True) := by
  have ho : Ok (Jd (mkG p4_fi p4_ai)) p4_s [] σ00 := ok_start p4_st p4_me rfl (fun e he => by cases he)
  have h := pairI (E := E) (Y := Yf) (G := p4_x) (G_ok _ _ _) Jd_ok (all_ok (G_ok _ _ _) Jd_ok (fun r c h => (BT.all_P p4_rt).at h)) rfl rfl p4_ok ho (av1 := [.ref 0]) (av2 := [.ref 110]) (⟨rfl, trivial⟩) (⟨rfl, trivial⟩)
  rw [p4_yh, p4_ym] at h
  exact h
def p5_fi : BT Dom := [(5121, [(5120, [(0, 0)]), (5121, [(0, 0)])]), (112647, [(112646, [(0, 0)]), (112647, [(0, 0)])])]
def p5_ai : BT Dom := []
def p5_ct : BT Ct := []
def p5_c : Ct := ⟨[], 0, [], [], 0, [], [], [], [(11, [(10, 0), (11, 0)]), (272, [(12, 0), (272, 0)]), (303, [(302, 0), (303, 0)])], true, 0, []⟩
def p5_s : Sy := ⟨4, [(0, [((-2147483648), 2147483647)]), (1, [((-2147483648), 2147483647)]), (2, [((-2147483648), 2147483647)]), (3, [((-2147483648), 2147483647)])], [], []⟩
def p5_x : Gx := mkX p5_fi p5_ai p5_ct
theorem p5_ok : chkPair p5_x false 100000 19 309 p5_c p5_c [.r 0, .i 0 0, .i 1 0, .i 2 0, .i 3 0] [.r 110, .i 0 0, .i 1 0, .i 2 0, .i 3 0] p5_s = true := by decide +kernel
theorem p5_rt : (p5_ct.all fun r c => chkRoot p5_x 100000 r c) = true := by decide +kernel
theorem p5_me : meOk p5_s = true := by decide +kernel
theorem p5_st : startOk p5_fi p5_ai = true := by decide +kernel
theorem p5_yh : Yf 19 = Y_H_put := rfl
theorem p5_ym : Yf 309 = Y_M_put := rfl
theorem P_5 {E : xV} : LC_5 E σ00 (fun _ => True) := by
  intro x0 x1 x2 x3
  have ho : Ok (Jd (mkG p5_fi p5_ai)) p5_s [x0.toInt, x1.toInt, x2.toInt, x3.toInt] σ00 := ok_start p5_st p5_me rfl (fun e he => by
    rcases List.mem_cons.mp he with rfl | he
    · exact ⟨_, rfl, in32 x0⟩
    rcases List.mem_cons.mp he with rfl | he
    · exact ⟨_, rfl, in32 x1⟩
    rcases List.mem_cons.mp he with rfl | he
    · exact ⟨_, rfl, in32 x2⟩
    rcases List.mem_cons.mp he with rfl | he
    · exact ⟨_, rfl, in32 x3⟩
    cases he)
  have h := pairI (E := E) (Y := Yf) (G := p5_x) (G_ok _ _ _) Jd_ok (all_ok (G_ok _ _ _) Jd_ok (fun r c h => (BT.all_P p5_rt).at h)) rfl rfl p5_ok ho (av1 := [.ref 0, .int x0, .int x1, .int x2, .int x3]) (av2 := [.ref 110, .int x0, .int x1, .int x2, .int x3]) (⟨rfl, ⟨x0, rfl, evi rfl⟩, ⟨x1, rfl, evi rfl⟩, ⟨x2, rfl, evi rfl⟩, ⟨x3, rfl, evi rfl⟩, trivial⟩) (⟨rfl, ⟨x0, rfl, evi rfl⟩, ⟨x1, rfl, evi rfl⟩, ⟨x2, rfl, evi rfl⟩, ⟨x3, rfl, evi rfl⟩, trivial⟩)
  rw [p5_yh, p5_ym] at h
  exact h
def p6_fi : BT Dom := [(5122, [(5122, [(0, 0)])]), (112648, [(112648, [(0, 0)])])]
def p6_ai : BT Dom := []
def p6_ct : BT Ct := []
def p6_c : Ct := ⟨[], 0, [], [], 0, [], [], [], [(7, [(7, 0)]), (272, [(272, 0)])], true, 0, []⟩
def p6_s : Sy := ⟨1, [(0, [((-2147483648), 2147483647)])], [], []⟩
def p6_x : Gx := mkX p6_fi p6_ai p6_ct
theorem p6_ok : chkPair p6_x false 100000 21 310 p6_c p6_c [.r 0, .i 0 0] [.r 110, .i 0 0] p6_s = true := by decide +kernel
theorem p6_rt : (p6_ct.all fun r c => chkRoot p6_x 100000 r c) = true := by decide +kernel
theorem p6_me : meOk p6_s = true := by decide +kernel
theorem p6_st : startOk p6_fi p6_ai = true := by decide +kernel
theorem p6_yh : Yf 21 = Y_H_back := rfl
theorem p6_ym : Yf 310 = Y_M_back := rfl
theorem P_6 {E : xV} : LC_6 E σ00 (fun _ => True) := by
  intro x0
  have ho : Ok (Jd (mkG p6_fi p6_ai)) p6_s [x0.toInt] σ00 := ok_start p6_st p6_me rfl (fun e he => by
    rcases List.mem_cons.mp he with rfl | he
    · exact ⟨_, rfl, in32 x0⟩
    cases he)
  have h := pairI (E := E) (Y := Yf) (G := p6_x) (G_ok _ _ _) Jd_ok (all_ok (G_ok _ _ _) Jd_ok (fun r c h => (BT.all_P p6_rt).at h)) rfl rfl p6_ok ho (av1 := [.ref 0, .int x0]) (av2 := [.ref 110, .int x0]) (⟨rfl, ⟨x0, rfl, evi rfl⟩, trivial⟩) (⟨rfl, ⟨x0, rfl, evi rfl⟩, trivial⟩)
  rw [p6_yh, p6_ym] at h
  exact h
def p7_fi : BT Dom := [(5120, [(5120, [(0, 0)])]), (112646, [(112646, [(0, 0)])])]
def p7_ai : BT Dom := []
def p7_ct : BT Ct := []
def p7_c : Ct := ⟨[], 0, [], [], 0, [], [], [], [(10, [(10, 0)]), (272, [(272, 0)]), (302, [(302, 0)])], true, 0, []⟩
def p7_s : Sy := ⟨4, [(0, [((-2147483648), 2147483647)]), (1, [((-2147483648), 2147483647)]), (2, [((-2147483648), 2147483647)]), (3, [((-2147483648), 2147483647)])], [], []⟩
def p7_x : Gx := mkX p7_fi p7_ai p7_ct
theorem p7_ok : chkPair p7_x false 100000 23 311 p7_c p7_c [.r 0, .i 0 0, .i 1 0, .i 2 0, .i 3 0] [.r 110, .i 0 0, .i 1 0, .i 2 0, .i 3 0] p7_s = true := by decide +kernel
theorem p7_rt : (p7_ct.all fun r c => chkRoot p7_x 100000 r c) = true := by decide +kernel
theorem p7_me : meOk p7_s = true := by decide +kernel
theorem p7_st : startOk p7_fi p7_ai = true := by decide +kernel
theorem p7_yh : Yf 23 = Y_H_belongs := rfl
theorem p7_ym : Yf 311 = Y_M_belongs := rfl
theorem P_7 {E : xV} : LC_7 E σ00 (fun _ => True) := by
  intro x0 x1 x2 x3
  have ho : Ok (Jd (mkG p7_fi p7_ai)) p7_s [x0.toInt, x1.toInt, x2.toInt, x3.toInt] σ00 := ok_start p7_st p7_me rfl (fun e he => by
    rcases List.mem_cons.mp he with rfl | he
    · exact ⟨_, rfl, in32 x0⟩
    rcases List.mem_cons.mp he with rfl | he
    · exact ⟨_, rfl, in32 x1⟩
    rcases List.mem_cons.mp he with rfl | he
    · exact ⟨_, rfl, in32 x2⟩
    rcases List.mem_cons.mp he with rfl | he
    · exact ⟨_, rfl, in32 x3⟩
    cases he)
  have h := pairI (E := E) (Y := Yf) (G := p7_x) (G_ok _ _ _) Jd_ok (all_ok (G_ok _ _ _) Jd_ok (fun r c h => (BT.all_P p7_rt).at h)) rfl rfl p7_ok ho (av1 := [.ref 0, .int x0, .int x1, .int x2, .int x3]) (av2 := [.ref 110, .int x0, .int x1, .int x2, .int x3]) (⟨rfl, ⟨x0, rfl, evi rfl⟩, ⟨x1, rfl, evi rfl⟩, ⟨x2, rfl, evi rfl⟩, ⟨x3, rfl, evi rfl⟩, trivial⟩) (⟨rfl, ⟨x0, rfl, evi rfl⟩, ⟨x1, rfl, evi rfl⟩, ⟨x2, rfl, evi rfl⟩, ⟨x3, rfl, evi rfl⟩, trivial⟩)
  rw [p7_yh, p7_ym] at h
  exact h
def p8_fi : BT Dom := [(5122, [(5122, [(0, 0)])]), (112648, [(112648, [(0, 0)])])]
def p8_ai : BT Dom := []
def p8_ct : BT Ct := []
def p8_c : Ct := ⟨[], 0, [], [], 0, [], [], [], [(7, [(7, 0)]), (272, [(272, 0)])], true, 0, []⟩
def p8_s : Sy := ⟨2, [(0, [((-2147483648), 2147483647)]), (1, [((-2147483648), 2147483647)])], [], []⟩
def p8_x : Gx := mkX p8_fi p8_ai p8_ct
theorem p8_ok : chkPair p8_x false 100000 24 312 p8_c p8_c [.r 0, .i 0 0, .i 1 0] [.r 110, .i 0 0, .i 1 0] p8_s = true := by decide +kernel
theorem p8_rt : (p8_ct.all fun r c => chkRoot p8_x 100000 r c) = true := by decide +kernel
theorem p8_me : meOk p8_s = true := by decide +kernel
theorem p8_st : startOk p8_fi p8_ai = true := by decide +kernel
theorem p8_yh : Yf 24 = Y_H_rowOf := rfl
theorem p8_ym : Yf 312 = Y_M_rowOf := rfl
theorem P_8 {E : xV} : LC_8 E σ00 (fun _ => True) := by
  intro x0 x1
  have ho : Ok (Jd (mkG p8_fi p8_ai)) p8_s [x0.toInt, x1.toInt] σ00 := ok_start p8_st p8_me rfl (fun e he => by
    rcases List.mem_cons.mp he with rfl | he
    · exact ⟨_, rfl, in32 x0⟩
    rcases List.mem_cons.mp he with rfl | he
    · exact ⟨_, rfl, in32 x1⟩
    cases he)
  have h := pairI (E := E) (Y := Yf) (G := p8_x) (G_ok _ _ _) Jd_ok (all_ok (G_ok _ _ _) Jd_ok (fun r c h => (BT.all_P p8_rt).at h)) rfl rfl p8_ok ho (av1 := [.ref 0, .int x0, .int x1]) (av2 := [.ref 110, .int x0, .int x1]) (⟨rfl, ⟨x0, rfl, evi rfl⟩, ⟨x1, rfl, evi rfl⟩, trivial⟩) (⟨rfl, ⟨x0, rfl, evi rfl⟩, ⟨x1, rfl, evi rfl⟩, trivial⟩)
  rw [p8_yh, p8_ym] at h
  exact h
def p9_fi : BT Dom := [(10240, [(5120, [(0, 0)]), (10240, [(1, 1)])]), (112660, [(112646, [(0, 0)]), (112660, [(1, 1)])])]
def p9_ai : BT Dom := [(8, [(7, [(0, 3)]), (8, [(0, 20)])]), (121, [(14, [(0, 0)]), (121, [(0, 3)])]), (128, [(122, [(0, 20)]), (128, [(0, 0)])])]
def p9_ct : BT Ct := []
def p9_c : Ct := ⟨[], 0, [], [], 0, [], [], [], [(26, [(7, 0), (10, 0), (26, 0)]), (29, [(27, 0), (28, 0), (29, 0)]), (313, [(272, 0), (302, 0), (313, 0)]), (314, [(314, 0)])], true, 0, []⟩
def p9_s : Sy := ⟨4, [(0, [((-2147483648), 2147483647)]), (1, [((-2147483648), 2147483647)]), (2, [((-2147483648), 2147483647)]), (3, [((-2147483648), 2147483647)])], [], [(7, (480, .c 0)), (8, (480, .c 0)), (121, (480, .c 0)), (122, (480, .c 0))]⟩
def p9_x : Gx := mkX p9_fi p9_ai p9_ct
theorem p9_ok : chkPair p9_x false 100000 30 315 p9_c p9_c [.r 0, .i 0 0, .i 1 0, .i 2 0, .i 3 0] [.r 110, .i 0 0, .i 1 0, .i 2 0, .i 3 0] p9_s = true := by decide +kernel
theorem p9_rt : (p9_ct.all fun r c => chkRoot p9_x 100000 r c) = true := by decide +kernel
theorem p9_me : meOk p9_s = true := by decide +kernel
theorem p9_st : startOk p9_fi p9_ai = true := by decide +kernel
theorem p9_yh : Yf 30 = Y_H_feature := rfl
theorem p9_ym : Yf 315 = Y_M_feature := rfl
theorem P_9 {E : xV} : LC_9 E σ00 (fun _ => True) := by
  intro x0 x1 x2 x3
  have ho : Ok (Jd (mkG p9_fi p9_ai)) p9_s [x0.toInt, x1.toInt, x2.toInt, x3.toInt] σ00 := ok_start p9_st p9_me rfl (fun e he => by
    rcases List.mem_cons.mp he with rfl | he
    · exact ⟨_, rfl, in32 x0⟩
    rcases List.mem_cons.mp he with rfl | he
    · exact ⟨_, rfl, in32 x1⟩
    rcases List.mem_cons.mp he with rfl | he
    · exact ⟨_, rfl, in32 x2⟩
    rcases List.mem_cons.mp he with rfl | he
    · exact ⟨_, rfl, in32 x3⟩
    cases he)
  have h := pairI (E := E) (Y := Yf) (G := p9_x) (G_ok _ _ _) Jd_ok (all_ok (G_ok _ _ _) Jd_ok (fun r c h => (BT.all_P p9_rt).at h)) rfl rfl p9_ok ho (av1 := [.ref 0, .int x0, .int x1, .int x2, .int x3]) (av2 := [.ref 110, .int x0, .int x1, .int x2, .int x3]) (⟨rfl, ⟨x0, rfl, evi rfl⟩, ⟨x1, rfl, evi rfl⟩, ⟨x2, rfl, evi rfl⟩, ⟨x3, rfl, evi rfl⟩, trivial⟩) (⟨rfl, ⟨x0, rfl, evi rfl⟩, ⟨x1, rfl, evi rfl⟩, ⟨x2, rfl, evi rfl⟩, ⟨x3, rfl, evi rfl⟩, trivial⟩)
  rw [p9_yh, p9_ym] at h
  exact h
def p10_fi : BT Dom := [(10240, [(5120, [(0, 0)]), (10240, [(1, 1)])]), (112660, [(112646, [(0, 0)]), (112660, [(1, 1)])])]
def p10_ai : BT Dom := [(14, [(7, [(0, 0)]), (14, [(0, 0)])]), (128, [(121, [(0, 0)]), (128, [(0, 0)])])]
def p10_ct : BT Ct := []
def p10_c : Ct := ⟨[], 0, [], [], 0, [], [], [], [(26, [(7, 0), (10, 0), (26, 0)]), (272, [(27, 0), (28, 0), (272, 0)]), (314, [(302, 0), (313, 0), (314, 0)])], true, 0, []⟩
def p10_s : Sy := ⟨4, [(0, [((-2147483648), 2147483647)]), (1, [((-2147483648), 2147483647)]), (2, [((-2147483648), 2147483647)]), (3, [((-9223372036854775808), 9223372036854775807)])], [], []⟩
def p10_x : Gx := mkX p10_fi p10_ai p10_ct
theorem p10_ok : chkPair p10_x false 100000 33 316 p10_c p10_c [.r 0, .i 0 0, .i 1 0, .i 2 0, .l 3 0] [.r 110, .i 0 0, .i 1 0, .i 2 0, .l 3 0] p10_s = true := by decide +kernel
theorem p10_rt : (p10_ct.all fun r c => chkRoot p10_x 100000 r c) = true := by decide +kernel
theorem p10_me : meOk p10_s = true := by decide +kernel
theorem p10_st : startOk p10_fi p10_ai = true := by decide +kernel
theorem p10_yh : Yf 33 = Y_H_item := rfl
theorem p10_ym : Yf 316 = Y_M_item := rfl
theorem P_10 {E : xV} : LC_10 E σ00 (fun _ => True) := by
  intro x0 x1 x2 x3
  have ho : Ok (Jd (mkG p10_fi p10_ai)) p10_s [x0.toInt, x1.toInt, x2.toInt, x3.toInt] σ00 := ok_start p10_st p10_me rfl (fun e he => by
    rcases List.mem_cons.mp he with rfl | he
    · exact ⟨_, rfl, in32 x0⟩
    rcases List.mem_cons.mp he with rfl | he
    · exact ⟨_, rfl, in32 x1⟩
    rcases List.mem_cons.mp he with rfl | he
    · exact ⟨_, rfl, in32 x2⟩
    rcases List.mem_cons.mp he with rfl | he
    · exact ⟨_, rfl, in64 x3⟩
    cases he)
  have h := pairI (E := E) (Y := Yf) (G := p10_x) (G_ok _ _ _) Jd_ok (all_ok (G_ok _ _ _) Jd_ok (fun r c h => (BT.all_P p10_rt).at h)) rfl rfl p10_ok ho (av1 := [.ref 0, .int x0, .int x1, .int x2, .long x3]) (av2 := [.ref 110, .int x0, .int x1, .int x2, .long x3]) (⟨rfl, ⟨x0, rfl, evi rfl⟩, ⟨x1, rfl, evi rfl⟩, ⟨x2, rfl, evi rfl⟩, ⟨x3, rfl, evl rfl⟩, trivial⟩) (⟨rfl, ⟨x0, rfl, evi rfl⟩, ⟨x1, rfl, evi rfl⟩, ⟨x2, rfl, evi rfl⟩, ⟨x3, rfl, evl rfl⟩, trivial⟩)
  rw [p10_yh, p10_ym] at h
  exact h
def p11_fi : BT Dom := [(10240, [(5120, [(0, 0)]), (10240, [(1, 1)])]), (112660, [(112646, [(0, 0)]), (112660, [(1, 1)])])]
def p11_ai : BT Dom := [(14, [(7, [(0, 0)]), (14, [(0, 0)])]), (128, [(121, [(0, 0)]), (128, [(0, 0)])])]
def p11_ct : BT Ct := []
def p11_c : Ct := ⟨[], 0, [], [], 0, [], [], [], [(26, [(7, 0), (10, 0), (26, 0)]), (272, [(27, 0), (28, 0), (272, 0)]), (314, [(302, 0), (313, 0), (314, 0)])], true, 0, []⟩
def p11_s : Sy := ⟨4, [(0, [((-2147483648), 2147483647)]), (1, [((-2147483648), 2147483647)]), (2, [((-2147483648), 2147483647)]), (3, [((-2147483648), 2147483647)])], [], []⟩
def p11_x : Gx := mkX p11_fi p11_ai p11_ct
theorem p11_ok : chkPair p11_x true 100000 34 317 p11_c p11_c [.r 0, .i 0 0, .i 1 0, .i 2 0, .i 3 0] [.r 110, .i 0 0, .i 1 0, .i 2 0, .i 3 0] p11_s = true := by decide +kernel
theorem p11_rt : (p11_ct.all fun r c => chkRoot p11_x 100000 r c) = true := by decide +kernel
theorem p11_me : meOk p11_s = true := by decide +kernel
theorem p11_st : startOk p11_fi p11_ai = true := by decide +kernel
theorem p11_yh : Yf 34 = Y_H_itemOf := rfl
theorem p11_ym : Yf 317 = Y_M_itemOf := rfl
theorem P_11 {E : xV} : LC_11 E σ00 (fun _ => True) := by
  intro x0 x1 x2 x3
  have ho : Ok (Jd (mkG p11_fi p11_ai)) p11_s [x0.toInt, x1.toInt, x2.toInt, x3.toInt] σ00 := ok_start p11_st p11_me rfl (fun e he => by
    rcases List.mem_cons.mp he with rfl | he
    · exact ⟨_, rfl, in32 x0⟩
    rcases List.mem_cons.mp he with rfl | he
    · exact ⟨_, rfl, in32 x1⟩
    rcases List.mem_cons.mp he with rfl | he
    · exact ⟨_, rfl, in32 x2⟩
    rcases List.mem_cons.mp he with rfl | he
    · exact ⟨_, rfl, in32 x3⟩
    cases he)
  have h := pairJ (E := E) (Y := Yf) (G := p11_x) (G_ok _ _ _) Jd_ok (all_ok (G_ok _ _ _) Jd_ok (fun r c h => (BT.all_P p11_rt).at h)) rfl rfl p11_ok ho (av1 := [.ref 0, .int x0, .int x1, .int x2, .int x3]) (av2 := [.ref 110, .int x0, .int x1, .int x2, .int x3]) (⟨rfl, ⟨x0, rfl, evi rfl⟩, ⟨x1, rfl, evi rfl⟩, ⟨x2, rfl, evi rfl⟩, ⟨x3, rfl, evi rfl⟩, trivial⟩) (⟨rfl, ⟨x0, rfl, evi rfl⟩, ⟨x1, rfl, evi rfl⟩, ⟨x2, rfl, evi rfl⟩, ⟨x3, rfl, evi rfl⟩, trivial⟩)
  rw [p11_yh, p11_ym] at h
  exact h
