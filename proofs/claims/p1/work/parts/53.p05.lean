def p50_fi : BT Dom := [(5120, [(5120, [(0, 0)])]), (112646, [(112646, [(0, 0)])]), (112666, [(112666, [(0, 1)])])]
def p50_ai : BT Dom := [(125, [(125, [((-4), (-4)), (0, 0)])]), (126, [(126, [((-4), (-4)), (0, 0)])]), (129, [(129, [(0, 1)])])]
def p50_ct : BT Ct := []
def p50_c : Ct := ⟨[], 0, [], [], 0, [], [], [], [(101, [(10, 0), (101, 0)]), (302, [(272, 0), (302, 0)]), (319, [(319, 0)])], true, 0, []⟩
def p50_s : Sy := ⟨7, [(0, [((-2147483648), 2147483647)]), (1, [((-2147483648), 2147483647)]), (2, [((-2147483648), 2147483647)]), (3, [((-2147483648), 2147483647)]), (4, [((-2147483648), 2147483647)]), (5, [((-2147483648), 2147483647)]), (6, [((-2147483648), 2147483647)])], [(110, (.c 26, .c 0))], [(125, (40, .c 0)), (126, (40, .c 0)), (129, (36, .c 0))]⟩
def p50_x : Gx := mkX p50_fi p50_ai p50_ct
theorem p50_ok : chkPair p50_x false 100000 188 420 p50_c p50_c [.r 0, .i 0 0, .i 1 0, .i 2 0, .i 3 0, .i 4 0, .i 5 0, .i 6 0] [.r 110, .i 0 0, .i 1 0, .i 2 0, .i 3 0, .i 4 0, .i 5 0, .i 6 0] p50_s = true := by decide +kernel
theorem p50_rt : (p50_ct.all fun r c => chkRoot p50_x 100000 r c) = true := by decide +kernel
theorem p50_me : meOk p50_s = true := by decide +kernel
theorem p50_st : startOk p50_fi p50_ai = true := by decide +kernel
theorem p50_yh : Yf 188 = Y_H_lend := rfl
theorem p50_ym : Yf 420 = Y_M_lend := rfl
theorem P_50 {E : xV} : LC_50 E σ00 (fun _ => True) := by
  intro x0 x1 x2 x3 x4 x5 x6
  have ho : Ok (Jd (mkG p50_fi p50_ai)) p50_s [x0.toInt, x1.toInt, x2.toInt, x3.toInt, x4.toInt, x5.toInt, x6.toInt] σ00 := ok_start p50_st p50_me rfl (fun e he => by
    rcases List.mem_cons.mp he with rfl | he
    · exact ⟨_, rfl, in32 x0⟩
    rcases List.mem_cons.mp he with rfl | he
    · exact ⟨_, rfl, in32 x1⟩
    rcases List.mem_cons.mp he with rfl | he
    · exact ⟨_, rfl, in32 x2⟩
    rcases List.mem_cons.mp he with rfl | he
    · exact ⟨_, rfl, in32 x3⟩
    rcases List.mem_cons.mp he with rfl | he
    · exact ⟨_, rfl, in32 x4⟩
    rcases List.mem_cons.mp he with rfl | he
    · exact ⟨_, rfl, in32 x5⟩
    rcases List.mem_cons.mp he with rfl | he
    · exact ⟨_, rfl, in32 x6⟩
    cases he)
  have h := pairI (E := E) (Y := Yf) (G := p50_x) (G_ok _ _ _) Jd_ok (all_ok (G_ok _ _ _) Jd_ok (fun r c h => (BT.all_P p50_rt).at h)) rfl rfl p50_ok ho (av1 := [.ref 0, .int x0, .int x1, .int x2, .int x3, .int x4, .int x5, .int x6]) (av2 := [.ref 110, .int x0, .int x1, .int x2, .int x3, .int x4, .int x5, .int x6]) (⟨rfl, ⟨x0, rfl, evi rfl⟩, ⟨x1, rfl, evi rfl⟩, ⟨x2, rfl, evi rfl⟩, ⟨x3, rfl, evi rfl⟩, ⟨x4, rfl, evi rfl⟩, ⟨x5, rfl, evi rfl⟩, ⟨x6, rfl, evi rfl⟩, trivial⟩) (⟨rfl, ⟨x0, rfl, evi rfl⟩, ⟨x1, rfl, evi rfl⟩, ⟨x2, rfl, evi rfl⟩, ⟨x3, rfl, evi rfl⟩, ⟨x4, rfl, evi rfl⟩, ⟨x5, rfl, evi rfl⟩, ⟨x6, rfl, evi rfl⟩, trivial⟩)
  rw [p50_yh, p50_ym] at h
  exact h
def p51_fi : BT Dom := [(53249, [(53249, [(0, 0)])]), (112736, [(112736, [(0, 0)])])]
def p51_ai : BT Dom := []
def p51_ct : BT Ct := []
def p51_c : Ct := ⟨[], 0, [], [], 0, [], [], [], [(7, [(7, 0)]), (272, [(272, 0)])], true, 0, []⟩
def p51_s : Sy := ⟨2, [(0, [((-2147483648), 2147483647)]), (1, [((-2147483648), 2147483647)])], [], []⟩
def p51_x : Gx := mkX p51_fi p51_ai p51_ct
theorem p51_ok : chkPair p51_x false 100000 189 421 p51_c p51_c [.r 0, .i 0 0, .i 1 0] [.r 110, .i 0 0, .i 1 0] p51_s = true := by decide +kernel
theorem p51_rt : (p51_ct.all fun r c => chkRoot p51_x 100000 r c) = true := by decide +kernel
theorem p51_me : meOk p51_s = true := by decide +kernel
theorem p51_st : startOk p51_fi p51_ai = true := by decide +kernel
theorem p51_yh : Yf 189 = Y_H_endLend := rfl
theorem p51_ym : Yf 421 = Y_M_endLend := rfl
theorem P_51 {E : xV} : LC_51 E σ00 (fun _ => True) := by
  intro x0 x1
  have ho : Ok (Jd (mkG p51_fi p51_ai)) p51_s [x0.toInt, x1.toInt] σ00 := ok_start p51_st p51_me rfl (fun e he => by
    rcases List.mem_cons.mp he with rfl | he
    · exact ⟨_, rfl, in32 x0⟩
    rcases List.mem_cons.mp he with rfl | he
    · exact ⟨_, rfl, in32 x1⟩
    cases he)
  have h := pairI (E := E) (Y := Yf) (G := p51_x) (G_ok _ _ _) Jd_ok (all_ok (G_ok _ _ _) Jd_ok (fun r c h => (BT.all_P p51_rt).at h)) rfl rfl p51_ok ho (av1 := [.ref 0, .int x0, .int x1]) (av2 := [.ref 110, .int x0, .int x1]) (⟨rfl, ⟨x0, rfl, evi rfl⟩, ⟨x1, rfl, evi rfl⟩, trivial⟩) (⟨rfl, ⟨x0, rfl, evi rfl⟩, ⟨x1, rfl, evi rfl⟩, trivial⟩)
  rw [p51_yh, p51_ym] at h
  exact h
def p52_fi : BT Dom := [(5120, [(5120, [(0, 0)])]), (112646, [(112646, [(0, 0)])]), (112666, [(112666, [(0, 1)])])]
def p52_ai : BT Dom := [(125, [(125, [((-4), (-4)), (0, 0)])]), (126, [(126, [((-4), (-4)), (0, 0)])]), (129, [(129, [(0, 1)])])]
def p52_ct : BT Ct := []
def p52_c : Ct := ⟨[], 0, [], [], 0, [], [], [], [(101, [(10, 0), (101, 0)]), (302, [(272, 0), (302, 0)]), (319, [(319, 0)])], true, 0, []⟩
def p52_s : Sy := ⟨4, [(0, [((-2147483648), 2147483647)]), (1, [((-2147483648), 2147483647)]), (2, [((-2147483648), 2147483647)]), (3, [((-2147483648), 2147483647)])], [(110, (.c 26, .c 0))], [(125, (40, .c 0)), (126, (40, .c 0)), (129, (36, .c 0))]⟩
def p52_x : Gx := mkX p52_fi p52_ai p52_ct
theorem p52_ok : chkPair p52_x false 100000 191 422 p52_c p52_c [.r 0, .i 0 0, .i 1 0, .i 2 0, .i 3 0] [.r 110, .i 0 0, .i 1 0, .i 2 0, .i 3 0] p52_s = true := by decide +kernel
theorem p52_rt : (p52_ct.all fun r c => chkRoot p52_x 100000 r c) = true := by decide +kernel
theorem p52_me : meOk p52_s = true := by decide +kernel
theorem p52_st : startOk p52_fi p52_ai = true := by decide +kernel
theorem p52_yh : Yf 191 = Y_H_stands := rfl
theorem p52_ym : Yf 422 = Y_M_stands := rfl
theorem P_52 {E : xV} : LC_52 E σ00 (fun _ => True) := by
  intro x0 x1 x2 x3
  have ho : Ok (Jd (mkG p52_fi p52_ai)) p52_s [x0.toInt, x1.toInt, x2.toInt, x3.toInt] σ00 := ok_start p52_st p52_me rfl (fun e he => by
    rcases List.mem_cons.mp he with rfl | he
    · exact ⟨_, rfl, in32 x0⟩
    rcases List.mem_cons.mp he with rfl | he
    · exact ⟨_, rfl, in32 x1⟩
    rcases List.mem_cons.mp he with rfl | he
    · exact ⟨_, rfl, in32 x2⟩
    rcases List.mem_cons.mp he with rfl | he
    · exact ⟨_, rfl, in32 x3⟩
    cases he)
  have h := pairI (E := E) (Y := Yf) (G := p52_x) (G_ok _ _ _) Jd_ok (all_ok (G_ok _ _ _) Jd_ok (fun r c h => (BT.all_P p52_rt).at h)) rfl rfl p52_ok ho (av1 := [.ref 0, .int x0, .int x1, .int x2, .int x3]) (av2 := [.ref 110, .int x0, .int x1, .int x2, .int x3]) (⟨rfl, ⟨x0, rfl, evi rfl⟩, ⟨x1, rfl, evi rfl⟩, ⟨x2, rfl, evi rfl⟩, ⟨x3, rfl, evi rfl⟩, trivial⟩) (⟨rfl, ⟨x0, rfl, evi rfl⟩, ⟨x1, rfl, evi rfl⟩, ⟨x2, rfl, evi rfl⟩, ⟨x3, rfl, evi rfl⟩, trivial⟩)
  rw [p52_yh, p52_ym] at h
  exact h
def p53_fi : BT Dom := [(53253, [(53253, [(0, 0)])]), (112749, [(112749, [(0, 0)])])]
def p53_ai : BT Dom := []
def p53_ct : BT Ct := []
def p53_c : Ct := ⟨[], 0, [], [], 0, [], [], [], [(7, [(7, 0)]), (272, [(272, 0)])], true, 0, []⟩
def p53_s : Sy := ⟨1, [(0, [((-2147483648), 2147483647)])], [], []⟩
def p53_x : Gx := mkX p53_fi p53_ai p53_ct
theorem p53_ok : chkPair p53_x false 100000 192 423 p53_c p53_c [.r 0, .i 0 0] [.r 110, .i 0 0] p53_s = true := by decide +kernel
theorem p53_rt : (p53_ct.all fun r c => chkRoot p53_x 100000 r c) = true := by decide +kernel
theorem p53_me : meOk p53_s = true := by decide +kernel
theorem p53_st : startOk p53_fi p53_ai = true := by decide +kernel
theorem p53_yh : Yf 192 = Y_H_chain := rfl
theorem p53_ym : Yf 423 = Y_M_chain := rfl
theorem P_53 {E : xV} : LC_53 E σ00 (fun _ => True) := by
  intro x0
  have ho : Ok (Jd (mkG p53_fi p53_ai)) p53_s [x0.toInt] σ00 := ok_start p53_st p53_me rfl (fun e he => by
    rcases List.mem_cons.mp he with rfl | he
    · exact ⟨_, rfl, in32 x0⟩
    cases he)
  have h := pairI (E := E) (Y := Yf) (G := p53_x) (G_ok _ _ _) Jd_ok (all_ok (G_ok _ _ _) Jd_ok (fun r c h => (BT.all_P p53_rt).at h)) rfl rfl p53_ok ho (av1 := [.ref 0, .int x0]) (av2 := [.ref 110, .int x0]) (⟨rfl, ⟨x0, rfl, evi rfl⟩, trivial⟩) (⟨rfl, ⟨x0, rfl, evi rfl⟩, trivial⟩)
  rw [p53_yh, p53_ym] at h
  exact h
def p54_fi : BT Dom := [(5120, [(5120, [(0, 0)])]), (112646, [(112646, [(0, 0)])]), (112666, [(112666, [(0, 1)])])]
def p54_ai : BT Dom := [(125, [(125, [((-4), (-4)), (0, 0)])]), (126, [(126, [((-4), (-4)), (0, 0)])]), (129, [(129, [(0, 1)])])]
def p54_ct : BT Ct := []
def p54_c : Ct := ⟨[], 0, [], [], 0, [], [], [], [(101, [(10, 0), (101, 0)]), (302, [(272, 0), (302, 0)]), (319, [(319, 0)])], true, 0, []⟩
def p54_s : Sy := ⟨3, [(0, [((-2147483648), 2147483647)]), (1, [((-2147483648), 2147483647)]), (2, [((-2147483648), 2147483647)])], [(110, (.c 26, .c 0))], [(125, (40, .c 0)), (126, (40, .c 0)), (129, (36, .c 0))]⟩
def p54_x : Gx := mkX p54_fi p54_ai p54_ct
theorem p54_ok : chkPair p54_x false 100000 194 424 p54_c p54_c [.r 0, .i 0 0, .i 1 0, .i 2 0] [.r 110, .i 0 0, .i 1 0, .i 2 0] p54_s = true := by decide +kernel
theorem p54_rt : (p54_ct.all fun r c => chkRoot p54_x 100000 r c) = true := by decide +kernel
theorem p54_me : meOk p54_s = true := by decide +kernel
theorem p54_st : startOk p54_fi p54_ai = true := by decide +kernel
theorem p54_yh : Yf 194 = Y_H_useRight := rfl
theorem p54_ym : Yf 424 = Y_M_useRight := rfl
theorem P_54 {E : xV} : LC_54 E σ00 (fun _ => True) := by
  intro x0 x1 x2
  have ho : Ok (Jd (mkG p54_fi p54_ai)) p54_s [x0.toInt, x1.toInt, x2.toInt] σ00 := ok_start p54_st p54_me rfl (fun e he => by
    rcases List.mem_cons.mp he with rfl | he
    · exact ⟨_, rfl, in32 x0⟩
    rcases List.mem_cons.mp he with rfl | he
    · exact ⟨_, rfl, in32 x1⟩
    rcases List.mem_cons.mp he with rfl | he
    · exact ⟨_, rfl, in32 x2⟩
    cases he)
  have h := pairI (E := E) (Y := Yf) (G := p54_x) (G_ok _ _ _) Jd_ok (all_ok (G_ok _ _ _) Jd_ok (fun r c h => (BT.all_P p54_rt).at h)) rfl rfl p54_ok ho (av1 := [.ref 0, .int x0, .int x1, .int x2]) (av2 := [.ref 110, .int x0, .int x1, .int x2]) (⟨rfl, ⟨x0, rfl, evi rfl⟩, ⟨x1, rfl, evi rfl⟩, ⟨x2, rfl, evi rfl⟩, trivial⟩) (⟨rfl, ⟨x0, rfl, evi rfl⟩, ⟨x1, rfl, evi rfl⟩, ⟨x2, rfl, evi rfl⟩, trivial⟩)
  rw [p54_yh, p54_ym] at h
  exact h
def p55_fi : BT Dom := [(53249, [(53249, [(0, 0)])]), (112736, [(112736, [(0, 0)])])]
def p55_ai : BT Dom := []
def p55_ct : BT Ct := []
def p55_c : Ct := ⟨[], 0, [], [], 0, [], [], [], [(7, [(7, 0)]), (272, [(272, 0)])], true, 0, []⟩
def p55_s : Sy := ⟨2, [(0, [((-2147483648), 2147483647)]), (1, [((-2147483648), 2147483647)])], [], []⟩
def p55_x : Gx := mkX p55_fi p55_ai p55_ct
theorem p55_ok : chkPair p55_x false 100000 195 425 p55_c p55_c [.r 0, .i 0 0, .i 1 0] [.r 110, .i 0 0, .i 1 0] p55_s = true := by decide +kernel
theorem p55_rt : (p55_ct.all fun r c => chkRoot p55_x 100000 r c) = true := by decide +kernel
theorem p55_me : meOk p55_s = true := by decide +kernel
theorem p55_st : startOk p55_fi p55_ai = true := by decide +kernel
theorem p55_yh : Yf 195 = Y_H_lendOf := rfl
theorem p55_ym : Yf 425 = Y_M_lendOf := rfl
theorem P_55 {E : xV} : LC_55 E σ00 (fun _ => True) := by
  intro x0 x1
  have ho : Ok (Jd (mkG p55_fi p55_ai)) p55_s [x0.toInt, x1.toInt] σ00 := ok_start p55_st p55_me rfl (fun e he => by
    rcases List.mem_cons.mp he with rfl | he
    · exact ⟨_, rfl, in32 x0⟩
    rcases List.mem_cons.mp he with rfl | he
    · exact ⟨_, rfl, in32 x1⟩
    cases he)
  have h := pairI (E := E) (Y := Yf) (G := p55_x) (G_ok _ _ _) Jd_ok (all_ok (G_ok _ _ _) Jd_ok (fun r c h => (BT.all_P p55_rt).at h)) rfl rfl p55_ok ho (av1 := [.ref 0, .int x0, .int x1]) (av2 := [.ref 110, .int x0, .int x1]) (⟨rfl, ⟨x0, rfl, evi rfl⟩, ⟨x1, rfl, evi rfl⟩, trivial⟩) (⟨rfl, ⟨x0, rfl, evi rfl⟩, ⟨x1, rfl, evi rfl⟩, trivial⟩)
  rw [p55_yh, p55_ym] at h
  exact h
def p56_fi : BT Dom := [(53258, [(53258, [(0, 0)])])]
def p56_ai : BT Dom := [(56, [(56, [(0, 15)])]), (182, [(182, [(0, 15)])])]
def p56_ct : BT Ct := []
def p56_c : Ct := ⟨[], 0, [], [], 0, [], [], [], [(196, [(196, 0)]), (197, [(197, 0)]), (272, [(272, 0)])], true, 0, [(12976144, [(12976144, ())])]⟩
def p56_s : Sy := ⟨3, [(0, [((-2147483648), 2147483647)]), (1, [((-2147483648), 2147483647)]), (2, [((-2147483648), 2147483647)])], [], [(56, (144, .c 0)), (182, (144, .c 0))]⟩
def p56_x : Gx := mkX p56_fi p56_ai p56_ct
theorem p56_ok : chkPair p56_x false 100000 198 428 p56_c p56_c [.r 0, .i 0 0, .i 1 0, .i 2 0] [.r 110, .i 0 0, .i 1 0, .i 2 0] p56_s = true := by decide +kernel
theorem p56_rt : (p56_ct.all fun r c => chkRoot p56_x 100000 r c) = true := by decide +kernel
theorem p56_me : meOk p56_s = true := by decide +kernel
theorem p56_st : startOk p56_fi p56_ai = true := by decide +kernel
theorem p56_yh : Yf 198 = Y_H_key := rfl
theorem p56_ym : Yf 428 = Y_M_key := rfl
theorem P_56 {E : xV} : LC_56 E σ00 (fun _ => True) := by
  intro x0 x1 x2
  have ho : Ok (Jd (mkG p56_fi p56_ai)) p56_s [x0.toInt, x1.toInt, x2.toInt] σ00 := ok_start p56_st p56_me rfl (fun e he => by
    rcases List.mem_cons.mp he with rfl | he
    · exact ⟨_, rfl, in32 x0⟩
    rcases List.mem_cons.mp he with rfl | he
    · exact ⟨_, rfl, in32 x1⟩
    rcases List.mem_cons.mp he with rfl | he
    · exact ⟨_, rfl, in32 x2⟩
    cases he)
  have h := pairI (E := E) (Y := Yf) (G := p56_x) (G_ok _ _ _) Jd_ok (all_ok (G_ok _ _ _) Jd_ok (fun r c h => (BT.all_P p56_rt).at h)) rfl rfl p56_ok ho (av1 := [.ref 0, .int x0, .int x1, .int x2]) (av2 := [.ref 110, .int x0, .int x1, .int x2]) (⟨rfl, ⟨x0, rfl, evi rfl⟩, ⟨x1, rfl, evi rfl⟩, ⟨x2, rfl, evi rfl⟩, trivial⟩) (⟨rfl, ⟨x0, rfl, evi rfl⟩, ⟨x1, rfl, evi rfl⟩, ⟨x2, rfl, evi rfl⟩, trivial⟩)
  rw [p56_yh, p56_ym] at h
  exact h
def p57_fi : BT Dom := [(53257, [(53257, [(0, 0)])]), (53258, [(53258, [(0, 1)])]), (112752, [(112752, [(0, 0)])])]
def p57_ai : BT Dom := [(57, [(56, [(0, 0)]), (57, [(0, 0)])]), (183, [(182, [(0, 0)]), (183, [(0, 0)])])]
def p57_ct : BT Ct := [(200, [(200, ⟨[.r 52], 0, [], [(52, (.c 10, .c 1))], 0, [], [], [(2, [(2, ⟨[(0, .r 52), (1, .i 0 0)], [], 1, [(0, [(0, 12)])], [(52, (.c 10, .c 1))], ([(0, (-366))], 4756)⟩)]), (10, [(10, ⟨[(0, .r 52), (1, .i 0 0), (2, .i 1 0)], [], 2, [(0, [(0, 11)]), (1, [(0, 12)])], [(52, (.c 10, .c 1))], ([(0, (-366)), (1, (-28))], 4754)⟩)]), (18, [(18, ⟨[(0, .r 52), (1, .i 0 0), (2, .i 1 0), (3, .i 2 0)], [], 3, [(0, [(0, 11)]), (1, [(0, 11)]), (2, [(0, 12)])], [(52, (.c 10, .c 1))], ([(0, (-366)), (1, (-28)), (2, (-2))], 4752)⟩)])], [(196, [(196, 0)]), (202, [(202, 0)]), (272, [(272, 0)])], false, 4759, []⟩)]), (201, [(201, ⟨[.r 52], 0, [], [], 1, [(0, 0)], [(53257, [(53257, ())]), (53258, [(53258, ())]), (59391, [(59391, ())])], [(24, [(24, ⟨[(0, .r 52), (1, .i 0 0)], [], 1, [(0, [(0, 2147483647)])], [(52, (.c 10, .c 1)), (52, (.c 9, .c 0))], ([(0, (-2))], 4294967295)⟩)]), (51, [(51, ⟨[(0, .r 52), (1, .c 0)], [], 0, [], [(52, (.c 10, .c 1)), (52, (.c 9, .c 0))], ([], 0)⟩)])], [(196, [(196, 0)]), (202, [(202, 0)]), (272, [(272, 0)])], false, 4294967298, []⟩)]), (427, [(427, ⟨[.r 110], 0, [], [], 0, [], [(112752, [(112752, ())]), (188415, [(188415, ())])], [(34, [(2, ⟨[(0, .r 110), (1, .i 0 0)], [], 1, [(0, [(0, 2147483647)])], [], ([(0, (-2))], 4294976814)⟩), (34, ⟨[(0, .r 110), (1, .i 0 0)], [], 1, [(0, [((-1), 0)])], [(110, (.c 112, .c 0))], ([(0, (-4760))], 0)⟩)]), (57, [(49, ⟨[(0, .r 110), (1, .c 0), (2, .i 0 0)], [], 1, [(0, [(0, 12)])], [(110, (.c 112, .c 0))], ([(0, (-366))], 4757)⟩), (57, ⟨[(0, .r 110), (1, .c 0), (2, .i 0 0), (3, .i 1 0)], [], 2, [(0, [(0, 11)]), (1, [(0, 12)])], [(110, (.c 112, .c 0))], ([(0, (-366)), (1, (-28))], 4755)⟩)]), (66, [(66, ⟨[(0, .r 110), (1, .c 0), (2, .i 0 0), (3, .i 1 0), (4, .i 2 0)], [], 3, [(0, [(0, 11)]), (1, [(0, 11)]), (2, [(0, 12)])], [(110, (.c 112, .c 0))], ([(0, (-366)), (1, (-28)), (2, (-2))], 4753)⟩)])], [(196, [(196, 0)]), (202, [(202, 0)]), (272, [(272, 0)])], false, 4294976817, []⟩)])]
def p57_c : Ct := ⟨[], 0, [], [], 0, [], [], [], [(196, [(196, 0)]), (202, [(202, 0)]), (272, [(272, 0)])], true, 0, []⟩
def p57_s : Sy := ⟨3, [(0, [((-2147483648), 2147483647)]), (1, [((-2147483648), 2147483647)]), (2, [((-2147483648), 2147483647)])], [(52, (.c 10, .c 0))], []⟩
def p57_x : Gx := mkX p57_fi p57_ai p57_ct
theorem p57_ok : chkPair p57_x false 100000 203 429 p57_c p57_c [.r 0, .i 0 0, .i 1 0, .i 2 0] [.r 110, .i 0 0, .i 1 0, .i 2 0] p57_s = true := by decide +kernel
theorem p57_rt : (p57_ct.all fun r c => chkRoot p57_x 100000 r c) = true := by decide +kernel
theorem p57_me : meOk p57_s = true := by decide +kernel
theorem p57_st : startOk p57_fi p57_ai = true := by decide +kernel
theorem p57_yh : Yf 203 = Y_H_ever := rfl
theorem p57_ym : Yf 429 = Y_M_ever := rfl
theorem P_57 {E : xV} : LC_57 E σ00 (fun _ => True) := by
  intro x0 x1 x2
  have ho : Ok (Jd (mkG p57_fi p57_ai)) p57_s [x0.toInt, x1.toInt, x2.toInt] σ00 := ok_start p57_st p57_me rfl (fun e he => by
    rcases List.mem_cons.mp he with rfl | he
    · exact ⟨_, rfl, in32 x0⟩
    rcases List.mem_cons.mp he with rfl | he
    · exact ⟨_, rfl, in32 x1⟩
    rcases List.mem_cons.mp he with rfl | he
    · exact ⟨_, rfl, in32 x2⟩
    cases he)
  have h := pairI (E := E) (Y := Yf) (G := p57_x) (G_ok _ _ _) Jd_ok (all_ok (G_ok _ _ _) Jd_ok (fun r c h => (BT.all_P p57_rt).at h)) rfl rfl p57_ok ho (av1 := [.ref 0, .int x0, .int x1, .int x2]) (av2 := [.ref 110, .int x0, .int x1, .int x2]) (⟨rfl, ⟨x0, rfl, evi rfl⟩, ⟨x1, rfl, evi rfl⟩, ⟨x2, rfl, evi rfl⟩, trivial⟩) (⟨rfl, ⟨x0, rfl, evi rfl⟩, ⟨x1, rfl, evi rfl⟩, ⟨x2, rfl, evi rfl⟩, trivial⟩)
  rw [p57_yh, p57_ym] at h
  exact h
def p58_fi : BT Dom := [(53257, [(53257, [(0, 0)])]), (53258, [(53258, [(0, 1)])]), (112752, [(112752, [(0, 0)])])]
def p58_ai : BT Dom := [(57, [(56, [(0, 0)]), (57, [(0, 0)])]), (183, [(182, [(0, 0)]), (183, [(0, 0)])])]
def p58_ct : BT Ct := [(200, [(200, ⟨[.r 52], 0, [], [(52, (.c 10, .c 1))], 0, [], [], [(2, [(2, ⟨[(0, .r 52), (1, .i 0 0)], [], 1, [(0, [(0, 12)])], [(52, (.c 10, .c 1))], ([(0, (-366))], 4756)⟩)]), (10, [(10, ⟨[(0, .r 52), (1, .i 0 0), (2, .i 1 0)], [], 2, [(0, [(0, 11)]), (1, [(0, 12)])], [(52, (.c 10, .c 1))], ([(0, (-366)), (1, (-28))], 4754)⟩)]), (18, [(18, ⟨[(0, .r 52), (1, .i 0 0), (2, .i 1 0), (3, .i 2 0)], [], 3, [(0, [(0, 11)]), (1, [(0, 11)]), (2, [(0, 12)])], [(52, (.c 10, .c 1))], ([(0, (-366)), (1, (-28)), (2, (-2))], 4752)⟩)])], [(7, [(7, 0)]), (272, [(272, 0)])], false, 4759, []⟩)]), (201, [(201, ⟨[.r 52], 0, [], [], 1, [(0, 0)], [(53257, [(53257, ())]), (53258, [(53258, ())]), (59391, [(59391, ())])], [(24, [(24, ⟨[(0, .r 52), (1, .i 0 0)], [], 1, [(0, [(0, 2147483647)])], [(52, (.c 10, .c 1)), (52, (.c 9, .c 0))], ([(0, (-2))], 4294967295)⟩)]), (51, [(51, ⟨[(0, .r 52), (1, .c 0)], [], 0, [], [(52, (.c 10, .c 1)), (52, (.c 9, .c 0))], ([], 0)⟩)])], [(7, [(7, 0)]), (272, [(272, 0)])], false, 4294967298, []⟩)]), (427, [(427, ⟨[.r 110], 0, [], [], 0, [], [(112752, [(112752, ())]), (188415, [(188415, ())])], [(34, [(2, ⟨[(0, .r 110), (1, .i 0 0)], [], 1, [(0, [(0, 2147483647)])], [], ([(0, (-2))], 4294976814)⟩), (34, ⟨[(0, .r 110), (1, .i 0 0)], [], 1, [(0, [((-1), 0)])], [(110, (.c 112, .c 0))], ([(0, (-4760))], 0)⟩)]), (57, [(49, ⟨[(0, .r 110), (1, .c 0), (2, .i 0 0)], [], 1, [(0, [(0, 12)])], [(110, (.c 112, .c 0))], ([(0, (-366))], 4757)⟩), (57, ⟨[(0, .r 110), (1, .c 0), (2, .i 0 0), (3, .i 1 0)], [], 2, [(0, [(0, 11)]), (1, [(0, 12)])], [(110, (.c 112, .c 0))], ([(0, (-366)), (1, (-28))], 4755)⟩)]), (66, [(66, ⟨[(0, .r 110), (1, .c 0), (2, .i 0 0), (3, .i 1 0), (4, .i 2 0)], [], 3, [(0, [(0, 11)]), (1, [(0, 11)]), (2, [(0, 12)])], [(110, (.c 112, .c 0))], ([(0, (-366)), (1, (-28)), (2, (-2))], 4753)⟩)])], [(7, [(7, 0)]), (272, [(272, 0)])], false, 4294976817, []⟩)])]
def p58_c : Ct := ⟨[], 0, [], [], 0, [], [], [], [(7, [(7, 0)]), (272, [(272, 0)])], true, 0, []⟩
def p58_s : Sy := ⟨2, [(0, [((-2147483648), 2147483647)]), (1, [((-2147483648), 2147483647)])], [(52, (.c 10, .c 0))], []⟩
def p58_x : Gx := mkX p58_fi p58_ai p58_ct
theorem p58_ok : chkPair p58_x false 100000 204 430 p58_c p58_c [.r 0, .i 0 0, .i 1 0] [.r 110, .i 0 0, .i 1 0] p58_s = true := by decide +kernel
theorem p58_rt : (p58_ct.all fun r c => chkRoot p58_x 100000 r c) = true := by decide +kernel
theorem p58_me : meOk p58_s = true := by decide +kernel
theorem p58_st : startOk p58_fi p58_ai = true := by decide +kernel
theorem p58_yh : Yf 204 = Y_H_gain := rfl
theorem p58_ym : Yf 430 = Y_M_gain := rfl
theorem P_58 {E : xV} : LC_58 E σ00 (fun _ => True) := by
  intro x0 x1
  have ho : Ok (Jd (mkG p58_fi p58_ai)) p58_s [x0.toInt, x1.toInt] σ00 := ok_start p58_st p58_me rfl (fun e he => by
    rcases List.mem_cons.mp he with rfl | he
    · exact ⟨_, rfl, in32 x0⟩
    rcases List.mem_cons.mp he with rfl | he
    · exact ⟨_, rfl, in32 x1⟩
    cases he)
  have h := pairI (E := E) (Y := Yf) (G := p58_x) (G_ok _ _ _) Jd_ok (all_ok (G_ok _ _ _) Jd_ok (fun r c h => (BT.all_P p58_rt).at h)) rfl rfl p58_ok ho (av1 := [.ref 0, .int x0, .int x1]) (av2 := [.ref 110, .int x0, .int x1]) (⟨rfl, ⟨x0, rfl, evi rfl⟩, ⟨x1, rfl, evi rfl⟩, trivial⟩) (⟨rfl, ⟨x0, rfl, evi rfl⟩, ⟨x1, rfl, evi rfl⟩, trivial⟩)
  rw [p58_yh, p58_ym] at h
  exact h
