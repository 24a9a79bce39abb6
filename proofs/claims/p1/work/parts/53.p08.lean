def p74_fi : BT Dom := [(100354, [(100354, [(0, 0)])]), (112778, [(112778, [(0, 0)])])]
def p74_ai : BT Dom := []
def p74_ct : BT Ct := []
def p74_c : Ct := ⟨[], 0, [], [], 0, [], [], [], [(7, [(7, 0)]), (272, [(272, 0)])], true, 0, []⟩
def p74_s : Sy := ⟨4, [(0, [((-2147483648), 2147483647)]), (1, [((-2147483648), 2147483647)]), (2, [((-2147483648), 2147483647)]), (3, [((-2147483648), 2147483647)])], [], []⟩
def p74_x : Gx := mkX p74_fi p74_ai p74_ct
theorem p74_ok : chkPair p74_x false 100000 251 457 p74_c p74_c [.r 0, .i 0 0, .i 1 0, .i 2 0, .i 3 0] [.r 110, .i 0 0, .i 1 0, .i 2 0, .i 3 0] p74_s = true := by decide +kernel
theorem p74_rt : (p74_ct.all fun r c => chkRoot p74_x 100000 r c) = true := by decide +kernel
theorem p74_me : meOk p74_s = true := by decide +kernel
theorem p74_st : startOk p74_fi p74_ai = true := by decide +kernel
theorem p74_yh : Yf 251 = Y_H_op := rfl
theorem p74_ym : Yf 457 = Y_M_op := rfl
theorem P_74 {E : xV} : LC_74 E σ00 (fun _ => True) := by
  intro x0 x1 x2 x3
  have ho : Ok (Jd (mkG p74_fi p74_ai)) p74_s [x0.toInt, x1.toInt, x2.toInt, x3.toInt] σ00 := ok_start p74_st p74_me rfl (fun e he => by
    rcases List.mem_cons.mp he with rfl | he
    · exact ⟨_, rfl, in32 x0⟩
    rcases List.mem_cons.mp he with rfl | he
    · exact ⟨_, rfl, in32 x1⟩
    rcases List.mem_cons.mp he with rfl | he
    · exact ⟨_, rfl, in32 x2⟩
    rcases List.mem_cons.mp he with rfl | he
    · exact ⟨_, rfl, in32 x3⟩
    cases he)
  have h := pairI (E := E) (Y := Yf) (G := p74_x) (G_ok _ _ _) Jd_ok (all_ok (G_ok _ _ _) Jd_ok (fun r c h => (BT.all_P p74_rt).at h)) rfl rfl p74_ok ho (av1 := [.ref 0, .int x0, .int x1, .int x2, .int x3]) (av2 := [.ref 110, .int x0, .int x1, .int x2, .int x3]) (⟨rfl, ⟨x0, rfl, evi rfl⟩, ⟨x1, rfl, evi rfl⟩, ⟨x2, rfl, evi rfl⟩, ⟨x3, rfl, evi rfl⟩, trivial⟩) (⟨rfl, ⟨x0, rfl, evi rfl⟩, ⟨x1, rfl, evi rfl⟩, ⟨x2, rfl, evi rfl⟩, ⟨x3, rfl, evi rfl⟩, trivial⟩)
  rw [p74_yh, p74_ym] at h
  exact h
def p75_fi : BT Dom := [(100354, [(100354, [(0, 0)])]), (112778, [(112778, [(0, 0)])])]
def p75_ai : BT Dom := []
def p75_ct : BT Ct := []
def p75_c : Ct := ⟨[], 0, [], [], 0, [], [], [], [(7, [(7, 0)]), (272, [(272, 0)])], true, 0, []⟩
def p75_s : Sy := ⟨2, [(0, [((-2147483648), 2147483647)]), (1, [((-2147483648), 2147483647)])], [], []⟩
def p75_x : Gx := mkX p75_fi p75_ai p75_ct
theorem p75_ok : chkPair p75_x false 100000 259 461 p75_c p75_c [.r 0, .i 0 0, .i 1 0] [.r 110, .i 0 0, .i 1 0] p75_s = true := by decide +kernel
theorem p75_rt : (p75_ct.all fun r c => chkRoot p75_x 100000 r c) = true := by decide +kernel
theorem p75_me : meOk p75_s = true := by decide +kernel
theorem p75_st : startOk p75_fi p75_ai = true := by decide +kernel
theorem p75_yh : Yf 259 = Y_H_enter := rfl
theorem p75_ym : Yf 461 = Y_M_enter := rfl
theorem P_75 {E : xV} : LC_75 E σ00 (fun _ => True) := by
  intro x0 x1
  have ho : Ok (Jd (mkG p75_fi p75_ai)) p75_s [x0.toInt, x1.toInt] σ00 := ok_start p75_st p75_me rfl (fun e he => by
    rcases List.mem_cons.mp he with rfl | he
    · exact ⟨_, rfl, in32 x0⟩
    rcases List.mem_cons.mp he with rfl | he
    · exact ⟨_, rfl, in32 x1⟩
    cases he)
  have h := pairI (E := E) (Y := Yf) (G := p75_x) (G_ok _ _ _) Jd_ok (all_ok (G_ok _ _ _) Jd_ok (fun r c h => (BT.all_P p75_rt).at h)) rfl rfl p75_ok ho (av1 := [.ref 0, .int x0, .int x1]) (av2 := [.ref 110, .int x0, .int x1]) (⟨rfl, ⟨x0, rfl, evi rfl⟩, ⟨x1, rfl, evi rfl⟩, trivial⟩) (⟨rfl, ⟨x0, rfl, evi rfl⟩, ⟨x1, rfl, evi rfl⟩, trivial⟩)
  rw [p75_yh, p75_ym] at h
  exact h
def p76_fi : BT Dom := [(112790, [(112790, [(0, 0)])])]
def p76_ai : BT Dom := [(109, [(109, [((-4), (-4)), (0, 0)])])]
def p76_ct : BT Ct := []
def p76_c : Ct := ⟨[], 0, [], [], 0, [], [], [], [(7, [(7, 0)]), (272, [(272, 0)])], true, 0, [(17039377, [(17039377, ())])]⟩
def p76_s : Sy := ⟨1, [(0, [((-2147483648), 2147483647)])], [(109, (.c 0, .c 0)), (109, (.c 1, .c 0)), (109, (.c 2, .c 0)), (109, (.c 3, .c 0)), (109, (.c 4, .c (-4))), (109, (.c 5, .c (-4))), (109, (.c 6, .c 0)), (109, (.c 7, .c 0))], []⟩
def p76_x : Gx := mkX p76_fi p76_ai p76_ct
theorem p76_ok : chkPair p76_x false 100000 260 462 p76_c p76_c [.r 0, .i 0 0] [.r 110, .i 0 0] p76_s = true := by decide +kernel
theorem p76_rt : (p76_ct.all fun r c => chkRoot p76_x 100000 r c) = true := by decide +kernel
theorem p76_me : meOk p76_s = true := by decide +kernel
theorem p76_st : startOk p76_fi p76_ai = true := by decide +kernel
theorem p76_yh : Yf 260 = Y_H_entered := rfl
theorem p76_ym : Yf 462 = Y_M_entered := rfl
theorem P_76 {E : xV} : LC_76 E σ00 (fun _ => True) := by
  intro x0
  have ho : Ok (Jd (mkG p76_fi p76_ai)) p76_s [x0.toInt] σ00 := ok_start p76_st p76_me rfl (fun e he => by
    rcases List.mem_cons.mp he with rfl | he
    · exact ⟨_, rfl, in32 x0⟩
    cases he)
  have h := pairI (E := E) (Y := Yf) (G := p76_x) (G_ok _ _ _) Jd_ok (all_ok (G_ok _ _ _) Jd_ok (fun r c h => (BT.all_P p76_rt).at h)) rfl rfl p76_ok ho (av1 := [.ref 0, .int x0]) (av2 := [.ref 110, .int x0]) (⟨rfl, ⟨x0, rfl, evi rfl⟩, trivial⟩) (⟨rfl, ⟨x0, rfl, evi rfl⟩, trivial⟩)
  rw [p76_yh, p76_ym] at h
  exact h
def p77_fi : BT Dom := [(1, [(1, [(0, 0)])]), (112641, [(112641, [(0, 0)])])]
def p77_ai : BT Dom := []
def p77_ct : BT Ct := []
def p77_c : Ct := ⟨[], 0, [], [], 0, [], [], [], [(272, [(272, 0)])], true, 0, []⟩
def p77_s : Sy := ⟨2, [(0, [((-2147483648), 2147483647)]), (1, [((-2147483648), 2147483647)])], [], []⟩
def p77_x : Gx := mkX p77_fi p77_ai p77_ct
theorem p77_ok : chkPair p77_x false 100000 262 464 p77_c p77_c [.r 0, .i 0 0, .i 1 0] [.r 110, .i 0 0, .i 1 0] p77_s = true := by decide +kernel
theorem p77_rt : (p77_ct.all fun r c => chkRoot p77_x 100000 r c) = true := by decide +kernel
theorem p77_me : meOk p77_s = true := by decide +kernel
theorem p77_st : startOk p77_fi p77_ai = true := by decide +kernel
theorem p77_yh : Yf 262 = Y_H_half := rfl
theorem p77_ym : Yf 464 = Y_M_half := rfl
theorem P_77 {E : xV} : LC_77 E σ00 (fun _ => True) := by
  intro x0 x1
  have ho : Ok (Jd (mkG p77_fi p77_ai)) p77_s [x0.toInt, x1.toInt] σ00 := ok_start p77_st p77_me rfl (fun e he => by
    rcases List.mem_cons.mp he with rfl | he
    · exact ⟨_, rfl, in32 x0⟩
    rcases List.mem_cons.mp he with rfl | he
    · exact ⟨_, rfl, in32 x1⟩
    cases he)
  have h := pairI (E := E) (Y := Yf) (G := p77_x) (G_ok _ _ _) Jd_ok (all_ok (G_ok _ _ _) Jd_ok (fun r c h => (BT.all_P p77_rt).at h)) rfl rfl p77_ok ho (av1 := [.ref 0, .int x0, .int x1]) (av2 := [.ref 110, .int x0, .int x1]) (⟨rfl, ⟨x0, rfl, evi rfl⟩, ⟨x1, rfl, evi rfl⟩, trivial⟩) (⟨rfl, ⟨x0, rfl, evi rfl⟩, ⟨x1, rfl, evi rfl⟩, trivial⟩)
  rw [p77_yh, p77_ym] at h
  exact h
def p78_fi : BT Dom := [(1, [(1, [(0, 0)])]), (112641, [(112641, [(0, 0)])])]
def p78_ai : BT Dom := []
def p78_ct : BT Ct := []
def p78_c : Ct := ⟨[], 0, [], [], 0, [], [], [], [], true, 0, []⟩
def p78_s : Sy := ⟨0, [], [], []⟩
def p78_x : Gx := mkX p78_fi p78_ai p78_ct
theorem p78_ok : chkPair p78_x false 100000 266 465 p78_c p78_c [.r 0] [.r 110] p78_s = true := by decide +kernel
theorem p78_rt : (p78_ct.all fun r c => chkRoot p78_x 100000 r c) = true := by decide +kernel
theorem p78_me : meOk p78_s = true := by decide +kernel
theorem p78_st : startOk p78_fi p78_ai = true := by decide +kernel
theorem p78_yh : Yf 266 = Y_H_joined := rfl
theorem p78_ym : Yf 465 = Y_M_joined := rfl
theorem P_78 {E : xV} : LC_78 E σ00 (fun _ => True) := by
  have ho : Ok (Jd (mkG p78_fi p78_ai)) p78_s [] σ00 := ok_start p78_st p78_me rfl (fun e he => by cases he)
  have h := pairI (E := E) (Y := Yf) (G := p78_x) (G_ok _ _ _) Jd_ok (all_ok (G_ok _ _ _) Jd_ok (fun r c h => (BT.all_P p78_rt).at h)) rfl rfl p78_ok ho (av1 := [.ref 0]) (av2 := [.ref 110]) (⟨rfl, trivial⟩) (⟨rfl, trivial⟩)
  rw [p78_yh, p78_ym] at h
  exact h
def p79_fi : BT Dom := [(7, [(7, [(0, 0)])]), (112643, [(112643, [(0, 0)])])]
def p79_ai : BT Dom := []
def p79_ct : BT Ct := []
def p79_c : Ct := ⟨[], 0, [], [], 0, [], [], [], [(7, [(7, 0)]), (272, [(272, 0)])], true, 0, []⟩
def p79_s : Sy := ⟨2, [(0, [((-2147483648), 2147483647)]), (1, [((-2147483648), 2147483647)])], [], []⟩
def p79_x : Gx := mkX p79_fi p79_ai p79_ct
theorem p79_ok : chkPair p79_x false 100000 267 296 p79_c p79_c [.r 0, .i 0 0, .i 1 0] [.r 110, .i 0 0, .i 1 0] p79_s = true := by decide +kernel
theorem p79_rt : (p79_ct.all fun r c => chkRoot p79_x 100000 r c) = true := by decide +kernel
theorem p79_me : meOk p79_s = true := by decide +kernel
theorem p79_st : startOk p79_fi p79_ai = true := by decide +kernel
theorem p79_yh : Yf 267 = Y_H_logged := rfl
theorem p79_ym : Yf 296 = Y_M_logged := rfl
theorem P_79 {E : xV} : LC_79 E σ00 (fun _ => True) := by
  intro x0 x1
  have ho : Ok (Jd (mkG p79_fi p79_ai)) p79_s [x0.toInt, x1.toInt] σ00 := ok_start p79_st p79_me rfl (fun e he => by
    rcases List.mem_cons.mp he with rfl | he
    · exact ⟨_, rfl, in32 x0⟩
    rcases List.mem_cons.mp he with rfl | he
    · exact ⟨_, rfl, in32 x1⟩
    cases he)
  have h := pairI (E := E) (Y := Yf) (G := p79_x) (G_ok _ _ _) Jd_ok (all_ok (G_ok _ _ _) Jd_ok (fun r c h => (BT.all_P p79_rt).at h)) rfl rfl p79_ok ho (av1 := [.ref 0, .int x0, .int x1]) (av2 := [.ref 110, .int x0, .int x1]) (⟨rfl, ⟨x0, rfl, evi rfl⟩, ⟨x1, rfl, evi rfl⟩, trivial⟩) (⟨rfl, ⟨x0, rfl, evi rfl⟩, ⟨x1, rfl, evi rfl⟩, trivial⟩)
  rw [p79_yh, p79_ym] at h
  exact h
def p80_fi : BT Dom := [(7, [(7, [(0, 0)])]), (112643, [(112643, [(0, 0)])])]
def p80_ai : BT Dom := []
def p80_ct : BT Ct := []
def p80_c : Ct := ⟨[], 0, [], [], 0, [], [], [], [(7, [(7, 0)]), (272, [(272, 0)])], true, 0, []⟩
def p80_s : Sy := ⟨3, [(0, [((-2147483648), 2147483647)]), (1, [((-2147483648), 2147483647)]), (2, [((-2147483648), 2147483647)])], [], []⟩
def p80_x : Gx := mkX p80_fi p80_ai p80_ct
theorem p80_ok : chkPair p80_x false 100000 268 297 p80_c p80_c [.r 0, .i 0 0, .i 1 0, .i 2 0] [.r 110, .i 0 0, .i 1 0, .i 2 0] p80_s = true := by decide +kernel
theorem p80_rt : (p80_ct.all fun r c => chkRoot p80_x 100000 r c) = true := by decide +kernel
theorem p80_me : meOk p80_s = true := by decide +kernel
theorem p80_st : startOk p80_fi p80_ai = true := by decide +kernel
theorem p80_yh : Yf 268 = Y_H_forge := rfl
theorem p80_ym : Yf 297 = Y_M_forge := rfl
theorem P_80 {E : xV} : LC_80 E σ00 (fun _ => True) := by
  intro x0 x1 x2
  have ho : Ok (Jd (mkG p80_fi p80_ai)) p80_s [x0.toInt, x1.toInt, x2.toInt] σ00 := ok_start p80_st p80_me rfl (fun e he => by
    rcases List.mem_cons.mp he with rfl | he
    · exact ⟨_, rfl, in32 x0⟩
    rcases List.mem_cons.mp he with rfl | he
    · exact ⟨_, rfl, in32 x1⟩
    rcases List.mem_cons.mp he with rfl | he
    · exact ⟨_, rfl, in32 x2⟩
    cases he)
  have h := pairI (E := E) (Y := Yf) (G := p80_x) (G_ok _ _ _) Jd_ok (all_ok (G_ok _ _ _) Jd_ok (fun r c h => (BT.all_P p80_rt).at h)) rfl rfl p80_ok ho (av1 := [.ref 0, .int x0, .int x1, .int x2]) (av2 := [.ref 110, .int x0, .int x1, .int x2]) (⟨rfl, ⟨x0, rfl, evi rfl⟩, ⟨x1, rfl, evi rfl⟩, ⟨x2, rfl, evi rfl⟩, trivial⟩) (⟨rfl, ⟨x0, rfl, evi rfl⟩, ⟨x1, rfl, evi rfl⟩, ⟨x2, rfl, evi rfl⟩, trivial⟩)
  rw [p80_yh, p80_ym] at h
  exact h
def p81_fi : BT Dom := [(7, [(7, [(0, 0)])]), (112643, [(112643, [(0, 0)])])]
def p81_ai : BT Dom := []
def p81_ct : BT Ct := []
def p81_c : Ct := ⟨[], 0, [], [], 0, [], [], [], [], true, 0, []⟩
def p81_s : Sy := ⟨0, [], [], []⟩
def p81_x : Gx := mkX p81_fi p81_ai p81_ct
theorem p81_ok : chkPair p81_x false 100000 269 298 p81_c p81_c [.r 0] [.r 110] p81_s = true := by decide +kernel
theorem p81_rt : (p81_ct.all fun r c => chkRoot p81_x 100000 r c) = true := by decide +kernel
theorem p81_me : meOk p81_s = true := by decide +kernel
theorem p81_st : startOk p81_fi p81_ai = true := by decide +kernel
theorem p81_yh : Yf 269 = Y_H_wrong := rfl
theorem p81_ym : Yf 298 = Y_M_wrong := rfl
theorem P_81 {E : xV} : LC_81 E σ00 (fun _ => True) := by
  have ho : Ok (Jd (mkG p81_fi p81_ai)) p81_s [] σ00 := ok_start p81_st p81_me rfl (fun e he => by cases he)
  have h := pairI (E := E) (Y := Yf) (G := p81_x) (G_ok _ _ _) Jd_ok (all_ok (G_ok _ _ _) Jd_ok (fun r c h => (BT.all_P p81_rt).at h)) rfl rfl p81_ok ho (av1 := [.ref 0]) (av2 := [.ref 110]) (⟨rfl, trivial⟩) (⟨rfl, trivial⟩)
  rw [p81_yh, p81_ym] at h
  exact h
def p82_fi : BT Dom := [(7, [(7, [(0, 0)])]), (112643, [(112643, [(0, 0)])])]
def p82_ai : BT Dom := []
def p82_ct : BT Ct := []
def p82_c : Ct := ⟨[], 0, [], [], 0, [], [], [], [(272, [(272, 0)])], true, 0, []⟩
def p82_s : Sy := ⟨2, [(0, [((-2147483648), 2147483647)]), (1, [((-2147483648), 2147483647)])], [], []⟩
def p82_x : Gx := mkX p82_fi p82_ai p82_ct
theorem p82_ok : chkPair p82_x false 100000 270 299 p82_c p82_c [.r 0, .i 0 0, .i 1 0] [.r 110, .i 0 0, .i 1 0] p82_s = true := by decide +kernel
theorem p82_rt : (p82_ct.all fun r c => chkRoot p82_x 100000 r c) = true := by decide +kernel
theorem p82_me : meOk p82_s = true := by decide +kernel
theorem p82_st : startOk p82_fi p82_ai = true := by decide +kernel
theorem p82_yh : Yf 270 = Y_H_sealed := rfl
theorem p82_ym : Yf 299 = Y_M_sealed := rfl
theorem P_82 {E : xV} : LC_82 E σ00 (fun _ => True) := by
  intro x0 x1
  have ho : Ok (Jd (mkG p82_fi p82_ai)) p82_s [x0.toInt, x1.toInt] σ00 := ok_start p82_st p82_me rfl (fun e he => by
    rcases List.mem_cons.mp he with rfl | he
    · exact ⟨_, rfl, in32 x0⟩
    rcases List.mem_cons.mp he with rfl | he
    · exact ⟨_, rfl, in32 x1⟩
    cases he)
  have h := pairI (E := E) (Y := Yf) (G := p82_x) (G_ok _ _ _) Jd_ok (all_ok (G_ok _ _ _) Jd_ok (fun r c h => (BT.all_P p82_rt).at h)) rfl rfl p82_ok ho (av1 := [.ref 0, .int x0, .int x1]) (av2 := [.ref 110, .int x0, .int x1]) (⟨rfl, ⟨x0, rfl, evi rfl⟩, ⟨x1, rfl, evi rfl⟩, trivial⟩) (⟨rfl, ⟨x0, rfl, evi rfl⟩, ⟨x1, rfl, evi rfl⟩, trivial⟩)
  rw [p82_yh, p82_ym] at h
  exact h
def p83_fi : BT Dom := [(5120, [(2, [(0, 0)]), (5, [(0, 0)]), (5120, [(0, 0)])]), (27655, [(10240, [(1, 1)]), (27654, [(0, 0)]), (27655, [(0, 0)])]), (112660, [(112640, [(0, 0)]), (112646, [(0, 0)]), (112660, [(1, 1)])]), (112711, [(112711, [(0, 0)])])]
def p83_ai : BT Dom := [(14, [(14, [(0, 0)])]), (128, [(128, [(0, 0)])])]
def p83_ct : BT Ct := []
def p83_c : Ct := ⟨[], 0, [], [], 0, [], [], [], [(100, [(6, 0), (26, 0), (100, 0)]), (272, [(102, 0), (137, 0), (272, 0)]), (378, [(313, 0), (320, 0), (378, 0)]), (384, [(384, 0)])], true, 0, []⟩
def p83_s : Sy := ⟨4, [(0, [((-2147483648), 2147483647)]), (1, [((-2147483648), 2147483647)]), (2, [((-2147483648), 2147483647)]), (3, [((-2147483648), 2147483647)])], [], []⟩
def p83_x : Gx := mkX p83_fi p83_ai p83_ct
theorem p83_ok : chkPair p83_x false 100000 271 386 p83_c p83_c [.r 0, .i 0 0, .i 1 0, .i 2 0, .i 3 0] [.r 110, .i 0 0, .i 1 0, .i 2 0, .i 3 0] p83_s = true := by decide +kernel
theorem p83_rt : (p83_ct.all fun r c => chkRoot p83_x 100000 r c) = true := by decide +kernel
theorem p83_me : meOk p83_s = true := by decide +kernel
theorem p83_st : startOk p83_fi p83_ai = true := by decide +kernel
theorem p83_yh : Yf 271 = Y_H_could := rfl
theorem p83_ym : Yf 386 = Y_M_could := rfl
theorem P_83 {E : xV} : LC_83 E σ00 (fun _ => True) := by
  intro x0 x1 x2 x3
  have ho : Ok (Jd (mkG p83_fi p83_ai)) p83_s [x0.toInt, x1.toInt, x2.toInt, x3.toInt] σ00 := ok_start p83_st p83_me rfl (fun e he => by
    rcases List.mem_cons.mp he with rfl | he
    · exact ⟨_, rfl, in32 x0⟩
    rcases List.mem_cons.mp he with rfl | he
    · exact ⟨_, rfl, in32 x1⟩
    rcases List.mem_cons.mp he with rfl | he
    · exact ⟨_, rfl, in32 x2⟩
    rcases List.mem_cons.mp he with rfl | he
    · exact ⟨_, rfl, in32 x3⟩
    cases he)
  have h := pairI (E := E) (Y := Yf) (G := p83_x) (G_ok _ _ _) Jd_ok (all_ok (G_ok _ _ _) Jd_ok (fun r c h => (BT.all_P p83_rt).at h)) rfl rfl p83_ok ho (av1 := [.ref 0, .int x0, .int x1, .int x2, .int x3]) (av2 := [.ref 110, .int x0, .int x1, .int x2, .int x3]) (⟨rfl, ⟨x0, rfl, evi rfl⟩, ⟨x1, rfl, evi rfl⟩, ⟨x2, rfl, evi rfl⟩, ⟨x3, rfl, evi rfl⟩, trivial⟩) (⟨rfl, ⟨x0, rfl, evi rfl⟩, ⟨x1, rfl, evi rfl⟩, ⟨x2, rfl, evi rfl⟩, ⟨x3, rfl, evi rfl⟩, trivial⟩)
  rw [p83_yh, p83_ym] at h
  exact h
