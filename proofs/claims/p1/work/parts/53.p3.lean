def p43_fi : BT Dom := [(41985, [(41985, [(0, 0)])]), (112725, [(112725, [(0, 0)])])]
def p43_ai : BT Dom := []
def p43_ct : BT Ct := []
def p43_c : Ct := ⟨[], 0, [], [], 0, [], [], [], [(7, [(7, 0)]), (272, [(272, 0)]), (402, [(402, 0)])], true, 0, []⟩
def p43_s : Sy := ⟨4, [(0, [((-2147483648), 2147483647)]), (1, [((-2147483648), 2147483647)]), (2, [((-2147483648), 2147483647)]), (3, [((-2147483648), 2147483647)])], [], []⟩
def p43_x : Gx := mkX p43_fi p43_ai p43_ct
theorem p43_ok : chkPair p43_x false 100000 168 405 p43_c p43_c [.r 0, .i 0 0, .i 1 0, .i 2 0, .i 3 0] [.r 110, .i 0 0, .i 1 0, .i 2 0, .i 3 0] p43_s = true := by decide +kernel
theorem p43_rt : (p43_ct.all fun r c => chkRoot p43_x 100000 r c) = true := by decide +kernel
theorem p43_st : startOk p43_fi p43_ai = true := by decide +kernel
theorem p43_me : meOk p43_s = true := by decide +kernel
theorem p43_yh : Yf 168 = Y_H_tie := rfl
theorem p43_ym : Yf 405 = Y_M_tie := rfl
theorem P_43 {E : xV} : LC_43 E σ00 (fun _ => True) := by
  intro x0 x1 x2 x3
  have ho : Ok (Jd (mkG p43_fi p43_ai)) p43_s [x0.toInt, x1.toInt, x2.toInt, x3.toInt] σ00 := ok_start p43_st p43_me rfl (fun e he => by
    rcases List.mem_cons.mp he with rfl | he
    · exact ⟨_, rfl, in32 x0⟩
    rcases List.mem_cons.mp he with rfl | he
    · exact ⟨_, rfl, in32 x1⟩
    rcases List.mem_cons.mp he with rfl | he
    · exact ⟨_, rfl, in32 x2⟩
    rcases List.mem_cons.mp he with rfl | he
    · exact ⟨_, rfl, in32 x3⟩
    cases he)
  have h := pairI (E := E) (Y := Yf) (G := p43_x) (G_ok _ _ _) Jd_ok (all_ok (G_ok _ _ _) Jd_ok (fun r c h => (BT.all_P p43_rt).at h)) rfl rfl p43_ok ho (av1 := [.ref 0, .int x0, .int x1, .int x2, .int x3]) (av2 := [.ref 110, .int x0, .int x1, .int x2, .int x3]) (⟨rfl, ⟨x0, rfl, evi rfl⟩, ⟨x1, rfl, evi rfl⟩, ⟨x2, rfl, evi rfl⟩, ⟨x3, rfl, evi rfl⟩, trivial⟩) (⟨rfl, ⟨x0, rfl, evi rfl⟩, ⟨x1, rfl, evi rfl⟩, ⟨x2, rfl, evi rfl⟩, ⟨x3, rfl, evi rfl⟩, trivial⟩)
  rw [p43_yh, p43_ym] at h
  exact h
def p44_fi : BT Dom := [(41985, [(41985, [(0, 0)])]), (112725, [(112725, [(0, 0)])])]
def p44_ai : BT Dom := []
def p44_ct : BT Ct := []
def p44_c : Ct := ⟨[], 0, [], [], 0, [], [], [], [(169, [(7, 0), (169, 0)]), (402, [(272, 0), (402, 0)])], true, 0, []⟩
def p44_s : Sy := ⟨2, [(0, [((-2147483648), 2147483647)]), (1, [((-2147483648), 2147483647)])], [], []⟩
def p44_x : Gx := mkX p44_fi p44_ai p44_ct
theorem p44_ok : chkPair p44_x false 100000 176 409 p44_c p44_c [.r 0, .i 0 0, .i 1 0] [.r 110, .i 0 0, .i 1 0] p44_s = true := by decide +kernel
theorem p44_rt : (p44_ct.all fun r c => chkRoot p44_x 100000 r c) = true := by decide +kernel
theorem p44_st : startOk p44_fi p44_ai = true := by decide +kernel
theorem p44_me : meOk p44_s = true := by decide +kernel
theorem p44_yh : Yf 176 = Y_H_fill := rfl
theorem p44_ym : Yf 409 = Y_M_fill := rfl
theorem P_44 {E : xV} : LC_44 E σ00 (fun _ => True) := by
  intro x0 x1
  have ho : Ok (Jd (mkG p44_fi p44_ai)) p44_s [x0.toInt, x1.toInt] σ00 := ok_start p44_st p44_me rfl (fun e he => by
    rcases List.mem_cons.mp he with rfl | he
    · exact ⟨_, rfl, in32 x0⟩
    rcases List.mem_cons.mp he with rfl | he
    · exact ⟨_, rfl, in32 x1⟩
    cases he)
  have h := pairI (E := E) (Y := Yf) (G := p44_x) (G_ok _ _ _) Jd_ok (all_ok (G_ok _ _ _) Jd_ok (fun r c h => (BT.all_P p44_rt).at h)) rfl rfl p44_ok ho (av1 := [.ref 0, .int x0, .int x1]) (av2 := [.ref 110, .int x0, .int x1]) (⟨rfl, ⟨x0, rfl, evi rfl⟩, ⟨x1, rfl, evi rfl⟩, trivial⟩) (⟨rfl, ⟨x0, rfl, evi rfl⟩, ⟨x1, rfl, evi rfl⟩, trivial⟩)
  rw [p44_yh, p44_ym] at h
  exact h
def p45_fi : BT Dom := [(41985, [(41985, [(0, 0)])]), (112725, [(112725, [(0, 0)])])]
def p45_ai : BT Dom := []
def p45_ct : BT Ct := []
def p45_c : Ct := ⟨[], 0, [], [], 0, [], [], [], [(272, [(7, 0), (272, 0)]), (403, [(402, 0), (403, 0)])], true, 0, []⟩
def p45_s : Sy := ⟨2, [(0, [((-2147483648), 2147483647)]), (1, [((-2147483648), 2147483647)])], [], []⟩
def p45_x : Gx := mkX p45_fi p45_ai p45_ct
theorem p45_ok : chkPair p45_x false 100000 177 410 p45_c p45_c [.r 0, .i 0 0, .i 1 0] [.r 110, .i 0 0, .i 1 0] p45_s = true := by decide +kernel
theorem p45_rt : (p45_ct.all fun r c => chkRoot p45_x 100000 r c) = true := by decide +kernel
theorem p45_st : startOk p45_fi p45_ai = true := by decide +kernel
theorem p45_me : meOk p45_s = true := by decide +kernel
theorem p45_yh : Yf 177 = Y_H_filled := rfl
theorem p45_ym : Yf 410 = Y_M_filled := rfl
theorem P_45 {E : xV} : LC_45 E σ00 (fun _ => True) := by
  intro x0 x1
  have ho : Ok (Jd (mkG p45_fi p45_ai)) p45_s [x0.toInt, x1.toInt] σ00 := ok_start p45_st p45_me rfl (fun e he => by
    rcases List.mem_cons.mp he with rfl | he
    · exact ⟨_, rfl, in32 x0⟩
    rcases List.mem_cons.mp he with rfl | he
    · exact ⟨_, rfl, in32 x1⟩
    cases he)
  have h := pairI (E := E) (Y := Yf) (G := p45_x) (G_ok _ _ _) Jd_ok (all_ok (G_ok _ _ _) Jd_ok (fun r c h => (BT.all_P p45_rt).at h)) rfl rfl p45_ok ho (av1 := [.ref 0, .int x0, .int x1]) (av2 := [.ref 110, .int x0, .int x1]) (⟨rfl, ⟨x0, rfl, evi rfl⟩, ⟨x1, rfl, evi rfl⟩, trivial⟩) (⟨rfl, ⟨x0, rfl, evi rfl⟩, ⟨x1, rfl, evi rfl⟩, trivial⟩)
  rw [p45_yh, p45_ym] at h
  exact h
def p46_fi : BT Dom := [(41985, [(41985, [(0, 0)])]), (112725, [(112725, [(0, 0)])])]
def p46_ai : BT Dom := []
def p46_ct : BT Ct := []
def p46_c : Ct := ⟨[], 0, [], [], 0, [], [], [], [(169, [(7, 0), (169, 0)]), (402, [(272, 0), (402, 0)]), (411, [(403, 0), (411, 0)])], true, 0, []⟩
def p46_s : Sy := ⟨4, [(0, [((-2147483648), 2147483647)]), (1, [((-2147483648), 2147483647)]), (2, [((-2147483648), 2147483647)]), (3, [((-2147483648), 2147483647)])], [], []⟩
def p46_x : Gx := mkX p46_fi p46_ai p46_ct
theorem p46_ok : chkPair p46_x false 100000 179 412 p46_c p46_c [.r 0, .i 0 0, .i 1 0, .i 2 0, .i 3 0] [.r 110, .i 0 0, .i 1 0, .i 2 0, .i 3 0] p46_s = true := by decide +kernel
theorem p46_rt : (p46_ct.all fun r c => chkRoot p46_x 100000 r c) = true := by decide +kernel
theorem p46_st : startOk p46_fi p46_ai = true := by decide +kernel
theorem p46_me : meOk p46_s = true := by decide +kernel
theorem p46_yh : Yf 179 = Y_H_next := rfl
theorem p46_ym : Yf 412 = Y_M_next := rfl
theorem P_46 {E : xV} : LC_46 E σ00 (fun _ => True) := by
  intro x0 x1 x2 x3
  have ho : Ok (Jd (mkG p46_fi p46_ai)) p46_s [x0.toInt, x1.toInt, x2.toInt, x3.toInt] σ00 := ok_start p46_st p46_me rfl (fun e he => by
    rcases List.mem_cons.mp he with rfl | he
    · exact ⟨_, rfl, in32 x0⟩
    rcases List.mem_cons.mp he with rfl | he
    · exact ⟨_, rfl, in32 x1⟩
    rcases List.mem_cons.mp he with rfl | he
    · exact ⟨_, rfl, in32 x2⟩
    rcases List.mem_cons.mp he with rfl | he
    · exact ⟨_, rfl, in32 x3⟩
    cases he)
  have h := pairI (E := E) (Y := Yf) (G := p46_x) (G_ok _ _ _) Jd_ok (all_ok (G_ok _ _ _) Jd_ok (fun r c h => (BT.all_P p46_rt).at h)) rfl rfl p46_ok ho (av1 := [.ref 0, .int x0, .int x1, .int x2, .int x3]) (av2 := [.ref 110, .int x0, .int x1, .int x2, .int x3]) (⟨rfl, ⟨x0, rfl, evi rfl⟩, ⟨x1, rfl, evi rfl⟩, ⟨x2, rfl, evi rfl⟩, ⟨x3, rfl, evi rfl⟩, trivial⟩) (⟨rfl, ⟨x0, rfl, evi rfl⟩, ⟨x1, rfl, evi rfl⟩, ⟨x2, rfl, evi rfl⟩, ⟨x3, rfl, evi rfl⟩, trivial⟩)
  rw [p46_yh, p46_ym] at h
  exact h
def p47_fi : BT Dom := [(41985, [(41985, [(0, 0)])]), (112725, [(112725, [(0, 0)])])]
def p47_ai : BT Dom := []
def p47_ct : BT Ct := []
def p47_c : Ct := ⟨[], 0, [], [], 0, [], [], [], [(169, [(7, 0), (169, 0)]), (272, [(179, 0), (272, 0)]), (403, [(402, 0), (403, 0)]), (411, [(411, 0)])], true, 0, []⟩
def p47_s : Sy := ⟨4, [(0, [((-2147483648), 2147483647)]), (1, [((-2147483648), 2147483647)]), (2, [((-2147483648), 2147483647)]), (3, [((-2147483648), 2147483647)])], [], []⟩
def p47_x : Gx := mkX p47_fi p47_ai p47_ct
theorem p47_ok : chkPair p47_x false 100000 180 413 p47_c p47_c [.r 0, .i 0 0, .i 1 0, .i 2 0, .i 3 0] [.r 110, .i 0 0, .i 1 0, .i 2 0, .i 3 0] p47_s = true := by decide +kernel
theorem p47_rt : (p47_ct.all fun r c => chkRoot p47_x 100000 r c) = true := by decide +kernel
theorem p47_st : startOk p47_fi p47_ai = true := by decide +kernel
theorem p47_me : meOk p47_s = true := by decide +kernel
theorem p47_yh : Yf 180 = Y_H_perform := rfl
theorem p47_ym : Yf 413 = Y_M_perform := rfl
theorem P_47 {E : xV} : LC_47 E σ00 (fun _ => True) := by
  intro x0 x1 x2 x3
  have ho : Ok (Jd (mkG p47_fi p47_ai)) p47_s [x0.toInt, x1.toInt, x2.toInt, x3.toInt] σ00 := ok_start p47_st p47_me rfl (fun e he => by
    rcases List.mem_cons.mp he with rfl | he
    · exact ⟨_, rfl, in32 x0⟩
    rcases List.mem_cons.mp he with rfl | he
    · exact ⟨_, rfl, in32 x1⟩
    rcases List.mem_cons.mp he with rfl | he
    · exact ⟨_, rfl, in32 x2⟩
    rcases List.mem_cons.mp he with rfl | he
    · exact ⟨_, rfl, in32 x3⟩
    cases he)
  have h := pairI (E := E) (Y := Yf) (G := p47_x) (G_ok _ _ _) Jd_ok (all_ok (G_ok _ _ _) Jd_ok (fun r c h => (BT.all_P p47_rt).at h)) rfl rfl p47_ok ho (av1 := [.ref 0, .int x0, .int x1, .int x2, .int x3]) (av2 := [.ref 110, .int x0, .int x1, .int x2, .int x3]) (⟨rfl, ⟨x0, rfl, evi rfl⟩, ⟨x1, rfl, evi rfl⟩, ⟨x2, rfl, evi rfl⟩, ⟨x3, rfl, evi rfl⟩, trivial⟩) (⟨rfl, ⟨x0, rfl, evi rfl⟩, ⟨x1, rfl, evi rfl⟩, ⟨x2, rfl, evi rfl⟩, ⟨x3, rfl, evi rfl⟩, trivial⟩)
  rw [p47_yh, p47_ym] at h
  exact h
def p48_fi : BT Dom := [(41985, [(41985, [(0, 0)])]), (112725, [(112725, [(0, 0)])])]
def p48_ai : BT Dom := []
def p48_ct : BT Ct := []
def p48_c : Ct := ⟨[], 0, [], [], 0, [], [], [], [(169, [(7, 0), (169, 0)]), (402, [(272, 0), (402, 0)])], true, 0, []⟩
def p48_s : Sy := ⟨3, [(0, [((-2147483648), 2147483647)]), (1, [((-2147483648), 2147483647)]), (2, [((-2147483648), 2147483647)])], [], []⟩
def p48_x : Gx := mkX p48_fi p48_ai p48_ct
theorem p48_ok : chkPair p48_x false 100000 182 414 p48_c p48_c [.r 0, .i 0 0, .i 1 0, .i 2 0] [.r 110, .i 0 0, .i 1 0, .i 2 0] p48_s = true := by decide +kernel
theorem p48_rt : (p48_ct.all fun r c => chkRoot p48_x 100000 r c) = true := by decide +kernel
theorem p48_st : startOk p48_fi p48_ai = true := by decide +kernel
theorem p48_me : meOk p48_s = true := by decide +kernel
theorem p48_yh : Yf 182 = Y_H_needed := rfl
theorem p48_ym : Yf 414 = Y_M_needed := rfl
theorem P_48 {E : xV} : LC_48 E σ00 (fun _ => True) := by
  intro x0 x1 x2
  have ho : Ok (Jd (mkG p48_fi p48_ai)) p48_s [x0.toInt, x1.toInt, x2.toInt] σ00 := ok_start p48_st p48_me rfl (fun e he => by
    rcases List.mem_cons.mp he with rfl | he
    · exact ⟨_, rfl, in32 x0⟩
    rcases List.mem_cons.mp he with rfl | he
    · exact ⟨_, rfl, in32 x1⟩
    rcases List.mem_cons.mp he with rfl | he
    · exact ⟨_, rfl, in32 x2⟩
    cases he)
  have h := pairI (E := E) (Y := Yf) (G := p48_x) (G_ok _ _ _) Jd_ok (all_ok (G_ok _ _ _) Jd_ok (fun r c h => (BT.all_P p48_rt).at h)) rfl rfl p48_ok ho (av1 := [.ref 0, .int x0, .int x1, .int x2]) (av2 := [.ref 110, .int x0, .int x1, .int x2]) (⟨rfl, ⟨x0, rfl, evi rfl⟩, ⟨x1, rfl, evi rfl⟩, ⟨x2, rfl, evi rfl⟩, trivial⟩) (⟨rfl, ⟨x0, rfl, evi rfl⟩, ⟨x1, rfl, evi rfl⟩, ⟨x2, rfl, evi rfl⟩, trivial⟩)
  rw [p48_yh, p48_ym] at h
  exact h
def p49_fi : BT Dom := [(41998, [(41998, [(0, 0)])]), (112735, [(112735, [(0, 0)])])]
def p49_ai : BT Dom := []
def p49_ct : BT Ct := []
def p49_c : Ct := ⟨[], 0, [], [], 0, [], [], [], [], true, 0, []⟩
def p49_s : Sy := ⟨0, [], [], []⟩
def p49_x : Gx := mkX p49_fi p49_ai p49_ct
theorem p49_ok : chkPair p49_x false 100000 183 415 p49_c p49_c [.r 0] [.r 110] p49_s = true := by decide +kernel
theorem p49_rt : (p49_ct.all fun r c => chkRoot p49_x 100000 r c) = true := by decide +kernel
theorem p49_st : startOk p49_fi p49_ai = true := by decide +kernel
theorem p49_me : meOk p49_s = true := by decide +kernel
theorem p49_yh : Yf 183 = Y_H_tries := rfl
theorem p49_ym : Yf 415 = Y_M_tries := rfl
theorem P_49 {E : xV} : LC_49 E σ00 (fun _ => True) := by
  have ho : Ok (Jd (mkG p49_fi p49_ai)) p49_s [] σ00 := ok_start p49_st p49_me rfl (fun e he => by cases he)
  have h := pairI (E := E) (Y := Yf) (G := p49_x) (G_ok _ _ _) Jd_ok (all_ok (G_ok _ _ _) Jd_ok (fun r c h => (BT.all_P p49_rt).at h)) rfl rfl p49_ok ho (av1 := [.ref 0]) (av2 := [.ref 110]) (⟨rfl, trivial⟩) (⟨rfl, trivial⟩)
  rw [p49_yh, p49_ym] at h
  exact h
def p50_fi : BT Dom := [(5120, [(5120, [(0, 0)])]), (112646, [(112646, [(0, 0)])]), (112666, [(112666, [(0, 1)])])]
def p50_ai : BT Dom := [(125, [(125, [((-4), (-4)), (0, 0)])]), (126, [(126, [((-4), (-4)), (0, 0)])]), (129, [(129, [(0, 1)])])]
def p50_ct : BT Ct := []
def p50_c : Ct := ⟨[], 0, [], [], 0, [], [], [], [(101, [(10, 0), (101, 0)]), (302, [(272, 0), (302, 0)]), (319, [(319, 0)])], true, 0, []⟩
def p50_s : Sy := ⟨7, [(0, [((-2147483648), 2147483647)]), (1, [((-2147483648), 2147483647)]), (2, [((-2147483648), 2147483647)]), (3, [((-2147483648), 2147483647)]), (4, [((-2147483648), 2147483647)]), (5, [((-2147483648), 2147483647)]), (6, [((-2147483648), 2147483647)])], [(110, (.c 26, .c 0))], [(125, (40, .c 0)), (126, (40, .c 0)), (129, (36, .c 0))]⟩
def p50_x : Gx := mkX p50_fi p50_ai p50_ct
theorem p50_ok : chkPair p50_x false 100000 188 420 p50_c p50_c [.r 0, .i 0 0, .i 1 0, .i 2 0, .i 3 0, .i 4 0, .i 5 0, .i 6 0] [.r 110, .i 0 0, .i 1 0, .i 2 0, .i 3 0, .i 4 0, .i 5 0, .i 6 0] p50_s = true := by decide +kernel
theorem p50_rt : (p50_ct.all fun r c => chkRoot p50_x 100000 r c) = true := by decide +kernel
theorem p50_st : startOk p50_fi p50_ai = true := by decide +kernel
theorem p50_me : meOk p50_s = true := by decide +kernel
theorem p50_yh : Yf 188 = Y_H_lend := rfl
theorem p50_ym : Yf 420 = Y_M_lend := rfl
theorem P_50 {E : xV} : LC_50 E σ00 (fun _ => True) := by
  intro x0 x1 x2 x3 x4 x5 x6
  have ho : Ok (Jd (mkG p50_fi p50_ai)) p50_s [x0.toInt, x1.toInt, x2.toInt, x3.toInt, x4.toInt, x5.toInt, x6.toInt] σ00 := ok_start p50_st p50_me rfl (fun e he => by
    rcases List.mem_cons.mp he with rfl | he
    · exact ⟨_, rfl, in32 x0⟩
    rcases List.mem_cons.mp he with rfl | he
    · exact ⟨_, rfl, in32 x1⟩
    rcases List.mem_cons.mp he with rfl | he
    · exact ⟨_, rfl, in32 x2⟩
    rcases List.mem_cons.mp he with rfl | he
    · exact ⟨_, rfl, in32 x3⟩
    rcases List.mem_cons.mp he with rfl | he
    · exact ⟨_, rfl, in32 x4⟩
    rcases List.mem_cons.mp he with rfl | he
    · exact ⟨_, rfl, in32 x5⟩
    rcases List.mem_cons.mp he with rfl | he
    · exact ⟨_, rfl, in32 x6⟩
    cases he)
  have h := pairI (E := E) (Y := Yf) (G := p50_x) (G_ok _ _ _) Jd_ok (all_ok (G_ok _ _ _) Jd_ok (fun r c h => (BT.all_P p50_rt).at h)) rfl rfl p50_ok ho (av1 := [.ref 0, .int x0, .int x1, .int x2, .int x3, .int x4, .int x5, .int x6]) (av2 := [.ref 110, .int x0, .int x1, .int x2, .int x3, .int x4, .int x5, .int x6]) (⟨rfl, ⟨x0, rfl, evi rfl⟩, ⟨x1, rfl, evi rfl⟩, ⟨x2, rfl, evi rfl⟩, ⟨x3, rfl, evi rfl⟩, ⟨x4, rfl, evi rfl⟩, ⟨x5, rfl, evi rfl⟩, ⟨x6, rfl, evi rfl⟩, trivial⟩) (⟨rfl, ⟨x0, rfl, evi rfl⟩, ⟨x1, rfl, evi rfl⟩, ⟨x2, rfl, evi rfl⟩, ⟨x3, rfl, evi rfl⟩, ⟨x4, rfl, evi rfl⟩, ⟨x5, rfl, evi rfl⟩, ⟨x6, rfl, evi rfl⟩, trivial⟩)
  rw [p50_yh, p50_ym] at h
  exact h
def p51_fi : BT Dom := [(53249, [(53249, [(0, 0)])]), (112736, [(112736, [(0, 0)])])]
def p51_ai : BT Dom := []
def p51_ct : BT Ct := []
def p51_c : Ct := ⟨[], 0, [], [], 0, [], [], [], [(7, [(7, 0)]), (272, [(272, 0)])], true, 0, []⟩
def p51_s : Sy := ⟨2, [(0, [((-2147483648), 2147483647)]), (1, [((-2147483648), 2147483647)])], [], []⟩
def p51_x : Gx := mkX p51_fi p51_ai p51_ct
theorem p51_ok : chkPair p51_x false 100000 189 421 p51_c p51_c [.r 0, .i 0 0, .i 1 0] [.r 110, .i 0 0, .i 1 0] p51_s = true := by decide +kernel
theorem p51_rt : (p51_ct.all fun r c => chkRoot p51_x 100000 r c) = true := by decide +kernel
theorem p51_st : startOk p51_fi p51_ai = true := by decide +kernel
theorem p51_me : meOk p51_s = true := by decide +kernel
theorem p51_yh : Yf 189 = Y_H_endLend := rfl
theorem p51_ym : Yf 421 = Y_M_endLend := rfl
theorem P_51 {E : xV} : LC_51 E σ00 (fun _ => True) := by
  intro x0 x1
  have ho : Ok (Jd (mkG p51_fi p51_ai)) p51_s [x0.toInt, x1.toInt] σ00 := ok_start p51_st p51_me rfl (fun e he => by
    rcases List.mem_cons.mp he with rfl | he
    · exact ⟨_, rfl, in32 x0⟩
    rcases List.mem_cons.mp he with rfl | he
    · exact ⟨_, rfl, in32 x1⟩
    cases he)
  have h := pairI (E := E) (Y := Yf) (G := p51_x) (G_ok _ _ _) Jd_ok (all_ok (G_ok _ _ _) Jd_ok (fun r c h => (BT.all_P p51_rt).at h)) rfl rfl p51_ok ho (av1 := [.ref 0, .int x0, .int x1]) (av2 := [.ref 110, .int x0, .int x1]) (⟨rfl, ⟨x0, rfl, evi rfl⟩, ⟨x1, rfl, evi rfl⟩, trivial⟩) (⟨rfl, ⟨x0, rfl, evi rfl⟩, ⟨x1, rfl, evi rfl⟩, trivial⟩)
  rw [p51_yh, p51_ym] at h
  exact h
def p52_fi : BT Dom := [(5120, [(5120, [(0, 0)])]), (112646, [(112646, [(0, 0)])]), (112666, [(112666, [(0, 1)])])]
def p52_ai : BT Dom := [(125, [(125, [((-4), (-4)), (0, 0)])]), (126, [(126, [((-4), (-4)), (0, 0)])]), (129, [(129, [(0, 1)])])]
def p52_ct : BT Ct := []
def p52_c : Ct := ⟨[], 0, [], [], 0, [], [], [], [(101, [(10, 0), (101, 0)]), (302, [(272, 0), (302, 0)]), (319, [(319, 0)])], true, 0, []⟩
def p52_s : Sy := ⟨4, [(0, [((-2147483648), 2147483647)]), (1, [((-2147483648), 2147483647)]), (2, [((-2147483648), 2147483647)]), (3, [((-2147483648), 2147483647)])], [(110, (.c 26, .c 0))], [(125, (40, .c 0)), (126, (40, .c 0)), (129, (36, .c 0))]⟩
def p52_x : Gx := mkX p52_fi p52_ai p52_ct
theorem p52_ok : chkPair p52_x false 100000 191 422 p52_c p52_c [.r 0, .i 0 0, .i 1 0, .i 2 0, .i 3 0] [.r 110, .i 0 0, .i 1 0, .i 2 0, .i 3 0] p52_s = true := by decide +kernel
theorem p52_rt : (p52_ct.all fun r c => chkRoot p52_x 100000 r c) = true := by decide +kernel
theorem p52_st : startOk p52_fi p52_ai = true := by decide +kernel
theorem p52_me : meOk p52_s = true := by decide +kernel
theorem p52_yh : Yf 191 = Y_H_stands := rfl
theorem p52_ym : Yf 422 = Y_M_stands := rfl
theorem P_52 {E : xV} : LC_52 E σ00 (fun _ => True) := by
  intro x0 x1 x2 x3
  have ho : Ok (Jd (mkG p52_fi p52_ai)) p52_s [x0.toInt, x1.toInt, x2.toInt, x3.toInt] σ00 := ok_start p52_st p52_me rfl (fun e he => by
    rcases List.mem_cons.mp he with rfl | he
    · exact ⟨_, rfl, in32 x0⟩
    rcases List.mem_cons.mp he with rfl | he
    · exact ⟨_, rfl, in32 x1⟩
    rcases List.mem_cons.mp he with rfl | he
    · exact ⟨_, rfl, in32 x2⟩
    rcases List.mem_cons.mp he with rfl | he
    · exact ⟨_, rfl, in32 x3⟩
    cases he)
  have h := pairI (E := E) (Y := Yf) (G := p52_x) (G_ok _ _ _) Jd_ok (all_ok (G_ok _ _ _) Jd_ok (fun r c h => (BT.all_P p52_rt).at h)) rfl rfl p52_ok ho (av1 := [.ref 0, .int x0, .int x1, .int x2, .int x3]) (av2 := [.ref 110, .int x0, .int x1, .int x2, .int x3]) (⟨rfl, ⟨x0, rfl, evi rfl⟩, ⟨x1, rfl, evi rfl⟩, ⟨x2, rfl, evi rfl⟩, ⟨x3, rfl, evi rfl⟩, trivial⟩) (⟨rfl, ⟨x0, rfl, evi rfl⟩, ⟨x1, rfl, evi rfl⟩, ⟨x2, rfl, evi rfl⟩, ⟨x3, rfl, evi rfl⟩, trivial⟩)
  rw [p52_yh, p52_ym] at h
  exact h
def p53_fi : BT Dom := [(53253, [(53253, [(0, 0)])]), (112749, [(112749, [(0, 0)])])]
def p53_ai : BT Dom := []
def p53_ct : BT Ct := []
def p53_c : Ct := ⟨[], 0, [], [], 0, [], [], [], [(7, [(7, 0)]), (272, [(272, 0)])], true, 0, []⟩
def p53_s : Sy := ⟨1, [(0, [((-2147483648), 2147483647)])], [], []⟩
def p53_x : Gx := mkX p53_fi p53_ai p53_ct
theorem p53_ok : chkPair p53_x false 100000 192 423 p53_c p53_c [.r 0, .i 0 0] [.r 110, .i 0 0] p53_s = true := by decide +kernel
theorem p53_rt : (p53_ct.all fun r c => chkRoot p53_x 100000 r c) = true := by decide +kernel
theorem p53_st : startOk p53_fi p53_ai = true := by decide +kernel
theorem p53_me : meOk p53_s = true := by decide +kernel
theorem p53_yh : Yf 192 = Y_H_chain := rfl
theorem p53_ym : Yf 423 = Y_M_chain := rfl
theorem P_53 {E : xV} : LC_53 E σ00 (fun _ => True) := by
  intro x0
  have ho : Ok (Jd (mkG p53_fi p53_ai)) p53_s [x0.toInt] σ00 := ok_start p53_st p53_me rfl (fun e he => by
    rcases List.mem_cons.mp he with rfl | he
    · exact ⟨_, rfl, in32 x0⟩
    cases he)
  have h := pairI (E := E) (Y := Yf) (G := p53_x) (G_ok _ _ _) Jd_ok (all_ok (G_ok _ _ _) Jd_ok (fun r c h => (BT.all_P p53_rt).at h)) rfl rfl p53_ok ho (av1 := [.ref 0, .int x0]) (av2 := [.ref 110, .int x0]) (⟨rfl, ⟨x0, rfl, evi rfl⟩, trivial⟩) (⟨rfl, ⟨x0, rfl, evi rfl⟩, trivial⟩)
  rw [p53_yh, p53_ym] at h
  exact h
def p54_fi : BT Dom := [(5120, [(5120, [(0, 0)])]), (112646, [(112646, [(0, 0)])]), (112666, [(112666, [(0, 1)])])]
def p54_ai : BT Dom := [(125, [(125, [((-4), (-4)), (0, 0)])]), (126, [(126, [((-4), (-4)), (0, 0)])]), (129, [(129, [(0, 1)])])]
def p54_ct : BT Ct := []
def p54_c : Ct := ⟨[], 0, [], [], 0, [], [], [], [(101, [(10, 0), (101, 0)]), (302, [(272, 0), (302, 0)]), (319, [(319, 0)])], true, 0, []⟩
def p54_s : Sy := ⟨3, [(0, [((-2147483648), 2147483647)]), (1, [((-2147483648), 2147483647)]), (2, [((-2147483648), 2147483647)])], [(110, (.c 26, .c 0))], [(125, (40, .c 0)), (126, (40, .c 0)), (129, (36, .c 0))]⟩
def p54_x : Gx := mkX p54_fi p54_ai p54_ct
theorem p54_ok : chkPair p54_x false 100000 194 424 p54_c p54_c [.r 0, .i 0 0, .i 1 0, .i 2 0] [.r 110, .i 0 0, .i 1 0, .i 2 0] p54_s = true := by decide +kernel
theorem p54_rt : (p54_ct.all fun r c => chkRoot p54_x 100000 r c) = true := by decide +kernel
theorem p54_st : startOk p54_fi p54_ai = true := by decide +kernel
theorem p54_me : meOk p54_s = true := by decide +kernel
theorem p54_yh : Yf 194 = Y_H_useRight := rfl
theorem p54_ym : Yf 424 = Y_M_useRight := rfl
theorem P_54 {E : xV} : LC_54 E σ00 (fun _ => True) := by
  intro x0 x1 x2
  have ho : Ok (Jd (mkG p54_fi p54_ai)) p54_s [x0.toInt, x1.toInt, x2.toInt] σ00 := ok_start p54_st p54_me rfl (fun e he => by
    rcases List.mem_cons.mp he with rfl | he
    · exact ⟨_, rfl, in32 x0⟩
    rcases List.mem_cons.mp he with rfl | he
    · exact ⟨_, rfl, in32 x1⟩
    rcases List.mem_cons.mp he with rfl | he
    · exact ⟨_, rfl, in32 x2⟩
    cases he)
  have h := pairI (E := E) (Y := Yf) (G := p54_x) (G_ok _ _ _) Jd_ok (all_ok (G_ok _ _ _) Jd_ok (fun r c h => (BT.all_P p54_rt).at h)) rfl rfl p54_ok ho (av1 := [.ref 0, .int x0, .int x1, .int x2]) (av2 := [.ref 110, .int x0, .int x1, .int x2]) (⟨rfl, ⟨x0, rfl, evi rfl⟩, ⟨x1, rfl, evi rfl⟩, ⟨x2, rfl, evi rfl⟩, trivial⟩) (⟨rfl, ⟨x0, rfl, evi rfl⟩, ⟨x1, rfl, evi rfl⟩, ⟨x2, rfl, evi rfl⟩, trivial⟩)
  rw [p54_yh, p54_ym] at h
  exact h
def p55_fi : BT Dom := [(53249, [(53249, [(0, 0)])]), (112736, [(112736, [(0, 0)])])]
def p55_ai : BT Dom := []
def p55_ct : BT Ct := []
def p55_c : Ct := ⟨[], 0, [], [], 0, [], [], [], [(7, [(7, 0)]), (272, [(272, 0)])], true, 0, []⟩
def p55_s : Sy := ⟨2, [(0, [((-2147483648), 2147483647)]), (1, [((-2147483648), 2147483647)])], [], []⟩
def p55_x : Gx := mkX p55_fi p55_ai p55_ct
theorem p55_ok : chkPair p55_x false 100000 195 425 p55_c p55_c [.r 0, .i 0 0, .i 1 0] [.r 110, .i 0 0, .i 1 0] p55_s = true := by decide +kernel
theorem p55_rt : (p55_ct.all fun r c => chkRoot p55_x 100000 r c) = true := by decide +kernel
theorem p55_st : startOk p55_fi p55_ai = true := by decide +kernel
theorem p55_me : meOk p55_s = true := by decide +kernel
theorem p55_yh : Yf 195 = Y_H_lendOf := rfl
theorem p55_ym : Yf 425 = Y_M_lendOf := rfl
theorem P_55 {E : xV} : LC_55 E σ00 (fun _ => True) := by
  intro x0 x1
  have ho : Ok (Jd (mkG p55_fi p55_ai)) p55_s [x0.toInt, x1.toInt] σ00 := ok_start p55_st p55_me rfl (fun e he => by
    rcases List.mem_cons.mp he with rfl | he
    · exact ⟨_, rfl, in32 x0⟩
    rcases List.mem_cons.mp he with rfl | he
    · exact ⟨_, rfl, in32 x1⟩
    cases he)
  have h := pairI (E := E) (Y := Yf) (G := p55_x) (G_ok _ _ _) Jd_ok (all_ok (G_ok _ _ _) Jd_ok (fun r c h => (BT.all_P p55_rt).at h)) rfl rfl p55_ok ho (av1 := [.ref 0, .int x0, .int x1]) (av2 := [.ref 110, .int x0, .int x1]) (⟨rfl, ⟨x0, rfl, evi rfl⟩, ⟨x1, rfl, evi rfl⟩, trivial⟩) (⟨rfl, ⟨x0, rfl, evi rfl⟩, ⟨x1, rfl, evi rfl⟩, trivial⟩)
  rw [p55_yh, p55_ym] at h
  exact h
def p56_fi : BT Dom := [(53258, [(53258, [(0, 0)])])]
def p56_ai : BT Dom := [(56, [(56, [(0, 15)])]), (182, [(182, [(0, 15)])])]
def p56_ct : BT Ct := []
def p56_c : Ct := ⟨[], 0, [], [], 0, [], [], [], [(196, [(196, 0)]), (197, [(197, 0)]), (272, [(272, 0)])], true, 0, [(12976144, [(12976144, ())])]⟩
def p56_s : Sy := ⟨3, [(0, [((-2147483648), 2147483647)]), (1, [((-2147483648), 2147483647)]), (2, [((-2147483648), 2147483647)])], [], [(56, (144, .c 0)), (182, (144, .c 0))]⟩
def p56_x : Gx := mkX p56_fi p56_ai p56_ct
theorem p56_ok : chkPair p56_x false 100000 198 428 p56_c p56_c [.r 0, .i 0 0, .i 1 0, .i 2 0] [.r 110, .i 0 0, .i 1 0, .i 2 0] p56_s = true := by decide +kernel
theorem p56_rt : (p56_ct.all fun r c => chkRoot p56_x 100000 r c) = true := by decide +kernel
theorem p56_st : startOk p56_fi p56_ai = true := by decide +kernel
theorem p56_me : meOk p56_s = true := by decide +kernel
theorem p56_yh : Yf 198 = Y_H_key := rfl
theorem p56_ym : Yf 428 = Y_M_key := rfl
theorem P_56 {E : xV} : LC_56 E σ00 (fun _ => True) := by
  intro x0 x1 x2
  have ho : Ok (Jd (mkG p56_fi p56_ai)) p56_s [x0.toInt, x1.toInt, x2.toInt] σ00 := ok_start p56_st p56_me rfl (fun e he => by
    rcases List.mem_cons.mp he with rfl | he
    · exact ⟨_, rfl, in32 x0⟩
    rcases List.mem_cons.mp he with rfl | he
    · exact ⟨_, rfl, in32 x1⟩
    rcases List.mem_cons.mp he with rfl | he
    · exact ⟨_, rfl, in32 x2⟩
    cases he)
  have h := pairI (E := E) (Y := Yf) (G := p56_x) (G_ok _ _ _) Jd_ok (all_ok (G_ok _ _ _) Jd_ok (fun r c h => (BT.all_P p56_rt).at h)) rfl rfl p56_ok ho (av1 := [.ref 0, .int x0, .int x1, .int x2]) (av2 := [.ref 110, .int x0, .int x1, .int x2]) (⟨rfl, ⟨x0, rfl, evi rfl⟩, ⟨x1, rfl, evi rfl⟩, ⟨x2, rfl, evi rfl⟩, trivial⟩) (⟨rfl, ⟨x0, rfl, evi rfl⟩, ⟨x1, rfl, evi rfl⟩, ⟨x2, rfl, evi rfl⟩, trivial⟩)
  rw [p56_yh, p56_ym] at h
  exact h
