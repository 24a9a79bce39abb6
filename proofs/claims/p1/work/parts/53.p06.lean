def p59_fi : BT Dom := [(112757, [(112757, [(0, 1)])])]
def p59_ai : BT Dom := [(60, [(60, [(0, 255)])]), (187, [(187, [(0, 255)])])]
def p59_ct : BT Ct := []
def p59_c : Ct := ⟨[], 0, [], [], 0, [], [], [], [(7, [(7, 0)]), (272, [(272, 0)]), (431, [(431, 0)])], true, 0, [(13434910, [(13434910, ())])]⟩
def p59_s : Sy := ⟨2, [(0, [((-2147483648), 2147483647)]), (1, [((-2147483648), 2147483647)])], [(110, (.c 117, .c 0)), (60, (.c 0, .c 255)), (60, (.c 1, .c 255)), (60, (.c 10, .c 255)), (60, (.c 11, .c 255)), (60, (.c 12, .c 255)), (60, (.c 13, .c 255)), (60, (.c 2, .c 255)), (60, (.c 3, .c 255)), (60, (.c 4, .c 255)), (60, (.c 5, .c 255)), (60, (.c 6, .c 255)), (60, (.c 7, .c 255)), (60, (.c 8, .c 255)), (60, (.c 9, .c 255))], [(187, (14, .c 0))]⟩
def p59_x : Gx := mkX p59_fi p59_ai p59_ct
theorem p59_ok : chkPair p59_x false 100000 205 432 p59_c p59_c [.r 0, .i 0 0, .i 1 0] [.r 110, .i 0 0, .i 1 0] p59_s = true := by decide +kernel
theorem p59_rt : (p59_ct.all fun r c => chkRoot p59_x 100000 r c) = true := by decide +kernel
theorem p59_me : meOk p59_s = true := by decide +kernel
theorem p59_st : startOk p59_fi p59_ai = true := by decide +kernel
theorem p59_yh : Yf 205 = Y_H_label := rfl
theorem p59_ym : Yf 432 = Y_M_label := rfl
theorem P_59 {E : xV} : LC_59 E σ00 (fun _ => True) := by
  intro x0 x1
  have ho : Ok (Jd (mkG p59_fi p59_ai)) p59_s [x0.toInt, x1.toInt] σ00 := ok_start p59_st p59_me rfl (fun e he => by
    rcases List.mem_cons.mp he with rfl | he
    · exact ⟨_, rfl, in32 x0⟩
    rcases List.mem_cons.mp he with rfl | he
    · exact ⟨_, rfl, in32 x1⟩
    cases he)
  have h := pairI (E := E) (Y := Yf) (G := p59_x) (G_ok _ _ _) Jd_ok (all_ok (G_ok _ _ _) Jd_ok (fun r c h => (BT.all_P p59_rt).at h)) rfl rfl p59_ok ho (av1 := [.ref 0, .int x0, .int x1]) (av2 := [.ref 110, .int x0, .int x1]) (⟨rfl, ⟨x0, rfl, evi rfl⟩, ⟨x1, rfl, evi rfl⟩, trivial⟩) (⟨rfl, ⟨x0, rfl, evi rfl⟩, ⟨x1, rfl, evi rfl⟩, trivial⟩)
  rw [p59_yh, p59_ym] at h
  exact h
def p60_fi : BT Dom := [(60417, [(60417, [(0, 1)])]), (112758, [(112758, [(0, 1)])])]
def p60_ai : BT Dom := [(62, [(61, [(0, 5)]), (62, [(0, 9)])]), (64, [(63, [((-2147483648), 2147483647)]), (64, [((-2147483648), 2147483647)])]), (189, [(188, [(0, 5)]), (189, [(0, 9)])]), (191, [(190, [((-2147483648), 2147483647)]), (191, [((-2147483648), 2147483647)])])]
def p60_ct : BT Ct := []
def p60_c : Ct := ⟨[], 0, [], [], 0, [], [], [], [(207, [(206, 0), (207, 0)]), (211, [(210, 0), (211, 0)]), (272, [(272, 0)])], true, 0, []⟩
def p60_s : Sy := ⟨4, [(0, [((-2147483648), 2147483647)]), (1, [((-2147483648), 2147483647)]), (2, [((-2147483648), 2147483647)]), (3, [((-2147483648), 2147483647)])], [(110, (.c 118, .c 0)), (59, (.c 1, .c 0))], [(61, (60, .c 0)), (62, (60, .c 0)), (63, (60, .c 0)), (64, (60, .c 0)), (188, (60, .c 0)), (189, (60, .c 0)), (190, (60, .c 0)), (191, (60, .c 0))]⟩
def p60_x : Gx := mkX p60_fi p60_ai p60_ct
theorem p60_ok : chkPair p60_x false 100000 212 435 p60_c p60_c [.r 0, .i 0 0, .i 1 0, .i 2 0, .i 3 0] [.r 110, .i 0 0, .i 1 0, .i 2 0, .i 3 0] p60_s = true := by decide +kernel
theorem p60_rt : (p60_ct.all fun r c => chkRoot p60_x 100000 r c) = true := by decide +kernel
theorem p60_me : meOk p60_s = true := by decide +kernel
theorem p60_st : startOk p60_fi p60_ai = true := by decide +kernel
theorem p60_yh : Yf 212 = Y_H_statement := rfl
theorem p60_ym : Yf 435 = Y_M_statement := rfl
theorem P_60 {E : xV} : LC_60 E σ00 (fun _ => True) := by
  intro x0 x1 x2 x3
  have ho : Ok (Jd (mkG p60_fi p60_ai)) p60_s [x0.toInt, x1.toInt, x2.toInt, x3.toInt] σ00 := ok_start p60_st p60_me rfl (fun e he => by
    rcases List.mem_cons.mp he with rfl | he
    · exact ⟨_, rfl, in32 x0⟩
    rcases List.mem_cons.mp he with rfl | he
    · exact ⟨_, rfl, in32 x1⟩
    rcases List.mem_cons.mp he with rfl | he
    · exact ⟨_, rfl, in32 x2⟩
    rcases List.mem_cons.mp he with rfl | he
    · exact ⟨_, rfl, in32 x3⟩
    cases he)
  have h := pairI (E := E) (Y := Yf) (G := p60_x) (G_ok _ _ _) Jd_ok (all_ok (G_ok _ _ _) Jd_ok (fun r c h => (BT.all_P p60_rt).at h)) rfl rfl p60_ok ho (av1 := [.ref 0, .int x0, .int x1, .int x2, .int x3]) (av2 := [.ref 110, .int x0, .int x1, .int x2, .int x3]) (⟨rfl, ⟨x0, rfl, evi rfl⟩, ⟨x1, rfl, evi rfl⟩, ⟨x2, rfl, evi rfl⟩, ⟨x3, rfl, evi rfl⟩, trivial⟩) (⟨rfl, ⟨x0, rfl, evi rfl⟩, ⟨x1, rfl, evi rfl⟩, ⟨x2, rfl, evi rfl⟩, ⟨x3, rfl, evi rfl⟩, trivial⟩)
  rw [p60_yh, p60_ym] at h
  exact h
def p61_fi : BT Dom := [(60417, [(60417, [(0, 0)])]), (112758, [(112758, [(0, 0)])])]
def p61_ai : BT Dom := []
def p61_ct : BT Ct := []
def p61_c : Ct := ⟨[], 0, [], [], 0, [], [], [], [], true, 0, []⟩
def p61_s : Sy := ⟨0, [], [], []⟩
def p61_x : Gx := mkX p61_fi p61_ai p61_ct
theorem p61_ok : chkPair p61_x false 100000 213 436 p61_c p61_c [.r 0] [.r 110] p61_s = true := by decide +kernel
theorem p61_rt : (p61_ct.all fun r c => chkRoot p61_x 100000 r c) = true := by decide +kernel
theorem p61_me : meOk p61_s = true := by decide +kernel
theorem p61_st : startOk p61_fi p61_ai = true := by decide +kernel
theorem p61_yh : Yf 213 = Y_H_erase := rfl
theorem p61_ym : Yf 436 = Y_M_erase := rfl
theorem P_61 {E : xV} : LC_61 E σ00 (fun _ => True) := by
  have ho : Ok (Jd (mkG p61_fi p61_ai)) p61_s [] σ00 := ok_start p61_st p61_me rfl (fun e he => by cases he)
  have h := pairI (E := E) (Y := Yf) (G := p61_x) (G_ok _ _ _) Jd_ok (all_ok (G_ok _ _ _) Jd_ok (fun r c h => (BT.all_P p61_rt).at h)) rfl rfl p61_ok ho (av1 := [.ref 0]) (av2 := [.ref 110]) (⟨rfl, trivial⟩) (⟨rfl, trivial⟩)
  rw [p61_yh, p61_ym] at h
  exact h
