def p29_fi : BT Dom := [(17408, [(17408, [(0, 0)])]), (112672, [(112672, [(0, 0)])])]
def p29_ai : BT Dom := []
def p29_ct : BT Ct := []
def p29_c : Ct := ⟨[], 0, [], [], 0, [], [], [], [(7, [(7, 0)]), (272, [(272, 0)]), (364, [(364, 0)])], true, 0, []⟩
def p29_s : Sy := ⟨2, [(0, [((-2147483648), 2147483647)]), (1, [((-2147483648), 2147483647)])], [], []⟩
def p29_x : Gx := mkX p29_fi p29_ai p29_ct
theorem p29_ok : chkPair p29_x false 100000 141 387 p29_c p29_c [.r 0, .i 0 0, .i 1 0] [.r 110, .i 0 0, .i 1 0] p29_s = true := by decide +kernel
theorem p29_rt : (p29_ct.all fun r c => chkRoot p29_x 100000 r c) = true := by decide +kernel
theorem p29_st : startOk p29_fi p29_ai = true := by decide +kernel
theorem p29_me : meOk p29_s = true := by decide +kernel
theorem p29_yh : Yf 141 = Y_H_compare := rfl
theorem p29_ym : Yf 387 = Y_M_compare := rfl
theorem P_29 {E : xV} : LC_29 E σ00 (fun _ => True) := by
  intro x0 x1
  have ho : Ok (Jd (mkG p29_fi p29_ai)) p29_s [x0.toInt, x1.toInt] σ00 := ok_start p29_st p29_me rfl (fun e he => by
    rcases List.mem_cons.mp he with rfl | he
    · exact ⟨_, rfl, in32 x0⟩
    rcases List.mem_cons.mp he with rfl | he
    · exact ⟨_, rfl, in32 x1⟩
    cases he)
  have h := pairI (E := E) (Y := Yf) (G := p29_x) (G_ok _ _ _) Jd_ok (all_ok (G_ok _ _ _) Jd_ok (fun r c h => (BT.all_P p29_rt).at h)) rfl rfl p29_ok ho (av1 := [.ref 0, .int x0, .int x1]) (av2 := [.ref 110, .int x0, .int x1]) (⟨rfl, ⟨x0, rfl, evi rfl⟩, ⟨x1, rfl, evi rfl⟩, trivial⟩) (⟨rfl, ⟨x0, rfl, evi rfl⟩, ⟨x1, rfl, evi rfl⟩, trivial⟩)
  rw [p29_yh, p29_ym] at h
  exact h
def p30_fi : BT Dom := [(27666, [(27666, [(0, 0)])]), (112714, [(112714, [(0, 0)])])]
def p30_ai : BT Dom := []
def p30_ct : BT Ct := []
def p30_c : Ct := ⟨[], 0, [], [], 0, [], [], [], [(7, [(7, 0)]), (272, [(272, 0)])], true, 0, []⟩
def p30_s : Sy := ⟨1, [(0, [((-2147483648), 2147483647)])], [], []⟩
def p30_x : Gx := mkX p30_fi p30_ai p30_ct
theorem p30_ok : chkPair p30_x false 100000 142 388 p30_c p30_c [.r 0, .i 0 0] [.r 110, .i 0 0] p30_s = true := by decide +kernel
theorem p30_rt : (p30_ct.all fun r c => chkRoot p30_x 100000 r c) = true := by decide +kernel
theorem p30_st : startOk p30_fi p30_ai = true := by decide +kernel
theorem p30_me : meOk p30_s = true := by decide +kernel
theorem p30_yh : Yf 142 = Y_H_compared := rfl
theorem p30_ym : Yf 388 = Y_M_compared := rfl
theorem P_30 {E : xV} : LC_30 E σ00 (fun _ => True) := by
  intro x0
  have ho : Ok (Jd (mkG p30_fi p30_ai)) p30_s [x0.toInt] σ00 := ok_start p30_st p30_me rfl (fun e he => by
    rcases List.mem_cons.mp he with rfl | he
    · exact ⟨_, rfl, in32 x0⟩
    cases he)
  have h := pairI (E := E) (Y := Yf) (G := p30_x) (G_ok _ _ _) Jd_ok (all_ok (G_ok _ _ _) Jd_ok (fun r c h => (BT.all_P p30_rt).at h)) rfl rfl p30_ok ho (av1 := [.ref 0, .int x0]) (av2 := [.ref 110, .int x0]) (⟨rfl, ⟨x0, rfl, evi rfl⟩, trivial⟩) (⟨rfl, ⟨x0, rfl, evi rfl⟩, trivial⟩)
  rw [p30_yh, p30_ym] at h
  exact h
def p31_fi : BT Dom := [(17408, [(17408, [(0, 0)])]), (112672, [(112672, [(0, 0)])])]
def p31_ai : BT Dom := []
def p31_ct : BT Ct := []
def p31_c : Ct := ⟨[], 0, [], [], 0, [], [], [], [(7, [(7, 0)]), (272, [(272, 0)]), (364, [(364, 0)])], true, 0, []⟩
def p31_s : Sy := ⟨2, [(0, [((-2147483648), 2147483647)]), (1, [((-2147483648), 2147483647)])], [], []⟩
def p31_x : Gx := mkX p31_fi p31_ai p31_ct
theorem p31_ok : chkPair p31_x false 100000 144 389 p31_c p31_c [.r 0, .i 0 0, .i 1 0] [.r 110, .i 0 0, .i 1 0] p31_s = true := by decide +kernel
theorem p31_rt : (p31_ct.all fun r c => chkRoot p31_x 100000 r c) = true := by decide +kernel
theorem p31_st : startOk p31_fi p31_ai = true := by decide +kernel
theorem p31_me : meOk p31_s = true := by decide +kernel
theorem p31_yh : Yf 144 = Y_H_decides := rfl
theorem p31_ym : Yf 389 = Y_M_decides := rfl
theorem P_31 {E : xV} : LC_31 E σ00 (fun _ => True) := by
  intro x0 x1
  have ho : Ok (Jd (mkG p31_fi p31_ai)) p31_s [x0.toInt, x1.toInt] σ00 := ok_start p31_st p31_me rfl (fun e he => by
    rcases List.mem_cons.mp he with rfl | he
    · exact ⟨_, rfl, in32 x0⟩
    rcases List.mem_cons.mp he with rfl | he
    · exact ⟨_, rfl, in32 x1⟩
    cases he)
  have h := pairI (E := E) (Y := Yf) (G := p31_x) (G_ok _ _ _) Jd_ok (all_ok (G_ok _ _ _) Jd_ok (fun r c h => (BT.all_P p31_rt).at h)) rfl rfl p31_ok ho (av1 := [.ref 0, .int x0, .int x1]) (av2 := [.ref 110, .int x0, .int x1]) (⟨rfl, ⟨x0, rfl, evi rfl⟩, ⟨x1, rfl, evi rfl⟩, trivial⟩) (⟨rfl, ⟨x0, rfl, evi rfl⟩, ⟨x1, rfl, evi rfl⟩, trivial⟩)
  rw [p31_yh, p31_ym] at h
  exact h
def p32_fi : BT Dom := [(5121, [(5121, [(0, 0)])]), (112647, [(112647, [(0, 0)])])]
def p32_ai : BT Dom := []
def p32_ct : BT Ct := []
def p32_c : Ct := ⟨[], 0, [], [], 0, [], [], [], [(11, [(11, 0)]), (272, [(272, 0)]), (303, [(303, 0)])], true, 0, []⟩
def p32_s : Sy := ⟨3, [(0, [((-2147483648), 2147483647)]), (1, [((-2147483648), 2147483647)]), (2, [((-2147483648), 2147483647)])], [], []⟩
def p32_x : Gx := mkX p32_fi p32_ai p32_ct
theorem p32_ok : chkPair p32_x false 100000 146 390 p32_c p32_c [.r 0, .i 0 0, .i 1 0, .i 2 0] [.r 110, .i 0 0, .i 1 0, .i 2 0] p32_s = true := by decide +kernel
theorem p32_rt : (p32_ct.all fun r c => chkRoot p32_x 100000 r c) = true := by decide +kernel
theorem p32_st : startOk p32_fi p32_ai = true := by decide +kernel
theorem p32_me : meOk p32_s = true := by decide +kernel
theorem p32_yh : Yf 146 = Y_H_law := rfl
theorem p32_ym : Yf 390 = Y_M_law := rfl
theorem P_32 {E : xV} : LC_32 E σ00 (fun _ => True) := by
  intro x0 x1 x2
  have ho : Ok (Jd (mkG p32_fi p32_ai)) p32_s [x0.toInt, x1.toInt, x2.toInt] σ00 := ok_start p32_st p32_me rfl (fun e he => by
    rcases List.mem_cons.mp he with rfl | he
    · exact ⟨_, rfl, in32 x0⟩
    rcases List.mem_cons.mp he with rfl | he
    · exact ⟨_, rfl, in32 x1⟩
    rcases List.mem_cons.mp he with rfl | he
    · exact ⟨_, rfl, in32 x2⟩
    cases he)
  have h := pairI (E := E) (Y := Yf) (G := p32_x) (G_ok _ _ _) Jd_ok (all_ok (G_ok _ _ _) Jd_ok (fun r c h => (BT.all_P p32_rt).at h)) rfl rfl p32_ok ho (av1 := [.ref 0, .int x0, .int x1, .int x2]) (av2 := [.ref 110, .int x0, .int x1, .int x2]) (⟨rfl, ⟨x0, rfl, evi rfl⟩, ⟨x1, rfl, evi rfl⟩, ⟨x2, rfl, evi rfl⟩, trivial⟩) (⟨rfl, ⟨x0, rfl, evi rfl⟩, ⟨x1, rfl, evi rfl⟩, ⟨x2, rfl, evi rfl⟩, trivial⟩)
  rw [p32_yh, p32_ym] at h
  exact h
def p33_fi : BT Dom := [(5120, [(5120, [(0, 0)])]), (112646, [(112646, [(0, 0)])])]
def p33_ai : BT Dom := []
def p33_ct : BT Ct := []
def p33_c : Ct := ⟨[], 0, [], [], 0, [], [], [], [(10, [(10, 0)]), (272, [(272, 0)]), (302, [(302, 0)])], true, 0, []⟩
def p33_s : Sy := ⟨4, [(0, [((-2147483648), 2147483647)]), (1, [((-2147483648), 2147483647)]), (2, [((-2147483648), 2147483647)]), (3, [((-2147483648), 2147483647)])], [], []⟩
def p33_x : Gx := mkX p33_fi p33_ai p33_ct
theorem p33_ok : chkPair p33_x false 100000 152 393 p33_c p33_c [.r 0, .i 0 0, .i 1 0, .i 2 0, .i 3 0] [.r 110, .i 0 0, .i 1 0, .i 2 0, .i 3 0] p33_s = true := by decide +kernel
theorem p33_rt : (p33_ct.all fun r c => chkRoot p33_x 100000 r c) = true := by decide +kernel
theorem p33_st : startOk p33_fi p33_ai = true := by decide +kernel
theorem p33_me : meOk p33_s = true := by decide +kernel
theorem p33_yh : Yf 152 = Y_H_give := rfl
theorem p33_ym : Yf 393 = Y_M_give := rfl
theorem P_33 {E : xV} : LC_33 E σ00 (fun _ => True) := by
  intro x0 x1 x2 x3
  have ho : Ok (Jd (mkG p33_fi p33_ai)) p33_s [x0.toInt, x1.toInt, x2.toInt, x3.toInt] σ00 := ok_start p33_st p33_me rfl (fun e he => by
    rcases List.mem_cons.mp he with rfl | he
    · exact ⟨_, rfl, in32 x0⟩
    rcases List.mem_cons.mp he with rfl | he
    · exact ⟨_, rfl, in32 x1⟩
    rcases List.mem_cons.mp he with rfl | he
    · exact ⟨_, rfl, in32 x2⟩
    rcases List.mem_cons.mp he with rfl | he
    · exact ⟨_, rfl, in32 x3⟩
    cases he)
  have h := pairI (E := E) (Y := Yf) (G := p33_x) (G_ok _ _ _) Jd_ok (all_ok (G_ok _ _ _) Jd_ok (fun r c h => (BT.all_P p33_rt).at h)) rfl rfl p33_ok ho (av1 := [.ref 0, .int x0, .int x1, .int x2, .int x3]) (av2 := [.ref 110, .int x0, .int x1, .int x2, .int x3]) (⟨rfl, ⟨x0, rfl, evi rfl⟩, ⟨x1, rfl, evi rfl⟩, ⟨x2, rfl, evi rfl⟩, ⟨x3, rfl, evi rfl⟩, trivial⟩) (⟨rfl, ⟨x0, rfl, evi rfl⟩, ⟨x1, rfl, evi rfl⟩, ⟨x2, rfl, evi rfl⟩, ⟨x3, rfl, evi rfl⟩, trivial⟩)
  rw [p33_yh, p33_ym] at h
  exact h
def p34_fi : BT Dom := [(5120, [(5120, [(0, 0)])]), (112646, [(112646, [(0, 0)])])]
def p34_ai : BT Dom := []
def p34_ct : BT Ct := []
def p34_c : Ct := ⟨[], 0, [], [], 0, [], [], [], [(10, [(10, 0)]), (272, [(272, 0)]), (302, [(302, 0)])], true, 0, []⟩
def p34_s : Sy := ⟨3, [(0, [((-2147483648), 2147483647)]), (1, [((-2147483648), 2147483647)]), (2, [((-2147483648), 2147483647)])], [], []⟩
def p34_x : Gx := mkX p34_fi p34_ai p34_ct
theorem p34_ok : chkPair p34_x false 100000 154 394 p34_c p34_c [.r 0, .i 0 0, .i 1 0, .i 2 0] [.r 110, .i 0 0, .i 1 0, .i 2 0] p34_s = true := by decide +kernel
theorem p34_rt : (p34_ct.all fun r c => chkRoot p34_x 100000 r c) = true := by decide +kernel
theorem p34_st : startOk p34_fi p34_ai = true := by decide +kernel
theorem p34_me : meOk p34_s = true := by decide +kernel
theorem p34_yh : Yf 154 = Y_H_take := rfl
theorem p34_ym : Yf 394 = Y_M_take := rfl
theorem P_34 {E : xV} : LC_34 E σ00 (fun _ => True) := by
  intro x0 x1 x2
  have ho : Ok (Jd (mkG p34_fi p34_ai)) p34_s [x0.toInt, x1.toInt, x2.toInt] σ00 := ok_start p34_st p34_me rfl (fun e he => by
    rcases List.mem_cons.mp he with rfl | he
    · exact ⟨_, rfl, in32 x0⟩
    rcases List.mem_cons.mp he with rfl | he
    · exact ⟨_, rfl, in32 x1⟩
    rcases List.mem_cons.mp he with rfl | he
    · exact ⟨_, rfl, in32 x2⟩
    cases he)
  have h := pairI (E := E) (Y := Yf) (G := p34_x) (G_ok _ _ _) Jd_ok (all_ok (G_ok _ _ _) Jd_ok (fun r c h => (BT.all_P p34_rt).at h)) rfl rfl p34_ok ho (av1 := [.ref 0, .int x0, .int x1, .int x2]) (av2 := [.ref 110, .int x0, .int x1, .int x2]) (⟨rfl, ⟨x0, rfl, evi rfl⟩, ⟨x1, rfl, evi rfl⟩, ⟨x2, rfl, evi rfl⟩, trivial⟩) (⟨rfl, ⟨x0, rfl, evi rfl⟩, ⟨x1, rfl, evi rfl⟩, ⟨x2, rfl, evi rfl⟩, trivial⟩)
  rw [p34_yh, p34_ym] at h
  exact h
def p35_fi : BT Dom := [(34821, [(34821, [((-4), (-4))])]), (112721, [(112721, [((-4), (-4))])])]
def p35_ai : BT Dom := []
def p35_ct : BT Ct := []
def p35_c : Ct := ⟨[], 0, [], [], 0, [], [], [], [], true, 0, []⟩
def p35_s : Sy := ⟨0, [], [], []⟩
def p35_x : Gx := mkX p35_fi p35_ai p35_ct
theorem p35_ok : chkPair p35_x false 100000 155 395 p35_c p35_c [.r 0] [.r 110] p35_s = true := by decide +kernel
theorem p35_rt : (p35_ct.all fun r c => chkRoot p35_x 100000 r c) = true := by decide +kernel
theorem p35_st : startOk p35_fi p35_ai = true := by decide +kernel
theorem p35_me : meOk p35_s = true := by decide +kernel
theorem p35_yh : Yf 155 = Y_H_broken := rfl
theorem p35_ym : Yf 395 = Y_M_broken := rfl
theorem P_35 {E : xV} : LC_35 E σ00 (fun _ => True) := by
  have ho : Ok (Jd (mkG p35_fi p35_ai)) p35_s [] σ00 := ok_start p35_st p35_me rfl (fun e he => by cases he)
  have h := pairI (E := E) (Y := Yf) (G := p35_x) (G_ok _ _ _) Jd_ok (all_ok (G_ok _ _ _) Jd_ok (fun r c h => (BT.all_P p35_rt).at h)) rfl rfl p35_ok ho (av1 := [.ref 0]) (av2 := [.ref 110]) (⟨rfl, trivial⟩) (⟨rfl, trivial⟩)
  rw [p35_yh, p35_ym] at h
  exact h
def p36_fi : BT Dom := [(5120, [(2, [(0, 0)]), (5120, [(0, 0)])]), (112717, [(34817, [(0, 0)]), (112717, [(0, 0)])])]
def p36_ai : BT Dom := []
def p36_ct : BT Ct := []
def p36_c : Ct := ⟨[], 0, [], [], 0, [], [], [], [(150, [(150, 0)]), (272, [(272, 0)])], true, 0, []⟩
def p36_s : Sy := ⟨1, [(0, [((-2147483648), 2147483647)])], [], []⟩
def p36_x : Gx := mkX p36_fi p36_ai p36_ct
theorem p36_ok : chkPair p36_x false 100000 156 396 p36_c p36_c [.r 0, .i 0 0] [.r 110, .i 0 0] p36_s = true := by decide +kernel
theorem p36_rt : (p36_ct.all fun r c => chkRoot p36_x 100000 r c) = true := by decide +kernel
theorem p36_st : startOk p36_fi p36_ai = true := by decide +kernel
theorem p36_me : meOk p36_s = true := by decide +kernel
theorem p36_yh : Yf 156 = Y_H_breach := rfl
theorem p36_ym : Yf 396 = Y_M_breach := rfl
theorem P_36 {E : xV} : LC_36 E σ00 (fun _ => True) := by
  intro x0
  have ho : Ok (Jd (mkG p36_fi p36_ai)) p36_s [x0.toInt] σ00 := ok_start p36_st p36_me rfl (fun e he => by
    rcases List.mem_cons.mp he with rfl | he
    · exact ⟨_, rfl, in32 x0⟩
    cases he)
  have h := pairI (E := E) (Y := Yf) (G := p36_x) (G_ok _ _ _) Jd_ok (all_ok (G_ok _ _ _) Jd_ok (fun r c h => (BT.all_P p36_rt).at h)) rfl rfl p36_ok ho (av1 := [.ref 0, .int x0]) (av2 := [.ref 110, .int x0]) (⟨rfl, ⟨x0, rfl, evi rfl⟩, trivial⟩) (⟨rfl, ⟨x0, rfl, evi rfl⟩, trivial⟩)
  rw [p36_yh, p36_ym] at h
  exact h
def p37_fi : BT Dom := [(5120, [(5120, [(0, 0)])]), (112646, [(112646, [(0, 0)])])]
def p37_ai : BT Dom := []
def p37_ct : BT Ct := []
def p37_c : Ct := ⟨[], 0, [], [], 0, [], [], [], [(10, [(10, 0)]), (272, [(272, 0)]), (302, [(302, 0)])], true, 0, []⟩
def p37_s : Sy := ⟨1, [(0, [((-2147483648), 2147483647)])], [], []⟩
def p37_x : Gx := mkX p37_fi p37_ai p37_ct
theorem p37_ok : chkPair p37_x false 100000 158 397 p37_c p37_c [.r 0, .i 0 0] [.r 110, .i 0 0] p37_s = true := by decide +kernel
theorem p37_rt : (p37_ct.all fun r c => chkRoot p37_x 100000 r c) = true := by decide +kernel
theorem p37_st : startOk p37_fi p37_ai = true := by decide +kernel
theorem p37_me : meOk p37_s = true := by decide +kernel
theorem p37_yh : Yf 158 = Y_H_session := rfl
theorem p37_ym : Yf 397 = Y_M_session := rfl
theorem P_37 {E : xV} : LC_37 E σ00 (fun _ => True) := by
  intro x0
  have ho : Ok (Jd (mkG p37_fi p37_ai)) p37_s [x0.toInt] σ00 := ok_start p37_st p37_me rfl (fun e he => by
    rcases List.mem_cons.mp he with rfl | he
    · exact ⟨_, rfl, in32 x0⟩
    cases he)
  have h := pairI (E := E) (Y := Yf) (G := p37_x) (G_ok _ _ _) Jd_ok (all_ok (G_ok _ _ _) Jd_ok (fun r c h => (BT.all_P p37_rt).at h)) rfl rfl p37_ok ho (av1 := [.ref 0, .int x0]) (av2 := [.ref 110, .int x0]) (⟨rfl, ⟨x0, rfl, evi rfl⟩, trivial⟩) (⟨rfl, ⟨x0, rfl, evi rfl⟩, trivial⟩)
  rw [p37_yh, p37_ym] at h
  exact h
def p38_fi : BT Dom := [(34822, [(34822, [(0, 0)])]), (112722, [(112722, [(0, 0)])])]
def p38_ai : BT Dom := []
def p38_ct : BT Ct := []
def p38_c : Ct := ⟨[], 0, [], [], 0, [], [], [], [(7, [(7, 0)]), (272, [(272, 0)])], true, 0, []⟩
def p38_s : Sy := ⟨2, [(0, [((-2147483648), 2147483647)]), (1, [((-2147483648), 2147483647)])], [], []⟩
def p38_x : Gx := mkX p38_fi p38_ai p38_ct
theorem p38_ok : chkPair p38_x false 100000 160 398 p38_c p38_c [.r 0, .i 0 0, .i 1 0] [.r 110, .i 0 0, .i 1 0] p38_s = true := by decide +kernel
theorem p38_rt : (p38_ct.all fun r c => chkRoot p38_x 100000 r c) = true := by decide +kernel
theorem p38_st : startOk p38_fi p38_ai = true := by decide +kernel
theorem p38_me : meOk p38_s = true := by decide +kernel
theorem p38_yh : Yf 160 = Y_H_switchOn := rfl
theorem p38_ym : Yf 398 = Y_M_switchOn := rfl
theorem P_38 {E : xV} : LC_38 E σ00 (fun _ => True) := by
  intro x0 x1
  have ho : Ok (Jd (mkG p38_fi p38_ai)) p38_s [x0.toInt, x1.toInt] σ00 := ok_start p38_st p38_me rfl (fun e he => by
    rcases List.mem_cons.mp he with rfl | he
    · exact ⟨_, rfl, in32 x0⟩
    rcases List.mem_cons.mp he with rfl | he
    · exact ⟨_, rfl, in32 x1⟩
    cases he)
  have h := pairI (E := E) (Y := Yf) (G := p38_x) (G_ok _ _ _) Jd_ok (all_ok (G_ok _ _ _) Jd_ok (fun r c h => (BT.all_P p38_rt).at h)) rfl rfl p38_ok ho (av1 := [.ref 0, .int x0, .int x1]) (av2 := [.ref 110, .int x0, .int x1]) (⟨rfl, ⟨x0, rfl, evi rfl⟩, ⟨x1, rfl, evi rfl⟩, trivial⟩) (⟨rfl, ⟨x0, rfl, evi rfl⟩, ⟨x1, rfl, evi rfl⟩, trivial⟩)
  rw [p38_yh, p38_ym] at h
  exact h
def p39_fi : BT Dom := [(34822, [(34822, [(0, 0)])]), (112722, [(112722, [(0, 0)])])]
def p39_ai : BT Dom := []
def p39_ct : BT Ct := []
def p39_c : Ct := ⟨[], 0, [], [], 0, [], [], [], [(7, [(7, 0)]), (272, [(272, 0)])], true, 0, []⟩
def p39_s : Sy := ⟨2, [(0, [((-2147483648), 2147483647)]), (1, [((-2147483648), 2147483647)])], [], []⟩
def p39_x : Gx := mkX p39_fi p39_ai p39_ct
theorem p39_ok : chkPair p39_x false 100000 161 399 p39_c p39_c [.r 0, .i 0 0, .i 1 0] [.r 110, .i 0 0, .i 1 0] p39_s = true := by decide +kernel
theorem p39_rt : (p39_ct.all fun r c => chkRoot p39_x 100000 r c) = true := by decide +kernel
theorem p39_st : startOk p39_fi p39_ai = true := by decide +kernel
theorem p39_me : meOk p39_s = true := by decide +kernel
theorem p39_yh : Yf 161 = Y_H_switchOff := rfl
theorem p39_ym : Yf 399 = Y_M_switchOff := rfl
theorem P_39 {E : xV} : LC_39 E σ00 (fun _ => True) := by
  intro x0 x1
  have ho : Ok (Jd (mkG p39_fi p39_ai)) p39_s [x0.toInt, x1.toInt] σ00 := ok_start p39_st p39_me rfl (fun e he => by
    rcases List.mem_cons.mp he with rfl | he
    · exact ⟨_, rfl, in32 x0⟩
    rcases List.mem_cons.mp he with rfl | he
    · exact ⟨_, rfl, in32 x1⟩
    cases he)
  have h := pairI (E := E) (Y := Yf) (G := p39_x) (G_ok _ _ _) Jd_ok (all_ok (G_ok _ _ _) Jd_ok (fun r c h => (BT.all_P p39_rt).at h)) rfl rfl p39_ok ho (av1 := [.ref 0, .int x0, .int x1]) (av2 := [.ref 110, .int x0, .int x1]) (⟨rfl, ⟨x0, rfl, evi rfl⟩, ⟨x1, rfl, evi rfl⟩, trivial⟩) (⟨rfl, ⟨x0, rfl, evi rfl⟩, ⟨x1, rfl, evi rfl⟩, trivial⟩)
  rw [p39_yh, p39_ym] at h
  exact h
def p40_fi : BT Dom := [(34822, [(34822, [(0, 0)])]), (112722, [(112722, [(0, 0)])])]
def p40_ai : BT Dom := []
def p40_ct : BT Ct := []
def p40_c : Ct := ⟨[], 0, [], [], 0, [], [], [], [(7, [(7, 0)]), (272, [(272, 0)])], true, 0, []⟩
def p40_s : Sy := ⟨3, [(0, [((-2147483648), 2147483647)]), (1, [((-2147483648), 2147483647)]), (2, [((-2147483648), 2147483647)])], [], []⟩
def p40_x : Gx := mkX p40_fi p40_ai p40_ct
theorem p40_ok : chkPair p40_x false 100000 163 400 p40_c p40_c [.r 0, .i 0 0, .i 1 0, .i 2 0] [.r 110, .i 0 0, .i 1 0, .i 2 0] p40_s = true := by decide +kernel
theorem p40_rt : (p40_ct.all fun r c => chkRoot p40_x 100000 r c) = true := by decide +kernel
theorem p40_st : startOk p40_fi p40_ai = true := by decide +kernel
theorem p40_me : meOk p40_s = true := by decide +kernel
theorem p40_yh : Yf 163 = Y_H_askIn := rfl
theorem p40_ym : Yf 400 = Y_M_askIn := rfl
theorem P_40 {E : xV} : LC_40 E σ00 (fun _ => True) := by
  intro x0 x1 x2
  have ho : Ok (Jd (mkG p40_fi p40_ai)) p40_s [x0.toInt, x1.toInt, x2.toInt] σ00 := ok_start p40_st p40_me rfl (fun e he => by
    rcases List.mem_cons.mp he with rfl | he
    · exact ⟨_, rfl, in32 x0⟩
    rcases List.mem_cons.mp he with rfl | he
    · exact ⟨_, rfl, in32 x1⟩
    rcases List.mem_cons.mp he with rfl | he
    · exact ⟨_, rfl, in32 x2⟩
    cases he)
  have h := pairI (E := E) (Y := Yf) (G := p40_x) (G_ok _ _ _) Jd_ok (all_ok (G_ok _ _ _) Jd_ok (fun r c h => (BT.all_P p40_rt).at h)) rfl rfl p40_ok ho (av1 := [.ref 0, .int x0, .int x1, .int x2]) (av2 := [.ref 110, .int x0, .int x1, .int x2]) (⟨rfl, ⟨x0, rfl, evi rfl⟩, ⟨x1, rfl, evi rfl⟩, ⟨x2, rfl, evi rfl⟩, trivial⟩) (⟨rfl, ⟨x0, rfl, evi rfl⟩, ⟨x1, rfl, evi rfl⟩, ⟨x2, rfl, evi rfl⟩, trivial⟩)
  rw [p40_yh, p40_ym] at h
  exact h
def p41_fi : BT Dom := [(41985, [(41985, [(0, 1)])]), (112725, [(112725, [(0, 1)])])]
def p41_ai : BT Dom := []
def p41_ct : BT Ct := []
def p41_c : Ct := ⟨[], 0, [], [], 0, [], [], [], [], true, 0, []⟩
def p41_s : Sy := ⟨0, [], [(110, (.c 85, .c 0)), (41, (.c 1, .c 0))], []⟩
def p41_x : Gx := mkX p41_fi p41_ai p41_ct
theorem p41_ok : chkPair p41_x false 100000 164 401 p41_c p41_c [.r 0] [.r 110] p41_s = true := by decide +kernel
theorem p41_rt : (p41_ct.all fun r c => chkRoot p41_x 100000 r c) = true := by decide +kernel
theorem p41_st : startOk p41_fi p41_ai = true := by decide +kernel
theorem p41_me : meOk p41_s = true := by decide +kernel
theorem p41_yh : Yf 164 = Y_H_work := rfl
theorem p41_ym : Yf 401 = Y_M_work := rfl
theorem P_41 {E : xV} : LC_41 E σ00 (fun _ => True) := by
  have ho : Ok (Jd (mkG p41_fi p41_ai)) p41_s [] σ00 := ok_start p41_st p41_me rfl (fun e he => by cases he)
  have h := pairI (E := E) (Y := Yf) (G := p41_x) (G_ok _ _ _) Jd_ok (all_ok (G_ok _ _ _) Jd_ok (fun r c h => (BT.all_P p41_rt).at h)) rfl rfl p41_ok ho (av1 := [.ref 0]) (av2 := [.ref 110]) (⟨rfl, trivial⟩) (⟨rfl, trivial⟩)
  rw [p41_yh, p41_ym] at h
  exact h
def p42_fi : BT Dom := [(41985, [(41985, [(0, 0)])]), (112725, [(112725, [(0, 0)])])]
def p42_ai : BT Dom := []
def p42_ct : BT Ct := []
def p42_c : Ct := ⟨[], 0, [], [], 0, [], [], [], [(7, [(7, 0)]), (272, [(272, 0)]), (402, [(402, 0)])], true, 0, []⟩
def p42_s : Sy := ⟨2, [(0, [((-2147483648), 2147483647)]), (1, [((-2147483648), 2147483647)])], [], []⟩
def p42_x : Gx := mkX p42_fi p42_ai p42_ct
theorem p42_ok : chkPair p42_x false 100000 166 404 p42_c p42_c [.r 0, .i 0 0, .i 1 0] [.r 110, .i 0 0, .i 1 0] p42_s = true := by decide +kernel
theorem p42_rt : (p42_ct.all fun r c => chkRoot p42_x 100000 r c) = true := by decide +kernel
theorem p42_st : startOk p42_fi p42_ai = true := by decide +kernel
theorem p42_me : meOk p42_s = true := by decide +kernel
theorem p42_yh : Yf 166 = Y_H_step := rfl
theorem p42_ym : Yf 404 = Y_M_step := rfl
theorem P_42 {E : xV} : LC_42 E σ00 (fun _ => True) := by
  intro x0 x1
  have ho : Ok (Jd (mkG p42_fi p42_ai)) p42_s [x0.toInt, x1.toInt] σ00 := ok_start p42_st p42_me rfl (fun e he => by
    rcases List.mem_cons.mp he with rfl | he
    · exact ⟨_, rfl, in32 x0⟩
    rcases List.mem_cons.mp he with rfl | he
    · exact ⟨_, rfl, in32 x1⟩
    cases he)
  have h := pairI (E := E) (Y := Yf) (G := p42_x) (G_ok _ _ _) Jd_ok (all_ok (G_ok _ _ _) Jd_ok (fun r c h => (BT.all_P p42_rt).at h)) rfl rfl p42_ok ho (av1 := [.ref 0, .int x0, .int x1]) (av2 := [.ref 110, .int x0, .int x1]) (⟨rfl, ⟨x0, rfl, evi rfl⟩, ⟨x1, rfl, evi rfl⟩, trivial⟩) (⟨rfl, ⟨x0, rfl, evi rfl⟩, ⟨x1, rfl, evi rfl⟩, trivial⟩)
  rw [p42_yh, p42_ym] at h
  exact h
