def p62_fi : BT Dom := [(60417, [(60417, [(0, 0)])]), (112757, [(112757, [(0, 1)])]), (112758, [(112758, [(0, 0)])])]
def p62_ai : BT Dom := [(187, [(187, [(0, 0), (255, 255)])])]
def p62_ct : BT Ct := []
def p62_c : Ct := ⟨[], 0, [], [], 0, [], [], [], [(216, [(216, 0)]), (431, [(431, 0)])], true, 0, []⟩
def p62_s : Sy := ⟨0, [], [(110, (.c 117, .c 0))], [(187, (14, .c 0))]⟩
def p62_x : Gx := mkX p62_fi p62_ai p62_ct
theorem p62_ok : chkPair p62_x false 100000 217 437 p62_c p62_c [.r 0] [.r 110] p62_s = true := by decide +kernel
theorem p62_rt : (p62_ct.all fun r c => chkRoot p62_x 100000 r c) = true := by decide +kernel
theorem p62_me : meOk p62_s = true := by decide +kernel
theorem p62_st : startOk p62_fi p62_ai = true := by decide +kernel
theorem p62_yh : Yf 217 = Y_H_tight := rfl
theorem p62_ym : Yf 437 = Y_M_tight := rfl
theorem P_62 {E : xV} : LC_62 E σ00 (fun _ => True) := by
  have ho : Ok (Jd (mkG p62_fi p62_ai)) p62_s [] σ00 := ok_start p62_st p62_me rfl (fun e he => by cases he)
  have h := pairI (E := E) (Y := Yf) (G := p62_x) (G_ok _ _ _) Jd_ok (all_ok (G_ok _ _ _) Jd_ok (fun r c h => (BT.all_P p62_rt).at h)) rfl rfl p62_ok ho (av1 := [.ref 0]) (av2 := [.ref 110]) (⟨rfl, trivial⟩) (⟨rfl, trivial⟩)
  rw [p62_yh, p62_ym] at h
  exact h
def p63_fi : BT Dom := [(60417, [(60417, [(0, 0)])]), (112758, [(112758, [(0, 0)])])]
def p63_ai : BT Dom := []
def p63_ct : BT Ct := []
def p63_c : Ct := ⟨[], 0, [], [], 0, [], [], [], [(218, [(218, 0)])], true, 0, []⟩
def p63_s : Sy := ⟨0, [], [], []⟩
def p63_x : Gx := mkX p63_fi p63_ai p63_ct
theorem p63_ok : chkPair p63_x false 100000 219 438 p63_c p63_c [.r 0] [.r 110] p63_s = true := by decide +kernel
theorem p63_rt : (p63_ct.all fun r c => chkRoot p63_x 100000 r c) = true := by decide +kernel
theorem p63_me : meOk p63_s = true := by decide +kernel
theorem p63_st : startOk p63_fi p63_ai = true := by decide +kernel
theorem p63_yh : Yf 219 = Y_H_lowered := rfl
theorem p63_ym : Yf 438 = Y_M_lowered := rfl
theorem P_63 {E : xV} : LC_63 E σ00 (fun _ => True) := by
  have ho : Ok (Jd (mkG p63_fi p63_ai)) p63_s [] σ00 := ok_start p63_st p63_me rfl (fun e he => by cases he)
  have h := pairI (E := E) (Y := Yf) (G := p63_x) (G_ok _ _ _) Jd_ok (all_ok (G_ok _ _ _) Jd_ok (fun r c h => (BT.all_P p63_rt).at h)) rfl rfl p63_ok ho (av1 := [.ref 0]) (av2 := [.ref 110]) (⟨rfl, trivial⟩) (⟨rfl, trivial⟩)
  rw [p63_yh, p63_ym] at h
  exact h
def p64_fi : BT Dom := []
def p64_ai : BT Dom := [(65, [(65, [((-2147483648), 2147483647)])]), (192, [(192, [((-2147483648), 2147483647)])])]
def p64_ct : BT Ct := []
def p64_c : Ct := ⟨[], 0, [], [], 0, [], [], [], [(7, [(7, 0)]), (272, [(272, 0)])], true, 0, []⟩
def p64_s : Sy := ⟨2, [(0, [((-2147483648), 2147483647)]), (1, [((-2147483648), 2147483647)])], [], [(65, (10, .c 0)), (192, (10, .c 0))]⟩
def p64_x : Gx := mkX p64_fi p64_ai p64_ct
theorem p64_ok : chkPair p64_x false 100000 220 439 p64_c p64_c [.r 0, .i 0 0, .i 1 0] [.r 110, .i 0 0, .i 1 0] p64_s = true := by decide +kernel
theorem p64_rt : (p64_ct.all fun r c => chkRoot p64_x 100000 r c) = true := by decide +kernel
theorem p64_me : meOk p64_s = true := by decide +kernel
theorem p64_st : startOk p64_fi p64_ai = true := by decide +kernel
theorem p64_yh : Yf 220 = Y_H_given := rfl
theorem p64_ym : Yf 439 = Y_M_given := rfl
theorem P_64 {E : xV} : LC_64 E σ00 (fun _ => True) := by
  intro x0 x1
  have ho : Ok (Jd (mkG p64_fi p64_ai)) p64_s [x0.toInt, x1.toInt] σ00 := ok_start p64_st p64_me rfl (fun e he => by
    rcases List.mem_cons.mp he with rfl | he
    · exact ⟨_, rfl, in32 x0⟩
    rcases List.mem_cons.mp he with rfl | he
    · exact ⟨_, rfl, in32 x1⟩
    cases he)
  have h := pairI (E := E) (Y := Yf) (G := p64_x) (G_ok _ _ _) Jd_ok (all_ok (G_ok _ _ _) Jd_ok (fun r c h => (BT.all_P p64_rt).at h)) rfl rfl p64_ok ho (av1 := [.ref 0, .int x0, .int x1]) (av2 := [.ref 110, .int x0, .int x1]) (⟨rfl, ⟨x0, rfl, evi rfl⟩, ⟨x1, rfl, evi rfl⟩, trivial⟩) (⟨rfl, ⟨x0, rfl, evi rfl⟩, ⟨x1, rfl, evi rfl⟩, trivial⟩)
  rw [p64_yh, p64_ym] at h
  exact h
def p65_fi : BT Dom := [(60417, [(60417, [(0, 0)])]), (60427, [(60427, [(0, 0)])]), (112758, [(112758, [(0, 0)])])]
def p65_ai : BT Dom := [(66, [(65, [(0, 0)]), (66, [(0, 0)])]), (192, [(68, [(0, 0)]), (192, [(0, 0)])]), (195, [(193, [(0, 0)]), (195, [(0, 0)])])]
def p65_ct : BT Ct := []
def p65_c : Ct := ⟨[], 0, [], [], 0, [], [], [], [(221, [(221, 0)]), (225, [(225, 0)]), (272, [(272, 0)])], true, 0, []⟩
def p65_s : Sy := ⟨1, [(0, [((-2147483648), 2147483647)])], [], []⟩
def p65_x : Gx := mkX p65_fi p65_ai p65_ct
theorem p65_ok : chkPair p65_x false 100000 226 441 p65_c p65_c [.r 0, .i 0 0] [.r 110, .i 0 0] p65_s = true := by decide +kernel
theorem p65_rt : (p65_ct.all fun r c => chkRoot p65_x 100000 r c) = true := by decide +kernel
theorem p65_me : meOk p65_s = true := by decide +kernel
theorem p65_st : startOk p65_fi p65_ai = true := by decide +kernel
theorem p65_yh : Yf 226 = Y_H_flow := rfl
theorem p65_ym : Yf 441 = Y_M_flow := rfl
theorem P_65 {E : xV} : LC_65 E σ00 (fun _ => True) := by
  intro x0
  have ho : Ok (Jd (mkG p65_fi p65_ai)) p65_s [x0.toInt] σ00 := ok_start p65_st p65_me rfl (fun e he => by
    rcases List.mem_cons.mp he with rfl | he
    · exact ⟨_, rfl, in32 x0⟩
    cases he)
  have h := pairI (E := E) (Y := Yf) (G := p65_x) (G_ok _ _ _) Jd_ok (all_ok (G_ok _ _ _) Jd_ok (fun r c h => (BT.all_P p65_rt).at h)) rfl rfl p65_ok ho (av1 := [.ref 0, .int x0]) (av2 := [.ref 110, .int x0]) (⟨rfl, ⟨x0, rfl, evi rfl⟩, trivial⟩) (⟨rfl, ⟨x0, rfl, evi rfl⟩, trivial⟩)
  rw [p65_yh, p65_ym] at h
  exact h
def p66_fi : BT Dom := []
def p66_ai : BT Dom := [(68, [(68, [(0, 0)])]), (195, [(195, [(0, 0)])])]
def p66_ct : BT Ct := []
def p66_c : Ct := ⟨[], 0, [], [], 0, [], [], [], [(7, [(7, 0)]), (272, [(272, 0)])], true, 0, []⟩
def p66_s : Sy := ⟨2, [(0, [((-2147483648), 2147483647)]), (1, [((-2147483648), 2147483647)])], [], []⟩
def p66_x : Gx := mkX p66_fi p66_ai p66_ct
theorem p66_ok : chkPair p66_x false 100000 227 442 p66_c p66_c [.r 0, .i 0 0, .i 1 0] [.r 110, .i 0 0, .i 1 0] p66_s = true := by decide +kernel
theorem p66_rt : (p66_ct.all fun r c => chkRoot p66_x 100000 r c) = true := by decide +kernel
theorem p66_me : meOk p66_s = true := by decide +kernel
theorem p66_st : startOk p66_fi p66_ai = true := by decide +kernel
theorem p66_yh : Yf 227 = Y_H_said := rfl
theorem p66_ym : Yf 442 = Y_M_said := rfl
theorem P_66 {E : xV} : LC_66 E σ00 (fun _ => True) := by
  intro x0 x1
  have ho : Ok (Jd (mkG p66_fi p66_ai)) p66_s [x0.toInt, x1.toInt] σ00 := ok_start p66_st p66_me rfl (fun e he => by
    rcases List.mem_cons.mp he with rfl | he
    · exact ⟨_, rfl, in32 x0⟩
    rcases List.mem_cons.mp he with rfl | he
    · exact ⟨_, rfl, in32 x1⟩
    cases he)
  have h := pairI (E := E) (Y := Yf) (G := p66_x) (G_ok _ _ _) Jd_ok (all_ok (G_ok _ _ _) Jd_ok (fun r c h => (BT.all_P p66_rt).at h)) rfl rfl p66_ok ho (av1 := [.ref 0, .int x0, .int x1]) (av2 := [.ref 110, .int x0, .int x1]) (⟨rfl, ⟨x0, rfl, evi rfl⟩, ⟨x1, rfl, evi rfl⟩, trivial⟩) (⟨rfl, ⟨x0, rfl, evi rfl⟩, ⟨x1, rfl, evi rfl⟩, trivial⟩)
  rw [p66_yh, p66_ym] at h
  exact h
def p67_fi : BT Dom := []
def p67_ai : BT Dom := [(66, [(66, [(0, 0)])]), (193, [(193, [(0, 0)])])]
def p67_ct : BT Ct := []
def p67_c : Ct := ⟨[], 0, [], [], 0, [], [], [], [(7, [(7, 0)]), (272, [(272, 0)])], true, 0, []⟩
def p67_s : Sy := ⟨1, [(0, [((-2147483648), 2147483647)])], [], []⟩
def p67_x : Gx := mkX p67_fi p67_ai p67_ct
theorem p67_ok : chkPair p67_x false 100000 228 443 p67_c p67_c [.r 0, .i 0 0] [.r 110, .i 0 0] p67_s = true := by decide +kernel
theorem p67_rt : (p67_ct.all fun r c => chkRoot p67_x 100000 r c) = true := by decide +kernel
theorem p67_me : meOk p67_s = true := by decide +kernel
theorem p67_st : startOk p67_fi p67_ai = true := by decide +kernel
theorem p67_yh : Yf 228 = Y_H_variable := rfl
theorem p67_ym : Yf 443 = Y_M_variable := rfl
theorem P_67 {E : xV} : LC_67 E σ00 (fun _ => True) := by
  intro x0
  have ho : Ok (Jd (mkG p67_fi p67_ai)) p67_s [x0.toInt] σ00 := ok_start p67_st p67_me rfl (fun e he => by
    rcases List.mem_cons.mp he with rfl | he
    · exact ⟨_, rfl, in32 x0⟩
    cases he)
  have h := pairI (E := E) (Y := Yf) (G := p67_x) (G_ok _ _ _) Jd_ok (all_ok (G_ok _ _ _) Jd_ok (fun r c h => (BT.all_P p67_rt).at h)) rfl rfl p67_ok ho (av1 := [.ref 0, .int x0]) (av2 := [.ref 110, .int x0]) (⟨rfl, ⟨x0, rfl, evi rfl⟩, trivial⟩) (⟨rfl, ⟨x0, rfl, evi rfl⟩, trivial⟩)
  rw [p67_yh, p67_ym] at h
  exact h
def p68_fi : BT Dom := [(5120, [(5120, [(0, 0)])]), (112646, [(112646, [(0, 0)])])]
def p68_ai : BT Dom := []
def p68_ct : BT Ct := []
def p68_c : Ct := ⟨[], 0, [], [], 0, [], [], [], [(10, [(10, 0)]), (272, [(272, 0)]), (302, [(302, 0)])], true, 0, []⟩
def p68_s : Sy := ⟨2, [(0, [((-2147483648), 2147483647)]), (1, [((-9223372036854775808), 9223372036854775807)])], [], []⟩
def p68_x : Gx := mkX p68_fi p68_ai p68_ct
theorem p68_ok : chkPair p68_x true 100000 230 444 p68_c p68_c [.r 0, .i 0 0, .l 1 0] [.r 110, .i 0 0, .l 1 0] p68_s = true := by decide +kernel
theorem p68_rt : (p68_ct.all fun r c => chkRoot p68_x 100000 r c) = true := by decide +kernel
theorem p68_me : meOk p68_s = true := by decide +kernel
theorem p68_st : startOk p68_fi p68_ai = true := by decide +kernel
theorem p68_yh : Yf 230 = Y_H_guarded := rfl
theorem p68_ym : Yf 444 = Y_M_guarded := rfl
theorem P_68 {E : xV} : LC_68 E σ00 (fun _ => True) := by
  intro x0 x1
  have ho : Ok (Jd (mkG p68_fi p68_ai)) p68_s [x0.toInt, x1.toInt] σ00 := ok_start p68_st p68_me rfl (fun e he => by
    rcases List.mem_cons.mp he with rfl | he
    · exact ⟨_, rfl, in32 x0⟩
    rcases List.mem_cons.mp he with rfl | he
    · exact ⟨_, rfl, in64 x1⟩
    cases he)
  have h := pairJ (E := E) (Y := Yf) (G := p68_x) (G_ok _ _ _) Jd_ok (all_ok (G_ok _ _ _) Jd_ok (fun r c h => (BT.all_P p68_rt).at h)) rfl rfl p68_ok ho (av1 := [.ref 0, .int x0, .long x1]) (av2 := [.ref 110, .int x0, .long x1]) (⟨rfl, ⟨x0, rfl, evi rfl⟩, ⟨x1, rfl, evl rfl⟩, trivial⟩) (⟨rfl, ⟨x0, rfl, evi rfl⟩, ⟨x1, rfl, evl rfl⟩, trivial⟩)
  rw [p68_yh, p68_ym] at h
  exact h
def p69_fi : BT Dom := [(5120, [(5120, [(0, 0)])]), (112646, [(112646, [(0, 0)])])]
def p69_ai : BT Dom := []
def p69_ct : BT Ct := []
def p69_c : Ct := ⟨[], 0, [], [], 0, [], [], [], [(229, [(229, 0)]), (272, [(272, 0)])], true, 0, []⟩
def p69_s : Sy := ⟨2, [(0, [((-2147483648), 2147483647)]), (1, [((-9223372036854775808), 9223372036854775807)])], [], []⟩
def p69_x : Gx := mkX p69_fi p69_ai p69_ct
theorem p69_ok : chkPair p69_x true 100000 238 452 p69_c p69_c [.r 0, .i 0 0, .l 1 0] [.r 110, .i 0 0, .l 1 0] p69_s = true := by decide +kernel
theorem p69_rt : (p69_ct.all fun r c => chkRoot p69_x 100000 r c) = true := by decide +kernel
theorem p69_me : meOk p69_s = true := by decide +kernel
theorem p69_st : startOk p69_fi p69_ai = true := by decide +kernel
theorem p69_yh : Yf 238 = Y_H_sum := rfl
theorem p69_ym : Yf 452 = Y_M_sum := rfl
theorem P_69 {E : xV} : LC_69 E σ00 (fun _ => True) := by
  intro x0 x1
  have ho : Ok (Jd (mkG p69_fi p69_ai)) p69_s [x0.toInt, x1.toInt] σ00 := ok_start p69_st p69_me rfl (fun e he => by
    rcases List.mem_cons.mp he with rfl | he
    · exact ⟨_, rfl, in32 x0⟩
    rcases List.mem_cons.mp he with rfl | he
    · exact ⟨_, rfl, in64 x1⟩
    cases he)
  have h := pairJ (E := E) (Y := Yf) (G := p69_x) (G_ok _ _ _) Jd_ok (all_ok (G_ok _ _ _) Jd_ok (fun r c h => (BT.all_P p69_rt).at h)) rfl rfl p69_ok ho (av1 := [.ref 0, .int x0, .long x1]) (av2 := [.ref 110, .int x0, .long x1]) (⟨rfl, ⟨x0, rfl, evi rfl⟩, ⟨x1, rfl, evl rfl⟩, trivial⟩) (⟨rfl, ⟨x0, rfl, evi rfl⟩, ⟨x1, rfl, evl rfl⟩, trivial⟩)
  rw [p69_yh, p69_ym] at h
  exact h
def p71_fi : BT Dom := [(71686, [(71686, [(0, 0)])]), (112774, [(112774, [(0, 0)])])]
def p71_ai : BT Dom := [(74, [(73, [(0, 0)]), (74, [(0, 2), (4, 4), (8, 8)])]), (200, [(199, [(0, 0)]), (200, [(0, 0)])]), (201, [(201, [(0, 1)])])]
def p71_ct : BT Ct := []
def p71_c : Ct := ⟨[], 0, [], [], 0, [], [], [], [(235, [(229, 0), (235, 0)]), (272, [(242, 0), (272, 0)]), (447, [(446, 0), (447, 0)]), (449, [(449, 0)])], true, 0, [(15925282, [(15925282, ())]), (15925301, [(15925301, ())])]⟩
def p71_s : Sy := ⟨2, [(0, [((-2147483648), 2147483647)]), (1, [((-2147483648), 2147483647)])], [(74, (.c 0, .c 1)), (74, (.c 1, .c 2)), (74, (.c 2, .c 4)), (74, (.c 3, .c 8))], [(201, (4, .c 0))]⟩
def p71_x : Gx := mkX p71_fi p71_ai p71_ct
theorem p71_ok : chkPair p71_x false 100000 243 454 p71_c p71_c [.r 0, .i 0 0, .i 1 0] [.r 110, .i 0 0, .i 1 0] p71_s = true := by decide +kernel
theorem p71_rt : (p71_ct.all fun r c => chkRoot p71_x 100000 r c) = true := by decide +kernel
theorem p71_me : meOk p71_s = true := by decide +kernel
theorem p71_st : startOk p71_fi p71_ai = true := by decide +kernel
theorem p71_yh : Yf 243 = Y_H_knows := rfl
theorem p71_ym : Yf 454 = Y_M_knows := rfl
theorem P_71 {E : xV} : LC_71 E σ00 (fun _ => True) := by
  intro x0 x1
  have ho : Ok (Jd (mkG p71_fi p71_ai)) p71_s [x0.toInt, x1.toInt] σ00 := ok_start p71_st p71_me rfl (fun e he => by
    rcases List.mem_cons.mp he with rfl | he
    · exact ⟨_, rfl, in32 x0⟩
    rcases List.mem_cons.mp he with rfl | he
    · exact ⟨_, rfl, in32 x1⟩
    cases he)
  have h := pairI (E := E) (Y := Yf) (G := p71_x) (G_ok _ _ _) Jd_ok (all_ok (G_ok _ _ _) Jd_ok (fun r c h => (BT.all_P p71_rt).at h)) rfl rfl p71_ok ho (av1 := [.ref 0, .int x0, .int x1]) (av2 := [.ref 110, .int x0, .int x1]) (⟨rfl, ⟨x0, rfl, evi rfl⟩, ⟨x1, rfl, evi rfl⟩, trivial⟩) (⟨rfl, ⟨x0, rfl, evi rfl⟩, ⟨x1, rfl, evi rfl⟩, trivial⟩)
  rw [p71_yh, p71_ym] at h
  exact h
def p72_fi : BT Dom := [(100352, [(100352, [(0, 1)])]), (112776, [(112776, [(0, 1)])])]
def p72_ai : BT Dom := [(99, [(99, [(0, 65535)])]), (204, [(204, [(0, 65535)])])]
def p72_ct : BT Ct := []
def p72_c : Ct := ⟨[], 0, [], [], 0, [], [], [], [(244, [(244, 0)]), (245, [(245, 0)]), (272, [(272, 0)])], true, 0, []⟩
def p72_s : Sy := ⟨1, [(0, [((-2147483648), 2147483647)])], [(110, (.c 136, .c 0)), (98, (.c 0, .c 0))], [(99, (6, .c 0)), (204, (6, .c 0))]⟩
def p72_x : Gx := mkX p72_fi p72_ai p72_ct
theorem p72_ok : chkPair p72_x false 100000 246 455 p72_c p72_c [.r 0, .i 0 0] [.r 110, .i 0 0] p72_s = true := by decide +kernel
theorem p72_rt : (p72_ct.all fun r c => chkRoot p72_x 100000 r c) = true := by decide +kernel
theorem p72_me : meOk p72_s = true := by decide +kernel
theorem p72_st : startOk p72_fi p72_ai = true := by decide +kernel
theorem p72_yh : Yf 246 = Y_H_room := rfl
theorem p72_ym : Yf 455 = Y_M_room := rfl
theorem P_72 {E : xV} : LC_72 E σ00 (fun _ => True) := by
  intro x0
  have ho : Ok (Jd (mkG p72_fi p72_ai)) p72_s [x0.toInt] σ00 := ok_start p72_st p72_me rfl (fun e he => by
    rcases List.mem_cons.mp he with rfl | he
    · exact ⟨_, rfl, in32 x0⟩
    cases he)
  have h := pairI (E := E) (Y := Yf) (G := p72_x) (G_ok _ _ _) Jd_ok (all_ok (G_ok _ _ _) Jd_ok (fun r c h => (BT.all_P p72_rt).at h)) rfl rfl p72_ok ho (av1 := [.ref 0, .int x0]) (av2 := [.ref 110, .int x0]) (⟨rfl, ⟨x0, rfl, evi rfl⟩, trivial⟩) (⟨rfl, ⟨x0, rfl, evi rfl⟩, trivial⟩)
  rw [p72_yh, p72_ym] at h
  exact h
def p73_fi : BT Dom := [(100352, [(100352, [(0, 0)])]), (112776, [(112776, [(0, 0)])])]
def p73_ai : BT Dom := []
def p73_ct : BT Ct := []
def p73_c : Ct := ⟨[], 0, [], [], 0, [], [], [], [(7, [(7, 0)]), (272, [(272, 0)])], true, 0, []⟩
def p73_s : Sy := ⟨1, [(0, [((-2147483648), 2147483647)])], [], []⟩
def p73_x : Gx := mkX p73_fi p73_ai p73_ct
theorem p73_ok : chkPair p73_x false 100000 248 456 p73_c p73_c [.r 0, .i 0 0] [.r 110, .i 0 0] p73_s = true := by decide +kernel
theorem p73_rt : (p73_ct.all fun r c => chkRoot p73_x 100000 r c) = true := by decide +kernel
theorem p73_me : meOk p73_s = true := by decide +kernel
theorem p73_st : startOk p73_fi p73_ai = true := by decide +kernel
theorem p73_yh : Yf 248 = Y_H_method := rfl
theorem p73_ym : Yf 456 = Y_M_method := rfl
theorem P_73 {E : xV} : LC_73 E σ00 (fun _ => True) := by
  intro x0
  have ho : Ok (Jd (mkG p73_fi p73_ai)) p73_s [x0.toInt] σ00 := ok_start p73_st p73_me rfl (fun e he => by
    rcases List.mem_cons.mp he with rfl | he
    · exact ⟨_, rfl, in32 x0⟩
    cases he)
  have h := pairI (E := E) (Y := Yf) (G := p73_x) (G_ok _ _ _) Jd_ok (all_ok (G_ok _ _ _) Jd_ok (fun r c h => (BT.all_P p73_rt).at h)) rfl rfl p73_ok ho (av1 := [.ref 0, .int x0]) (av2 := [.ref 110, .int x0]) (⟨rfl, ⟨x0, rfl, evi rfl⟩, trivial⟩) (⟨rfl, ⟨x0, rfl, evi rfl⟩, trivial⟩)
  rw [p73_yh, p73_ym] at h
  exact h
