def p12_fi : BT Dom := [(10240, [(5120, [(0, 0)]), (10240, [(1, 1)])]), (112660, [(112646, [(0, 0)]), (112660, [(1, 1)])])]
def p12_ai : BT Dom := [(14, [(7, [(0, 0)]), (14, [(0, 0)])]), (128, [(121, [(0, 0)]), (128, [(0, 0)])])]
def p12_ct : BT Ct := []
def p12_c : Ct := ⟨[], 0, [], [], 0, [], [], [], [(26, [(7, 0), (10, 0), (26, 0)]), (272, [(27, 0), (28, 0), (272, 0)]), (314, [(302, 0), (313, 0), (314, 0)])], true, 0, []⟩
def p12_s : Sy := ⟨7, [(0, [((-2147483648), 2147483647)]), (1, [((-2147483648), 2147483647)]), (2, [((-2147483648), 2147483647)]), (3, [((-2147483648), 2147483647)]), (4, [((-2147483648), 2147483647)]), (5, [((-2147483648), 2147483647)]), (6, [((-2147483648), 2147483647)])], [], []⟩
def p12_x : Gx := mkX p12_fi p12_ai p12_ct
theorem p12_ok : chkPair p12_x false 100000 36 318 p12_c p12_c [.r 0, .i 0 0, .i 1 0, .i 2 0, .i 3 0, .i 4 0, .i 5 0, .i 6 0] [.r 110, .i 0 0, .i 1 0, .i 2 0, .i 3 0, .i 4 0, .i 5 0, .i 6 0] p12_s = true := by decide +kernel
theorem p12_rt : (p12_ct.all fun r c => chkRoot p12_x 100000 r c) = true := by decide +kernel
theorem p12_me : meOk p12_s = true := by decide +kernel
theorem p12_st : startOk p12_fi p12_ai = true := by decide +kernel
theorem p12_yh : Yf 36 = Y_H_copy := rfl
theorem p12_ym : Yf 318 = Y_M_copy := rfl
theorem P_12 {E : xV} : LC_12 E σ00 (fun _ => True) := by
  intro x0 x1 x2 x3 x4 x5 x6
  have ho : Ok (Jd (mkG p12_fi p12_ai)) p12_s [x0.toInt, x1.toInt, x2.toInt, x3.toInt, x4.toInt, x5.toInt, x6.toInt] σ00 := ok_start p12_st p12_me rfl (fun e he => by
    rcases List.mem_cons.mp he with rfl | he
    · exact ⟨_, rfl, in32 x0⟩
    rcases List.mem_cons.mp he with rfl | he
    · exact ⟨_, rfl, in32 x1⟩
    rcases List.mem_cons.mp he with rfl | he
    · exact ⟨_, rfl, in32 x2⟩
    rcases List.mem_cons.mp he with rfl | he
    · exact ⟨_, rfl, in32 x3⟩
    rcases List.mem_cons.mp he with rfl | he
    · exact ⟨_, rfl, in32 x4⟩
    rcases List.mem_cons.mp he with rfl | he
    · exact ⟨_, rfl, in32 x5⟩
    rcases List.mem_cons.mp he with rfl | he
    · exact ⟨_, rfl, in32 x6⟩
    cases he)
  have h := pairI (E := E) (Y := Yf) (G := p12_x) (G_ok _ _ _) Jd_ok (all_ok (G_ok _ _ _) Jd_ok (fun r c h => (BT.all_P p12_rt).at h)) rfl rfl p12_ok ho (av1 := [.ref 0, .int x0, .int x1, .int x2, .int x3, .int x4, .int x5, .int x6]) (av2 := [.ref 110, .int x0, .int x1, .int x2, .int x3, .int x4, .int x5, .int x6]) (⟨rfl, ⟨x0, rfl, evi rfl⟩, ⟨x1, rfl, evi rfl⟩, ⟨x2, rfl, evi rfl⟩, ⟨x3, rfl, evi rfl⟩, ⟨x4, rfl, evi rfl⟩, ⟨x5, rfl, evi rfl⟩, ⟨x6, rfl, evi rfl⟩, trivial⟩) (⟨rfl, ⟨x0, rfl, evi rfl⟩, ⟨x1, rfl, evi rfl⟩, ⟨x2, rfl, evi rfl⟩, ⟨x3, rfl, evi rfl⟩, ⟨x4, rfl, evi rfl⟩, ⟨x5, rfl, evi rfl⟩, ⟨x6, rfl, evi rfl⟩, trivial⟩)
  rw [p12_yh, p12_ym] at h
  exact h
