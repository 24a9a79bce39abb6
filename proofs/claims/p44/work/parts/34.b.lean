noncomputable section
/-! ===== both sides of a method, one behind the other ===== -/
theorem lone_ok {E : xV} {r : Nat} {c : Ct} (hb : c.rg.1 = 0) (h : Chk GX 3000 r c) : CtOk E Yf GX JJ r c := by
  intro ρ0 σ av hko ha
  refine root_ok GX_G GX_J GX_H GX_F (fun z q _ hq => all_ct z q hq) h.1 h.2 hko ha (fun z q _ hm => ?_)
  unfold mate at hm
  rw [Bool.and_eq_true] at hm
  have e1 := Nat.eq_of_beq_eq_true hm.1
  have e2 := Nat.le_of_ble_eq_true hm.2
  omega
theorem ans_i {ρ : List Int} {a : AV} {v : Option Value} (ha : a.isI = true) (h : Rs ρ [a] v.toList) : ∃ y : Int32, v = some (.int y) ∧ ev ρ a = some y.toInt := by
  obtain ⟨w, l, q1, q2, q3⟩ := Rs.cons h
  obtain ⟨y, rfl, q4⟩ := q2.int ha
  refine ⟨y, ?_, q4⟩
  cases v with
  | none => cases q1
  | some r => cases q1; rfl
theorem ans_l {ρ : List Int} {a : AV} {v : Option Value} (ha : a.isL = true) (h : Rs ρ [a] v.toList) : ∃ y : Int64, v = some (.long y) ∧ ev ρ a = some y.toInt := by
  obtain ⟨w, l, q1, q2, q3⟩ := Rs.cons h
  obtain ⟨y, rfl, q4⟩ := q2.long ha
  refine ⟨y, ?_, q4⟩
  cases v with
  | none => cases q1
  | some r => cases q1; rfl
theorem args_M {ρ ρ1 : List Int} {o1 o2 : Nat} {ar : List AV} {vs : List Value} (h : Rs ρ (.r o1 :: ar) (.ref o1 :: vs)) (hp : Pre ρ ρ1) : Rs ρ1 (.r o2 :: ar) (.ref o2 :: vs) := ⟨rfl, (show Rs ρ ar vs from h.2).mono hp⟩
theorem pair_i {E : xV} {z o1 o2 : Nat} {m : Ct} {ar : List AV} {a : AV} {kn kn' : Kn} {ρ ρ1 : List Int} {σ1 : zS} {vs : List Value} {v : Option Value} (hm : CtOk E Yf GX JJ z m) (e1 : m.kn = kn) (e2 : m.ar = .r o2 :: ar) (e3 : m.al = [([a], kn')]) (e4 : endOk 1 ([a], kn') KS = true) (hk : Ko JJ kn ρ1 σ1) (hr : Rs ρ1 [a] v.toList) (ha : Rs ρ (.r o1 :: ar) (.ref o1 :: vs)) (hp : Pre ρ ρ1) (hi : a.isI = true) :
    ∃ r : Int32, v = some (.int r) ∧ Cz E (Yf z) (.ref o2 :: vs) σ1 (fun v' σ2 => v' = some (.int r) ∧ JJ [] σ2 ∧ ∀ k ∈ KS, 0 ≤ fz σ2 k ∧ fz σ2 k ≤ 200) := by
  obtain ⟨y, hy, h1⟩ := ans_i hi hr
  refine ⟨y, hy, (hm ρ1 σ1 (.ref o2 :: vs) (by rw [e1]; exact hk) (by rw [e2]; exact args_M ha hp)).mono (fun v' σ2 hq => ?_)⟩
  obtain ⟨_, al, f2, ρ2, f3, f4, f5⟩ := hq
  rw [e3] at f2
  rcases List.mem_cons.mp f2 with rfl | f2
  · obtain ⟨_, _, g3, g4⟩ := endOk_ok e4 f4 f5
    obtain ⟨y', hy', h2⟩ := ans_i hi f5
    have e : y' = y := Int32.toInt_inj.mp (Option.some.inj (h2.symm.trans (ev.mono f3 h1)))
    rw [e] at hy'
    exact ⟨hy', g4, g3⟩
  · cases f2
theorem pair_l {E : xV} {z o1 o2 : Nat} {m : Ct} {ar : List AV} {a : AV} {kn kn' : Kn} {ρ ρ1 : List Int} {σ1 : zS} {vs : List Value} {v : Option Value} (hm : CtOk E Yf GX JJ z m) (e1 : m.kn = kn) (e2 : m.ar = .r o2 :: ar) (e3 : m.al = [([a], kn')]) (e4 : endOk 3 ([a], kn') KS = true) (hk : Ko JJ kn ρ1 σ1) (hr : Rs ρ1 [a] v.toList) (ha : Rs ρ (.r o1 :: ar) (.ref o1 :: vs)) (hp : Pre ρ ρ1) (hi : a.isL = true) :
    ∃ r : Int64, v = some (.long r) ∧ Cz E (Yf z) (.ref o2 :: vs) σ1 (fun v' σ2 => v' = some (.long r) ∧ JJ [] σ2 ∧ ∀ k ∈ KS, 0 ≤ fz σ2 k ∧ fz σ2 k ≤ 200) := by
  obtain ⟨y, hy, h1⟩ := ans_l hi hr
  refine ⟨y, hy, (hm ρ1 σ1 (.ref o2 :: vs) (by rw [e1]; exact hk) (by rw [e2]; exact args_M ha hp)).mono (fun v' σ2 hq => ?_)⟩
  obtain ⟨_, al, f2, ρ2, f3, f4, f5⟩ := hq
  rw [e3] at f2
  rcases List.mem_cons.mp f2 with rfl | f2
  · obtain ⟨_, _, g3, g4⟩ := endOk_ok e4 f4 f5
    obtain ⟨y', hy', h2⟩ := ans_l hi f5
    have e : y' = y := Int64.toInt_inj.mp (Option.some.inj (h2.symm.trans (ev.mono f3 h1)))
    rw [e] at hy'
    exact ⟨hy', g4, g3⟩
  · cases f2
def kn_group_0 : Kn := ([false, false, false], ([(0, d9_0), (1, d9_0), (2, [(16, 16)])], ([], ([], ([(5, (c9_1, v9_2)), (5, (c9_2, v9_0)), (110, (c9_8, v9_1))], [])))))
def kn_group_1 : Kn := ([false, false, false], ([(0, d9_0), (1, d9_0), (2, d9_19)], ([], ([], ([(5, (c9_1, .i 2 1)), (110, (c9_7, v9_2)), (5, (c9_2, v9_0)), (110, (c9_8, v9_1))], [(404, c9_0), (405, .i 2 1), (406, v9_2)])))))
def knH_group : Kn := ([false, false], ([(0, d9_0), (1, d9_0)], ([], ([], ([(5, (c9_2, v9_0)), (110, (c9_8, v9_1))], [])))))
def ctH_group : Ct := ([.r 0], (knH_group, ([([.c (-3)], kn_group_0), ([v9_2], kn_group_1)], ([(5121, [(5121, ())])], ([], ([], (inlT, (1, ([(524288, [(524288, [(60, (0, 0))])]), (524313, [(524313, [(60, (0, 0))])])], (0, ([], 0)))))))))))
def knE_group_0 : Kn := ([false, false, false, false, false], ([(0, d9_0), (1, d9_0), (2, [(16, 16)]), (3, d9_0), (4, d9_0)], ([], ([], ([(5, (c9_2, v9_3)), (110, (c9_8, v9_4))], [])))))
def ctM_group_0 : Ct := ([.r 110], (kn_group_0, ([([.c (-3)], knE_group_0)], ([(112647, [(112647, ())])], ([], ([], (inlT, (1, ([(20512768, [(20512768, [(60, (0, 0))])]), (20512787, [(20512787, [(60, (0, 0))])])], (0, ([], 0)))))))))))
def knE_group_1 : Kn := ([false, false, false, false, false], ([(0, d9_0), (1, d9_0), (2, d9_19), (3, d9_0), (4, d9_0)], ([], ([], ([(5, (c9_2, v9_3)), (110, (c9_8, v9_4))], [])))))
def ctM_group_1 : Ct := ([.r 110], (kn_group_1, ([([v9_2], knE_group_1)], ([(112647, [(112647, ())])], ([], ([], (inlT, (1, ([(20512768, [(20512768, [(60, (0, 0))])]), (20512787, [(20512787, [(60, (0, 0))])])], (0, ([], 0)))))))))))
def kn_work_0 : Kn := ([false, false, false], ([(0, d9_0), (1, d9_0), (2, [(4, 4)])], ([], ([], ([(41, (c9_1, v9_2)), (5, (c9_2, v9_0)), (110, (c9_8, v9_1))], [])))))
def kn_work_1 : Kn := ([false, false, false], ([(0, d9_0), (1, d9_0), (2, d9_9)], ([], ([], ([(41, (c9_1, .i 2 1)), (110, (.c 85, v9_2)), (5, (c9_2, v9_0)), (110, (c9_8, v9_1))], [(400, c9_0), (401, .i 2 1), (402, v9_2)])))))
def knH_work : Kn := ([false, false], ([(0, d9_0), (1, d9_0)], ([], ([], ([(5, (c9_2, v9_0)), (110, (c9_8, v9_1))], [])))))
def ctH_work : Ct := ([.r 0], (knH_work, ([([.c (-3)], kn_work_0), ([v9_2], kn_work_1)], ([(41985, [(41985, ())])], ([], ([], (inlT, (1, ([(11534336, [(11534336, [(60, (0, 0))])]), (11534360, [(11534360, [(60, (0, 0))])])], (0, ([], 0)))))))))))
def knE_work_0 : Kn := ([false, false, false, false, false], ([(0, d9_0), (1, d9_0), (2, [(4, 4)]), (3, d9_0), (4, d9_0)], ([], ([], ([(5, (c9_2, v9_3)), (110, (c9_8, v9_4))], [])))))
def ctM_work_0 : Ct := ([.r 110], (kn_work_0, ([([.c (-3)], knE_work_0)], ([(112725, [(112725, ())])], ([], ([], (inlT, (1, ([(27066368, [(27066368, [(60, (0, 0))])]), (27066386, [(27066386, [(60, (0, 0))])])], (0, ([], 0)))))))))))
def knE_work_1 : Kn := ([false, false, false, false, false], ([(0, d9_0), (1, d9_0), (2, d9_9), (3, d9_0), (4, d9_0)], ([], ([], ([(5, (c9_2, v9_3)), (110, (c9_8, v9_4))], [])))))
def ctM_work_1 : Ct := ([.r 110], (kn_work_1, ([([v9_2], knE_work_1)], ([(112725, [(112725, ())])], ([], ([], (inlT, (1, ([(27066368, [(27066368, [(60, (0, 0))])]), (27066386, [(27066386, [(60, (0, 0))])])], (0, ([], 0)))))))))))
def kn_step_0 : Kn := ([false, false, false, false, false, false, false], ([(0, d9_9), (1, d9_19), (2, d9_0), (3, d9_0), (4, [(8, 8)]), (5, [(1, 16)]), (6, [(1, 4)])], ([], ([([(1, 1), (5, (-1))], (-1)), ([(0, 1), (6, (-1))], (-1))], ([(42, (v9_0, v9_4)), (5, (c9_1, v9_5)), (41, (c9_1, v9_6)), (5, (c9_2, v9_2)), (110, (c9_8, v9_3))], [])))))
def kn_step_1 : Kn := ([false, false, false, false, false, false, false], ([(0, d9_9), (1, d9_19), (2, d9_0), (3, d9_0), (4, d9_4), (5, [(1, 16)]), (6, [(1, 4)])], ([], ([([(1, 1), (5, (-1))], (-1)), ([(0, 1), (6, (-1))], (-1))], ([(42, (v9_0, .i 4 1)), (162, (v9_0, v9_4)), (110, (c9_7, v9_5)), (110, (.c 85, v9_6)), (5, (c9_1, v9_5)), (41, (c9_1, v9_6)), (5, (c9_2, v9_2)), (110, (c9_8, v9_3))], [(408, v9_0), (409, .i 4 1), (410, v9_4)])))))
def kn_step_2 : Kn := ([false, false, false, false, false, false], ([(0, d9_9), (1, [(0, 2147483647)]), (2, d9_0), (3, d9_0), (4, d9_20), (5, [(1, 4)])], ([], ([([(1, (-1)), (4, 1)], 0), ([(0, 1), (5, (-1))], (-1))], ([(5, (c9_1, v9_4)), (41, (c9_1, v9_5)), (5, (c9_2, v9_2)), (110, (c9_8, v9_3))], [])))))
def kn_step_3 : Kn := ([false, false, false, false, false], ([(0, d9_9), (1, [((-2147483648), (-1))]), (2, d9_0), (3, d9_0), (4, [(1, 4)])], ([], ([([(0, 1), (4, (-1))], (-1))], ([(41, (c9_1, v9_4)), (5, (c9_2, v9_2)), (110, (c9_8, v9_3))], [])))))
def kn_step_4 : Kn := ([false, false, false, false, false], ([(0, [(0, 2147483647)]), (1, T32), (2, d9_0), (3, d9_0), (4, [(0, 4)])], ([], ([([(0, (-1)), (4, 1)], 0)], ([(41, (c9_1, v9_4)), (5, (c9_2, v9_2)), (110, (c9_8, v9_3))], [])))))
def kn_step_5 : Kn := ([false, false, false, false, false], ([(0, [((-2147483648), (-1))]), (1, T32), (2, d9_0), (3, d9_0), (4, [(0, 4)])], ([], ([], ([(41, (c9_1, v9_4)), (5, (c9_2, v9_2)), (110, (c9_8, v9_3))], [])))))
def knH_step : Kn := ([false, false, false, false], ([(0, T32), (1, T32), (2, d9_0), (3, d9_0)], ([], ([], ([(5, (c9_2, v9_2)), (110, (c9_8, v9_3))], [])))))
def ctH_step : Ct := ([.r 0, v9_0, v9_1], (knH_step, ([([.c (-3)], kn_step_0), ([v9_4], kn_step_1), ([.c (-1)], kn_step_2), ([.c (-1)], kn_step_3), ([.c (-1)], kn_step_4), ([.c (-1)], kn_step_5)], ([(44031, [(44031, ())]), (45055, [(45055, ())])], ([], ([], (inlT, (1, ([(11599888, [(11599888, [(60, (0, 0))])]), (11599898, [(11599898, [(60, (0, 0))])]), (11665408, [(11665408, [(60, (0, 0))])])], (0, ([], 0)))))))))))
def knE_step_0 : Kn := ([false, false, false, false, false, false, false, false, false], ([(0, d9_9), (1, d9_19), (2, d9_0), (3, d9_0), (4, [(8, 8)]), (5, [(1, 16)]), (6, [(1, 4)]), (7, d9_0), (8, d9_0)], ([], ([], ([(5, (c9_2, v9_7)), (110, (c9_8, v9_8))], [])))))
def ctM_step_0 : Ct := ([.r 110, v9_0, v9_1], (kn_step_0, ([([.c (-3)], knE_step_0)], ([(167935, [(166911, ()), (167935, ())]), (169983, [(168959, ()), (169983, ())])], ([], ([], (inlT, (1, ([(27263026, [(27262976, [(60, (0, 0))]), (27263026, [(60, (0, 0))])]), (27263052, [(27263039, [(60, (0, 0))]), (27263052, [(60, (0, 0))])]), (27263062, [(27263062, [(60, (0, 0))])])], (0, ([], 0)))))))))))
def knE_step_1 : Kn := ([false, false, false, false, false, false, false, false, false], ([(0, d9_9), (1, d9_19), (2, d9_0), (3, d9_0), (4, d9_4), (5, [(1, 16)]), (6, [(1, 4)]), (7, d9_0), (8, d9_0)], ([], ([], ([(5, (c9_2, v9_7)), (110, (c9_8, v9_8))], [])))))
def ctM_step_1 : Ct := ([.r 110, v9_0, v9_1], (kn_step_1, ([([v9_4], knE_step_1)], ([(167935, [(166911, ()), (167935, ())]), (169983, [(168959, ()), (169983, ())])], ([], ([], (inlT, (1, ([(27263026, [(27262976, [(60, (0, 0))]), (27263026, [(60, (0, 0))])]), (27263052, [(27263039, [(60, (0, 0))]), (27263052, [(60, (0, 0))])]), (27263062, [(27263062, [(60, (0, 0))])])], (0, ([], 0)))))))))))
def knE_step_2 : Kn := ([false, false, false, false, false, false, false, false], ([(0, d9_9), (1, [(0, 2147483647)]), (2, d9_0), (3, d9_0), (4, d9_20), (5, [(1, 4)]), (6, d9_0), (7, d9_0)], ([], ([], ([(5, (c9_2, v9_6)), (110, (c9_8, v9_7))], [])))))
def ctM_step_2 : Ct := ([.r 110, v9_0, v9_1], (kn_step_2, ([([.c (-1)], knE_step_2)], ([(167935, [(166911, ()), (167935, ())]), (169983, [(168959, ()), (169983, ())])], ([], ([], (inlT, (1, ([(27263026, [(27262976, [(60, (0, 0))]), (27263026, [(60, (0, 0))])]), (27263052, [(27263039, [(60, (0, 0))]), (27263052, [(60, (0, 0))])]), (27263062, [(27263062, [(60, (0, 0))])])], (0, ([], 0)))))))))))
def knE_step_3 : Kn := ([false, false, false, false, false, false, false], ([(0, d9_9), (1, [((-2147483648), (-1))]), (2, d9_0), (3, d9_0), (4, [(1, 4)]), (5, d9_0), (6, d9_0)], ([], ([], ([(5, (c9_2, v9_5)), (110, (c9_8, v9_6))], [])))))
def ctM_step_3 : Ct := ([.r 110, v9_0, v9_1], (kn_step_3, ([([.c (-1)], knE_step_3)], ([(167935, [(166911, ()), (167935, ())]), (169983, [(168959, ()), (169983, ())])], ([], ([], (inlT, (1, ([(27263026, [(27262976, [(60, (0, 0))]), (27263026, [(60, (0, 0))])]), (27263052, [(27263039, [(60, (0, 0))]), (27263052, [(60, (0, 0))])]), (27263062, [(27263062, [(60, (0, 0))])])], (0, ([], 0)))))))))))
def knE_step_4 : Kn := ([false, false, false, false, false, false, false], ([(0, [(0, 2147483647)]), (1, T32), (2, d9_0), (3, d9_0), (4, [(0, 4)]), (5, d9_0), (6, d9_0)], ([], ([], ([(5, (c9_2, v9_5)), (110, (c9_8, v9_6))], [])))))
def ctM_step_4 : Ct := ([.r 110, v9_0, v9_1], (kn_step_4, ([([.c (-1)], knE_step_4)], ([(167935, [(166911, ()), (167935, ())]), (169983, [(168959, ()), (169983, ())])], ([], ([], (inlT, (1, ([(27263026, [(27262976, [(60, (0, 0))]), (27263026, [(60, (0, 0))])]), (27263052, [(27263039, [(60, (0, 0))]), (27263052, [(60, (0, 0))])]), (27263062, [(27263062, [(60, (0, 0))])])], (0, ([], 0)))))))))))
def knE_step_5 : Kn := ([false, false, false, false, false, false, false], ([(0, [((-2147483648), (-1))]), (1, T32), (2, d9_0), (3, d9_0), (4, [(0, 4)]), (5, d9_0), (6, d9_0)], ([], ([], ([(5, (c9_2, v9_5)), (110, (c9_8, v9_6))], [])))))
def ctM_step_5 : Ct := ([.r 110, v9_0, v9_1], (kn_step_5, ([([.c (-1)], knE_step_5)], ([(167935, [(166911, ()), (167935, ())]), (169983, [(168959, ()), (169983, ())])], ([], ([], (inlT, (1, ([(27263026, [(27262976, [(60, (0, 0))]), (27263026, [(60, (0, 0))])]), (27263052, [(27263039, [(60, (0, 0))]), (27263052, [(60, (0, 0))])]), (27263062, [(27263062, [(60, (0, 0))])])], (0, ([], 0)))))))))))
end
