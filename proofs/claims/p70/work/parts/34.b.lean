noncomputable section
/-! ===== both sides of a method, one behind the other ===== -/
theorem lone_ok {E : xV} {r : Nat} {c : Ct} (hb : c.rg.1 = 0) (h : Chk GX 3000 r c) : CtOk E Yf GX JJ r c := by
  intro ρ0 σ av hko ha
  refine root_ok GX_G GX_J GX_H GX_F (fun z q _ hq => all_ct z q hq) h.1 h.2 hko ha (fun z q _ hm => ?_)
  unfold mate at hm
  rw [Bool.and_eq_true] at hm
  have e1 := Nat.eq_of_beq_eq_true hm.1
  have e2 := Nat.le_of_ble_eq_true hm.2
  omega
theorem ans_i {ρ : List Int} {a : AV} {v : Option Value} (ha : a.isI = true) (h : Rs ρ [a] v.toList) : ∃ y : Int32, v = some (.int y) ∧ ev ρ a = some y.toInt := by
  obtain ⟨w, l, q1, q2, q3⟩ := Rs.cons h
  obtain ⟨y, rfl, q4⟩ := q2.int ha
  refine ⟨y, ?_, q4⟩
  cases v with
  | none => cases q1
  | some r => cases q1; rfl
theorem ans_l {ρ : List Int} {a : AV} {v : Option Value} (ha : a.isL = true) (h : Rs ρ [a] v.toList) : ∃ y : Int64, v = some (.long y) ∧ ev ρ a = some y.toInt := by
  obtain ⟨w, l, q1, q2, q3⟩ := Rs.cons h
  obtain ⟨y, rfl, q4⟩ := q2.long ha
  refine ⟨y, ?_, q4⟩
  cases v with
  | none => cases q1
  | some r => cases q1; rfl
theorem args_M {ρ ρ1 : List Int} {o1 o2 : Nat} {ar : List AV} {vs : List Value} (h : Rs ρ (.r o1 :: ar) (.ref o1 :: vs)) (hp : Pre ρ ρ1) : Rs ρ1 (.r o2 :: ar) (.ref o2 :: vs) := ⟨rfl, (show Rs ρ ar vs from h.2).mono hp⟩
theorem pair_i {E : xV} {z o1 o2 : Nat} {m : Ct} {ar : List AV} {a : AV} {kn kn' : Kn} {ρ ρ1 : List Int} {σ1 : zS} {vs : List Value} {v : Option Value} (hm : CtOk E Yf GX JJ z m) (e1 : m.kn = kn) (e2 : m.ar = .r o2 :: ar) (e3 : m.al = [([a], kn')]) (e4 : endOk 1 ([a], kn') KS = true) (hk : Ko JJ kn ρ1 σ1) (hr : Rs ρ1 [a] v.toList) (ha : Rs ρ (.r o1 :: ar) (.ref o1 :: vs)) (hp : Pre ρ ρ1) (hi : a.isI = true) :
    ∃ r : Int32, v = some (.int r) ∧ Cz E (Yf z) (.ref o2 :: vs) σ1 (fun v' σ2 => v' = some (.int r) ∧ JJ [] σ2 ∧ ∀ k ∈ KS, 0 ≤ fz σ2 k ∧ fz σ2 k ≤ 200) := by
  obtain ⟨y, hy, h1⟩ := ans_i hi hr
  refine ⟨y, hy, (hm ρ1 σ1 (.ref o2 :: vs) (by rw [e1]; exact hk) (by rw [e2]; exact args_M ha hp)).mono (fun v' σ2 hq => ?_)⟩
  obtain ⟨_, al, f2, ρ2, f3, f4, f5⟩ := hq
  rw [e3] at f2
  rcases List.mem_cons.mp f2 with rfl | f2
  · obtain ⟨_, _, g3, g4⟩ := endOk_ok e4 f4 f5
    obtain ⟨y', hy', h2⟩ := ans_i hi f5
    have e : y' = y := Int32.toInt_inj.mp (Option.some.inj (h2.symm.trans (ev.mono f3 h1)))
    rw [e] at hy'
    exact ⟨hy', g4, g3⟩
  · cases f2
theorem pair_l {E : xV} {z o1 o2 : Nat} {m : Ct} {ar : List AV} {a : AV} {kn kn' : Kn} {ρ ρ1 : List Int} {σ1 : zS} {vs : List Value} {v : Option Value} (hm : CtOk E Yf GX JJ z m) (e1 : m.kn = kn) (e2 : m.ar = .r o2 :: ar) (e3 : m.al = [([a], kn')]) (e4 : endOk 3 ([a], kn') KS = true) (hk : Ko JJ kn ρ1 σ1) (hr : Rs ρ1 [a] v.toList) (ha : Rs ρ (.r o1 :: ar) (.ref o1 :: vs)) (hp : Pre ρ ρ1) (hi : a.isL = true) :
    ∃ r : Int64, v = some (.long r) ∧ Cz E (Yf z) (.ref o2 :: vs) σ1 (fun v' σ2 => v' = some (.long r) ∧ JJ [] σ2 ∧ ∀ k ∈ KS, 0 ≤ fz σ2 k ∧ fz σ2 k ≤ 200) := by
  obtain ⟨y, hy, h1⟩ := ans_l hi hr
  refine ⟨y, hy, (hm ρ1 σ1 (.ref o2 :: vs) (by rw [e1]; exact hk) (by rw [e2]; exact args_M ha hp)).mono (fun v' σ2 hq => ?_)⟩
  obtain ⟨_, al, f2, ρ2, f3, f4, f5⟩ := hq
  rw [e3] at f2
  rcases List.mem_cons.mp f2 with rfl | f2
  · obtain ⟨_, _, g3, g4⟩ := endOk_ok e4 f4 f5
    obtain ⟨y', hy', h2⟩ := ans_l hi f5
    have e : y' = y := Int64.toInt_inj.mp (Option.some.inj (h2.symm.trans (ev.mono f3 h1)))
    rw [e] at hy'
    exact ⟨hy', g4, g3⟩
  · cases f2
def kn_person_0 : Kn := ([false, false, false], ([(0, d9_0), (1, d9_0), (2, [(20, 20)])], ([], ([], ([(5, (c9_0, v9_2)), (5, (c9_2, v9_0)), (110, (c9_8, v9_1))], [])))))
def kn_person_1 : Kn := ([false, false, false], ([(0, d9_0), (1, d9_0), (2, d9_5)], ([], ([], ([(5, (c9_0, .i 2 1)), (110, (c9_6, v9_2)), (5, (c9_2, v9_0)), (110, (c9_8, v9_1))], [(400, c9_0), (401, .i 2 1), (402, v9_2)])))))
def knH_person : Kn := ([false, false], ([(0, d9_0), (1, d9_0)], ([], ([], ([(5, (c9_2, v9_0)), (110, (c9_8, v9_1))], [])))))
def ctH_person : Ct := ([.r 0], (knH_person, ([([.c (-3)], kn_person_0), ([v9_2], kn_person_1)], ([(5120, [(5120, ())])], ([], ([], (inlT, (1, ([(458752, [(458752, [(60, (0, 0))])]), (458777, [(458777, [(60, (0, 0))])])], (0, ([], 0)))))))))))
def knE_person_0 : Kn := ([false, false, false, false, false], ([(0, d9_0), (1, d9_0), (2, [(20, 20)]), (3, d9_0), (4, d9_0)], ([], ([], ([(5, (c9_2, v9_3)), (110, (c9_8, v9_4))], [])))))
def ctM_person_0 : Ct := ([.r 110], (kn_person_0, ([([.c (-3)], knE_person_0)], ([(112646, [(112646, ())])], ([], ([], (inlT, (1, ([(20447232, [(20447232, [(60, (0, 0))])]), (20447251, [(20447251, [(60, (0, 0))])])], (0, ([], 0)))))))))))
def knE_person_1 : Kn := ([false, false, false, false, false], ([(0, d9_0), (1, d9_0), (2, d9_5), (3, d9_0), (4, d9_0)], ([], ([], ([(5, (c9_2, v9_3)), (110, (c9_8, v9_4))], [])))))
def ctM_person_1 : Ct := ([.r 110], (kn_person_1, ([([v9_2], knE_person_1)], ([(112646, [(112646, ())])], ([], ([], (inlT, (1, ([(20447232, [(20447232, [(60, (0, 0))])]), (20447251, [(20447251, [(60, (0, 0))])])], (0, ([], 0)))))))))))
def kn_guarded_0 : Kn := ([false, true, false, false, true, false], ([(0, d9_5), (1, T64), (2, d9_0), (3, d9_0), (4, T64), (5, [(1, 20)])], ([], ([([(0, 1), (5, (-1))], (-1))], ([(71, (v9_0, .l 1 0)), (197, (v9_0, .l 4 0)), (110, (c9_6, v9_5)), (5, (c9_0, v9_5)), (5, (c9_2, v9_2)), (110, (c9_8, v9_3))], [(600, v9_0)])))))
def kn_guarded_1 : Kn := ([false, true, false, false, false], ([(0, [(0, 2147483647)]), (1, T64), (2, d9_0), (3, d9_0), (4, d9_1)], ([], ([([(0, (-1)), (4, 1)], 0)], ([(5, (c9_0, v9_4)), (5, (c9_2, v9_2)), (110, (c9_8, v9_3))], [])))))
def kn_guarded_2 : Kn := ([false, true, false, false], ([(0, [((-2147483648), (-1))]), (1, T64), (2, d9_0), (3, d9_0)], ([], ([], ([(5, (c9_2, v9_2)), (110, (c9_8, v9_3))], [])))))
def knH_guarded : Kn := ([false, true, false, false], ([(0, T32), (1, T64), (2, d9_0), (3, d9_0)], ([], ([], ([(5, (c9_2, v9_2)), (110, (c9_8, v9_3))], [])))))
def ctH_guarded : Ct := ([.r 0, v9_0, .l 1 0], (knH_guarded, ([([.l 4 0], kn_guarded_0), ([.k (-1)], kn_guarded_1), ([.k (-1)], kn_guarded_2)], ([(73727, [(73727, ())])], ([], ([], (inlT, (1, ([(15859712, [(15859712, [(60, (0, 0))])]), (15859747, [(15859747, [(60, (0, 0))])])], (0, ([], 0)))))))))))
def knE_guarded_0 : Kn := ([false, true, false, false, true, false, false, false], ([(0, d9_5), (1, T64), (2, d9_0), (3, d9_0), (4, T64), (5, [(1, 20)]), (6, d9_0), (7, d9_0)], ([], ([], ([(5, (c9_2, v9_6)), (110, (c9_8, v9_7))], [])))))
def ctM_guarded_0 : Ct := ([.r 110, v9_0, .l 1 0], (kn_guarded_0, ([([.l 4 0], knE_guarded_0)], ([(202751, [(202751, ())])], ([], ([], (inlT, (1, ([(29884416, [(29884416, [(60, (0, 0))])]), (29884442, [(29884442, [(60, (0, 0))])])], (0, ([], 0)))))))))))
def knE_guarded_1 : Kn := ([false, true, false, false, false, false, false], ([(0, [(0, 2147483647)]), (1, T64), (2, d9_0), (3, d9_0), (4, d9_1), (5, d9_0), (6, d9_0)], ([], ([], ([(5, (c9_2, v9_5)), (110, (c9_8, v9_6))], [])))))
def ctM_guarded_1 : Ct := ([.r 110, v9_0, .l 1 0], (kn_guarded_1, ([([.k (-1)], knE_guarded_1)], ([(202751, [(202751, ())])], ([], ([], (inlT, (1, ([(29884416, [(29884416, [(60, (0, 0))])]), (29884442, [(29884442, [(60, (0, 0))])])], (0, ([], 0)))))))))))
def knE_guarded_2 : Kn := ([false, true, false, false, false, false], ([(0, [((-2147483648), (-1))]), (1, T64), (2, d9_0), (3, d9_0), (4, d9_0), (5, d9_0)], ([], ([], ([(5, (c9_2, v9_4)), (110, (c9_8, v9_5))], [])))))
def ctM_guarded_2 : Ct := ([.r 110, v9_0, .l 1 0], (kn_guarded_2, ([([.k (-1)], knE_guarded_2)], ([(202751, [(202751, ())])], ([], ([], (inlT, (1, ([(29884416, [(29884416, [(60, (0, 0))])]), (29884442, [(29884442, [(60, (0, 0))])])], (0, ([], 0)))))))))))
end
