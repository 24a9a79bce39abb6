noncomputable section
/-! ===== both sides of a method, one behind the other ===== -/
theorem lone_ok {E : xV} {r : Nat} {c : Ct} (hb : c.rg.1 = 0) (h : Chk GX 3000 r c) : CtOk E Yf GX JJ r c := by
  intro ρ0 σ av hko ha
  refine root_ok GX_G GX_J GX_H GX_F (fun z q _ hq => all_ct z q hq) h.1 h.2 hko ha (fun z q _ hm => ?_)
  unfold mate at hm
  rw [Bool.and_eq_true] at hm
  have e1 := Nat.eq_of_beq_eq_true hm.1
  have e2 := Nat.le_of_ble_eq_true hm.2
  omega
theorem ans_i {ρ : List Int} {a : AV} {v : Option Value} (ha : a.isI = true) (h : Rs ρ [a] v.toList) : ∃ y : Int32, v = some (.int y) ∧ ev ρ a = some y.toInt := by
  obtain ⟨w, l, q1, q2, q3⟩ := Rs.cons h
  obtain ⟨y, rfl, q4⟩ := q2.int ha
  refine ⟨y, ?_, q4⟩
  cases v with
  | none => cases q1
  | some r => cases q1; rfl
theorem ans_l {ρ : List Int} {a : AV} {v : Option Value} (ha : a.isL = true) (h : Rs ρ [a] v.toList) : ∃ y : Int64, v = some (.long y) ∧ ev ρ a = some y.toInt := by
  obtain ⟨w, l, q1, q2, q3⟩ := Rs.cons h
  obtain ⟨y, rfl, q4⟩ := q2.long ha
  refine ⟨y, ?_, q4⟩
  cases v with
  | none => cases q1
  | some r => cases q1; rfl
theorem args_M {ρ ρ1 : List Int} {o1 o2 : Nat} {ar : List AV} {vs : List Value} (h : Rs ρ (.r o1 :: ar) (.ref o1 :: vs)) (hp : Pre ρ ρ1) : Rs ρ1 (.r o2 :: ar) (.ref o2 :: vs) := ⟨rfl, (show Rs ρ ar vs from h.2).mono hp⟩
theorem pair_i {E : xV} {z o1 o2 : Nat} {m : Ct} {ar : List AV} {a : AV} {kn kn' : Kn} {ρ ρ1 : List Int} {σ1 : zS} {vs : List Value} {v : Option Value} (hm : CtOk E Yf GX JJ z m) (e1 : m.kn = kn) (e2 : m.ar = .r o2 :: ar) (e3 : m.al = [([a], kn')]) (e4 : endOk 1 ([a], kn') KS = true) (hk : Ko JJ kn ρ1 σ1) (hr : Rs ρ1 [a] v.toList) (ha : Rs ρ (.r o1 :: ar) (.ref o1 :: vs)) (hp : Pre ρ ρ1) (hi : a.isI = true) :
    ∃ r : Int32, v = some (.int r) ∧ Cz E (Yf z) (.ref o2 :: vs) σ1 (fun v' σ2 => v' = some (.int r) ∧ JJ [] σ2 ∧ ∀ k ∈ KS, 0 ≤ fz σ2 k ∧ fz σ2 k ≤ 200) := by
  obtain ⟨y, hy, h1⟩ := ans_i hi hr
  refine ⟨y, hy, (hm ρ1 σ1 (.ref o2 :: vs) (by rw [e1]; exact hk) (by rw [e2]; exact args_M ha hp)).mono (fun v' σ2 hq => ?_)⟩
  obtain ⟨_, al, f2, ρ2, f3, f4, f5⟩ := hq
  rw [e3] at f2
  rcases List.mem_cons.mp f2 with rfl | f2
  · obtain ⟨_, _, g3, g4⟩ := endOk_ok e4 f4 f5
    obtain ⟨y', hy', h2⟩ := ans_i hi f5
    have e : y' = y := Int32.toInt_inj.mp (Option.some.inj (h2.symm.trans (ev.mono f3 h1)))
    rw [e] at hy'
    exact ⟨hy', g4, g3⟩
  · cases f2
theorem pair_l {E : xV} {z o1 o2 : Nat} {m : Ct} {ar : List AV} {a : AV} {kn kn' : Kn} {ρ ρ1 : List Int} {σ1 : zS} {vs : List Value} {v : Option Value} (hm : CtOk E Yf GX JJ z m) (e1 : m.kn = kn) (e2 : m.ar = .r o2 :: ar) (e3 : m.al = [([a], kn')]) (e4 : endOk 3 ([a], kn') KS = true) (hk : Ko JJ kn ρ1 σ1) (hr : Rs ρ1 [a] v.toList) (ha : Rs ρ (.r o1 :: ar) (.ref o1 :: vs)) (hp : Pre ρ ρ1) (hi : a.isL = true) :
    ∃ r : Int64, v = some (.long r) ∧ Cz E (Yf z) (.ref o2 :: vs) σ1 (fun v' σ2 => v' = some (.long r) ∧ JJ [] σ2 ∧ ∀ k ∈ KS, 0 ≤ fz σ2 k ∧ fz σ2 k ≤ 200) := by
  obtain ⟨y, hy, h1⟩ := ans_l hi hr
  refine ⟨y, hy, (hm ρ1 σ1 (.ref o2 :: vs) (by rw [e1]; exact hk) (by rw [e2]; exact args_M ha hp)).mono (fun v' σ2 hq => ?_)⟩
  obtain ⟨_, al, f2, ρ2, f3, f4, f5⟩ := hq
  rw [e3] at f2
  rcases List.mem_cons.mp f2 with rfl | f2
  · obtain ⟨_, _, g3, g4⟩ := endOk_ok e4 f4 f5
    obtain ⟨y', hy', h2⟩ := ans_l hi f5
    have e : y' = y := Int64.toInt_inj.mp (Option.some.inj (h2.symm.trans (ev.mono f3 h1)))
    rw [e] at hy'
    exact ⟨hy', g4, g3⟩
  · cases f2
def kn_given_0 : Kn := ([false, false, false, false, false], ([(0, [(0, 9)]), (1, T32), (2, d9_0), (3, d9_0), (4, T32)], ([], ([], ([(65, (v9_0, v9_1)), (192, (v9_0, v9_4)), (5, (c9_2, v9_2)), (110, (c9_8, v9_3))], [(400, v9_0), (401, v9_1), (402, v9_4)])))))
def kn_given_1 : Kn := ([false, false, false, false], ([(0, [(10, 2147483647)]), (1, T32), (2, d9_0), (3, d9_0)], ([], ([], ([(5, (c9_2, v9_2)), (110, (c9_8, v9_3))], [])))))
def kn_given_2 : Kn := ([false, false, false, false], ([(0, [((-2147483648), (-1))]), (1, T32), (2, d9_0), (3, d9_0)], ([], ([], ([(5, (c9_2, v9_2)), (110, (c9_8, v9_3))], [])))))
def knH_given : Kn := ([false, false, false, false], ([(0, T32), (1, T32), (2, d9_0), (3, d9_0)], ([], ([], ([(5, (c9_2, v9_2)), (110, (c9_8, v9_3))], [])))))
def ctH_given : Ct := ([.r 0, v9_0, v9_1], (knH_given, ([([v9_4], kn_given_0), ([.c (-1)], kn_given_1), ([.c (-1)], kn_given_2)], ([(67583, [(67583, ())])], ([], ([], (inlT, (1, ([(15204352, [(15204352, [(60, (0, 0))])]), (15204382, [(15204382, [(60, (0, 0))])])], (0, ([], 0)))))))))))
def knE_given_0 : Kn := ([false, false, false, false, false, false, false], ([(0, [(0, 9)]), (1, T32), (2, d9_0), (3, d9_0), (4, T32), (5, d9_0), (6, d9_0)], ([], ([], ([(5, (c9_2, v9_5)), (110, (c9_8, v9_6))], [])))))
def ctM_given_0 : Ct := ([.r 110, v9_0, v9_1], (kn_given_0, ([([v9_4], knE_given_0)], ([(197631, [(197631, ())])], ([], ([], (inlT, (1, ([(29556736, [(29556736, [(60, (0, 0))])]), (29556763, [(29556763, [(60, (0, 0))])])], (0, ([], 0)))))))))))
def knE_given_1 : Kn := ([false, false, false, false, false, false], ([(0, [(10, 2147483647)]), (1, T32), (2, d9_0), (3, d9_0), (4, d9_0), (5, d9_0)], ([], ([], ([(5, (c9_2, v9_4)), (110, (c9_8, v9_5))], [])))))
def ctM_given_1 : Ct := ([.r 110, v9_0, v9_1], (kn_given_1, ([([.c (-1)], knE_given_1)], ([(197631, [(197631, ())])], ([], ([], (inlT, (1, ([(29556736, [(29556736, [(60, (0, 0))])]), (29556763, [(29556763, [(60, (0, 0))])])], (0, ([], 0)))))))))))
def knE_given_2 : Kn := ([false, false, false, false, false, false], ([(0, [((-2147483648), (-1))]), (1, T32), (2, d9_0), (3, d9_0), (4, d9_0), (5, d9_0)], ([], ([], ([(5, (c9_2, v9_4)), (110, (c9_8, v9_5))], [])))))
def ctM_given_2 : Ct := ([.r 110, v9_0, v9_1], (kn_given_2, ([([.c (-1)], knE_given_2)], ([(197631, [(197631, ())])], ([], ([], (inlT, (1, ([(29556736, [(29556736, [(60, (0, 0))])]), (29556763, [(29556763, [(60, (0, 0))])])], (0, ([], 0)))))))))))
end
