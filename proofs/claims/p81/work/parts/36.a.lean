section
noncomputable section
noncomputable def ca_H_sumBehind_5_0B : An := ([(0, .r 0), (1, v9_0), (2, v9_1), (3, v9_5), (4, v9_6)], ([], (([false, false, false, false, false, false, false], ([(0, T32), (1, [(0, 299)]), (2, [(0, 300)]), (3, [(0, 201)]), (4, [(0, 201)]), (5, T32), (6, d9_15)], ([], ([], ([(0, (c9_7, v9_2)), (110, (c9_8, v9_3)), (5, (c9_2, v9_4))], []))))), ([(6, (-1))], 6))))
noncomputable def ct_H_sumBehindB : Ct := ([.r 0, v9_0, v9_1], (([false, false, false, false, false], ([(0, T32), (1, [(0, 299)]), (2, [(0, 300)]), (3, [(0, 201)]), (4, [(0, 201)])], ([], ([], ([(0, (c9_7, v9_2)), (110, (c9_8, v9_3)), (5, (c9_2, v9_4))], []))))), ([([v9_5], ([false, false, false, false, false, false], ([(0, T32), (1, [(0, 299)]), (2, [(0, 300)]), (3, [(0, 201)]), (4, [(0, 201)]), (5, T32)], ([], ([], ([], []))))))], ([], ([], ([(5, [(5, [ca_H_sumBehind_5_0B])])], (inlT, (7, ([], (0, ([], 0)))))))))))
noncomputable def ct_H_writeLogB : Ct := ([.r 0, v9_0, v9_1, v9_2, v9_3, v9_4], (([false, false, false, false, false], ([(0, T32), (1, T32), (2, T32), (3, T32), (4, T32)], ([], ([], ([], []))))), ([([], ([false, false, false, false, false], ([(0, T32), (1, T32), (2, T32), (3, T32), (4, T32)], ([], ([], ([], []))))))], ([(7, [(7, ())]), (5119, [(5119, ())])], ([], ([], (inlT, (1, ([], (0, ([], 0)))))))))))
noncomputable def ca_M_sumOf_5_0B : An := ([(0, .r 110), (1, v9_0), (2, v9_1), (3, v9_5), (4, v9_6)], ([], (([false, false, false, false, false, false, false], ([(0, [(0, 299)]), (1, T32), (2, [(0, 300)]), (3, [(0, 201)]), (4, [(0, 201)]), (5, T32), (6, d9_15)], ([], ([], ([(110, (c9_3, v9_2)), (110, (c9_8, v9_3)), (5, (c9_2, v9_4))], []))))), ([(6, (-1))], 6))))
noncomputable def ct_M_sumOfB : Ct := ([.r 110, v9_0, v9_1], (([false, false, false, false, false], ([(0, [(0, 299)]), (1, T32), (2, [(0, 300)]), (3, [(0, 201)]), (4, [(0, 201)])], ([], ([], ([(110, (c9_3, v9_2)), (110, (c9_8, v9_3)), (5, (c9_2, v9_4))], []))))), ([([v9_5], ([false, false, false, false, false, false], ([(0, [(0, 299)]), (1, T32), (2, [(0, 300)]), (3, [(0, 201)]), (4, [(0, 201)]), (5, T32)], ([], ([], ([], []))))))], ([], ([], ([(5, [(5, [ca_M_sumOf_5_0B])])], (inlT, (7, ([], (0, ([], 0)))))))))))
noncomputable def ct_M_logB : Ct := ([.r 110, v9_0, v9_1, v9_2, v9_3, v9_4], (([false, false, false, false, false], ([(0, T32), (1, T32), (2, T32), (3, T32), (4, T32)], ([], ([], ([], []))))), ([([], ([false, false, false, false, false], ([(0, T32), (1, T32), (2, T32), (3, T32), (4, T32)], ([], ([], ([], []))))))], ([(112643, [(112643, ())]), (115711, [(115711, ())]), (116735, [(116735, ())])], ([], ([], (inlT, (1, ([], (0, ([], 0)))))))))))
noncomputable def CTTB : BT Ct := [(109, [(108, ct_H_sumBehindB), (109, ct_H_writeLogB)]), (307, [(306, ct_M_sumOfB), (307, ct_M_logB)])]
end
noncomputable section
noncomputable def CSB : List Cp := [cz 310 120 16, cz 311 201 4, cl 320 196, cf 110 148 211 210 206, cg9 110 112 183 144, ctr 125 110 20 26, cr QQ, cu 24 25 26]
noncomputable def hxg_5B (h : Nat × (Nat × Nat)) (f : Fm) (s : Sy) : Option Sy :=
  bif Nat.beq h.1 54 then some (hu54 17 14 24 25 26 s)
  else bif Nat.beq h.1 55 then some (hu55 17 14 25 s)
  else bif Nat.beq h.1 56 then some (hu56 s)
  else bif Nat.beq h.1 57 then some (hu57 s)
  else bif Nat.beq h.1 58 then some (hu58 17 14 15 0 25 s)
  else bif Nat.beq h.1 59 then hu59 17 15 s
  else some s
noncomputable def hxTB (h : Nat × (Nat × Nat)) (f : Fm) (s : Sy) : Option Sy :=
  bif Nat.ble h.1 16 then hxg_0 h f s
  else bif Nat.ble h.1 25 then hxg_1 h f s
  else bif Nat.ble h.1 35 then hxg_2 h f s
  else bif Nat.ble h.1 42 then hxg_3 h f s
  else bif Nat.ble h.1 52 then hxg_4 h f s
  else hxg_5B h f s
noncomputable def GXB : Gx := mkX (TJ.P GG (cW CSB)) hxTB CTTB trT
noncomputable abbrev JJB : Jt := Jf TJ GG (cS CSB)
theorem CS_okB : ∀ c ∈ CSB, CpOk TJ GG c := by
  intro c hc
  rcases List.mem_cons.mp hc with rfl | hc
  · exact cz_ok (by decide) (row_in (kd := 102) (by decide +kernel))
  rcases List.mem_cons.mp hc with rfl | hc
  · exact cz_ok (by decide) (row_in (kd := 102) (by decide +kernel))
  rcases List.mem_cons.mp hc with rfl | hc
  · exact cl_ok (by decide)
  rcases List.mem_cons.mp hc with rfl | hc
  · exact cf_ok (by decide) (by decide) (by decide) (by decide) (by decide) (by decide)
  rcases List.mem_cons.mp hc with rfl | hc
  · exact cg9_ok (by decide) (row_in (kd := 100) (by decide +kernel))
  rcases List.mem_cons.mp hc with rfl | hc
  · exact ctr_ok (by decide) (by decide) (row_in (kd := 100) (by decide +kernel))
  rcases List.mem_cons.mp hc with rfl | hc
  · exact cr_ok (by decide) (fun σ hb => hR30 hb)
  rcases List.mem_cons.mp hc with rfl | hc
  · exact cu_ok
  · cases hc
theorem apt_0B : ∀ c' ∈ ([cz 311 201 4, cl 320 196, cf 110 148 211 210 206, cg9 110 112 183 144, ctr 125 110 20 26, cr QQ, cu 24 25 26] : List Cp), ∀ t, (cz 310 120 16 : Cp).tg t = true → c'.tg t = false := by
  intro c' hc t ht
  have e : t = 310 := Nat.eq_of_beq_eq_true ht
  subst e
  rcases List.mem_cons.mp hc with rfl | hc
  · rfl
  rcases List.mem_cons.mp hc with rfl | hc
  · rfl
  rcases List.mem_cons.mp hc with rfl | hc
  · rfl
  rcases List.mem_cons.mp hc with rfl | hc
  · rfl
  rcases List.mem_cons.mp hc with rfl | hc
  · rfl
  rcases List.mem_cons.mp hc with rfl | hc
  · rfl
  rcases List.mem_cons.mp hc with rfl | hc
  · rfl
  · cases hc
theorem apt_1B : ∀ c' ∈ ([cl 320 196, cf 110 148 211 210 206, cg9 110 112 183 144, ctr 125 110 20 26, cr QQ, cu 24 25 26] : List Cp), ∀ t, (cz 311 201 4 : Cp).tg t = true → c'.tg t = false := by
  intro c' hc t ht
  have e : t = 311 := Nat.eq_of_beq_eq_true ht
  subst e
  rcases List.mem_cons.mp hc with rfl | hc
  · rfl
  rcases List.mem_cons.mp hc with rfl | hc
  · rfl
  rcases List.mem_cons.mp hc with rfl | hc
  · rfl
  rcases List.mem_cons.mp hc with rfl | hc
  · rfl
  rcases List.mem_cons.mp hc with rfl | hc
  · rfl
  rcases List.mem_cons.mp hc with rfl | hc
  · rfl
  · cases hc
theorem apt_2B : ∀ c' ∈ ([cf 110 148 211 210 206, cg9 110 112 183 144, ctr 125 110 20 26, cr QQ, cu 24 25 26] : List Cp), ∀ t, (cl 320 196 : Cp).tg t = true → c'.tg t = false := by
  intro c' hc t ht
  have e : t = 320 := Nat.eq_of_beq_eq_true ht
  subst e
  rcases List.mem_cons.mp hc with rfl | hc
  · rfl
  rcases List.mem_cons.mp hc with rfl | hc
  · rfl
  rcases List.mem_cons.mp hc with rfl | hc
  · rfl
  rcases List.mem_cons.mp hc with rfl | hc
  · rfl
  rcases List.mem_cons.mp hc with rfl | hc
  · rfl
  · cases hc
theorem apt_4B : ∀ c' ∈ ([ctr 125 110 20 26, cr QQ, cu 24 25 26] : List Cp), ∀ t, (cg9 110 112 183 144 : Cp).tg t = true → c'.tg t = false := by
  intro c' hc t ht
  have ht : (Nat.beq t 330 || Nat.beq t 331) = true := ht
  rw [Bool.or_eq_true] at ht
  rcases List.mem_cons.mp hc with rfl | hc
  · rcases ht with ht | ht <;> rw [Nat.eq_of_beq_eq_true ht] <;> rfl
  rcases List.mem_cons.mp hc with rfl | hc
  · rcases ht with ht | ht <;> rw [Nat.eq_of_beq_eq_true ht] <;> rfl
  rcases List.mem_cons.mp hc with rfl | hc
  · rcases ht with ht | ht <;> rw [Nat.eq_of_beq_eq_true ht] <;> rfl
  · cases hc
theorem apt_5B : ∀ c' ∈ ([cr QQ, cu 24 25 26] : List Cp), ∀ t, (ctr 125 110 20 26 : Cp).tg t = true → c'.tg t = false := by
  intro c' hc t ht
  have ht2 : t = 300 ∨ t = 301 ∨ t = 302 ∨ t = 303 ∨ t = 304 ∨ t = 340 := tgC ht
  rcases List.mem_cons.mp hc with rfl | hc
  · rcases ht2 with rfl | rfl | rfl | rfl | rfl | rfl <;> rfl
  rcases List.mem_cons.mp hc with rfl | hc
  · rcases ht2 with rfl | rfl | rfl | rfl | rfl | rfl <;> rfl
  · cases hc
theorem apt_6B : ∀ c' ∈ ([cu 24 25 26] : List Cp), ∀ t, (cr QQ : Cp).tg t = true → c'.tg t = false := by
  intro c' hc t ht
  have ht2 : t = 312 ∨ t = 313 ∨ t = 314 ∨ t = 321 ∨ t = 322 ∨ t = 323 ∨ t = 324 ∨ t = 325 ∨ t = 326 ∨ t = 327 ∨ t = 328 ∨ t = 341 := tgQ ht
  rcases List.mem_cons.mp hc with rfl | hc
  · rcases ht2 with rfl | rfl | rfl | rfl | rfl | rfl | rfl | rfl | rfl | rfl | rfl | rfl <;> rfl
  · cases hc
theorem apt_7B : ∀ c' ∈ ([] : List Cp), ∀ t, (cu 24 25 26 : Cp).tg t = true → c'.tg t = false := by
  intro c' hc t ht
  cases hc
theorem CS_aptB : Apt CSB := ⟨apt_0B, ⟨apt_1B, ⟨apt_2B, ⟨fun c _ t ht => (by cases ht), ⟨apt_4B, ⟨apt_5B, ⟨apt_6B, ⟨apt_7B, trivial⟩⟩⟩⟩⟩⟩⟩⟩
theorem u310B : ∀ c ∈ CSB, c.tg 310 = true → c = cz 310 120 16 := by
  intro c hc h
  rcases List.mem_cons.mp hc with rfl | hc
  · rfl
  rcases List.mem_cons.mp hc with rfl | hc
  · cases h
  rcases List.mem_cons.mp hc with rfl | hc
  · cases h
  rcases List.mem_cons.mp hc with rfl | hc
  · cases h
  rcases List.mem_cons.mp hc with rfl | hc
  · cases h
  rcases List.mem_cons.mp hc with rfl | hc
  · cases h
  rcases List.mem_cons.mp hc with rfl | hc
  · exact absurd h (by decide)
  rcases List.mem_cons.mp hc with rfl | hc
  · exact absurd h (by decide)
  · cases hc
theorem u311B : ∀ c ∈ CSB, c.tg 311 = true → c = cz 311 201 4 := by
  intro c hc h
  rcases List.mem_cons.mp hc with rfl | hc
  · cases h
  rcases List.mem_cons.mp hc with rfl | hc
  · rfl
  rcases List.mem_cons.mp hc with rfl | hc
  · cases h
  rcases List.mem_cons.mp hc with rfl | hc
  · cases h
  rcases List.mem_cons.mp hc with rfl | hc
  · cases h
  rcases List.mem_cons.mp hc with rfl | hc
  · cases h
  rcases List.mem_cons.mp hc with rfl | hc
  · exact absurd h (by decide)
  rcases List.mem_cons.mp hc with rfl | hc
  · exact absurd h (by decide)
  · cases hc
theorem u320B : ∀ c ∈ CSB, c.tg 320 = true → c = cl 320 196 := by
  intro c hc h
  rcases List.mem_cons.mp hc with rfl | hc
  · cases h
  rcases List.mem_cons.mp hc with rfl | hc
  · cases h
  rcases List.mem_cons.mp hc with rfl | hc
  · rfl
  rcases List.mem_cons.mp hc with rfl | hc
  · cases h
  rcases List.mem_cons.mp hc with rfl | hc
  · cases h
  rcases List.mem_cons.mp hc with rfl | hc
  · cases h
  rcases List.mem_cons.mp hc with rfl | hc
  · exact absurd h (by decide)
  rcases List.mem_cons.mp hc with rfl | hc
  · exact absurd h (by decide)
  · cases hc
theorem u331B : ∀ c ∈ CSB, c.tg 331 = true → c = cg9 110 112 183 144 := by
  intro c hc h
  rcases List.mem_cons.mp hc with rfl | hc
  · cases h
  rcases List.mem_cons.mp hc with rfl | hc
  · cases h
  rcases List.mem_cons.mp hc with rfl | hc
  · cases h
  rcases List.mem_cons.mp hc with rfl | hc
  · cases h
  rcases List.mem_cons.mp hc with rfl | hc
  · rfl
  rcases List.mem_cons.mp hc with rfl | hc
  · cases h
  rcases List.mem_cons.mp hc with rfl | hc
  · exact absurd h (by decide)
  rcases List.mem_cons.mp hc with rfl | hc
  · exact absurd h (by decide)
  · cases hc
theorem m310B : cz 310 120 16 ∈ CSB := List.mem_cons_self ..
theorem m311B : cz 311 201 4 ∈ CSB := List.mem_cons_of_mem _ (List.mem_cons_self ..)
theorem m320B : cl 320 196 ∈ CSB := List.mem_cons_of_mem _ (List.mem_cons_of_mem _ (List.mem_cons_self ..))
theorem mcfB : cf 110 148 211 210 206 ∈ CSB := List.mem_cons_of_mem _ (List.mem_cons_of_mem _ (List.mem_cons_of_mem _ (List.mem_cons_self ..)))
theorem mcgB : cg9 110 112 183 144 ∈ CSB := List.mem_cons_of_mem _ (List.mem_cons_of_mem _ (List.mem_cons_of_mem _ (List.mem_cons_of_mem _ (List.mem_cons_self ..))))
theorem mctB : ctr 125 110 20 26 ∈ CSB := List.mem_cons_of_mem _ (List.mem_cons_of_mem _ (List.mem_cons_of_mem _ (List.mem_cons_of_mem _ (List.mem_cons_of_mem _ (List.mem_cons_self ..)))))
theorem mcrB : cr QQ ∈ CSB := List.mem_cons_of_mem _ (List.mem_cons_of_mem _ (List.mem_cons_of_mem _ (List.mem_cons_of_mem _ (List.mem_cons_of_mem _ (List.mem_cons_of_mem _ (List.mem_cons_self ..))))))
theorem mcuB : cu 24 25 26 ∈ CSB := List.mem_cons_of_mem _ (List.mem_cons_of_mem _ (List.mem_cons_of_mem _ (List.mem_cons_of_mem _ (List.mem_cons_of_mem _ (List.mem_cons_of_mem _ (List.mem_cons_of_mem _ (List.mem_cons_self ..)))))))
theorem uQB : ∀ c ∈ CSB, ∀ t : Nat, qtg t = true → c.tg t = true → c = cr QQ := by
  intro c hc t h0 h
  rcases List.mem_cons.mp hc with rfl | hc
  · rcases tgQ h0 with rfl | rfl | rfl | rfl | rfl | rfl | rfl | rfl | rfl | rfl | rfl | rfl <;> exact absurd h (by decide)
  rcases List.mem_cons.mp hc with rfl | hc
  · rcases tgQ h0 with rfl | rfl | rfl | rfl | rfl | rfl | rfl | rfl | rfl | rfl | rfl | rfl <;> exact absurd h (by decide)
  rcases List.mem_cons.mp hc with rfl | hc
  · rcases tgQ h0 with rfl | rfl | rfl | rfl | rfl | rfl | rfl | rfl | rfl | rfl | rfl | rfl <;> exact absurd h (by decide)
  rcases List.mem_cons.mp hc with rfl | hc
  · rcases tgQ h0 with rfl | rfl | rfl | rfl | rfl | rfl | rfl | rfl | rfl | rfl | rfl | rfl <;> exact absurd h (by decide)
  rcases List.mem_cons.mp hc with rfl | hc
  · rcases tgQ h0 with rfl | rfl | rfl | rfl | rfl | rfl | rfl | rfl | rfl | rfl | rfl | rfl <;> exact absurd h (by decide)
  rcases List.mem_cons.mp hc with rfl | hc
  · rcases tgQ h0 with rfl | rfl | rfl | rfl | rfl | rfl | rfl | rfl | rfl | rfl | rfl | rfl <;> exact absurd h (by decide)
  rcases List.mem_cons.mp hc with rfl | hc
  · rfl
  rcases List.mem_cons.mp hc with rfl | hc
  · rcases tgQ h0 with rfl | rfl | rfl | rfl | rfl | rfl | rfl | rfl | rfl | rfl | rfl | rfl <;> exact absurd h (by decide)
  · cases hc
theorem uUB : ∀ c ∈ CSB, ∀ t : Nat, utg t = true → c.tg t = true → c = cu 24 25 26 := by
  intro c hc t h0 h
  rcases List.mem_cons.mp hc with rfl | hc
  · rcases tgU h0 with rfl | rfl <;> exact absurd h (by decide)
  rcases List.mem_cons.mp hc with rfl | hc
  · rcases tgU h0 with rfl | rfl <;> exact absurd h (by decide)
  rcases List.mem_cons.mp hc with rfl | hc
  · rcases tgU h0 with rfl | rfl <;> exact absurd h (by decide)
  rcases List.mem_cons.mp hc with rfl | hc
  · rcases tgU h0 with rfl | rfl <;> exact absurd h (by decide)
  rcases List.mem_cons.mp hc with rfl | hc
  · rcases tgU h0 with rfl | rfl <;> exact absurd h (by decide)
  rcases List.mem_cons.mp hc with rfl | hc
  · rcases tgU h0 with rfl | rfl <;> exact absurd h (by decide)
  rcases List.mem_cons.mp hc with rfl | hc
  · rcases tgU h0 with rfl | rfl <;> exact absurd h (by decide)
  rcases List.mem_cons.mp hc with rfl | hc
  · rfl
  · cases hc
theorem qHB : QH TJ GG CSB QQ := ⟨TJ_wf, CS_okB, mcrB, uQB⟩
theorem uHB : UH TJ GG CSB 24 25 26 := ⟨TJ_wf, CS_okB, mcuB, uUB⟩
theorem uTB : ∀ c ∈ CSB, ∀ t : Nat, 300 ≤ t → t ≤ 304 → c.tg t = true → c = ctr 125 110 20 26 := by
  intro c hc t h1 h2 h
  rcases List.mem_cons.mp hc with rfl | hc
  · have := Nat.eq_of_beq_eq_true h; omega
  rcases List.mem_cons.mp hc with rfl | hc
  · have := Nat.eq_of_beq_eq_true h; omega
  rcases List.mem_cons.mp hc with rfl | hc
  · have := Nat.eq_of_beq_eq_true h; omega
  rcases List.mem_cons.mp hc with rfl | hc
  · cases h
  rcases List.mem_cons.mp hc with rfl | hc
  · have h : (Nat.beq t 330 || Nat.beq t 331) = true := h
    rw [Bool.or_eq_true] at h
    rcases h with h | h <;> (have := Nat.eq_of_beq_eq_true h; omega)
  rcases List.mem_cons.mp hc with rfl | hc
  · rfl
  rcases List.mem_cons.mp hc with rfl | hc
  · have h9 : t = 300 ∨ t = 301 ∨ t = 302 ∨ t = 303 ∨ t = 304 := by omega
    rcases h9 with rfl | rfl | rfl | rfl | rfl <;> exact absurd h (by decide)
  rcases List.mem_cons.mp hc with rfl | hc
  · have h9 : t = 300 ∨ t = 301 ∨ t = 302 ∨ t = 303 ∨ t = 304 := by omega
    rcases h9 with rfl | rfl | rfl | rfl | rfl <;> exact absurd h (by decide)
  · cases hc
theorem GX_JB : POk GXB.g GXB.P JJB := P_ok TJ_wf (cS_ok CS_okB CS_aptB)
theorem hxg_0_okB {h : Nat × (Nat × Nat)} {f : Fm} {s : Sy} {ρ : List Int} {σ : zS} (ho : Ok JJB s ρ σ) : ∃ s' ρ', hxg_0 h f s = some s' ∧ Pre ρ ρ' ∧ Ok JJB s' ρ' σ := by
  have same : ∃ s' ρ', some s = some s' ∧ Pre ρ ρ' ∧ Ok JJB s' ρ' σ := ⟨s, ρ, rfl, Pre.rf, ho⟩
  unfold hxg_0
  cases Nat.beq h.1 1 with
  | true =>
    obtain ⟨s', e1, e2⟩ := tg_ok (f := f) (i := h.2.1) ho
    exact ⟨s', ρ, e1, Pre.rf, e2⟩
  | false =>
  cases Nat.beq h.1 10 with
  | true =>
    cases Nat.beq h.2.1 310 with
    | true =>
      obtain ⟨ρ', e1, e2⟩ := hz10_ok TJ_wf CS_okB (by decide) u310B ho
      exact ⟨_, ρ', rfl, e1, e2⟩
    | false =>
    cases Nat.beq h.2.1 311 with
    | true =>
      obtain ⟨ρ', e1, e2⟩ := hz10_ok TJ_wf CS_okB (by decide) u311B ho
      exact ⟨_, ρ', rfl, e1, e2⟩
    | false => exact same
  | false =>
  cases Nat.beq h.1 11 with
  | true =>
    cases Nat.beq h.2.1 310 with
    | true => exact ⟨_, ρ, rfl, Pre.rf, h11_ok TJ_wf CS_okB (by decide) (fun c q e H σ _ => by rw [u310B c q e]; exact del_z) ho⟩
    | false =>
    cases Nat.beq h.2.1 311 with
    | true => exact ⟨_, ρ, rfl, Pre.rf, h11_ok TJ_wf CS_okB (by decide) (fun c q e H σ _ => by rw [u311B c q e]; exact del_z) ho⟩
    | false =>
    cases Nat.beq h.2.1 320 with
    | true => exact ⟨_, ρ, rfl, Pre.rf, h11_ok TJ_wf CS_okB (by decide) (fun c q e H σ _ => by rw [u320B c q e]; exact del_l) ho⟩
    | false =>
    cases hT : Nat.ble 300 h.2.1 && Nat.ble h.2.1 304 with
    | true =>
      rw [Bool.and_eq_true] at hT
      have t1 := Nat.le_of_ble_eq_true hT.1
      have t2 := Nat.le_of_ble_eq_true hT.2
      exact ⟨_, ρ, rfl, Pre.rf, h11_ok TJ_wf CS_okB (by omega) (fun c q e H σ hs => by have ec := uTB c q _ t1 t2 e; subst ec; exact del_t t2 hs) ho⟩
    | false => exact same
  | false =>
  cases Nat.beq h.1 13 with
  | true => exact ⟨_, ρ, rfl, Pre.rf, hl13_ok TJ_wf CS_okB (by decide) u320B m320B ho⟩
  | false =>
  cases Nat.beq h.1 14 with
  | true => exact ⟨_, ρ, rfl, Pre.rf, hl14_ok TJ_wf CS_okB (by decide) u320B ho⟩
  | false =>
  cases Nat.beq h.1 15 with
  | true =>
    simp only [cond_true, cond_false]
    split
    · rename_i a ha
      obtain ⟨H, i1, i2⟩ := ho.inv
      rcases i1.lkp (t := 320) with ⟨q1, q2⟩ | ⟨a', z, q1, q2, q3⟩
      · rw [ha] at q1; cases q1
      · rw [ha] at q1
        cases Option.some.inj q1
        exact ⟨_, ρ, rfl, Pre.rf, hl15_ok q3 (fun j hj => i2.2.2 _ m320B z q2 j hj) ho ho.me⟩
    · exact same
  | false =>
  cases Nat.beq h.1 16 with
  | true =>
    simp only [cond_true, cond_false]
    cases Nat.beq h.2.1 310 with
    | true =>
      simp only [cond_true]
      split
      · rename_i a ha
        obtain ⟨H, i1, i2⟩ := ho.inv
        rcases i1.lkp (t := 310) with ⟨q1, q2⟩ | ⟨a', z, q1, q2, q3⟩
        · rw [ha] at q1; cases q1
        · rw [ha] at q1
          cases Option.some.inj q1
          have e := i2.2.2 _ m310B z q2
          obtain ⟨s', e1, e2⟩ := hz16_ok (by rw [← e]; exact q3) ho ho.me
          exact ⟨s', ρ, e1, Pre.rf, e2⟩
      · exact same
    | false =>
      simp only [cond_false]
      split
      · rename_i a ha
        obtain ⟨H, i1, i2⟩ := ho.inv
        rcases i1.lkp (t := 311) with ⟨q1, q2⟩ | ⟨a', z, q1, q2, q3⟩
        · rw [ha] at q1; cases q1
        · rw [ha] at q1
          cases Option.some.inj q1
          have e := i2.2.2 _ m311B z q2
          obtain ⟨s', e1, e2⟩ := hz16_ok (by rw [← e]; exact q3) ho ho.me
          exact ⟨s', ρ, e1, Pre.rf, e2⟩
      · exact same
  | false =>
  exact same
theorem hxg_1_okB {h : Nat × (Nat × Nat)} {f : Fm} {s : Sy} {ρ : List Int} {σ : zS} (ho : Ok JJB s ρ σ) : ∃ s' ρ', hxg_1 h f s = some s' ∧ Pre ρ ρ' ∧ Ok JJB s' ρ' σ := by
  have same : ∃ s' ρ', some s = some s' ∧ Pre ρ ρ' ∧ Ok JJB s' ρ' σ := ⟨s, ρ, rfl, Pre.rf, ho⟩
  unfold hxg_1
  cases Nat.beq h.1 17 with
  | true => exact ⟨_, ρ, rfl, Pre.rf, hl17_ok TJ_wf CS_okB (by decide) u320B m320B ho⟩
  | false =>
  cases Nat.beq h.1 18 with
  | true =>
    obtain ⟨H, i1, i2⟩ := ho.inv
    exact ⟨_, ρ, rfl, Pre.rf, hf18_ok (i2.2.2 _ mcfB) ho ho.me⟩
  | false =>
  cases Nat.beq h.1 20 with
  | true => exact ⟨_, ρ, rfl, Pre.rf, hg20_ok TJ_wf CS_okB u331B ho⟩
  | false =>
  cases Nat.beq h.1 21 with
  | true => exact ⟨_, ρ, rfl, Pre.rf, hg21_ok mcgB ho⟩
  | false =>
  cases Nat.beq h.1 22 with
  | true =>
    simp only [cond_true, cond_false]
    split
    · rename_i a _ _
      cases hv : evk s a with
      | false => exact same
      | true =>
        obtain ⟨z, hz⟩ := evk_ok ho hv
        obtain ⟨ρ', e1, e2⟩ := ht22_ok TJ_wf CS_okB mctB (fun c q t ht e => uTB c q t (by omega) (by omega) e) hz ho
        exact ⟨_, ρ', rfl, e1, e2⟩
    · exact same
  | false =>
  cases Nat.beq h.1 23 with
  | true =>
    simp only [cond_true, cond_false]
    split
    · rename_i a _ _
      cases hv : evk s a with
      | false => exact same
      | true =>
        obtain ⟨z, hz⟩ := evk_ok ho hv
        obtain ⟨ρ', e1, e2⟩ := ht23_ok TJ_wf CS_okB mctB (fun c q t ht e => uTB c q t (by omega) (by omega) e) h40 hz ho
        exact ⟨_, ρ', rfl, e1, e2⟩
    · exact same
  | false =>
  cases Nat.beq h.1 25 with
  | true =>
    simp only [cond_true, cond_false]
    split
    · rename_i a _ b _ _
      cases hv : evk s a && evk s b with
      | false => exact same
      | true =>
        rw [Bool.and_eq_true] at hv
        obtain ⟨z, hz⟩ := evk_ok ho hv.1
        obtain ⟨y, hy⟩ := evk_ok ho hv.2
        exact ⟨_, ρ, rfl, Pre.rf, ht25_ok TJ_wf CS_okB mctB (fun c q t ht e => uTB c q t (by omega) (by omega) e) hz hy ho⟩
    · exact same
  | false =>
  exact same
theorem hxg_2_okB {h : Nat × (Nat × Nat)} {f : Fm} {s : Sy} {ρ : List Int} {σ : zS} (ho : Ok JJB s ρ σ) : ∃ s' ρ', hxg_2 h f s = some s' ∧ Pre ρ ρ' ∧ Ok JJB s' ρ' σ := by
  have same : ∃ s' ρ', some s = some s' ∧ Pre ρ ρ' ∧ Ok JJB s' ρ' σ := ⟨s, ρ, rfl, Pre.rf, ho⟩
  unfold hxg_2
  cases Nat.beq h.1 26 with
  | true =>
    simp only [cond_true, cond_false]
    split
    · rename_i a _ _
      cases hv : evk s a with
      | false => exact same
      | true =>
        obtain ⟨z, hz⟩ := evk_ok ho hv
        exact ⟨_, ρ, rfl, Pre.rf, ht26_ok TJ_wf CS_okB mctB (fun c q e => uTB c q 304 (by omega) (by omega) e) hz ho⟩
    · exact same
  | false =>
  cases Nat.beq h.1 30 with
  | true => exact ⟨_, ρ, rfl, Pre.rf, h30_ok ho ho.fa⟩
  | false =>
  cases Nat.beq h.1 31 with
  | true =>
    obtain ⟨s', e1, e2⟩ := hr31_ok qHB ho
    exact ⟨s', ρ, e1, Pre.rf, e2⟩
  | false =>
  cases Nat.beq h.1 32 with
  | true => exact ⟨_, ρ, rfl, Pre.rf, hr32_ok qHB ho⟩
  | false =>
  cases Nat.beq h.1 33 with
  | true => exact ⟨_, ρ, rfl, Pre.rf, hr33_ok qHB ho⟩
  | false =>
  cases Nat.beq h.1 34 with
  | true => exact ⟨_, ρ, rfl, Pre.rf, hr34_ok qHB ho⟩
  | false =>
  cases Nat.beq h.1 35 with
  | true => exact ⟨_, ρ, rfl, Pre.rf, hr35_ok qHB ho⟩
  | false =>
  exact same
theorem hxg_3_okB {h : Nat × (Nat × Nat)} {f : Fm} {s : Sy} {ρ : List Int} {σ : zS} (ho : Ok JJB s ρ σ) : ∃ s' ρ', hxg_3 h f s = some s' ∧ Pre ρ ρ' ∧ Ok JJB s' ρ' σ := by
  have same : ∃ s' ρ', some s = some s' ∧ Pre ρ ρ' ∧ Ok JJB s' ρ' σ := ⟨s, ρ, rfl, Pre.rf, ho⟩
  unfold hxg_3
  cases Nat.beq h.1 36 with
  | true =>
    simp only [cond_true, cond_false]
    split
    · rename_i r _
      cases hv : evk s r with
      | false => exact same
      | true =>
        obtain ⟨z, hz⟩ := evk_ok ho hv
        exact ⟨_, ρ, rfl, Pre.rf, hr36_ok qHB hz ho⟩
    · exact same
  | false =>
  cases Nat.beq h.1 37 with
  | true =>
    obtain ⟨ρ', e1, e2⟩ := hr37_ok qHB ho
    exact ⟨_, ρ', rfl, e1, e2⟩
  | false =>
  cases Nat.beq h.1 38 with
  | true => exact ⟨_, ρ, rfl, Pre.rf, hr38_ok qHB ho⟩
  | false =>
  cases Nat.beq h.1 39 with
  | true => exact ⟨_, ρ, rfl, Pre.rf, hr39_ok qHB ho⟩
  | false =>
  cases Nat.beq h.1 40 with
  | true =>
    simp only [cond_true, cond_false]
    split
    · rename_i p r _ _
      cases hv : evk s p && evk s r with
      | false => exact same
      | true =>
        rw [Bool.and_eq_true] at hv
        obtain ⟨z, hz⟩ := evk_ok ho hv.1
        obtain ⟨y, hy⟩ := evk_ok ho hv.2
        exact ⟨_, ρ, rfl, Pre.rf, hr40_ok qHB hz hy ho⟩
    · exact same
  | false =>
  cases Nat.beq h.1 41 with
  | true => exact ⟨_, ρ, rfl, Pre.rf, hr41_ok qHB ho⟩
  | false =>
  cases Nat.beq h.1 42 with
  | true => exact ⟨_, ρ, rfl, Pre.rf, hr42_ok qHB ho⟩
  | false =>
  exact same
theorem hxg_4_okB {h : Nat × (Nat × Nat)} {f : Fm} {s : Sy} {ρ : List Int} {σ : zS} (ho : Ok JJB s ρ σ) : ∃ s' ρ', hxg_4 h f s = some s' ∧ Pre ρ ρ' ∧ Ok JJB s' ρ' σ := by
  have same : ∃ s' ρ', some s = some s' ∧ Pre ρ ρ' ∧ Ok JJB s' ρ' σ := ⟨s, ρ, rfl, Pre.rf, ho⟩
  unfold hxg_4
  cases Nat.beq h.1 43 with
  | true => exact ⟨_, ρ, rfl, Pre.rf, hr43_ok qHB ho⟩
  | false =>
  cases Nat.beq h.1 44 with
  | true => exact ⟨_, ρ, rfl, Pre.rf, hr44_ok ho⟩
  | false =>
  cases Nat.beq h.1 45 with
  | true => exact ⟨_, ρ, rfl, Pre.rf, h45a_ok ho.fa ho ho.fa⟩
  | false =>
  cases Nat.beq h.1 46 with
  | true => exact ⟨_, ρ, rfl, Pre.rf, hr44_ok ho⟩
  | false =>
  cases Nat.beq h.1 50 with
  | true => exact ⟨_, ρ, rfl, Pre.rf, hu50_ok uHB ho⟩
  | false =>
  cases Nat.beq h.1 51 with
  | true => exact ⟨_, ρ, rfl, Pre.rf, hu51_ok uHB ho⟩
  | false =>
  cases Nat.beq h.1 52 with
  | true =>
    simp only [cond_true, cond_false]
    split
    · rename_i a _ _
      cases hv : evk s a with
      | false => exact same
      | true =>
        obtain ⟨z, hz⟩ := evk_ok ho hv
        exact ⟨_, ρ, rfl, Pre.rf, hu52_ok uHB hz ho⟩
    · exact same
  | false =>
  exact same
theorem hxg_5_okB {h : Nat × (Nat × Nat)} {f : Fm} {s : Sy} {ρ : List Int} {σ : zS} (ho : Ok JJB s ρ σ) : ∃ s' ρ', hxg_5B h f s = some s' ∧ Pre ρ ρ' ∧ Ok JJB s' ρ' σ := by
  have same : ∃ s' ρ', some s = some s' ∧ Pre ρ ρ' ∧ Ok JJB s' ρ' σ := ⟨s, ρ, rfl, Pre.rf, ho⟩
  unfold hxg_5B
  cases Nat.beq h.1 54 with
  | true => exact ⟨_, ρ, rfl, Pre.rf, hu54_ok uHB ho⟩
  | false =>
  cases Nat.beq h.1 55 with
  | true =>
    obtain ⟨H, i1, i2⟩ := ho.inv
    obtain ⟨ρ', e1, e2⟩ := hu55_ok (bS12 i2.1) ho
    exact ⟨_, ρ', rfl, e1, e2⟩
  | false =>
  cases Nat.beq h.1 56 with
  | true => exact ⟨_, ρ, rfl, Pre.rf, hu56_ok uHB ho⟩
  | false =>
  cases Nat.beq h.1 57 with
  | true => exact ⟨_, ρ, rfl, Pre.rf, hu57_ok uHB ho⟩
  | false =>
  cases Nat.beq h.1 58 with
  | true => exact ⟨_, ρ, rfl, Pre.rf, hu58_ok ho⟩
  | false =>
  cases Nat.beq h.1 59 with
  | true =>
    obtain ⟨s', e1, e2⟩ := hu59_ok ho
    exact ⟨s', ρ, e1, Pre.rf, e2⟩
  | false =>
  exact same
theorem GX_HB : HOk GXB JJB := by
  intro h f s ρ σ ho
  show ∃ s' ρ', hxTB h f s = some s' ∧ Pre ρ ρ' ∧ Ok JJB s' ρ' σ
  unfold hxTB
  cases Nat.ble h.1 16 with
  | true => rw [cond_true]; exact hxg_0_okB ho
  | false =>
  rw [cond_false]
  cases Nat.ble h.1 25 with
  | true => rw [cond_true]; exact hxg_1_okB ho
  | false =>
  rw [cond_false]
  cases Nat.ble h.1 35 with
  | true => rw [cond_true]; exact hxg_2_okB ho
  | false =>
  rw [cond_false]
  cases Nat.ble h.1 42 with
  | true => rw [cond_true]; exact hxg_3_okB ho
  | false =>
  rw [cond_false]
  cases Nat.ble h.1 52 with
  | true => rw [cond_true]; exact hxg_4_okB ho
  | false =>
  rw [cond_false]
  exact hxg_5_okB ho
theorem nil_SB {H : List (Nat × Int)} {σ : zS} (hb : ∀ e ∈ H, 100 ≤ e.1 ∧ e.1 < 330) : ∀ c ∈ CSB, c.S H σ → c.S [] σ := by
  intro c hc hS
  rcases List.mem_cons.mp hc with rfl | hc
  · intro z hz; cases hz
  rcases List.mem_cons.mp hc with rfl | hc
  · intro z hz; cases hz
  rcases List.mem_cons.mp hc with rfl | hc
  · intro z hz; cases hz
  rcases List.mem_cons.mp hc with rfl | hc
  · exact hS
  rcases List.mem_cons.mp hc with rfl | hc
  · exact (CS_okB _ mcgB).dep H [] σ σ (fun u hu => by
    have hu : (Nat.beq u 330 || Nat.beq u 331) = true := hu
    rw [Bool.or_eq_true] at hu
    rcases hu with hu | hu <;> rw [Nat.eq_of_beq_eq_true hu, low_nil hb (by decide)] <;> rfl) (fun _ _ => rfl) hS
  rcases List.mem_cons.mp hc with rfl | hc
  · obtain ⟨s1, s2, s3, s4, s5⟩ := (hS : tS 125 110 20 26 H σ)
    exact ⟨fun h0 => (by obtain ⟨r, a1, _⟩ := s1 h0; exact ⟨r, a1, fun x n a => (by cases a)⟩), s2, fun _ => s3 (low_nil hb (by decide)), s4, fun q t x a => (by cases a)⟩
  rcases List.mem_cons.mp hc with rfl | hc
  · obtain ⟨s0, sz, s8, s7, s5, s6⟩ := (hS : qS QQ H σ)
    exact ⟨s0, fun _ => sz (low_nil hb (by decide)), fun P q => (by cases q), fun f e h w B N P q => (by cases q), fun r q => (by cases q), fun k t h q => (by cases q)⟩
  rcases List.mem_cons.mp hc with rfl | hc
  · exact ⟨fun T q => (by cases q), fun T z q => (by cases q)⟩
  · cases hc
theorem ctFB {H : List (Nat × Int)} {σ σ' : zS} (hb : ∀ e ∈ H, 100 ≤ e.1 ∧ e.1 < 330) (hJ : JJB H σ) (hJ' : JJB [] σ') (hr : ∀ e ∈ H, ∀ k, trT e.1 k = true → σ'.1 k = σ.1 k ∧ σ'.2 k = σ.2 k) : (ctr 125 110 20 26).S H σ' := by
  by_cases h : ∀ t, 300 ≤ t → t ≤ 304 → lk H t = none
  · refine (CS_okB _ mctB).dep [] H σ' σ' (fun u hu => ?_) (fun _ _ => rfl) (hJ'.2.2 _ mctB)
    have hu : ((Nat.ble 300 u && Nat.ble u 304) || Nat.beq u 340) = true := hu
    rw [Bool.or_eq_true, Bool.and_eq_true] at hu
    rcases hu with ⟨u1, u2⟩ | u1
    · rw [h u (Nat.le_of_ble_eq_true u1) (Nat.le_of_ble_eq_true u2)]; rfl
    · rw [Nat.eq_of_beq_eq_true u1, low_nil hb (by decide)]; rfl
  · have hx : ∃ t z, 300 ≤ t ∧ t ≤ 304 ∧ lk H t = some z := Classical.byContradiction fun hn => h fun t h1 h2 => by
      cases hl : lk H t with
      | none => rfl
      | some z => exact absurd ⟨t, z, h1, h2, hl⟩ hn
    obtain ⟨t, z, h1, h2, hl⟩ := hx
    have rk9 := hr _ (lk_mem hl) 125 (by
      show trT t 125 = true
      unfold trT
      rw [Nat.ble_eq_true_of_le h1, Nat.ble_eq_true_of_le h2]
      simp)
    replace rk9 := rk9.1
    have rp : Pp σ' 125 = Pp σ 125 := by funext y; show (σ'.1 125 y).toInt = _; rw [rk9]
    obtain ⟨s1, s2, s3, s4, s5⟩ := (hJ.2.2 _ mctB : tS 125 110 20 26 H σ)
    obtain ⟨t1, t2, t3, t4, t5⟩ := (hJ'.2.2 _ mctB : tS 125 110 20 26 [] σ')
    exact ⟨by rw [rp]; exact s1, t2, fun _ => t3 rfl, t4, by rw [rp]; exact s5⟩
theorem crFB {H : List (Nat × Int)} {σ σ' : zS} (hb : ∀ e ∈ H, 100 ≤ e.1 ∧ e.1 < 330) (hJ : JJB H σ) (hJ' : JJB [] σ') (hr : ∀ e ∈ H, ∀ k, trT e.1 k = true → σ'.1 k = σ.1 k ∧ σ'.2 k = σ.2 k) : (cr QQ).S H σ' := by
  obtain ⟨s0, sz, s8, s7, s5, s6⟩ := (hJ.2.2 _ mcrB : qS QQ H σ)
  obtain ⟨t0, tz, _, _, _, _⟩ := (hJ'.2.2 _ mcrB : qS QQ [] σ')
  refine ⟨t0, fun _ => tz rfl, fun P q => ?_, fun f e h w B N P q1 q2 q3 q4 q5 q6 q7 => ?_, fun r q => ?_, fun k t h q1 q2 q3 => ?_⟩
  · rw [low_nil hb (by decide)] at q
    cases q
  · have m := lk_mem q1
    rw [Pp_eq (k := QQ.c) (hr _ m _ rfl).1, Pp_eq (k := QQ.s) (hr _ m _ rfl).1, Pp_eq (k := QQ.e) (hr _ m _ rfl).1, Pp_eq (k := QQ.w) (hr _ m _ rfl).1]
    exact s7 f e h w B N P q1 q2 q3 q4 q5 q6 q7
  · have m := lk_mem q
    rw [Pp_eq (k := QQ.c) (hr _ m _ rfl).1, Pp_eq (k := QQ.s) (hr _ m _ rfl).1, Pp_eq (k := QQ.e) (hr _ m _ rfl).1]
    exact s5 r q
  · have m := lk_mem q1
    rw [Pp_eq (k := QQ.c) (hr _ m _ rfl).1]
    exact s6 k t h q1 q2 q3
theorem cuFB {H : List (Nat × Int)} {σ σ' : zS} (hJ : JJB H σ) (hr : ∀ e ∈ H, ∀ k, trT e.1 k = true → σ'.1 k = σ.1 k ∧ σ'.2 k = σ.2 k) : (cu 24 25 26).S H σ' := by
  obtain ⟨s1, s2⟩ := (hJ.2.2 _ mcuB : uS 24 25 26 H σ)
  refine ⟨fun T q i hi => ?_, fun T z q hz i hi => ?_⟩
  · have m := lk_mem q
    have := s1 T q i hi
    unfold uN at this ⊢
    rw [(hr _ m 25 rfl).1, (hr _ m 24 rfl).1, (hr _ m 26 rfl).2]
    exact this
  · have m := lk_mem q
    have := s2 T z q hz i hi
    unfold uN at this ⊢
    rw [(hr _ m 25 rfl).1, (hr _ m 24 rfl).1, (hr _ m 26 rfl).2]
    exact this
theorem GX_FB : JFr GXB JJB := by
  refine ⟨fun H σ hb hJ => ⟨hJ.1, fun r R hr j hj _ => hJ.2.1 r R hr j hj (by rw [low_nil hb (Or.inl (wf_row TJ_wf hr).1)]; intro q; cases q), fun c q => nil_SB hb c q (hJ.2.2 c q)⟩, fun H σ σ' hb hJ hJ' hr => ⟨hJ'.1, fun r R hr j hj _ => hJ'.2.1 r R hr j hj (by intro q; cases q), ?_⟩, ?_⟩
  · have one : ∀ c ∈ CSB, ∀ t k : Nat, (∀ u, c.tg u = Nat.beq u t) → (∀ u, c.rw u = Nat.beq u k) → (∀ u, c.lr u = false) → trT t k = true → c.S H σ' := by
      intro c q t k h1 h2 h4 h3
      cases hl : lk H t with
      | none => exact (CS_okB c q).dep [] H σ' σ' (fun u hu => by rw [h1] at hu; rw [Nat.eq_of_beq_eq_true hu, hl]; rfl) (fun _ _ => rfl) (hJ'.2.2 c q)
      | some x => exact (CS_okB c q).dep H H σ σ' (fun _ _ => rfl) (fun u hu => by rw [h2] at hu; rw [Nat.eq_of_beq_eq_true hu]; exact (hr _ (lk_mem hl) k h3).1) (hJ.2.2 c q) (fun u hu => by rw [h4] at hu; cases hu)
    intro c hc0
    have hc := hc0
    rcases List.mem_cons.mp hc with rfl | hc
    · exact one _ hc0 310 120 (fun _ => rfl) (fun _ => rfl) (fun _ => rfl) rfl
    rcases List.mem_cons.mp hc with rfl | hc
    · exact one _ hc0 311 201 (fun _ => rfl) (fun _ => rfl) (fun _ => rfl) rfl
    rcases List.mem_cons.mp hc with rfl | hc
    · exact one _ hc0 320 196 (fun _ => rfl) (fun _ => rfl) (fun _ => rfl) rfl
    rcases List.mem_cons.mp hc with rfl | hc
    · exact hJ'.2.2 _ mcfB
    rcases List.mem_cons.mp hc with rfl | hc
    · exact (CS_okB _ mcgB).dep [] H σ' σ' (fun u hu => by
        have hu : (Nat.beq u 330 || Nat.beq u 331) = true := hu
        rw [Bool.or_eq_true] at hu
        rcases hu with hu | hu <;> rw [Nat.eq_of_beq_eq_true hu, low_nil hb (by decide)] <;> rfl) (fun _ _ => rfl) (hJ'.2.2 _ mcgB)
    rcases List.mem_cons.mp hc with rfl | hc
    · exact ctFB hb hJ hJ' hr
    rcases List.mem_cons.mp hc with rfl | hc
    · exact crFB hb hJ hJ' hr
    rcases List.mem_cons.mp hc with rfl | hc
    · exact cuFB hJ hr
    · cases hc
  · intro t k h
    have h : trT t k = true := h
    unfold trT at h
    simp only [Bool.or_eq_true, Bool.and_eq_true] at h
    rcases h with ⟨_, h⟩ | ⟨_, h⟩ | ⟨_, h⟩ | ⟨_, h⟩ | ⟨_, h⟩ | ⟨_, h⟩
    · rw [Nat.eq_of_beq_eq_true h]; decide +kernel
    · rw [Nat.eq_of_beq_eq_true h]; decide +kernel
    · rw [Nat.eq_of_beq_eq_true h]; decide +kernel
    · rw [Nat.eq_of_beq_eq_true h]; decide +kernel
    · rcases h with h | h | h | h <;> rw [Nat.eq_of_beq_eq_true h] <;> decide +kernel
    · rcases h with h | h | h <;> rw [Nat.eq_of_beq_eq_true h] <;> decide +kernel
theorem GX_GB : GxOk Yf GXB := G_ok _ _ _ _
end
theorem ke_H_sumBehindB : chkE GXB 3000 108 ct_H_sumBehindB = true := by decide +kernel
theorem ka_H_sumBehind_5_0B : chkA GXB 3000 108 ct_H_sumBehindB 5 ca_H_sumBehind_5_0B = true := by decide +kernel
theorem kk_H_sumBehindB : Chk GXB 3000 108 ct_H_sumBehindB := ⟨ke_H_sumBehindB, fun pc as h => (show BT.AllP (fun pc as => ∀ a ∈ as, chkA GXB 3000 108 ct_H_sumBehindB pc a = true) ct_H_sumBehindB.cut from ⟨⟨List.forall_mem_cons.mpr ⟨ka_H_sumBehind_5_0B, fun a ha => by cases ha⟩, trivial⟩, trivial⟩).at h⟩
theorem ke_H_writeLogB : chkE GXB 3000 109 ct_H_writeLogB = true := by decide +kernel
theorem kk_H_writeLogB : Chk GXB 3000 109 ct_H_writeLogB := ⟨ke_H_writeLogB, fun pc as h => (show BT.AllP (fun pc as => ∀ a ∈ as, chkA GXB 3000 109 ct_H_writeLogB pc a = true) ct_H_writeLogB.cut from trivial).at h⟩
theorem ke_M_sumOfB : chkE GXB 3000 306 ct_M_sumOfB = true := by decide +kernel
theorem ka_M_sumOf_5_0B : chkA GXB 3000 306 ct_M_sumOfB 5 ca_M_sumOf_5_0B = true := by decide +kernel
theorem kk_M_sumOfB : Chk GXB 3000 306 ct_M_sumOfB := ⟨ke_M_sumOfB, fun pc as h => (show BT.AllP (fun pc as => ∀ a ∈ as, chkA GXB 3000 306 ct_M_sumOfB pc a = true) ct_M_sumOfB.cut from ⟨⟨List.forall_mem_cons.mpr ⟨ka_M_sumOf_5_0B, fun a ha => by cases ha⟩, trivial⟩, trivial⟩).at h⟩
theorem ke_M_logB : chkE GXB 3000 307 ct_M_logB = true := by decide +kernel
theorem kk_M_logB : Chk GXB 3000 307 ct_M_logB := ⟨ke_M_logB, fun pc as h => (show BT.AllP (fun pc as => ∀ a ∈ as, chkA GXB 3000 307 ct_M_logB pc a = true) ct_M_logB.cut from trivial).at h⟩
theorem rooms_okB : BT.AllP (fun r c => c.rg.1 ≠ 0 → (Yf r).2.2.2.2 = rmN 400) CTTB := ⟨⟨fun h => absurd rfl h, fun h => absurd rfl h, trivial⟩, ⟨fun h => absurd rfl h, fun h => absurd rfl h, trivial⟩, trivial⟩
theorem all_ctB {E : xV} : ∀ r c, GXB.ct.get r = some c → CtOk E Yf GXB JJB r c := all_ok GX_GB GX_JB GX_HB GX_FB (n := 3000) (fun r c h => rooms_okB.at h) (fun r c h => (show BT.AllP (fun r c => Chk GXB 3000 r c ∨ (c.rg.1 = 0 ∧ ((∀ z q, z < r → GXB.ct.get z = some q → CtOk E Yf GXB JJB z q) → CtOk E Yf GXB JJB r c))) CTTB from ⟨⟨Or.inl kk_H_sumBehindB, Or.inl kk_H_writeLogB, trivial⟩, ⟨Or.inl kk_M_sumOfB, Or.inl kk_M_logB, trivial⟩, trivial⟩).at h)
end
