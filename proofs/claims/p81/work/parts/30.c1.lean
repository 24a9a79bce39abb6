noncomputable section
/-! ===== the same without the judge's part ===== -/
noncomputable def CS1 : List Cp := [cz 310 120 16, cz 311 201 4, cl 320 196, cf 110 148 211 210 206, cg9 110 112 183 144, ctr 125 110 20 26, cr QQ, cu 24 25 26, ceq PE9, ceqL PL9, ck 11 0 (-4), cn 110 26 20, cb 125 128, co 125, ck 12 0 (-4), cv9 126 110 26, cR 840 999 RWg SG WG]
noncomputable def GX1 : Gx := mkX (TJ.P GG (cW CS1)) hxT CTT1 trT
noncomputable abbrev JJ1 : Jt := Jf TJ GG (cS CS1)
theorem CS_ok1 : ∀ c ∈ CS1, CpOk TJ GG c := by
  intro c hc
  rcases List.mem_cons.mp hc with rfl | hc
  · exact cz_ok (by decide) (row_in (kd := 102) (by decide +kernel))
  rcases List.mem_cons.mp hc with rfl | hc
  · exact cz_ok (by decide) (row_in (kd := 102) (by decide +kernel))
  rcases List.mem_cons.mp hc with rfl | hc
  · exact cl_ok (by decide)
  rcases List.mem_cons.mp hc with rfl | hc
  · exact cf_ok (by decide) (by decide) (by decide) (by decide) (by decide) (by decide)
  rcases List.mem_cons.mp hc with rfl | hc
  · exact cg9_ok (by decide) (row_in (kd := 100) (by decide +kernel))
  rcases List.mem_cons.mp hc with rfl | hc
  · exact ctr_ok (by decide) (by decide) (row_in (kd := 100) (by decide +kernel))
  rcases List.mem_cons.mp hc with rfl | hc
  · exact cr_ok (by decide) (fun σ hb => hR30 hb)
  rcases List.mem_cons.mp hc with rfl | hc
  · exact cu_ok
  rcases List.mem_cons.mp hc with rfl | hc
  · exact ceq_ok (by decide) PE9_apt (by decide)
  rcases List.mem_cons.mp hc with rfl | hc
  · exact ceqL_ok (by decide) PL9_apt (by decide)
  rcases List.mem_cons.mp hc with rfl | hc
  · exact ck_ok
  rcases List.mem_cons.mp hc with rfl | hc
  · exact cn_ok (by decide)
  rcases List.mem_cons.mp hc with rfl | hc
  · exact cb_ok
  rcases List.mem_cons.mp hc with rfl | hc
  · exact co_ok
  rcases List.mem_cons.mp hc with rfl | hc
  · exact ck_ok
  rcases List.mem_cons.mp hc with rfl | hc
  · exact cv9_ok (by decide)
  rcases List.mem_cons.mp hc with rfl | hc
  · exact cR_ok (by decide) WG_ok
  · cases hc
theorem apt_01 : ∀ c' ∈ ([cz 311 201 4, cl 320 196, cf 110 148 211 210 206, cg9 110 112 183 144, ctr 125 110 20 26, cr QQ, cu 24 25 26, ceq PE9, ceqL PL9, ck 11 0 (-4), cn 110 26 20, cb 125 128, co 125, ck 12 0 (-4), cv9 126 110 26, cR 840 999 RWg SG WG] : List Cp), ∀ t, (cz 310 120 16 : Cp).tg t = true → c'.tg t = false := by
  intro c' hc t ht
  have e : t = 310 := Nat.eq_of_beq_eq_true ht
  subst e
  rcases List.mem_cons.mp hc with rfl | hc
  · rfl
  rcases List.mem_cons.mp hc with rfl | hc
  · rfl
  rcases List.mem_cons.mp hc with rfl | hc
  · rfl
  rcases List.mem_cons.mp hc with rfl | hc
  · rfl
  rcases List.mem_cons.mp hc with rfl | hc
  · rfl
  rcases List.mem_cons.mp hc with rfl | hc
  · rfl
  rcases List.mem_cons.mp hc with rfl | hc
  · rfl
  rcases List.mem_cons.mp hc with rfl | hc
  · exact etg_f (by omega)
  rcases List.mem_cons.mp hc with rfl | hc
  · exact ltg_f (by omega)
  rcases List.mem_cons.mp hc with rfl | hc
  · rfl
  rcases List.mem_cons.mp hc with rfl | hc
  · rfl
  rcases List.mem_cons.mp hc with rfl | hc
  · exact btg_f (by omega)
  rcases List.mem_cons.mp hc with rfl | hc
  · exact otg_f (by omega)
  rcases List.mem_cons.mp hc with rfl | hc
  · rfl
  rcases List.mem_cons.mp hc with rfl | hc
  · exact vtg_f (by omega)
  rcases List.mem_cons.mp hc with rfl | hc
  · exact rtg_f (by omega)
  · cases hc
theorem apt_11 : ∀ c' ∈ ([cl 320 196, cf 110 148 211 210 206, cg9 110 112 183 144, ctr 125 110 20 26, cr QQ, cu 24 25 26, ceq PE9, ceqL PL9, ck 11 0 (-4), cn 110 26 20, cb 125 128, co 125, ck 12 0 (-4), cv9 126 110 26, cR 840 999 RWg SG WG] : List Cp), ∀ t, (cz 311 201 4 : Cp).tg t = true → c'.tg t = false := by
  intro c' hc t ht
  have e : t = 311 := Nat.eq_of_beq_eq_true ht
  subst e
  rcases List.mem_cons.mp hc with rfl | hc
  · rfl
  rcases List.mem_cons.mp hc with rfl | hc
  · rfl
  rcases List.mem_cons.mp hc with rfl | hc
  · rfl
  rcases List.mem_cons.mp hc with rfl | hc
  · rfl
  rcases List.mem_cons.mp hc with rfl | hc
  · rfl
  rcases List.mem_cons.mp hc with rfl | hc
  · rfl
  rcases List.mem_cons.mp hc with rfl | hc
  · exact etg_f (by omega)
  rcases List.mem_cons.mp hc with rfl | hc
  · exact ltg_f (by omega)
  rcases List.mem_cons.mp hc with rfl | hc
  · rfl
  rcases List.mem_cons.mp hc with rfl | hc
  · rfl
  rcases List.mem_cons.mp hc with rfl | hc
  · exact btg_f (by omega)
  rcases List.mem_cons.mp hc with rfl | hc
  · exact otg_f (by omega)
  rcases List.mem_cons.mp hc with rfl | hc
  · rfl
  rcases List.mem_cons.mp hc with rfl | hc
  · exact vtg_f (by omega)
  rcases List.mem_cons.mp hc with rfl | hc
  · exact rtg_f (by omega)
  · cases hc
theorem apt_21 : ∀ c' ∈ ([cf 110 148 211 210 206, cg9 110 112 183 144, ctr 125 110 20 26, cr QQ, cu 24 25 26, ceq PE9, ceqL PL9, ck 11 0 (-4), cn 110 26 20, cb 125 128, co 125, ck 12 0 (-4), cv9 126 110 26, cR 840 999 RWg SG WG] : List Cp), ∀ t, (cl 320 196 : Cp).tg t = true → c'.tg t = false := by
  intro c' hc t ht
  have e : t = 320 := Nat.eq_of_beq_eq_true ht
  subst e
  rcases List.mem_cons.mp hc with rfl | hc
  · rfl
  rcases List.mem_cons.mp hc with rfl | hc
  · rfl
  rcases List.mem_cons.mp hc with rfl | hc
  · rfl
  rcases List.mem_cons.mp hc with rfl | hc
  · rfl
  rcases List.mem_cons.mp hc with rfl | hc
  · rfl
  rcases List.mem_cons.mp hc with rfl | hc
  · exact etg_f (by omega)
  rcases List.mem_cons.mp hc with rfl | hc
  · exact ltg_f (by omega)
  rcases List.mem_cons.mp hc with rfl | hc
  · rfl
  rcases List.mem_cons.mp hc with rfl | hc
  · rfl
  rcases List.mem_cons.mp hc with rfl | hc
  · exact btg_f (by omega)
  rcases List.mem_cons.mp hc with rfl | hc
  · exact otg_f (by omega)
  rcases List.mem_cons.mp hc with rfl | hc
  · rfl
  rcases List.mem_cons.mp hc with rfl | hc
  · exact vtg_f (by omega)
  rcases List.mem_cons.mp hc with rfl | hc
  · exact rtg_f (by omega)
  · cases hc
theorem apt_41 : ∀ c' ∈ ([ctr 125 110 20 26, cr QQ, cu 24 25 26, ceq PE9, ceqL PL9, ck 11 0 (-4), cn 110 26 20, cb 125 128, co 125, ck 12 0 (-4), cv9 126 110 26, cR 840 999 RWg SG WG] : List Cp), ∀ t, (cg9 110 112 183 144 : Cp).tg t = true → c'.tg t = false := by
  intro c' hc t ht
  have ht : (Nat.beq t 330 || Nat.beq t 331) = true := ht
  rw [Bool.or_eq_true] at ht
  rcases List.mem_cons.mp hc with rfl | hc
  · rcases ht with ht | ht <;> rw [Nat.eq_of_beq_eq_true ht] <;> rfl
  rcases List.mem_cons.mp hc with rfl | hc
  · rcases ht with ht | ht <;> rw [Nat.eq_of_beq_eq_true ht] <;> rfl
  rcases List.mem_cons.mp hc with rfl | hc
  · rcases ht with ht | ht <;> rw [Nat.eq_of_beq_eq_true ht] <;> rfl
  rcases List.mem_cons.mp hc with rfl | hc
  · rcases ht with ht | ht <;> rw [Nat.eq_of_beq_eq_true ht] <;> exact etg_f (by omega)
  rcases List.mem_cons.mp hc with rfl | hc
  · rcases ht with ht | ht <;> rw [Nat.eq_of_beq_eq_true ht] <;> exact ltg_f (by omega)
  rcases List.mem_cons.mp hc with rfl | hc
  · rcases ht with ht | ht <;> rw [Nat.eq_of_beq_eq_true ht] <;> rfl
  rcases List.mem_cons.mp hc with rfl | hc
  · rcases ht with ht | ht <;> rw [Nat.eq_of_beq_eq_true ht] <;> rfl
  rcases List.mem_cons.mp hc with rfl | hc
  · rcases ht with ht | ht <;> rw [Nat.eq_of_beq_eq_true ht] <;> exact btg_f (by omega)
  rcases List.mem_cons.mp hc with rfl | hc
  · rcases ht with ht | ht <;> rw [Nat.eq_of_beq_eq_true ht] <;> exact otg_f (by omega)
  rcases List.mem_cons.mp hc with rfl | hc
  · rcases ht with ht | ht <;> rw [Nat.eq_of_beq_eq_true ht] <;> rfl
  rcases List.mem_cons.mp hc with rfl | hc
  · rcases ht with ht | ht <;> rw [Nat.eq_of_beq_eq_true ht] <;> exact vtg_f (by omega)
  rcases List.mem_cons.mp hc with rfl | hc
  · rcases ht with ht | ht <;> rw [Nat.eq_of_beq_eq_true ht] <;> exact rtg_f (by omega)
  · cases hc
theorem apt_51 : ∀ c' ∈ ([cr QQ, cu 24 25 26, ceq PE9, ceqL PL9, ck 11 0 (-4), cn 110 26 20, cb 125 128, co 125, ck 12 0 (-4), cv9 126 110 26, cR 840 999 RWg SG WG] : List Cp), ∀ t, (ctr 125 110 20 26 : Cp).tg t = true → c'.tg t = false := by
  intro c' hc t ht
  have ht2 : t = 300 ∨ t = 301 ∨ t = 302 ∨ t = 303 ∨ t = 304 ∨ t = 340 := tgC ht
  rcases List.mem_cons.mp hc with rfl | hc
  · rcases ht2 with rfl | rfl | rfl | rfl | rfl | rfl <;> rfl
  rcases List.mem_cons.mp hc with rfl | hc
  · rcases ht2 with rfl | rfl | rfl | rfl | rfl | rfl <;> rfl
  rcases List.mem_cons.mp hc with rfl | hc
  · rcases ht2 with rfl | rfl | rfl | rfl | rfl | rfl <;> exact etg_f (by omega)
  rcases List.mem_cons.mp hc with rfl | hc
  · rcases ht2 with rfl | rfl | rfl | rfl | rfl | rfl <;> exact ltg_f (by omega)
  rcases List.mem_cons.mp hc with rfl | hc
  · rcases ht2 with rfl | rfl | rfl | rfl | rfl | rfl <;> rfl
  rcases List.mem_cons.mp hc with rfl | hc
  · rcases ht2 with rfl | rfl | rfl | rfl | rfl | rfl <;> rfl
  rcases List.mem_cons.mp hc with rfl | hc
  · rcases ht2 with rfl | rfl | rfl | rfl | rfl | rfl <;> exact btg_f (by omega)
  rcases List.mem_cons.mp hc with rfl | hc
  · rcases ht2 with rfl | rfl | rfl | rfl | rfl | rfl <;> exact otg_f (by omega)
  rcases List.mem_cons.mp hc with rfl | hc
  · rcases ht2 with rfl | rfl | rfl | rfl | rfl | rfl <;> rfl
  rcases List.mem_cons.mp hc with rfl | hc
  · rcases ht2 with rfl | rfl | rfl | rfl | rfl | rfl <;> exact vtg_f (by omega)
  rcases List.mem_cons.mp hc with rfl | hc
  · rcases ht2 with rfl | rfl | rfl | rfl | rfl | rfl <;> exact rtg_f (by omega)
  · cases hc
theorem apt_61 : ∀ c' ∈ ([cu 24 25 26, ceq PE9, ceqL PL9, ck 11 0 (-4), cn 110 26 20, cb 125 128, co 125, ck 12 0 (-4), cv9 126 110 26, cR 840 999 RWg SG WG] : List Cp), ∀ t, (cr QQ : Cp).tg t = true → c'.tg t = false := by
  intro c' hc t ht
  have ht2 : t = 312 ∨ t = 313 ∨ t = 314 ∨ t = 321 ∨ t = 322 ∨ t = 323 ∨ t = 324 ∨ t = 325 ∨ t = 326 ∨ t = 327 ∨ t = 328 ∨ t = 341 := tgQ ht
  rcases List.mem_cons.mp hc with rfl | hc
  · rcases ht2 with rfl | rfl | rfl | rfl | rfl | rfl | rfl | rfl | rfl | rfl | rfl | rfl <;> rfl
  rcases List.mem_cons.mp hc with rfl | hc
  · rcases ht2 with rfl | rfl | rfl | rfl | rfl | rfl | rfl | rfl | rfl | rfl | rfl | rfl <;> exact etg_f (by omega)
  rcases List.mem_cons.mp hc with rfl | hc
  · rcases ht2 with rfl | rfl | rfl | rfl | rfl | rfl | rfl | rfl | rfl | rfl | rfl | rfl <;> exact ltg_f (by omega)
  rcases List.mem_cons.mp hc with rfl | hc
  · rcases ht2 with rfl | rfl | rfl | rfl | rfl | rfl | rfl | rfl | rfl | rfl | rfl | rfl <;> rfl
  rcases List.mem_cons.mp hc with rfl | hc
  · rcases ht2 with rfl | rfl | rfl | rfl | rfl | rfl | rfl | rfl | rfl | rfl | rfl | rfl <;> rfl
  rcases List.mem_cons.mp hc with rfl | hc
  · rcases ht2 with rfl | rfl | rfl | rfl | rfl | rfl | rfl | rfl | rfl | rfl | rfl | rfl <;> exact btg_f (by omega)
  rcases List.mem_cons.mp hc with rfl | hc
  · rcases ht2 with rfl | rfl | rfl | rfl | rfl | rfl | rfl | rfl | rfl | rfl | rfl | rfl <;> exact otg_f (by omega)
  rcases List.mem_cons.mp hc with rfl | hc
  · rcases ht2 with rfl | rfl | rfl | rfl | rfl | rfl | rfl | rfl | rfl | rfl | rfl | rfl <;> rfl
  rcases List.mem_cons.mp hc with rfl | hc
  · rcases ht2 with rfl | rfl | rfl | rfl | rfl | rfl | rfl | rfl | rfl | rfl | rfl | rfl <;> exact vtg_f (by omega)
  rcases List.mem_cons.mp hc with rfl | hc
  · rcases ht2 with rfl | rfl | rfl | rfl | rfl | rfl | rfl | rfl | rfl | rfl | rfl | rfl <;> exact rtg_f (by omega)
  · cases hc
theorem apt_71 : ∀ c' ∈ ([ceq PE9, ceqL PL9, ck 11 0 (-4), cn 110 26 20, cb 125 128, co 125, ck 12 0 (-4), cv9 126 110 26, cR 840 999 RWg SG WG] : List Cp), ∀ t, (cu 24 25 26 : Cp).tg t = true → c'.tg t = false := by
  intro c' hc t ht
  have ht : (Nat.beq t 306 || Nat.beq t 307) = true := ht
  rw [Bool.or_eq_true] at ht
  rcases List.mem_cons.mp hc with rfl | hc
  · rcases ht with ht | ht <;> rw [Nat.eq_of_beq_eq_true ht] <;> exact etg_f (by omega)
  rcases List.mem_cons.mp hc with rfl | hc
  · rcases ht with ht | ht <;> rw [Nat.eq_of_beq_eq_true ht] <;> exact ltg_f (by omega)
  rcases List.mem_cons.mp hc with rfl | hc
  · rcases ht with ht | ht <;> rw [Nat.eq_of_beq_eq_true ht] <;> rfl
  rcases List.mem_cons.mp hc with rfl | hc
  · rcases ht with ht | ht <;> rw [Nat.eq_of_beq_eq_true ht] <;> rfl
  rcases List.mem_cons.mp hc with rfl | hc
  · rcases ht with ht | ht <;> rw [Nat.eq_of_beq_eq_true ht] <;> exact btg_f (by omega)
  rcases List.mem_cons.mp hc with rfl | hc
  · rcases ht with ht | ht <;> rw [Nat.eq_of_beq_eq_true ht] <;> exact otg_f (by omega)
  rcases List.mem_cons.mp hc with rfl | hc
  · rcases ht with ht | ht <;> rw [Nat.eq_of_beq_eq_true ht] <;> rfl
  rcases List.mem_cons.mp hc with rfl | hc
  · rcases ht with ht | ht <;> rw [Nat.eq_of_beq_eq_true ht] <;> exact vtg_f (by omega)
  rcases List.mem_cons.mp hc with rfl | hc
  · rcases ht with ht | ht <;> rw [Nat.eq_of_beq_eq_true ht] <;> exact rtg_f (by omega)
  · cases hc
theorem apt_81 : ∀ c' ∈ ([ceqL PL9, ck 11 0 (-4), cn 110 26 20, cb 125 128, co 125, ck 12 0 (-4), cv9 126 110 26, cR 840 999 RWg SG WG] : List Cp), ∀ t, (ceq PE9 : Cp).tg t = true → c'.tg t = false := by
  intro c' hc t ht
  have r9 := etg_rg ht
  rcases List.mem_cons.mp hc with rfl | hc
  · exact ltg_f (by omega)
  rcases List.mem_cons.mp hc with rfl | hc
  · rfl
  rcases List.mem_cons.mp hc with rfl | hc
  · rfl
  rcases List.mem_cons.mp hc with rfl | hc
  · exact btg_f (by omega)
  rcases List.mem_cons.mp hc with rfl | hc
  · exact otg_f (by omega)
  rcases List.mem_cons.mp hc with rfl | hc
  · rfl
  rcases List.mem_cons.mp hc with rfl | hc
  · exact vtg_f (by omega)
  rcases List.mem_cons.mp hc with rfl | hc
  · exact rtg_f (by omega)
  · cases hc
theorem apt_91 : ∀ c' ∈ ([ck 11 0 (-4), cn 110 26 20, cb 125 128, co 125, ck 12 0 (-4), cv9 126 110 26, cR 840 999 RWg SG WG] : List Cp), ∀ t, (ceqL PL9 : Cp).tg t = true → c'.tg t = false := by
  intro c' hc t ht
  have r9 := ltg_rg ht
  rcases List.mem_cons.mp hc with rfl | hc
  · rfl
  rcases List.mem_cons.mp hc with rfl | hc
  · rfl
  rcases List.mem_cons.mp hc with rfl | hc
  · exact btg_f (by omega)
  rcases List.mem_cons.mp hc with rfl | hc
  · exact otg_f (by omega)
  rcases List.mem_cons.mp hc with rfl | hc
  · rfl
  rcases List.mem_cons.mp hc with rfl | hc
  · exact vtg_f (by omega)
  rcases List.mem_cons.mp hc with rfl | hc
  · exact rtg_f (by omega)
  · cases hc
theorem apt_121 : ∀ c' ∈ ([co 125, ck 12 0 (-4), cv9 126 110 26, cR 840 999 RWg SG WG] : List Cp), ∀ t, (cb 125 128 : Cp).tg t = true → c'.tg t = false := by
  intro c' hc t ht
  have r9 := btg_rg ht
  rcases List.mem_cons.mp hc with rfl | hc
  · exact otg_f (by omega)
  rcases List.mem_cons.mp hc with rfl | hc
  · rfl
  rcases List.mem_cons.mp hc with rfl | hc
  · exact vtg_f (by omega)
  rcases List.mem_cons.mp hc with rfl | hc
  · exact rtg_f (by omega)
  · cases hc
theorem apt_131 : ∀ c' ∈ ([ck 12 0 (-4), cv9 126 110 26, cR 840 999 RWg SG WG] : List Cp), ∀ t, (co 125 : Cp).tg t = true → c'.tg t = false := by
  intro c' hc t ht
  have r9 := otg_rg ht
  rcases List.mem_cons.mp hc with rfl | hc
  · rfl
  rcases List.mem_cons.mp hc with rfl | hc
  · exact vtg_f (by omega)
  rcases List.mem_cons.mp hc with rfl | hc
  · exact rtg_f (by omega)
  · cases hc
theorem apt_151 : ∀ c' ∈ ([cR 840 999 RWg SG WG] : List Cp), ∀ t, (cv9 126 110 26 : Cp).tg t = true → c'.tg t = false := by
  intro c' hc t ht
  have r9 := vtg_rg ht
  rcases List.mem_cons.mp hc with rfl | hc
  · exact rtg_f (by omega)
  · cases hc
theorem apt_161 : ∀ c' ∈ ([] : List Cp), ∀ t, (cR 840 999 RWg SG WG : Cp).tg t = true → c'.tg t = false := by
  intro c' hc t ht
  cases hc
theorem CS_apt1 : Apt CS1 := ⟨apt_01, ⟨apt_11, ⟨apt_21, ⟨fun c _ t ht => (by cases ht), ⟨apt_41, ⟨apt_51, ⟨apt_61, ⟨apt_71, ⟨apt_81, ⟨apt_91, ⟨fun c _ t ht => (by cases ht), ⟨fun c _ t ht => (by cases ht), ⟨apt_121, ⟨apt_131, ⟨fun c _ t ht => (by cases ht), ⟨apt_151, ⟨apt_161, trivial⟩⟩⟩⟩⟩⟩⟩⟩⟩⟩⟩⟩⟩⟩⟩⟩⟩
theorem u3101 : ∀ c ∈ CS1, c.tg 310 = true → c = cz 310 120 16 := by
  intro c hc h
  rcases List.mem_cons.mp hc with rfl | hc
  · rfl
  rcases List.mem_cons.mp hc with rfl | hc
  · cases h
  rcases List.mem_cons.mp hc with rfl | hc
  · cases h
  rcases List.mem_cons.mp hc with rfl | hc
  · cases h
  rcases List.mem_cons.mp hc with rfl | hc
  · cases h
  rcases List.mem_cons.mp hc with rfl | hc
  · cases h
  rcases List.mem_cons.mp hc with rfl | hc
  · exact absurd h (by decide)
  rcases List.mem_cons.mp hc with rfl | hc
  · exact absurd h (by decide)
  rcases List.mem_cons.mp hc with rfl | hc
  · rw [etg_f (by omega)] at h; cases h
  rcases List.mem_cons.mp hc with rfl | hc
  · rw [ltg_f (by omega)] at h; cases h
  rcases List.mem_cons.mp hc with rfl | hc
  · cases h
  rcases List.mem_cons.mp hc with rfl | hc
  · cases h
  rcases List.mem_cons.mp hc with rfl | hc
  · rw [btg_f (by omega)] at h; cases h
  rcases List.mem_cons.mp hc with rfl | hc
  · rw [otg_f (by omega)] at h; cases h
  rcases List.mem_cons.mp hc with rfl | hc
  · cases h
  rcases List.mem_cons.mp hc with rfl | hc
  · rw [vtg_f (by omega)] at h; cases h
  rcases List.mem_cons.mp hc with rfl | hc
  · rw [rtg_f (by omega)] at h; cases h
  · cases hc
theorem u3111 : ∀ c ∈ CS1, c.tg 311 = true → c = cz 311 201 4 := by
  intro c hc h
  rcases List.mem_cons.mp hc with rfl | hc
  · cases h
  rcases List.mem_cons.mp hc with rfl | hc
  · rfl
  rcases List.mem_cons.mp hc with rfl | hc
  · cases h
  rcases List.mem_cons.mp hc with rfl | hc
  · cases h
  rcases List.mem_cons.mp hc with rfl | hc
  · cases h
  rcases List.mem_cons.mp hc with rfl | hc
  · cases h
  rcases List.mem_cons.mp hc with rfl | hc
  · exact absurd h (by decide)
  rcases List.mem_cons.mp hc with rfl | hc
  · exact absurd h (by decide)
  rcases List.mem_cons.mp hc with rfl | hc
  · rw [etg_f (by omega)] at h; cases h
  rcases List.mem_cons.mp hc with rfl | hc
  · rw [ltg_f (by omega)] at h; cases h
  rcases List.mem_cons.mp hc with rfl | hc
  · cases h
  rcases List.mem_cons.mp hc with rfl | hc
  · cases h
  rcases List.mem_cons.mp hc with rfl | hc
  · rw [btg_f (by omega)] at h; cases h
  rcases List.mem_cons.mp hc with rfl | hc
  · rw [otg_f (by omega)] at h; cases h
  rcases List.mem_cons.mp hc with rfl | hc
  · cases h
  rcases List.mem_cons.mp hc with rfl | hc
  · rw [vtg_f (by omega)] at h; cases h
  rcases List.mem_cons.mp hc with rfl | hc
  · rw [rtg_f (by omega)] at h; cases h
  · cases hc
theorem u3201 : ∀ c ∈ CS1, c.tg 320 = true → c = cl 320 196 := by
  intro c hc h
  rcases List.mem_cons.mp hc with rfl | hc
  · cases h
  rcases List.mem_cons.mp hc with rfl | hc
  · cases h
  rcases List.mem_cons.mp hc with rfl | hc
  · rfl
  rcases List.mem_cons.mp hc with rfl | hc
  · cases h
  rcases List.mem_cons.mp hc with rfl | hc
  · cases h
  rcases List.mem_cons.mp hc with rfl | hc
  · cases h
  rcases List.mem_cons.mp hc with rfl | hc
  · exact absurd h (by decide)
  rcases List.mem_cons.mp hc with rfl | hc
  · exact absurd h (by decide)
  rcases List.mem_cons.mp hc with rfl | hc
  · rw [etg_f (by omega)] at h; cases h
  rcases List.mem_cons.mp hc with rfl | hc
  · rw [ltg_f (by omega)] at h; cases h
  rcases List.mem_cons.mp hc with rfl | hc
  · cases h
  rcases List.mem_cons.mp hc with rfl | hc
  · cases h
  rcases List.mem_cons.mp hc with rfl | hc
  · rw [btg_f (by omega)] at h; cases h
  rcases List.mem_cons.mp hc with rfl | hc
  · rw [otg_f (by omega)] at h; cases h
  rcases List.mem_cons.mp hc with rfl | hc
  · cases h
  rcases List.mem_cons.mp hc with rfl | hc
  · rw [vtg_f (by omega)] at h; cases h
  rcases List.mem_cons.mp hc with rfl | hc
  · rw [rtg_f (by omega)] at h; cases h
  · cases hc
theorem u3311 : ∀ c ∈ CS1, c.tg 331 = true → c = cg9 110 112 183 144 := by
  intro c hc h
  rcases List.mem_cons.mp hc with rfl | hc
  · cases h
  rcases List.mem_cons.mp hc with rfl | hc
  · cases h
  rcases List.mem_cons.mp hc with rfl | hc
  · cases h
  rcases List.mem_cons.mp hc with rfl | hc
  · cases h
  rcases List.mem_cons.mp hc with rfl | hc
  · rfl
  rcases List.mem_cons.mp hc with rfl | hc
  · cases h
  rcases List.mem_cons.mp hc with rfl | hc
  · exact absurd h (by decide)
  rcases List.mem_cons.mp hc with rfl | hc
  · exact absurd h (by decide)
  rcases List.mem_cons.mp hc with rfl | hc
  · rw [etg_f (by omega)] at h; cases h
  rcases List.mem_cons.mp hc with rfl | hc
  · rw [ltg_f (by omega)] at h; cases h
  rcases List.mem_cons.mp hc with rfl | hc
  · cases h
  rcases List.mem_cons.mp hc with rfl | hc
  · cases h
  rcases List.mem_cons.mp hc with rfl | hc
  · rw [btg_f (by omega)] at h; cases h
  rcases List.mem_cons.mp hc with rfl | hc
  · rw [otg_f (by omega)] at h; cases h
  rcases List.mem_cons.mp hc with rfl | hc
  · cases h
  rcases List.mem_cons.mp hc with rfl | hc
  · rw [vtg_f (by omega)] at h; cases h
  rcases List.mem_cons.mp hc with rfl | hc
  · rw [rtg_f (by omega)] at h; cases h
  · cases hc
theorem m3101 : cz 310 120 16 ∈ CS1 := List.mem_cons_self ..
theorem m3111 : cz 311 201 4 ∈ CS1 := List.mem_cons_of_mem _ (List.mem_cons_self ..)
theorem m3201 : cl 320 196 ∈ CS1 := List.mem_cons_of_mem _ (List.mem_cons_of_mem _ (List.mem_cons_self ..))
theorem mcf1 : cf 110 148 211 210 206 ∈ CS1 := List.mem_cons_of_mem _ (List.mem_cons_of_mem _ (List.mem_cons_of_mem _ (List.mem_cons_self ..)))
theorem mcg1 : cg9 110 112 183 144 ∈ CS1 := List.mem_cons_of_mem _ (List.mem_cons_of_mem _ (List.mem_cons_of_mem _ (List.mem_cons_of_mem _ (List.mem_cons_self ..))))
theorem mct1 : ctr 125 110 20 26 ∈ CS1 := List.mem_cons_of_mem _ (List.mem_cons_of_mem _ (List.mem_cons_of_mem _ (List.mem_cons_of_mem _ (List.mem_cons_of_mem _ (List.mem_cons_self ..)))))
theorem mcr1 : cr QQ ∈ CS1 := List.mem_cons_of_mem _ (List.mem_cons_of_mem _ (List.mem_cons_of_mem _ (List.mem_cons_of_mem _ (List.mem_cons_of_mem _ (List.mem_cons_of_mem _ (List.mem_cons_self ..))))))
theorem mcu1 : cu 24 25 26 ∈ CS1 := List.mem_cons_of_mem _ (List.mem_cons_of_mem _ (List.mem_cons_of_mem _ (List.mem_cons_of_mem _ (List.mem_cons_of_mem _ (List.mem_cons_of_mem _ (List.mem_cons_of_mem _ (List.mem_cons_self ..)))))))
theorem mce1 : ceq PE9 ∈ CS1 := List.mem_cons_of_mem _ (List.mem_cons_of_mem _ (List.mem_cons_of_mem _ (List.mem_cons_of_mem _ (List.mem_cons_of_mem _ (List.mem_cons_of_mem _ (List.mem_cons_of_mem _ (List.mem_cons_of_mem _ (List.mem_cons_self ..))))))))
theorem mcl1 : ceqL PL9 ∈ CS1 := List.mem_cons_of_mem _ (List.mem_cons_of_mem _ (List.mem_cons_of_mem _ (List.mem_cons_of_mem _ (List.mem_cons_of_mem _ (List.mem_cons_of_mem _ (List.mem_cons_of_mem _ (List.mem_cons_of_mem _ (List.mem_cons_of_mem _ (List.mem_cons_self ..)))))))))
theorem mck1 : ck 11 0 (-4) ∈ CS1 := List.mem_cons_of_mem _ (List.mem_cons_of_mem _ (List.mem_cons_of_mem _ (List.mem_cons_of_mem _ (List.mem_cons_of_mem _ (List.mem_cons_of_mem _ (List.mem_cons_of_mem _ (List.mem_cons_of_mem _ (List.mem_cons_of_mem _ (List.mem_cons_of_mem _ (List.mem_cons_self ..))))))))))
theorem mcn1 : cn 110 26 20 ∈ CS1 := List.mem_cons_of_mem _ (List.mem_cons_of_mem _ (List.mem_cons_of_mem _ (List.mem_cons_of_mem _ (List.mem_cons_of_mem _ (List.mem_cons_of_mem _ (List.mem_cons_of_mem _ (List.mem_cons_of_mem _ (List.mem_cons_of_mem _ (List.mem_cons_of_mem _ (List.mem_cons_of_mem _ (List.mem_cons_self ..)))))))))))
theorem mcb1 : cb 125 128 ∈ CS1 := List.mem_cons_of_mem _ (List.mem_cons_of_mem _ (List.mem_cons_of_mem _ (List.mem_cons_of_mem _ (List.mem_cons_of_mem _ (List.mem_cons_of_mem _ (List.mem_cons_of_mem _ (List.mem_cons_of_mem _ (List.mem_cons_of_mem _ (List.mem_cons_of_mem _ (List.mem_cons_of_mem _ (List.mem_cons_of_mem _ (List.mem_cons_self ..))))))))))))
theorem mco1 : co 125 ∈ CS1 := List.mem_cons_of_mem _ (List.mem_cons_of_mem _ (List.mem_cons_of_mem _ (List.mem_cons_of_mem _ (List.mem_cons_of_mem _ (List.mem_cons_of_mem _ (List.mem_cons_of_mem _ (List.mem_cons_of_mem _ (List.mem_cons_of_mem _ (List.mem_cons_of_mem _ (List.mem_cons_of_mem _ (List.mem_cons_of_mem _ (List.mem_cons_of_mem _ (List.mem_cons_self ..)))))))))))))
theorem mck21 : ck 12 0 (-4) ∈ CS1 := List.mem_cons_of_mem _ (List.mem_cons_of_mem _ (List.mem_cons_of_mem _ (List.mem_cons_of_mem _ (List.mem_cons_of_mem _ (List.mem_cons_of_mem _ (List.mem_cons_of_mem _ (List.mem_cons_of_mem _ (List.mem_cons_of_mem _ (List.mem_cons_of_mem _ (List.mem_cons_of_mem _ (List.mem_cons_of_mem _ (List.mem_cons_of_mem _ (List.mem_cons_of_mem _ (List.mem_cons_self ..))))))))))))))
theorem mcv1 : cv9 126 110 26 ∈ CS1 := List.mem_cons_of_mem _ (List.mem_cons_of_mem _ (List.mem_cons_of_mem _ (List.mem_cons_of_mem _ (List.mem_cons_of_mem _ (List.mem_cons_of_mem _ (List.mem_cons_of_mem _ (List.mem_cons_of_mem _ (List.mem_cons_of_mem _ (List.mem_cons_of_mem _ (List.mem_cons_of_mem _ (List.mem_cons_of_mem _ (List.mem_cons_of_mem _ (List.mem_cons_of_mem _ (List.mem_cons_of_mem _ (List.mem_cons_self ..)))))))))))))))
theorem mcR1 : cR 840 999 RWg SG WG ∈ CS1 := List.mem_cons_of_mem _ (List.mem_cons_of_mem _ (List.mem_cons_of_mem _ (List.mem_cons_of_mem _ (List.mem_cons_of_mem _ (List.mem_cons_of_mem _ (List.mem_cons_of_mem _ (List.mem_cons_of_mem _ (List.mem_cons_of_mem _ (List.mem_cons_of_mem _ (List.mem_cons_of_mem _ (List.mem_cons_of_mem _ (List.mem_cons_of_mem _ (List.mem_cons_of_mem _ (List.mem_cons_of_mem _ (List.mem_cons_of_mem _ (List.mem_cons_self ..))))))))))))))))
theorem uQ1 : ∀ c ∈ CS1, ∀ t : Nat, qtg t = true → c.tg t = true → c = cr QQ := by
  intro c hc t h0 h
  rcases List.mem_cons.mp hc with rfl | hc
  · rcases tgQ h0 with rfl | rfl | rfl | rfl | rfl | rfl | rfl | rfl | rfl | rfl | rfl | rfl <;> exact absurd h (by decide)
  rcases List.mem_cons.mp hc with rfl | hc
  · rcases tgQ h0 with rfl | rfl | rfl | rfl | rfl | rfl | rfl | rfl | rfl | rfl | rfl | rfl <;> exact absurd h (by decide)
  rcases List.mem_cons.mp hc with rfl | hc
  · rcases tgQ h0 with rfl | rfl | rfl | rfl | rfl | rfl | rfl | rfl | rfl | rfl | rfl | rfl <;> exact absurd h (by decide)
  rcases List.mem_cons.mp hc with rfl | hc
  · rcases tgQ h0 with rfl | rfl | rfl | rfl | rfl | rfl | rfl | rfl | rfl | rfl | rfl | rfl <;> exact absurd h (by decide)
  rcases List.mem_cons.mp hc with rfl | hc
  · rcases tgQ h0 with rfl | rfl | rfl | rfl | rfl | rfl | rfl | rfl | rfl | rfl | rfl | rfl <;> exact absurd h (by decide)
  rcases List.mem_cons.mp hc with rfl | hc
  · rcases tgQ h0 with rfl | rfl | rfl | rfl | rfl | rfl | rfl | rfl | rfl | rfl | rfl | rfl <;> exact absurd h (by decide)
  rcases List.mem_cons.mp hc with rfl | hc
  · rfl
  rcases List.mem_cons.mp hc with rfl | hc
  · rcases tgQ h0 with rfl | rfl | rfl | rfl | rfl | rfl | rfl | rfl | rfl | rfl | rfl | rfl <;> exact absurd h (by decide)
  rcases List.mem_cons.mp hc with rfl | hc
  · rcases tgQ h0 with rfl | rfl | rfl | rfl | rfl | rfl | rfl | rfl | rfl | rfl | rfl | rfl <;> (rw [etg_f (by omega)] at h; cases h)
  rcases List.mem_cons.mp hc with rfl | hc
  · rcases tgQ h0 with rfl | rfl | rfl | rfl | rfl | rfl | rfl | rfl | rfl | rfl | rfl | rfl <;> (rw [ltg_f (by omega)] at h; cases h)
  rcases List.mem_cons.mp hc with rfl | hc
  · cases h
  rcases List.mem_cons.mp hc with rfl | hc
  · cases h
  rcases List.mem_cons.mp hc with rfl | hc
  · rcases tgQ h0 with rfl | rfl | rfl | rfl | rfl | rfl | rfl | rfl | rfl | rfl | rfl | rfl <;> (rw [btg_f (by omega)] at h; cases h)
  rcases List.mem_cons.mp hc with rfl | hc
  · rcases tgQ h0 with rfl | rfl | rfl | rfl | rfl | rfl | rfl | rfl | rfl | rfl | rfl | rfl <;> (rw [otg_f (by omega)] at h; cases h)
  rcases List.mem_cons.mp hc with rfl | hc
  · cases h
  rcases List.mem_cons.mp hc with rfl | hc
  · rcases tgQ h0 with rfl | rfl | rfl | rfl | rfl | rfl | rfl | rfl | rfl | rfl | rfl | rfl <;> (rw [vtg_f (by omega)] at h; cases h)
  rcases List.mem_cons.mp hc with rfl | hc
  · rcases tgQ h0 with rfl | rfl | rfl | rfl | rfl | rfl | rfl | rfl | rfl | rfl | rfl | rfl <;> (rw [rtg_f (by omega)] at h; cases h)
  · cases hc
theorem uU1 : ∀ c ∈ CS1, ∀ t : Nat, utg t = true → c.tg t = true → c = cu 24 25 26 := by
  intro c hc t h0 h
  rcases List.mem_cons.mp hc with rfl | hc
  · rcases tgU h0 with rfl | rfl <;> exact absurd h (by decide)
  rcases List.mem_cons.mp hc with rfl | hc
  · rcases tgU h0 with rfl | rfl <;> exact absurd h (by decide)
  rcases List.mem_cons.mp hc with rfl | hc
  · rcases tgU h0 with rfl | rfl <;> exact absurd h (by decide)
  rcases List.mem_cons.mp hc with rfl | hc
  · rcases tgU h0 with rfl | rfl <;> exact absurd h (by decide)
  rcases List.mem_cons.mp hc with rfl | hc
  · rcases tgU h0 with rfl | rfl <;> exact absurd h (by decide)
  rcases List.mem_cons.mp hc with rfl | hc
  · rcases tgU h0 with rfl | rfl <;> exact absurd h (by decide)
  rcases List.mem_cons.mp hc with rfl | hc
  · rcases tgU h0 with rfl | rfl <;> exact absurd h (by decide)
  rcases List.mem_cons.mp hc with rfl | hc
  · rfl
  rcases List.mem_cons.mp hc with rfl | hc
  · rcases tgU h0 with rfl | rfl <;> (rw [etg_f (by omega)] at h; cases h)
  rcases List.mem_cons.mp hc with rfl | hc
  · rcases tgU h0 with rfl | rfl <;> (rw [ltg_f (by omega)] at h; cases h)
  rcases List.mem_cons.mp hc with rfl | hc
  · cases h
  rcases List.mem_cons.mp hc with rfl | hc
  · cases h
  rcases List.mem_cons.mp hc with rfl | hc
  · rcases tgU h0 with rfl | rfl <;> (rw [btg_f (by omega)] at h; cases h)
  rcases List.mem_cons.mp hc with rfl | hc
  · rcases tgU h0 with rfl | rfl <;> (rw [otg_f (by omega)] at h; cases h)
  rcases List.mem_cons.mp hc with rfl | hc
  · cases h
  rcases List.mem_cons.mp hc with rfl | hc
  · rcases tgU h0 with rfl | rfl <;> (rw [vtg_f (by omega)] at h; cases h)
  rcases List.mem_cons.mp hc with rfl | hc
  · rcases tgU h0 with rfl | rfl <;> (rw [rtg_f (by omega)] at h; cases h)
  · cases hc
theorem qH1 : QH TJ GG CS1 QQ := ⟨TJ_wf, CS_ok1, mcr1, uQ1⟩
theorem uH1 : UH TJ GG CS1 24 25 26 := ⟨TJ_wf, CS_ok1, mcu1, uU1⟩
theorem uT1 : ∀ c ∈ CS1, ∀ t : Nat, 300 ≤ t → t ≤ 304 → c.tg t = true → c = ctr 125 110 20 26 := by
  intro c hc t h1 h2 h
  rcases List.mem_cons.mp hc with rfl | hc
  · have := Nat.eq_of_beq_eq_true h; omega
  rcases List.mem_cons.mp hc with rfl | hc
  · have := Nat.eq_of_beq_eq_true h; omega
  rcases List.mem_cons.mp hc with rfl | hc
  · have := Nat.eq_of_beq_eq_true h; omega
  rcases List.mem_cons.mp hc with rfl | hc
  · cases h
  rcases List.mem_cons.mp hc with rfl | hc
  · have h : (Nat.beq t 330 || Nat.beq t 331) = true := h
    rw [Bool.or_eq_true] at h
    rcases h with h | h <;> (have := Nat.eq_of_beq_eq_true h; omega)
  rcases List.mem_cons.mp hc with rfl | hc
  · rfl
  rcases List.mem_cons.mp hc with rfl | hc
  · have h9 : t = 300 ∨ t = 301 ∨ t = 302 ∨ t = 303 ∨ t = 304 := by omega
    rcases h9 with rfl | rfl | rfl | rfl | rfl <;> exact absurd h (by decide)
  rcases List.mem_cons.mp hc with rfl | hc
  · have h9 : t = 300 ∨ t = 301 ∨ t = 302 ∨ t = 303 ∨ t = 304 := by omega
    rcases h9 with rfl | rfl | rfl | rfl | rfl <;> exact absurd h (by decide)
  rcases List.mem_cons.mp hc with rfl | hc
  · have := etg_rg h; omega
  rcases List.mem_cons.mp hc with rfl | hc
  · have := ltg_rg h; omega
  rcases List.mem_cons.mp hc with rfl | hc
  · cases h
  rcases List.mem_cons.mp hc with rfl | hc
  · cases h
  rcases List.mem_cons.mp hc with rfl | hc
  · have := btg_rg h; omega
  rcases List.mem_cons.mp hc with rfl | hc
  · have := otg_rg h; omega
  rcases List.mem_cons.mp hc with rfl | hc
  · cases h
  rcases List.mem_cons.mp hc with rfl | hc
  · have := vtg_rg h; omega
  rcases List.mem_cons.mp hc with rfl | hc
  · have := rtg_rg h; omega
  · cases hc
theorem pHb01 : ∀ c ∈ CS1, c = cb 125 128 ∨ ∀ t, (cb 125 128 : Cp).tg t = true → c.tg t = false := by
  intro c hc
  rcases List.mem_cons.mp hc with rfl | hc
  · exact Or.inr (fun t ht => by
    have r9 := btg_rg ht
    cases e : (cz 310 120 16 : Cp).tg t with
    | false => rfl
    | true =>
      have := tlt_0 e
      omega)
  rcases List.mem_cons.mp hc with rfl | hc
  · exact Or.inr (fun t ht => by
    have r9 := btg_rg ht
    cases e : (cz 311 201 4 : Cp).tg t with
    | false => rfl
    | true =>
      have := tlt_1 e
      omega)
  rcases List.mem_cons.mp hc with rfl | hc
  · exact Or.inr (fun t ht => by
    have r9 := btg_rg ht
    cases e : (cl 320 196 : Cp).tg t with
    | false => rfl
    | true =>
      have := tlt_2 e
      omega)
  rcases List.mem_cons.mp hc with rfl | hc
  · exact Or.inr (fun t ht => by
    have r9 := btg_rg ht
    cases e : (cf 110 148 211 210 206 : Cp).tg t with
    | false => rfl
    | true =>
      have := tlt_3 e
      omega)
  rcases List.mem_cons.mp hc with rfl | hc
  · exact Or.inr (fun t ht => by
    have r9 := btg_rg ht
    cases e : (cg9 110 112 183 144 : Cp).tg t with
    | false => rfl
    | true =>
      have := tlt_4 e
      omega)
  rcases List.mem_cons.mp hc with rfl | hc
  · exact Or.inr (fun t ht => by
    have r9 := btg_rg ht
    cases e : (ctr 125 110 20 26 : Cp).tg t with
    | false => rfl
    | true =>
      have := tlt_5 e
      omega)
  rcases List.mem_cons.mp hc with rfl | hc
  · exact Or.inr (fun t ht => by
    have r9 := btg_rg ht
    cases e : (cr QQ : Cp).tg t with
    | false => rfl
    | true =>
      have := tlt_6 e
      omega)
  rcases List.mem_cons.mp hc with rfl | hc
  · exact Or.inr (fun t ht => by
    have r9 := btg_rg ht
    cases e : (cu 24 25 26 : Cp).tg t with
    | false => rfl
    | true =>
      have := tlt_7 e
      omega)
  rcases List.mem_cons.mp hc with rfl | hc
  · exact Or.inr (fun t ht => by
    have r9 := btg_rg ht
    exact etg_f (by omega))
  rcases List.mem_cons.mp hc with rfl | hc
  · exact Or.inr (fun t ht => by
    have r9 := btg_rg ht
    exact ltg_f (by omega))
  rcases List.mem_cons.mp hc with rfl | hc
  · exact Or.inr (fun t ht => rfl)
  rcases List.mem_cons.mp hc with rfl | hc
  · exact Or.inr (fun t ht => rfl)
  rcases List.mem_cons.mp hc with rfl | hc
  · exact Or.inl rfl
  rcases List.mem_cons.mp hc with rfl | hc
  · exact Or.inr (fun t ht => by
    have r9 := btg_rg ht
    exact otg_f (by omega))
  rcases List.mem_cons.mp hc with rfl | hc
  · exact Or.inr (fun t ht => rfl)
  rcases List.mem_cons.mp hc with rfl | hc
  · exact Or.inr (fun t ht => by
    have r9 := btg_rg ht
    exact vtg_f (by omega))
  rcases List.mem_cons.mp hc with rfl | hc
  · exact Or.inr (fun t ht => by
    have r9 := btg_rg ht
    exact rtg_f (by omega))
  · cases hc
theorem pHb1 : PH TJ GG CS1 (cb 125 128) := ⟨TJ_wf, CS_ok1, mcb1, pHb01⟩
theorem pHo01 : ∀ c ∈ CS1, c = co 125 ∨ ∀ t, (co 125 : Cp).tg t = true → c.tg t = false := by
  intro c hc
  rcases List.mem_cons.mp hc with rfl | hc
  · exact Or.inr (fun t ht => by
    have r9 := otg_rg ht
    cases e : (cz 310 120 16 : Cp).tg t with
    | false => rfl
    | true =>
      have := tlt_0 e
      omega)
  rcases List.mem_cons.mp hc with rfl | hc
  · exact Or.inr (fun t ht => by
    have r9 := otg_rg ht
    cases e : (cz 311 201 4 : Cp).tg t with
    | false => rfl
    | true =>
      have := tlt_1 e
      omega)
  rcases List.mem_cons.mp hc with rfl | hc
  · exact Or.inr (fun t ht => by
    have r9 := otg_rg ht
    cases e : (cl 320 196 : Cp).tg t with
    | false => rfl
    | true =>
      have := tlt_2 e
      omega)
  rcases List.mem_cons.mp hc with rfl | hc
  · exact Or.inr (fun t ht => by
    have r9 := otg_rg ht
    cases e : (cf 110 148 211 210 206 : Cp).tg t with
    | false => rfl
    | true =>
      have := tlt_3 e
      omega)
  rcases List.mem_cons.mp hc with rfl | hc
  · exact Or.inr (fun t ht => by
    have r9 := otg_rg ht
    cases e : (cg9 110 112 183 144 : Cp).tg t with
    | false => rfl
    | true =>
      have := tlt_4 e
      omega)
  rcases List.mem_cons.mp hc with rfl | hc
  · exact Or.inr (fun t ht => by
    have r9 := otg_rg ht
    cases e : (ctr 125 110 20 26 : Cp).tg t with
    | false => rfl
    | true =>
      have := tlt_5 e
      omega)
  rcases List.mem_cons.mp hc with rfl | hc
  · exact Or.inr (fun t ht => by
    have r9 := otg_rg ht
    cases e : (cr QQ : Cp).tg t with
    | false => rfl
    | true =>
      have := tlt_6 e
      omega)
  rcases List.mem_cons.mp hc with rfl | hc
  · exact Or.inr (fun t ht => by
    have r9 := otg_rg ht
    cases e : (cu 24 25 26 : Cp).tg t with
    | false => rfl
    | true =>
      have := tlt_7 e
      omega)
  rcases List.mem_cons.mp hc with rfl | hc
  · exact Or.inr (fun t ht => by
    have r9 := otg_rg ht
    exact etg_f (by omega))
  rcases List.mem_cons.mp hc with rfl | hc
  · exact Or.inr (fun t ht => by
    have r9 := otg_rg ht
    exact ltg_f (by omega))
  rcases List.mem_cons.mp hc with rfl | hc
  · exact Or.inr (fun t ht => rfl)
  rcases List.mem_cons.mp hc with rfl | hc
  · exact Or.inr (fun t ht => rfl)
  rcases List.mem_cons.mp hc with rfl | hc
  · exact Or.inr (fun t ht => by
    have r9 := otg_rg ht
    exact btg_f (by omega))
  rcases List.mem_cons.mp hc with rfl | hc
  · exact Or.inl rfl
  rcases List.mem_cons.mp hc with rfl | hc
  · exact Or.inr (fun t ht => rfl)
  rcases List.mem_cons.mp hc with rfl | hc
  · exact Or.inr (fun t ht => by
    have r9 := otg_rg ht
    exact vtg_f (by omega))
  rcases List.mem_cons.mp hc with rfl | hc
  · exact Or.inr (fun t ht => by
    have r9 := otg_rg ht
    exact rtg_f (by omega))
  · cases hc
theorem pHo1 : PH TJ GG CS1 (co 125) := ⟨TJ_wf, CS_ok1, mco1, pHo01⟩
theorem pHR01 : ∀ c ∈ CS1, c = cR 840 999 RWg SG WG ∨ ∀ t, (cR 840 999 RWg SG WG : Cp).tg t = true → c.tg t = false := by
  intro c hc
  rcases List.mem_cons.mp hc with rfl | hc
  · exact Or.inr (fun t ht => by
    have r9 := rtg_rg ht
    cases e : (cz 310 120 16 : Cp).tg t with
    | false => rfl
    | true =>
      have := tlt_0 e
      omega)
  rcases List.mem_cons.mp hc with rfl | hc
  · exact Or.inr (fun t ht => by
    have r9 := rtg_rg ht
    cases e : (cz 311 201 4 : Cp).tg t with
    | false => rfl
    | true =>
      have := tlt_1 e
      omega)
  rcases List.mem_cons.mp hc with rfl | hc
  · exact Or.inr (fun t ht => by
    have r9 := rtg_rg ht
    cases e : (cl 320 196 : Cp).tg t with
    | false => rfl
    | true =>
      have := tlt_2 e
      omega)
  rcases List.mem_cons.mp hc with rfl | hc
  · exact Or.inr (fun t ht => by
    have r9 := rtg_rg ht
    cases e : (cf 110 148 211 210 206 : Cp).tg t with
    | false => rfl
    | true =>
      have := tlt_3 e
      omega)
  rcases List.mem_cons.mp hc with rfl | hc
  · exact Or.inr (fun t ht => by
    have r9 := rtg_rg ht
    cases e : (cg9 110 112 183 144 : Cp).tg t with
    | false => rfl
    | true =>
      have := tlt_4 e
      omega)
  rcases List.mem_cons.mp hc with rfl | hc
  · exact Or.inr (fun t ht => by
    have r9 := rtg_rg ht
    cases e : (ctr 125 110 20 26 : Cp).tg t with
    | false => rfl
    | true =>
      have := tlt_5 e
      omega)
  rcases List.mem_cons.mp hc with rfl | hc
  · exact Or.inr (fun t ht => by
    have r9 := rtg_rg ht
    cases e : (cr QQ : Cp).tg t with
    | false => rfl
    | true =>
      have := tlt_6 e
      omega)
  rcases List.mem_cons.mp hc with rfl | hc
  · exact Or.inr (fun t ht => by
    have r9 := rtg_rg ht
    cases e : (cu 24 25 26 : Cp).tg t with
    | false => rfl
    | true =>
      have := tlt_7 e
      omega)
  rcases List.mem_cons.mp hc with rfl | hc
  · exact Or.inr (fun t ht => by
    have r9 := rtg_rg ht
    exact etg_f (by omega))
  rcases List.mem_cons.mp hc with rfl | hc
  · exact Or.inr (fun t ht => by
    have r9 := rtg_rg ht
    exact ltg_f (by omega))
  rcases List.mem_cons.mp hc with rfl | hc
  · exact Or.inr (fun t ht => rfl)
  rcases List.mem_cons.mp hc with rfl | hc
  · exact Or.inr (fun t ht => rfl)
  rcases List.mem_cons.mp hc with rfl | hc
  · exact Or.inr (fun t ht => by
    have r9 := rtg_rg ht
    exact btg_f (by omega))
  rcases List.mem_cons.mp hc with rfl | hc
  · exact Or.inr (fun t ht => by
    have r9 := rtg_rg ht
    exact otg_f (by omega))
  rcases List.mem_cons.mp hc with rfl | hc
  · exact Or.inr (fun t ht => rfl)
  rcases List.mem_cons.mp hc with rfl | hc
  · exact Or.inr (fun t ht => by
    have r9 := rtg_rg ht
    exact vtg_f (by omega))
  rcases List.mem_cons.mp hc with rfl | hc
  · exact Or.inl rfl
  · cases hc
theorem pHR1 : PH TJ GG CS1 (cR 840 999 RWg SG WG) := ⟨TJ_wf, CS_ok1, mcR1, pHR01⟩
theorem JJ_pb1 : PBt JJ1 := pbg_ok pHR1
theorem GX_J1 : POk GX1.g GX1.P JJ1 := P_ok TJ_wf (cS_ok CS_ok1 CS_apt1)
theorem hxg_0_ok1 {h : Nat × (Nat × Nat)} {f : Fm} {s : Sy} {ρ : List Int} {σ : zS} (ho : Ok JJ1 s ρ σ) : ∃ s' ρ', hxg_0 h f s = some s' ∧ Pre ρ ρ' ∧ Ok JJ1 s' ρ' σ := by
  have same : ∃ s' ρ', some s = some s' ∧ Pre ρ ρ' ∧ Ok JJ1 s' ρ' σ := ⟨s, ρ, rfl, Pre.rf, ho⟩
  unfold hxg_0
  cases Nat.beq h.1 1 with
  | true =>
    obtain ⟨s', e1, e2⟩ := tg_ok (f := f) (i := h.2.1) ho
    exact ⟨s', ρ, e1, Pre.rf, e2⟩
  | false =>
  cases Nat.beq h.1 10 with
  | true =>
    cases Nat.beq h.2.1 310 with
    | true =>
      obtain ⟨ρ', e1, e2⟩ := hz10_ok TJ_wf CS_ok1 (by decide) u3101 ho
      exact ⟨_, ρ', rfl, e1, e2⟩
    | false =>
    cases Nat.beq h.2.1 311 with
    | true =>
      obtain ⟨ρ', e1, e2⟩ := hz10_ok TJ_wf CS_ok1 (by decide) u3111 ho
      exact ⟨_, ρ', rfl, e1, e2⟩
    | false => exact same
  | false =>
  cases Nat.beq h.1 11 with
  | true =>
    cases Nat.beq h.2.1 310 with
    | true => exact ⟨_, ρ, rfl, Pre.rf, h11_ok TJ_wf CS_ok1 (by decide) (fun c q e H σ _ => by rw [u3101 c q e]; exact del_z) ho⟩
    | false =>
    cases Nat.beq h.2.1 311 with
    | true => exact ⟨_, ρ, rfl, Pre.rf, h11_ok TJ_wf CS_ok1 (by decide) (fun c q e H σ _ => by rw [u3111 c q e]; exact del_z) ho⟩
    | false =>
    cases Nat.beq h.2.1 320 with
    | true => exact ⟨_, ρ, rfl, Pre.rf, h11_ok TJ_wf CS_ok1 (by decide) (fun c q e H σ _ => by rw [u3201 c q e]; exact del_l) ho⟩
    | false =>
    cases hT : Nat.ble 300 h.2.1 && Nat.ble h.2.1 304 with
    | true =>
      rw [Bool.and_eq_true] at hT
      have t1 := Nat.le_of_ble_eq_true hT.1
      have t2 := Nat.le_of_ble_eq_true hT.2
      exact ⟨_, ρ, rfl, Pre.rf, h11_ok TJ_wf CS_ok1 (by omega) (fun c q e H σ hs => by have ec := uT1 c q _ t1 t2 e; subst ec; exact del_t t2 hs) ho⟩
    | false => exact same
  | false =>
  cases Nat.beq h.1 13 with
  | true => exact ⟨_, ρ, rfl, Pre.rf, hl13_ok TJ_wf CS_ok1 (by decide) u3201 m3201 ho⟩
  | false =>
  cases Nat.beq h.1 14 with
  | true => exact ⟨_, ρ, rfl, Pre.rf, hl14_ok TJ_wf CS_ok1 (by decide) u3201 ho⟩
  | false =>
  cases Nat.beq h.1 15 with
  | true =>
    simp only [cond_true, cond_false]
    split
    · rename_i a ha
      obtain ⟨H, i1, i2⟩ := ho.inv
      rcases i1.lkp (t := 320) with ⟨q1, q2⟩ | ⟨a', z, q1, q2, q3⟩
      · rw [ha] at q1; cases q1
      · rw [ha] at q1
        cases Option.some.inj q1
        exact ⟨_, ρ, rfl, Pre.rf, hl15_ok q3 (fun j hj => i2.2.2 _ m3201 z q2 j hj) ho ho.me⟩
    · exact same
  | false =>
  cases Nat.beq h.1 16 with
  | true =>
    simp only [cond_true, cond_false]
    cases Nat.beq h.2.1 310 with
    | true =>
      simp only [cond_true]
      split
      · rename_i a ha
        obtain ⟨H, i1, i2⟩ := ho.inv
        rcases i1.lkp (t := 310) with ⟨q1, q2⟩ | ⟨a', z, q1, q2, q3⟩
        · rw [ha] at q1; cases q1
        · rw [ha] at q1
          cases Option.some.inj q1
          have e := i2.2.2 _ m3101 z q2
          obtain ⟨s', e1, e2⟩ := hz16_ok (by rw [← e]; exact q3) ho ho.me
          exact ⟨s', ρ, e1, Pre.rf, e2⟩
      · exact same
    | false =>
      simp only [cond_false]
      split
      · rename_i a ha
        obtain ⟨H, i1, i2⟩ := ho.inv
        rcases i1.lkp (t := 311) with ⟨q1, q2⟩ | ⟨a', z, q1, q2, q3⟩
        · rw [ha] at q1; cases q1
        · rw [ha] at q1
          cases Option.some.inj q1
          have e := i2.2.2 _ m3111 z q2
          obtain ⟨s', e1, e2⟩ := hz16_ok (by rw [← e]; exact q3) ho ho.me
          exact ⟨s', ρ, e1, Pre.rf, e2⟩
      · exact same
  | false =>
  exact same
theorem hxg_1_ok1 {h : Nat × (Nat × Nat)} {f : Fm} {s : Sy} {ρ : List Int} {σ : zS} (ho : Ok JJ1 s ρ σ) : ∃ s' ρ', hxg_1 h f s = some s' ∧ Pre ρ ρ' ∧ Ok JJ1 s' ρ' σ := by
  have same : ∃ s' ρ', some s = some s' ∧ Pre ρ ρ' ∧ Ok JJ1 s' ρ' σ := ⟨s, ρ, rfl, Pre.rf, ho⟩
  unfold hxg_1
  cases Nat.beq h.1 17 with
  | true => exact ⟨_, ρ, rfl, Pre.rf, hl17_ok TJ_wf CS_ok1 (by decide) u3201 m3201 ho⟩
  | false =>
  cases Nat.beq h.1 18 with
  | true =>
    obtain ⟨H, i1, i2⟩ := ho.inv
    exact ⟨_, ρ, rfl, Pre.rf, hf18_ok (i2.2.2 _ mcf1) ho ho.me⟩
  | false =>
  cases Nat.beq h.1 20 with
  | true => exact ⟨_, ρ, rfl, Pre.rf, hg20_ok TJ_wf CS_ok1 u3311 ho⟩
  | false =>
  cases Nat.beq h.1 21 with
  | true => exact ⟨_, ρ, rfl, Pre.rf, hg21_ok mcg1 ho⟩
  | false =>
  cases Nat.beq h.1 22 with
  | true =>
    simp only [cond_true, cond_false]
    split
    · rename_i a _ _
      cases hv : evk s a with
      | false => exact same
      | true =>
        obtain ⟨z, hz⟩ := evk_ok ho hv
        obtain ⟨ρ', e1, e2⟩ := ht22_ok TJ_wf CS_ok1 mct1 (fun c q t ht e => uT1 c q t (by omega) (by omega) e) hz ho
        exact ⟨_, ρ', rfl, e1, e2⟩
    · exact same
  | false =>
  cases Nat.beq h.1 23 with
  | true =>
    simp only [cond_true, cond_false]
    split
    · rename_i a _ _
      cases hv : evk s a with
      | false => exact same
      | true =>
        obtain ⟨z, hz⟩ := evk_ok ho hv
        obtain ⟨ρ', e1, e2⟩ := ht23_ok TJ_wf CS_ok1 mct1 (fun c q t ht e => uT1 c q t (by omega) (by omega) e) h40 hz ho
        exact ⟨_, ρ', rfl, e1, e2⟩
    · exact same
  | false =>
  cases Nat.beq h.1 25 with
  | true =>
    simp only [cond_true, cond_false]
    split
    · rename_i a _ b _ _
      cases hv : evk s a && evk s b with
      | false => exact same
      | true =>
        rw [Bool.and_eq_true] at hv
        obtain ⟨z, hz⟩ := evk_ok ho hv.1
        obtain ⟨y, hy⟩ := evk_ok ho hv.2
        exact ⟨_, ρ, rfl, Pre.rf, ht25_ok TJ_wf CS_ok1 mct1 (fun c q t ht e => uT1 c q t (by omega) (by omega) e) hz hy ho⟩
    · exact same
  | false =>
  exact same
theorem hxg_2_ok1 {h : Nat × (Nat × Nat)} {f : Fm} {s : Sy} {ρ : List Int} {σ : zS} (ho : Ok JJ1 s ρ σ) : ∃ s' ρ', hxg_2 h f s = some s' ∧ Pre ρ ρ' ∧ Ok JJ1 s' ρ' σ := by
  have same : ∃ s' ρ', some s = some s' ∧ Pre ρ ρ' ∧ Ok JJ1 s' ρ' σ := ⟨s, ρ, rfl, Pre.rf, ho⟩
  unfold hxg_2
  cases Nat.beq h.1 26 with
  | true =>
    simp only [cond_true, cond_false]
    split
    · rename_i a _ _
      cases hv : evk s a with
      | false => exact same
      | true =>
        obtain ⟨z, hz⟩ := evk_ok ho hv
        exact ⟨_, ρ, rfl, Pre.rf, ht26_ok TJ_wf CS_ok1 mct1 (fun c q e => uT1 c q 304 (by omega) (by omega) e) hz ho⟩
    · exact same
  | false =>
  cases Nat.beq h.1 30 with
  | true => exact ⟨_, ρ, rfl, Pre.rf, h30_ok ho ho.fa⟩
  | false =>
  cases Nat.beq h.1 31 with
  | true =>
    obtain ⟨s', e1, e2⟩ := hr31_ok qH1 ho
    exact ⟨s', ρ, e1, Pre.rf, e2⟩
  | false =>
  cases Nat.beq h.1 32 with
  | true => exact ⟨_, ρ, rfl, Pre.rf, hr32_ok qH1 ho⟩
  | false =>
  cases Nat.beq h.1 33 with
  | true => exact ⟨_, ρ, rfl, Pre.rf, hr33_ok qH1 ho⟩
  | false =>
  cases Nat.beq h.1 34 with
  | true => exact ⟨_, ρ, rfl, Pre.rf, hr34_ok qH1 ho⟩
  | false =>
  cases Nat.beq h.1 35 with
  | true => exact ⟨_, ρ, rfl, Pre.rf, hr35_ok qH1 ho⟩
  | false =>
  exact same
theorem hxg_3_ok1 {h : Nat × (Nat × Nat)} {f : Fm} {s : Sy} {ρ : List Int} {σ : zS} (ho : Ok JJ1 s ρ σ) : ∃ s' ρ', hxg_3 h f s = some s' ∧ Pre ρ ρ' ∧ Ok JJ1 s' ρ' σ := by
  have same : ∃ s' ρ', some s = some s' ∧ Pre ρ ρ' ∧ Ok JJ1 s' ρ' σ := ⟨s, ρ, rfl, Pre.rf, ho⟩
  unfold hxg_3
  cases Nat.beq h.1 36 with
  | true =>
    simp only [cond_true, cond_false]
    split
    · rename_i r _
      cases hv : evk s r with
      | false => exact same
      | true =>
        obtain ⟨z, hz⟩ := evk_ok ho hv
        exact ⟨_, ρ, rfl, Pre.rf, hr36_ok qH1 hz ho⟩
    · exact same
  | false =>
  cases Nat.beq h.1 37 with
  | true =>
    obtain ⟨ρ', e1, e2⟩ := hr37_ok qH1 ho
    exact ⟨_, ρ', rfl, e1, e2⟩
  | false =>
  cases Nat.beq h.1 38 with
  | true => exact ⟨_, ρ, rfl, Pre.rf, hr38_ok qH1 ho⟩
  | false =>
  cases Nat.beq h.1 39 with
  | true => exact ⟨_, ρ, rfl, Pre.rf, hr39_ok qH1 ho⟩
  | false =>
  cases Nat.beq h.1 40 with
  | true =>
    simp only [cond_true, cond_false]
    split
    · rename_i p r _ _
      cases hv : evk s p && evk s r with
      | false => exact same
      | true =>
        rw [Bool.and_eq_true] at hv
        obtain ⟨z, hz⟩ := evk_ok ho hv.1
        obtain ⟨y, hy⟩ := evk_ok ho hv.2
        exact ⟨_, ρ, rfl, Pre.rf, hr40_ok qH1 hz hy ho⟩
    · exact same
  | false =>
  cases Nat.beq h.1 41 with
  | true => exact ⟨_, ρ, rfl, Pre.rf, hr41_ok qH1 ho⟩
  | false =>
  cases Nat.beq h.1 42 with
  | true => exact ⟨_, ρ, rfl, Pre.rf, hr42_ok qH1 ho⟩
  | false =>
  exact same
theorem hxg_4_ok1 {h : Nat × (Nat × Nat)} {f : Fm} {s : Sy} {ρ : List Int} {σ : zS} (ho : Ok JJ1 s ρ σ) : ∃ s' ρ', hxg_4 h f s = some s' ∧ Pre ρ ρ' ∧ Ok JJ1 s' ρ' σ := by
  have same : ∃ s' ρ', some s = some s' ∧ Pre ρ ρ' ∧ Ok JJ1 s' ρ' σ := ⟨s, ρ, rfl, Pre.rf, ho⟩
  unfold hxg_4
  cases Nat.beq h.1 43 with
  | true => exact ⟨_, ρ, rfl, Pre.rf, hr43_ok qH1 ho⟩
  | false =>
  cases Nat.beq h.1 44 with
  | true => exact ⟨_, ρ, rfl, Pre.rf, hr44_ok ho⟩
  | false =>
  cases Nat.beq h.1 45 with
  | true => exact ⟨_, ρ, rfl, Pre.rf, h45a_ok ho.fa ho ho.fa⟩
  | false =>
  cases Nat.beq h.1 46 with
  | true => exact ⟨_, ρ, rfl, Pre.rf, hr44_ok ho⟩
  | false =>
  cases Nat.beq h.1 50 with
  | true => exact ⟨_, ρ, rfl, Pre.rf, hu50_ok uH1 ho⟩
  | false =>
  cases Nat.beq h.1 51 with
  | true => exact ⟨_, ρ, rfl, Pre.rf, hu51_ok uH1 ho⟩
  | false =>
  cases Nat.beq h.1 52 with
  | true =>
    simp only [cond_true, cond_false]
    split
    · rename_i a _ _
      cases hv : evk s a with
      | false => exact same
      | true =>
        obtain ⟨z, hz⟩ := evk_ok ho hv
        exact ⟨_, ρ, rfl, Pre.rf, hu52_ok uH1 hz ho⟩
    · exact same
  | false =>
  exact same
theorem hxg_5_ok1 {h : Nat × (Nat × Nat)} {f : Fm} {s : Sy} {ρ : List Int} {σ : zS} (ho : Ok JJ1 s ρ σ) : ∃ s' ρ', hxg_5 h f s = some s' ∧ Pre ρ ρ' ∧ Ok JJ1 s' ρ' σ := by
  have same : ∃ s' ρ', some s = some s' ∧ Pre ρ ρ' ∧ Ok JJ1 s' ρ' σ := ⟨s, ρ, rfl, Pre.rf, ho⟩
  unfold hxg_5
  cases Nat.beq h.1 54 with
  | true => exact ⟨_, ρ, rfl, Pre.rf, hu54_ok uH1 ho⟩
  | false =>
  cases Nat.beq h.1 55 with
  | true =>
    obtain ⟨H, i1, i2⟩ := ho.inv
    obtain ⟨ρ', e1, e2⟩ := hu55_ok (bS12 i2.1) ho
    exact ⟨_, ρ', rfl, e1, e2⟩
  | false =>
  cases Nat.beq h.1 56 with
  | true => exact ⟨_, ρ, rfl, Pre.rf, hu56_ok uH1 ho⟩
  | false =>
  cases Nat.beq h.1 57 with
  | true => exact ⟨_, ρ, rfl, Pre.rf, hu57_ok uH1 ho⟩
  | false =>
  cases Nat.beq h.1 58 with
  | true => exact ⟨_, ρ, rfl, Pre.rf, hu58_ok ho⟩
  | false =>
  cases Nat.beq h.1 59 with
  | true =>
    obtain ⟨s', e1, e2⟩ := hu59_ok ho
    exact ⟨s', ρ, e1, Pre.rf, e2⟩
  | false =>
  cases Nat.beq h.1 60 with
  | true =>
    obtain ⟨H, i1, i2⟩ := ho.inv
    obtain ⟨a1, a2⟩ := hsAll_ok (i2.2.2 _ mce1) ho i1
    exact ⟨_, ρ, rfl, Pre.rf, (hsAllL_ok (i2.2.2 _ mcl1) a1 (by rw [a2]; exact i1)).1⟩
  | false =>
  exact same
theorem hxg_6_ok1 {h : Nat × (Nat × Nat)} {f : Fm} {s : Sy} {ρ : List Int} {σ : zS} (ho : Ok JJ1 s ρ σ) : ∃ s' ρ', hxg_6 h f s = some s' ∧ Pre ρ ρ' ∧ Ok JJ1 s' ρ' σ := by
  have same : ∃ s' ρ', some s = some s' ∧ Pre ρ ρ' ∧ Ok JJ1 s' ρ' σ := ⟨s, ρ, rfl, Pre.rf, ho⟩
  unfold hxg_6
  cases Nat.beq h.1 61 with
  | true =>
    show ∃ s' ρ', (match f.st[h.2.2]? with
    | some a => bif evk s a then some (h61 h.2.1 a s) else some s
    | none => some s) = some s' ∧ Pre ρ ρ' ∧ Ok JJ1 s' ρ' σ
    split
    · rename_i a _
      cases hv : evk s a with
      | false => exact same
      | true =>
        obtain ⟨z, hz⟩ := evk_ok ho hv
        exact ⟨_, ρ, rfl, Pre.rf, h61_ok hz ho⟩
    · exact same
  | false =>
  cases Nat.beq h.1 62 with
  | true =>
    show ∃ s' ρ', (match f.st[h.2.2]? with
      | some a => bif evk s a then some (hopL h.2.1 a PE9 s) else some s
      | none => some s) = some s' ∧ Pre ρ ρ' ∧ Ok JJ1 s' ρ' σ
    split
    · rename_i a _
      cases hv : evk s a with
      | false => exact same
      | true =>
        obtain ⟨z, hz⟩ := evk_ok ho hv
        obtain ⟨H, i1, i2⟩ := ho.inv
        exact ⟨_, ρ, rfl, Pre.rf, hopL_ok hz (i2.2.2 _ mce1) ho i1⟩
    · exact same
  | false =>
  cases Nat.beq h.1 63 with
  | true =>
    cases Nat.beq h.2.1 0 with
    | true =>
      obtain ⟨s', e1, e2⟩ := h63_ok mck1 ho
      exact ⟨s', ρ, e1, Pre.rf, e2⟩
    | false =>
      obtain ⟨s', e1, e2⟩ := h63_ok mck21 ho
      exact ⟨s', ρ, e1, Pre.rf, e2⟩
  | false =>
  cases Nat.beq h.1 64 with
  | true =>
    obtain ⟨s', e1, e2⟩ := h64_ok mcn1 ho
    exact ⟨s', ρ, e1, Pre.rf, e2⟩
  | false =>
  cases Nat.beq h.1 70 with
  | true =>
    show ∃ s' ρ', (match lget f.lv h.2.1 with
    | some a => bif evk s a then some (h70 a h.2.2 s) else some s
    | none => some s) = some s' ∧ Pre ρ ρ' ∧ Ok JJ1 s' ρ' σ
    split
    · rename_i a _
      cases hv : evk s a with
      | false => exact same
      | true =>
        obtain ⟨z, hz⟩ := evk_ok ho hv
        exact ⟨_, ρ, rfl, Pre.rf, h70_ok pHb1 hz ho⟩
    · exact same
  | false =>
  cases Nat.beq h.1 71 with
  | true =>
    show ∃ s' ρ', (match lget f.lv h.2.1 with
    | some a => bif evk s a && leAV s (.c 0) a then some (h71 125 128 a s) else some s
    | none => some s) = some s' ∧ Pre ρ ρ' ∧ Ok JJ1 s' ρ' σ
    split
    · rename_i a _
      cases hv : evk s a && leAV s (.c 0) a with
      | false => exact same
      | true =>
        rw [Bool.and_eq_true] at hv
        obtain ⟨z, hz0⟩ := evk_ok ho hv.1
        have g := leAV_ok ho hv.2 (x := 0) rfl hz0
        have hz : ev ρ a = some ((z.toNat : Nat) : Int) := hz0.trans (congrArg some (by omega))
        exact ⟨_, ρ, rfl, Pre.rf, h71_ok pHb1 hz ho⟩
    · exact same
  | false =>
  cases Nat.beq h.1 72 with
  | true =>
    show ∃ s' ρ', (match lget f.lv h.2.1 with
    | some a => bif evk s a && leAV s (.c 0) a then some (h72 125 128 a s) else some s
    | none => some s) = some s' ∧ Pre ρ ρ' ∧ Ok JJ1 s' ρ' σ
    split
    · rename_i a _
      cases hv : evk s a && leAV s (.c 0) a with
      | false => exact same
      | true =>
        rw [Bool.and_eq_true] at hv
        obtain ⟨z, hz0⟩ := evk_ok ho hv.1
        have g := leAV_ok ho hv.2 (x := 0) rfl hz0
        have hz : ev ρ a = some ((z.toNat : Nat) : Int) := hz0.trans (congrArg some (by omega))
        exact ⟨_, ρ, rfl, Pre.rf, h72_ok pHb1 hz ho⟩
    · exact same
  | false =>
  exact same
theorem hxg_7_ok1 {h : Nat × (Nat × Nat)} {f : Fm} {s : Sy} {ρ : List Int} {σ : zS} (ho : Ok JJ1 s ρ σ) : ∃ s' ρ', hxg_7 h f s = some s' ∧ Pre ρ ρ' ∧ Ok JJ1 s' ρ' σ := by
  have same : ∃ s' ρ', some s = some s' ∧ Pre ρ ρ' ∧ Ok JJ1 s' ρ' σ := ⟨s, ρ, rfl, Pre.rf, ho⟩
  unfold hxg_7
  cases Nat.beq h.1 73 with
  | true =>
    show ∃ s' ρ', (match lget f.lv h.2.1 with
    | some a => bif evk s a && leAV s (.c 0) a then h73 125 128 a s else some s
    | none => some s) = some s' ∧ Pre ρ ρ' ∧ Ok JJ1 s' ρ' σ
    split
    · rename_i a _
      cases hv : evk s a && leAV s (.c 0) a with
      | false => exact same
      | true =>
        rw [Bool.and_eq_true] at hv
        obtain ⟨z, hz0⟩ := evk_ok ho hv.1
        have g := leAV_ok ho hv.2 (x := 0) rfl hz0
        have hz : ev ρ a = some ((z.toNat : Nat) : Int) := hz0.trans (congrArg some (by omega))
        obtain ⟨s', e1, e2⟩ := h73_ok mcb1 hz ho
        exact ⟨s', ρ, e1, Pre.rf, e2⟩
    · exact same
  | false =>
  cases Nat.beq h.1 74 with
  | true =>
    obtain ⟨s', e1, e2⟩ := h74_ok mcb1 ho
    exact ⟨s', ρ, e1, Pre.rf, e2⟩
  | false =>
  cases Nat.beq h.1 75 with
  | true =>
    exact ⟨_, ρ, rfl, Pre.rf, h75_ok pHb1 ho⟩
  | false =>
  cases Nat.beq h.1 76 with
  | true =>
    exact ⟨_, ρ, rfl, Pre.rf, h76_ok pHb1 ho⟩
  | false =>
  cases Nat.beq h.1 80 with
  | true =>
    show ∃ s' ρ', (match f.st with
    | a :: _ => bif evk s a then some (h80 110 26 a s) else some s
    | [] => some s) = some s' ∧ Pre ρ ρ' ∧ Ok JJ1 s' ρ' σ
    split
    · rename_i a _ _
      cases hv : evk s a with
      | false => exact same
      | true =>
        obtain ⟨z, hz⟩ := evk_ok ho hv
        obtain ⟨ρ', e1, e2⟩ := h80_ok TJ_wf CS_ok1 mct1 (fun c q t ht e => uT1 c q t (by omega) (by omega) e) hz ho
        exact ⟨_, ρ', rfl, e1, e2⟩
    · exact same
  | false =>
  cases Nat.beq h.1 81 with
  | true =>
    obtain ⟨s', e1, e2⟩ := h81_ok mct1 ho
    exact ⟨s', ρ, e1, Pre.rf, e2⟩
  | false =>
  cases Nat.beq h.1 82 with
  | true =>
    obtain ⟨s', e1, e2⟩ := h82_ok mct1 (fun hb hn => hP0 hb hn) ho
    exact ⟨s', ρ, e1, Pre.rf, e2⟩
  | false =>
  exact same
theorem hxg_8_ok1 {h : Nat × (Nat × Nat)} {f : Fm} {s : Sy} {ρ : List Int} {σ : zS} (ho : Ok JJ1 s ρ σ) : ∃ s' ρ', hxg_8 h f s = some s' ∧ Pre ρ ρ' ∧ Ok JJ1 s' ρ' σ := by
  have same : ∃ s' ρ', some s = some s' ∧ Pre ρ ρ' ∧ Ok JJ1 s' ρ' σ := ⟨s, ρ, rfl, Pre.rf, ho⟩
  unfold hxg_8
  cases Nat.beq h.1 83 with
  | true =>
    show ∃ s' ρ', (match f.st with
    | a :: _ => bif evk s a then some (h83 a s) else some s
    | [] => some s) = some s' ∧ Pre ρ ρ' ∧ Ok JJ1 s' ρ' σ
    split
    · rename_i a _ _
      cases hv : evk s a with
      | false => exact same
      | true =>
        obtain ⟨z, hz⟩ := evk_ok ho hv
        exact ⟨_, ρ, rfl, Pre.rf, h83_ok pHo1 hz ho⟩
    · exact same
  | false =>
  cases Nat.beq h.1 84 with
  | true =>
    show ∃ s' ρ', (match f.st with
    | a :: _ => bif evk s a then some (h84 125 a s) else some s
    | [] => some s) = some s' ∧ Pre ρ ρ' ∧ Ok JJ1 s' ρ' σ
    split
    · rename_i a _ _
      cases hv : evk s a with
      | false => exact same
      | true =>
        obtain ⟨z, hz⟩ := evk_ok ho hv
        exact ⟨_, ρ, rfl, Pre.rf, h84_ok pHo1 hz ho⟩
    · exact same
  | false =>
  cases Nat.beq h.1 85 with
  | true =>
    exact ⟨_, ρ, rfl, Pre.rf, h85_ok pHo1 ho⟩
  | false =>
  cases Nat.beq h.1 86 with
  | true =>
    exact ⟨_, ρ, rfl, Pre.rf, h86_ok pHo1 mct1 ho⟩
  | false =>
  cases Nat.beq h.1 87 with
  | true =>
    show ∃ s' ρ', (match f.st with
    | a :: _ => bif evk s a then some (h87 125 a s) else some s
    | [] => some s) = some s' ∧ Pre ρ ρ' ∧ Ok JJ1 s' ρ' σ
    split
    · rename_i a _ _
      cases hv : evk s a with
      | false => exact same
      | true =>
        obtain ⟨z, hz⟩ := evk_ok ho hv
        exact ⟨_, ρ, rfl, Pre.rf, h87_ok pHo1 hz ho⟩
    · exact same
  | false =>
  cases Nat.beq h.1 88 with
  | true =>
    show ∃ s' ρ', (match f.st with
    | a :: _ => bif evk s a then some (h88 125 a s) else some s
    | [] => some s) = some s' ∧ Pre ρ ρ' ∧ Ok JJ1 s' ρ' σ
    split
    · rename_i a _ _
      cases hv : evk s a with
      | false => exact same
      | true =>
        obtain ⟨z, hz⟩ := evk_ok ho hv
        exact ⟨_, ρ, rfl, Pre.rf, h88_ok pHo1 hz ho⟩
    · exact same
  | false =>
  cases Nat.beq h.1 89 with
  | true =>
    obtain ⟨s', e1, e2⟩ := h89_ok mco1 ho
    exact ⟨s', ρ, e1, Pre.rf, e2⟩
  | false =>
  exact same
theorem hxg_9_ok1 {h : Nat × (Nat × Nat)} {f : Fm} {s : Sy} {ρ : List Int} {σ : zS} (ho : Ok JJ1 s ρ σ) : ∃ s' ρ', hxg_9 h f s = some s' ∧ Pre ρ ρ' ∧ Ok JJ1 s' ρ' σ := by
  have same : ∃ s' ρ', some s = some s' ∧ Pre ρ ρ' ∧ Ok JJ1 s' ρ' σ := ⟨s, ρ, rfl, Pre.rf, ho⟩
  unfold hxg_9
  cases Nat.beq h.1 90 with
  | true =>
    obtain ⟨s', e1, e2⟩ := h90_ok mco1 ho
    exact ⟨s', ρ, e1, Pre.rf, e2⟩
  | false =>
  cases Nat.beq h.1 92 with
  | true =>
    exact ⟨_, ρ, rfl, Pre.rf, h92_ok pHo1 ho⟩
  | false =>
  cases Nat.beq h.1 150 with
  | true =>
    obtain ⟨s', e1, e2⟩ := h150_ok mcv1 ho
    exact ⟨s', ρ, e1, Pre.rf, e2⟩
  | false =>
  cases Nat.ble 300 h.1 with
  | true =>
    show ∃ s' ρ', (match RGT.get h.1 with
      | some R => ruA RWg R (f.lv, (f.st, (.c 0, .c 0))) s
      | none => some s) = some s' ∧ Pre ρ ρ' ∧ Ok JJ1 s' ρ' σ
    split
    · rename_i R hR
      obtain ⟨q1, q2⟩ := RGT_ok.at hR
      exact ruA_ok pHR1 q1 q2 rfl ho
    · exact same
  | false =>
  exact same
theorem GX_H1 : HOk GX1 JJ1 := by
  intro h f s ρ σ ho
  show ∃ s' ρ', hxT h f s = some s' ∧ Pre ρ ρ' ∧ Ok JJ1 s' ρ' σ
  unfold hxT
  cases Nat.ble h.1 16 with
  | true => rw [cond_true]; exact hxg_0_ok1 ho
  | false =>
  rw [cond_false]
  cases Nat.ble h.1 25 with
  | true => rw [cond_true]; exact hxg_1_ok1 ho
  | false =>
  rw [cond_false]
  cases Nat.ble h.1 35 with
  | true => rw [cond_true]; exact hxg_2_ok1 ho
  | false =>
  rw [cond_false]
  cases Nat.ble h.1 42 with
  | true => rw [cond_true]; exact hxg_3_ok1 ho
  | false =>
  rw [cond_false]
  cases Nat.ble h.1 52 with
  | true => rw [cond_true]; exact hxg_4_ok1 ho
  | false =>
  rw [cond_false]
  cases Nat.ble h.1 60 with
  | true => rw [cond_true]; exact hxg_5_ok1 ho
  | false =>
  rw [cond_false]
  cases Nat.ble h.1 72 with
  | true => rw [cond_true]; exact hxg_6_ok1 ho
  | false =>
  rw [cond_false]
  cases Nat.ble h.1 82 with
  | true => rw [cond_true]; exact hxg_7_ok1 ho
  | false =>
  rw [cond_false]
  cases Nat.ble h.1 89 with
  | true => rw [cond_true]; exact hxg_8_ok1 ho
  | false =>
  rw [cond_false]
  exact hxg_9_ok1 ho
theorem nil_S1 {H : List (Nat × Int)} {σ : zS} (hb : ∀ e ∈ H, 100 ≤ e.1 ∧ e.1 < 330) : ∀ c ∈ CS1, c.S H σ → c.S [] σ := by
  intro c hc hS
  rcases List.mem_cons.mp hc with rfl | hc
  · intro z hz; cases hz
  rcases List.mem_cons.mp hc with rfl | hc
  · intro z hz; cases hz
  rcases List.mem_cons.mp hc with rfl | hc
  · intro z hz; cases hz
  rcases List.mem_cons.mp hc with rfl | hc
  · exact hS
  rcases List.mem_cons.mp hc with rfl | hc
  · exact (CS_ok1 _ mcg1).dep H [] σ σ (fun u hu => by
    have hu : (Nat.beq u 330 || Nat.beq u 331) = true := hu
    rw [Bool.or_eq_true] at hu
    rcases hu with hu | hu <;> rw [Nat.eq_of_beq_eq_true hu, low_nil hb (by decide)] <;> rfl) (fun _ _ => rfl) hS
  rcases List.mem_cons.mp hc with rfl | hc
  · obtain ⟨s1, s2, s3, s4, s5⟩ := (hS : tS 125 110 20 26 H σ)
    exact ⟨fun h0 => (by obtain ⟨r, a1, _⟩ := s1 h0; exact ⟨r, a1, fun x n a => (by cases a)⟩), s2, fun _ => s3 (low_nil hb (by decide)), s4, fun q t x a => (by cases a)⟩
  rcases List.mem_cons.mp hc with rfl | hc
  · obtain ⟨s0, sz, s8, s7, s5, s6⟩ := (hS : qS QQ H σ)
    exact ⟨s0, fun _ => sz (low_nil hb (by decide)), fun P q => (by cases q), fun f e h w B N P q => (by cases q), fun r q => (by cases q), fun k t h q => (by cases q)⟩
  rcases List.mem_cons.mp hc with rfl | hc
  · exact ⟨fun T q => (by cases q), fun T z q => (by cases q)⟩
  rcases List.mem_cons.mp hc with rfl | hc
  · exact (CS_ok1 _ mce1).dep H [] σ σ (fun u hu => by
    have hu := etg_rg hu
    rw [low_nil hb (Or.inr (by omega))]
    rfl) (fun _ _ => rfl) hS
  rcases List.mem_cons.mp hc with rfl | hc
  · exact (CS_ok1 _ mcl1).dep H [] σ σ (fun u hu => by
    have hu := ltg_rg hu
    rw [low_nil hb (Or.inr (by omega))]
    rfl) (fun _ _ => rfl) hS
  rcases List.mem_cons.mp hc with rfl | hc
  · exact hS
  rcases List.mem_cons.mp hc with rfl | hc
  · exact hS
  rcases List.mem_cons.mp hc with rfl | hc
  · exact (CS_ok1 _ mcb1).dep H [] σ σ (fun u hu => by
    have hu := btg_rg hu
    rw [low_nil hb (Or.inr (by omega))]
    rfl) (fun _ _ => rfl) hS
  rcases List.mem_cons.mp hc with rfl | hc
  · exact (CS_ok1 _ mco1).dep H [] σ σ (fun u hu => by
    have hu := otg_rg hu
    rw [low_nil hb (Or.inr (by omega))]
    rfl) (fun _ _ => rfl) hS
  rcases List.mem_cons.mp hc with rfl | hc
  · exact hS
  rcases List.mem_cons.mp hc with rfl | hc
  · exact (CS_ok1 _ mcv1).dep H [] σ σ (fun u hu => by
    have hu := vtg_rg hu
    rw [low_nil hb (Or.inr (by omega))]
    rfl) (fun _ _ => rfl) hS
  rcases List.mem_cons.mp hc with rfl | hc
  · exact (CS_ok1 _ mcR1).dep H [] σ σ (fun u hu => by
    have hu := rtg_rg hu
    rw [low_nil hb (Or.inr (by omega))]
    rfl) (fun _ _ => rfl) hS
  · cases hc
theorem ctF1 {H : List (Nat × Int)} {σ σ' : zS} (hb : ∀ e ∈ H, 100 ≤ e.1 ∧ e.1 < 330) (hJ : JJ1 H σ) (hJ' : JJ1 [] σ') (hr : ∀ e ∈ H, ∀ k, trT e.1 k = true → σ'.1 k = σ.1 k ∧ σ'.2 k = σ.2 k) : (ctr 125 110 20 26).S H σ' := by
  by_cases h : ∀ t, 300 ≤ t → t ≤ 304 → lk H t = none
  · refine (CS_ok1 _ mct1).dep [] H σ' σ' (fun u hu => ?_) (fun _ _ => rfl) (hJ'.2.2 _ mct1)
    have hu : ((Nat.ble 300 u && Nat.ble u 304) || Nat.beq u 340) = true := hu
    rw [Bool.or_eq_true, Bool.and_eq_true] at hu
    rcases hu with ⟨u1, u2⟩ | u1
    · rw [h u (Nat.le_of_ble_eq_true u1) (Nat.le_of_ble_eq_true u2)]; rfl
    · rw [Nat.eq_of_beq_eq_true u1, low_nil hb (by decide)]; rfl
  · have hx : ∃ t z, 300 ≤ t ∧ t ≤ 304 ∧ lk H t = some z := Classical.byContradiction fun hn => h fun t h1 h2 => by
      cases hl : lk H t with
      | none => rfl
      | some z => exact absurd ⟨t, z, h1, h2, hl⟩ hn
    obtain ⟨t, z, h1, h2, hl⟩ := hx
    have rk9 := hr _ (lk_mem hl) 125 (by
      show trT t 125 = true
      unfold trT
      rw [Nat.ble_eq_true_of_le h1, Nat.ble_eq_true_of_le h2]
      simp)
    replace rk9 := rk9.1
    have rp : Pp σ' 125 = Pp σ 125 := by funext y; show (σ'.1 125 y).toInt = _; rw [rk9]
    obtain ⟨s1, s2, s3, s4, s5⟩ := (hJ.2.2 _ mct1 : tS 125 110 20 26 H σ)
    obtain ⟨t1, t2, t3, t4, t5⟩ := (hJ'.2.2 _ mct1 : tS 125 110 20 26 [] σ')
    exact ⟨by rw [rp]; exact s1, t2, fun _ => t3 rfl, t4, by rw [rp]; exact s5⟩
theorem crF1 {H : List (Nat × Int)} {σ σ' : zS} (hb : ∀ e ∈ H, 100 ≤ e.1 ∧ e.1 < 330) (hJ : JJ1 H σ) (hJ' : JJ1 [] σ') (hr : ∀ e ∈ H, ∀ k, trT e.1 k = true → σ'.1 k = σ.1 k ∧ σ'.2 k = σ.2 k) : (cr QQ).S H σ' := by
  obtain ⟨s0, sz, s8, s7, s5, s6⟩ := (hJ.2.2 _ mcr1 : qS QQ H σ)
  obtain ⟨t0, tz, _, _, _, _⟩ := (hJ'.2.2 _ mcr1 : qS QQ [] σ')
  refine ⟨t0, fun _ => tz rfl, fun P q => ?_, fun f e h w B N P q1 q2 q3 q4 q5 q6 q7 => ?_, fun r q => ?_, fun k t h q1 q2 q3 => ?_⟩
  · rw [low_nil hb (by decide)] at q
    cases q
  · have m := lk_mem q1
    rw [Pp_eq (k := QQ.c) (hr _ m _ rfl).1, Pp_eq (k := QQ.s) (hr _ m _ rfl).1, Pp_eq (k := QQ.e) (hr _ m _ rfl).1, Pp_eq (k := QQ.w) (hr _ m _ rfl).1]
    exact s7 f e h w B N P q1 q2 q3 q4 q5 q6 q7
  · have m := lk_mem q
    rw [Pp_eq (k := QQ.c) (hr _ m _ rfl).1, Pp_eq (k := QQ.s) (hr _ m _ rfl).1, Pp_eq (k := QQ.e) (hr _ m _ rfl).1]
    exact s5 r q
  · have m := lk_mem q1
    rw [Pp_eq (k := QQ.c) (hr _ m _ rfl).1]
    exact s6 k t h q1 q2 q3
theorem cuF1 {H : List (Nat × Int)} {σ σ' : zS} (hJ : JJ1 H σ) (hr : ∀ e ∈ H, ∀ k, trT e.1 k = true → σ'.1 k = σ.1 k ∧ σ'.2 k = σ.2 k) : (cu 24 25 26).S H σ' := by
  obtain ⟨s1, s2⟩ := (hJ.2.2 _ mcu1 : uS 24 25 26 H σ)
  refine ⟨fun T q i hi => ?_, fun T z q hz i hi => ?_⟩
  · have m := lk_mem q
    have := s1 T q i hi
    unfold uN at this ⊢
    rw [(hr _ m 25 rfl).1, (hr _ m 24 rfl).1, (hr _ m 26 rfl).2]
    exact this
  · have m := lk_mem q
    have := s2 T z q hz i hi
    unfold uN at this ⊢
    rw [(hr _ m 25 rfl).1, (hr _ m 24 rfl).1, (hr _ m 26 rfl).2]
    exact this
theorem GX_F1 : JFr GX1 JJ1 := by
  refine ⟨fun H σ hb hJ => ⟨hJ.1, fun r R hr j hj _ => hJ.2.1 r R hr j hj (by rw [low_nil hb (Or.inl (wf_row TJ_wf hr).1)]; intro q; cases q), fun c q => nil_S1 hb c q (hJ.2.2 c q)⟩, fun H σ σ' hb hJ hJ' hr => ⟨hJ'.1, fun r R hr j hj _ => hJ'.2.1 r R hr j hj (by intro q; cases q), ?_⟩, ?_⟩
  · have one : ∀ c ∈ CS1, ∀ t k : Nat, (∀ u, c.tg u = Nat.beq u t) → (∀ u, c.rw u = Nat.beq u k) → (∀ u, c.lr u = false) → trT t k = true → c.S H σ' := by
      intro c q t k h1 h2 h4 h3
      cases hl : lk H t with
      | none => exact (CS_ok1 c q).dep [] H σ' σ' (fun u hu => by rw [h1] at hu; rw [Nat.eq_of_beq_eq_true hu, hl]; rfl) (fun _ _ => rfl) (hJ'.2.2 c q)
      | some x => exact (CS_ok1 c q).dep H H σ σ' (fun _ _ => rfl) (fun u hu => by rw [h2] at hu; rw [Nat.eq_of_beq_eq_true hu]; exact (hr _ (lk_mem hl) k h3).1) (hJ.2.2 c q) (fun u hu => by rw [h4] at hu; cases hu)
    intro c hc0
    have hc := hc0
    rcases List.mem_cons.mp hc with rfl | hc
    · exact one _ hc0 310 120 (fun _ => rfl) (fun _ => rfl) (fun _ => rfl) rfl
    rcases List.mem_cons.mp hc with rfl | hc
    · exact one _ hc0 311 201 (fun _ => rfl) (fun _ => rfl) (fun _ => rfl) rfl
    rcases List.mem_cons.mp hc with rfl | hc
    · exact one _ hc0 320 196 (fun _ => rfl) (fun _ => rfl) (fun _ => rfl) rfl
    rcases List.mem_cons.mp hc with rfl | hc
    · exact hJ'.2.2 _ mcf1
    rcases List.mem_cons.mp hc with rfl | hc
    · exact (CS_ok1 _ mcg1).dep [] H σ' σ' (fun u hu => by
        have hu : (Nat.beq u 330 || Nat.beq u 331) = true := hu
        rw [Bool.or_eq_true] at hu
        rcases hu with hu | hu <;> rw [Nat.eq_of_beq_eq_true hu, low_nil hb (by decide)] <;> rfl) (fun _ _ => rfl) (hJ'.2.2 _ mcg1)
    rcases List.mem_cons.mp hc with rfl | hc
    · exact ctF1 hb hJ hJ' hr
    rcases List.mem_cons.mp hc with rfl | hc
    · exact crF1 hb hJ hJ' hr
    rcases List.mem_cons.mp hc with rfl | hc
    · exact cuF1 hJ hr
    rcases List.mem_cons.mp hc with rfl | hc
    · exact (CS_ok1 _ mce1).dep [] H σ' σ' (fun u hu => by
        have hu := etg_rg hu
        rw [low_nil hb (Or.inr (by omega))]
        rfl) (fun _ _ => rfl) (hJ'.2.2 _ mce1)
    rcases List.mem_cons.mp hc with rfl | hc
    · exact (CS_ok1 _ mcl1).dep [] H σ' σ' (fun u hu => by
        have hu := ltg_rg hu
        rw [low_nil hb (Or.inr (by omega))]
        rfl) (fun _ _ => rfl) (hJ'.2.2 _ mcl1)
    rcases List.mem_cons.mp hc with rfl | hc
    · exact hJ'.2.2 _ mck1
    rcases List.mem_cons.mp hc with rfl | hc
    · exact hJ'.2.2 _ mcn1
    rcases List.mem_cons.mp hc with rfl | hc
    · exact (CS_ok1 _ mcb1).dep [] H σ' σ' (fun u hu => by
        have hu := btg_rg hu
        rw [low_nil hb (Or.inr (by omega))]
        rfl) (fun _ _ => rfl) (hJ'.2.2 _ mcb1)
    rcases List.mem_cons.mp hc with rfl | hc
    · exact (CS_ok1 _ mco1).dep [] H σ' σ' (fun u hu => by
        have hu := otg_rg hu
        rw [low_nil hb (Or.inr (by omega))]
        rfl) (fun _ _ => rfl) (hJ'.2.2 _ mco1)
    rcases List.mem_cons.mp hc with rfl | hc
    · exact hJ'.2.2 _ mck21
    rcases List.mem_cons.mp hc with rfl | hc
    · exact (CS_ok1 _ mcv1).dep [] H σ' σ' (fun u hu => by
        have hu := vtg_rg hu
        rw [low_nil hb (Or.inr (by omega))]
        rfl) (fun _ _ => rfl) (hJ'.2.2 _ mcv1)
    rcases List.mem_cons.mp hc with rfl | hc
    · exact (CS_ok1 _ mcR1).dep [] H σ' σ' (fun u hu => by
        have hu := rtg_rg hu
        rw [low_nil hb (Or.inr (by omega))]
        rfl) (fun _ _ => rfl) (hJ'.2.2 _ mcR1)
    · cases hc
  · intro t k h
    have h : trT t k = true := h
    unfold trT at h
    simp only [Bool.or_eq_true, Bool.and_eq_true] at h
    rcases h with ⟨_, h⟩ | ⟨_, h⟩ | ⟨_, h⟩ | ⟨_, h⟩ | ⟨_, h⟩ | ⟨_, h⟩
    · rw [Nat.eq_of_beq_eq_true h]; decide +kernel
    · rw [Nat.eq_of_beq_eq_true h]; decide +kernel
    · rw [Nat.eq_of_beq_eq_true h]; decide +kernel
    · rw [Nat.eq_of_beq_eq_true h]; decide +kernel
    · rcases h with h | h | h | h <;> rw [Nat.eq_of_beq_eq_true h] <;> decide +kernel
    · rcases h with h | h | h <;> rw [Nat.eq_of_beq_eq_true h] <;> decide +kernel
theorem GX_G1 : GxOk Yf GX1 := G_ok _ _ _ _
end
