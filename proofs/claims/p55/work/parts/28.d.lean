noncomputable section
/-! ===== String.checkIndex ===== -/
noncomputable def Y_JP_checkIndex : xY := (⟨"jdk/internal/util/Preconditions", "checkIndex", "(IILjava/util/function/BiFunction;)I"⟩, (prog_22_method_11_code, (3, ((Option.some FieldType.int), { frames := 1, cells := 0, slots := 0, locals := 40 }))))
theorem z_checkIndex {E : xV} {σ : zS} {x y : Int32} {K : zKt} (h0 : ¬ x < 0) (h1 : x < y) (k : K none σ) : Cz E Y_JS_checkIndex [.int x, .int y] σ K := by
  refine z_entry (by decide) (fun a => by rw [sl_len]; exact Nat.le_refl 2) rfl ?_
  refine z_iload_n (f := 0) (i := 0) (q := 0) (pc' := 1) ⟨by decide +kernel, rfl⟩ rfl rfl ?_
  refine z_iload_n (f := 1) (i := 1) (q := 1) (pc' := 2) ⟨by decide +kernel, rfl⟩ rfl rfl ?_
  refine z_getsF (idx := 1053) (pc' := 5) k_4_207 ⟨by decide +kernel, rfl⟩ ?_
  intro v hv
  refine z_invS (Z := Y_JP_checkIndex) (idx := 1059) (As := [.int x, .int y, v]) (rest := []) (nA := 3) (pc' := 8) ⟨k_5_25, k_1_19, k_5_27, by decide, by decide, by decide +kernel⟩ k_5_26 ⟨⟨by decide, by decide⟩, rfl, rfl⟩ ⟨by decide +kernel, rfl⟩ rfl rfl (Nat.zero_le _) rfl rfl ?_
  have key : Wz E Y_JP_checkIndex 0 [(0, .int x), (1, .int y), (2, v)] [] σ (fun v σ' => Wz E Y_JS_checkIndex 8 [(0, .int x), (1, .int y)] (v.toList ++ []) σ' K) := by
    refine z_iload_n (f := 0) (i := 0) (q := 0) (pc' := 1) ⟨by decide +kernel, rfl⟩ rfl rfl ?_
    refine z_if_lt (off := 8) (tgt := 9) (pc' := 4) ⟨by decide +kernel, rfl, rfl⟩ (fun h => absurd h h0) (fun _ => ?_)
    refine z_iload_n (f := 0) (i := 0) (q := 0) (pc' := 5) ⟨by decide +kernel, rfl⟩ rfl rfl ?_
    refine z_iload_n (f := 1) (i := 1) (q := 1) (pc' := 6) ⟨by decide +kernel, rfl⟩ rfl rfl ?_
    refine z_icmp_lt (off := 10) (tgt := 16) (pc' := 9) ⟨by decide +kernel, rfl, rfl⟩ (fun _ => ?_) (fun h => absurd h1 h)
    refine z_iload_n (f := 0) (i := 0) (q := 0) (pc' := 17) ⟨by decide +kernel, rfl⟩ rfl rfl ?_
    refine z_iret (ty := .int) rfl rfl (by decide +kernel) ?_
    show Wz E Y_JS_checkIndex 8 [(0, .int x), (1, .int y)] [.int x] σ K
    refine z_popi (pc' := 9) ⟨by decide +kernel, rfl⟩ ?_
    exact z_vret rfl (by decide +kernel) k
  rcases hv with rfl | rfl
  · exact z_entry (by decide) (fun a => by rw [sl_len]; exact Nat.le_refl 3) rfl key
  · exact z_entry (by decide) (fun a => by rw [sl_len]; exact Nat.le_refl 3) rfl key
noncomputable def ct_JS_checkIndex : Ct := ([.i 0 0, .i 1 0], (([false, false], ([(0, [(0, 2147483647)]), (1, [(-2147483648, 2147483647)])], ([], ([([(0, 1), (1, -1)], -1)], ([], []))))), ([([], ([false, false], ([(0, [(0, 2147483647)]), (1, [(-2147483648, 2147483647)])], ([], ([([(0, 1), (1, -1)], -1)], ([], []))))))], ([], ([], ([], ([], (1, ([], (0, ([], 0)))))))))))
theorem ck_checkIndex {E : xV} {G : Gx} {J : Jt} : CtOk E Yf G J 76 ct_JS_checkIndex := by
  intro ρ' σ av hko ha
  obtain ⟨w1, v1, rfl, h1, hs1⟩ := Rs.cons ha
  obtain ⟨w2, v2, rfl, h2, hs2⟩ := Rs.cons hs1
  cases Rs.nil hs2
  obtain ⟨x, rfl, hx⟩ := Rv.int h1 rfl
  obtain ⟨y, rfl, hy⟩ := Rv.int h2 rfl
  have g : ∀ {i : Nat} {x : Int}, ev ρ' (.i i 0) = some x → ρ'[i]? = some x := by
    intro i x h
    simp only [ev] at h
    cases hq : ρ'[i]? with
    | none => rw [hq] at h; cases h
    | some z => rw [hq] at h; have := Option.some.inj h; rw [show z = x by omega]
  have a1 := leq_ok hko.1 (f := [(0, -1)]) (c := 0) (by decide +kernel) (v := -1 * x.toInt + 0) (by simp only [tvo, g hx])
  have a2 := leq_ok hko.1 (f := [(0, 1), (1, -1)]) (c := -1) (by decide +kernel) (v := 1 * x.toInt + (-1 * y.toInt + 0)) (by simp only [tvo, g hx, g hy])
  have ez : (0 : Int32).toInt = 0 := by decide
  have ey : Yf 76 = Y_JS_checkIndex := rfl
  rw [ey]
  exact z_checkIndex (fun q => by have := Int32.lt_iff_toInt_lt.mp q; omega) (Int32.lt_iff_toInt_lt.mpr (by omega)) ⟨Fr.rf, _, List.mem_cons_self .., ρ', Pre.rf, hko, trivial⟩
end
