/-! ===== a contract may promise less ===== -/
theorem Cx.mono {E : xV} {Y : xY} {av : List Value} {n : Nat} {σ : xS} {K K' : xK} (h : Cx E Y av n σ K) (hk : ∀ v n' σ', K v n' σ' → K' v n' σ') : Cx E Y av n σ K' := by
  intro a
  refine MetFree.mono (h a) (fun _ _ q => q) (fun _ _ _ _ _ q => q) ?_
  intro a1 st o t _ ⟨⟨v, n', σ', a', h1, h2, h3, h4, h5, h6⟩, hL⟩
  exact ⟨⟨v, n', σ', a', h1, h2, h3, hk _ _ _ h4, h5, h6⟩, hL⟩
