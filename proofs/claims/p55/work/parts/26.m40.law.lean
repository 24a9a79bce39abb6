/-! ===== the law's own frame: its script is text 21 of the constant ones ===== -/
noncomputable def YL : xY := (⟨"RightsHouseLaw", "law", "([I)Z"⟩, (code, (4, (ret, room_1))))
noncomputable def QL (E : xV) (bS L : Nat) (xs : Nat → Int32) : xQQ := (fun R args s => R = room_1 ∧ args = #[Value.ref bS] ∧ va_X bS L xs s s.heap ∧ bS < E.2.2.1 ∧ E.2.2.2.1 21 = bS ∧ s.heap.size = E.2.2.1, fun below args s _ _ => lw_Z below args s)
section LW
variable {E : xV} {pc pc' n cs ss : Nat} {lv lv' : List (Nat × Value)} {st : List Value} {σ : xS} {bS L : Nat} {xs : Nat → Int32}
theorem l_st {a : Nat → Nat} {st : List Value} (h : ∀ i, a (1000 + i) = E.2.2.2.1 i) (h1 : E.2.2.2.1 21 = bS) : (Value.ref 1021 :: st).map (xrel a) = Value.ref bS :: st.map (xrel a) := by
  have : a 1021 = bS := (h 21).trans h1
  simp only [List.map_cons, xrel]
  rw [this]
theorem l_len (d : decode code pc = .ok (.arraylength, 1) ∧ pc + 1 = pc') (k : Wx E YL pc' lv (.int (Int32.ofNat L) :: st) n cs ss σ (QL E bS L xs)) : Wx E YL pc lv (.ref 1021 :: st) n cs ss σ (QL E bS L xs) := by
  obtain ⟨d, rfl⟩ := d
  intro p e R s m args below meth c H locs ls a0 n0 a hC hn hg hH hS hl
  obtain ⟨-, -, -, -, -, -, hX, hb1, hb2, hb3⟩ := hC.2.2.2.2.2.2.2.2.2.2
  rw [l_st hH.2.2.2.1.2 hb2]
  exact va_slen (A := fun q => E.2.2.1 ≤ q) hC.1 hC.2.1 hX (by omega) (Nat.not_le.mpr hb1) hS d (k p e R s m args below meth c H locs ls a0 n0 a hC hn hg hH hS hl)
theorem l_ld {i : Int32} (hi : vp_in i L) (d : decode code pc = .ok (.iaload, 1) ∧ pc + 1 = pc') (k : Wx E YL pc' lv (.int (xs i.toNatClampNeg) :: st) n cs ss σ (QL E bS L xs)) : Wx E YL pc lv (.int i :: .ref 1021 :: st) n cs ss σ (QL E bS L xs) := by
  obtain ⟨d, rfl⟩ := d
  intro p e R s m args below meth c H locs ls a0 n0 a hC hn hg hH hS hl
  obtain ⟨-, -, -, -, -, -, hX, hb1, hb2, hb3⟩ := hC.2.2.2.2.2.2.2.2.2.2
  have e1 : (Value.int i :: Value.ref 1021 :: st).map (xrel a) = Value.int i :: Value.ref bS :: st.map (xrel a) := congrArg (Value.int i :: ·) (l_st hH.2.2.2.1.2 hb2)
  rw [e1]
  exact va_sld (A := fun q => E.2.2.1 ≤ q) hC.1 hC.2.1 hX (by omega) (Nat.not_le.mpr hb1) hS hi d (k p e R s m args below meth c H locs ls a0 n0 a hC hn hg hH hS hl)
theorem l_ret (d : decode code pc = .ok (.ireturn, 1)) (h1 : cs ≤ 600000) (h2 : ss ≤ 7302250) : Wx E YL pc lv [.int 1] n cs ss σ (QL E bS L xs) := by
  intro p e R s m args below meth c H locs ls a0 n0 a hC hn hg hH hS hl
  obtain ⟨-, -, -, -, hR, hargs, hX, hb1, hb2, hb3⟩ := hC.2.2.2.2.2.2.2.2.2.2
  subst hR
  subst hargs
  refine va_forget (fun q hq => ?_) ?_
  · have := hS.2.2 q hq
    omega
  · exact W.widen h1 h2 (lw_ret hC.1 hC.2.1 hC.2.2.1 hC.2.2.2.2.2.2.1 d)
theorem l_invV {Z : xY} {σ : zS} {K : xQQ} {idx kb ci : Nat} {As rest : List Value} {l : List Nat} {nA : Nat} (hM : xM YL.1.cls idx Z nA) (hin : Cond.instanceMethod Z.1 ∈ TBg) (hsel : Cond.selects Z.1.cls Z.1 Z.1 ∈ TBg) (hk : kb < 215) (hd : KD kb = (ci, l)) (hc : ci < 100) (hcn : (cls[ci]?.map fun q => q.1) = some Z.1.cls) (hrm : zRm YL Z) (hcs : cs ≤ 600000 ∧ ss ≤ 7302250) (d : decode code pc = .ok (.invokevirtual idx, 3) ∧ pc + 3 = pc') (hA : As.length = nA) (hst : st = As.reverse ++ .ref kb :: rest) (hcat : (rest.map fun v => v.category).sum ≤ 8) (hlv : (lv.all fun q => xokv 215 q.2) = true) (hrs : (rest.all (xokv 215)) = true)
    (kk : Cz E Z (.ref kb :: As) σ (fun v σ' => Wx E YL pc' lv (v.toList ++ rest) 215 cs ss (zx σ') K)) : Wx E YL pc lv st 215 cs ss (zx σ) K := by
  refine y_invV hM hin hsel hk hd hc hcn d hA hst ⟨hrm.1, ?_, ?_⟩ hcat hlv hrs (Cx.mono kk ?_)
  · rw [hrm.2.1]; exact hcs.1
  · rw [hrm.2.2]; exact hcs.2
  · intro v n' s' ⟨h1, σ1, h2, h3⟩
    subst h1
    subst h2
    rw [hrm.2.1, hrm.2.2]
    exact h3
end LW
