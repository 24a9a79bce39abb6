/-! ===== what lies there from the start: words, statics, the row of ranks ===== -/
theorem xB.old {E : xV} {H : Heap} (h : xB E H) : ∀ a : Nat, a < E.2.2.2.2.size → ¬ (E.2.2.1 ≤ a) → H[a]? = E.2.2.2.2[a]? := fun a _ ha => h.2 a (Nat.not_le.mp ha)
section XF
variable {E : xV} {Y : xY} {pc pc' : Nat} {lv : List (Nat × Value)} {st : List Value} {n cs ss : Nat} {σ : xS} {K : xQQ}
theorem x_getsC {idx : Nat} (hl : Cond.fieldLink Y.1.cls idx "java/lang/String" "COMPACT_STRINGS" "Z" ∈ TBg) (d : decode Y.2.1 pc = .ok (.getstatic idx, 3)) (k : Wx E Y (pc + 3) lv (.int 1 :: st) n cs ss σ K) : Wx E Y pc lv st n cs ss σ K := by
  intro p e R s m args below meth c H locs ls a0 n0 a hC hn hg hH hS hlv
  have hz := hC.2.2.2.2.2.2.2.2.1.2.2.2.2.1.kept hC.2.2.2.2.2.2.2.2.2.1.old
  exact va_gets (v := .int 1) hC.1 hC.2.1 hz hS hC.2.2.2.2.1 (hC.2.2.2.2.2.1 _ hl) (fun _ h => h) d (k p e R s m args below meth c H locs ls a0 n0 a hC hn hg hH hS hlv)
theorem x_getsR {idx : Nat} (hl : Cond.fieldLink Y.1.cls idx "RightsHouse$Judge" "RANK" "[I" ∈ TBg) (d : decode Y.2.1 pc = .ok (.getstatic idx, 3)) (k : Wx E Y (pc + 3) lv (.ref 3001 :: st) n cs ss σ K) : Wx E Y pc lv st n cs ss σ K := by
  intro p e R s m args below meth c H locs ls a0 n0 a hC hn hg hH hS hlv
  have hz := hC.2.2.2.2.2.2.2.2.1.2.2.2.2.2.2.1.kept hC.2.2.2.2.2.2.2.2.2.1.old
  have h := k p e R s m args below meth c H locs ls a0 n0 a hC hn hg hH hS hlv
  have e1 : (Value.ref 3001 :: st).map (xrel a) = Value.ref (E.2.2.2.1 2001) :: st.map (xrel a) := by
    simp only [List.map_cons, xrel]
    rw [← hH.2.2.2.1.2 2001]
  rw [e1] at h
  exact va_gets (v := .ref (E.2.2.2.1 2001)) hC.1 hC.2.1 hz hS hC.2.2.2.2.1 (hC.2.2.2.2.2.1 _ hl) (fun _ h => h) d h
theorem x_sgetc {idx i : Nat} (hi : i < 21) (hl : Cond.fieldLink Y.1.cls idx "java/lang/String" "coder" "B" ∈ TBg) (d : decode Y.2.1 pc = .ok (.getfield idx, 3)) (k : Wx E Y (pc + 3) lv (.int 0 :: st) n cs ss σ K) : Wx E Y pc lv (.ref (1000 + i) :: st) n cs ss σ K := by
  intro p e R s m args below meth c H locs ls a0 n0 a hC hn hg hH hS hlv
  have hz : va_Ef 21 "java/lang/String" "coder" "B" (fun _ => .int 0) E.2.2.2.1 (fun q => E.2.2.1 ≤ q) s s.heap := fun j hj => (hC.2.2.2.2.2.2.2.2.1.2.2.2.1 j hj).2.1.kept hC.2.2.2.2.2.2.2.2.2.1.old
  have e1 : (Value.ref (1000 + i) :: st).map (xrel a) = Value.ref (E.2.2.2.1 i) :: st.map (xrel a) := by
    simp only [List.map_cons, xrel]
    rw [hH.2.2.2.1.2 i]
  rw [e1]
  exact va_getX (v := fun _ => .int 0) hC.1 hC.2.1 hz hi hS hC.2.2.2.2.1 (hC.2.2.2.2.2.1 _ hl) (fun _ h => h) d (k p e R s m args below meth c H locs ls a0 n0 a hC hn hg hH hS hlv)
theorem x_sgetv {idx i : Nat} (hi : i < 21) (hl : Cond.fieldLink Y.1.cls idx "java/lang/String" "value" "[B" ∈ TBg) (d : decode Y.2.1 pc = .ok (.getfield idx, 3)) (k : Wx E Y (pc + 3) lv (.ref (2000 + i) :: st) n cs ss σ K) : Wx E Y pc lv (.ref (1000 + i) :: st) n cs ss σ K := by
  intro p e R s m args below meth c H locs ls a0 n0 a hC hn hg hH hS hlv
  have hz : va_Ef 21 "java/lang/String" "value" "[B" (fun i => .ref (E.2.2.2.1 (1000 + i))) E.2.2.2.1 (fun q => E.2.2.1 ≤ q) s s.heap := fun j hj => (hC.2.2.2.2.2.2.2.2.1.2.2.2.1 j hj).2.2.1.kept hC.2.2.2.2.2.2.2.2.2.1.old
  have e1 : (Value.ref (1000 + i) :: st).map (xrel a) = Value.ref (E.2.2.2.1 i) :: st.map (xrel a) := by
    simp only [List.map_cons, xrel]
    rw [hH.2.2.2.1.2 i]
  have h := k p e R s m args below meth c H locs ls a0 n0 a hC hn hg hH hS hlv
  have e2 : (Value.ref (2000 + i) :: st).map (xrel a) = Value.ref (E.2.2.2.1 (1000 + i)) :: st.map (xrel a) := by
    simp only [List.map_cons, xrel]
    rw [← hH.2.2.2.1.2 (1000 + i), ← Nat.add_assoc]
  rw [e2] at h
  rw [e1]
  exact va_getX (v := fun i => .ref (E.2.2.2.1 (1000 + i))) hC.1 hC.2.1 hz hi hS hC.2.2.2.2.1 (hC.2.2.2.2.2.1 _ hl) (fun _ h => h) d h
theorem x_slen {i : Nat} {v : Int32} (hi : i < 21) (hv : Int32.ofNat (SLN.getD i 0) = v) (d : decode Y.2.1 pc = .ok (.arraylength, 1)) (k : Wx E Y (pc + 1) lv (.int v :: st) n cs ss σ K) : Wx E Y pc lv (.ref (2000 + i) :: st) n cs ss σ K := by
  intro p e R s m args below meth c H locs ls a0 n0 a hC hn hg hH hS hlv
  have hz := (hC.2.2.2.2.2.2.2.2.1.2.2.2.1 i hi).2.2.2.kept hC.2.2.2.2.2.2.2.2.2.1.old
  have h := k p e R s m args below meth c H locs ls a0 n0 a hC hn hg hH hS hlv
  have e2 : (Value.ref (2000 + i) :: st).map (xrel a) = Value.ref (E.2.2.2.1 (1000 + i)) :: st.map (xrel a) := by
    simp only [List.map_cons, xrel]
    rw [← hH.2.2.2.1.2 (1000 + i), ← Nat.add_assoc]
  rw [e2]
  exact va_tlen hC.1 hC.2.1 hz hS hv d h
theorem x_sald {i : Nat} {x : Int32} (hi : i < 21) (hx : vp_in x (SLN.getD i 0)) (d : decode Y.2.1 pc = .ok (.baload, 1)) (k : Wx E Y (pc + 1) lv (.int ((SBY.getD i []).getD x.toNatClampNeg 0) :: st) n cs ss σ K) : Wx E Y pc lv (.int x :: .ref (2000 + i) :: st) n cs ss σ K := by
  intro p e R s m args below meth c H locs ls a0 n0 a hC hn hg hH hS hlv
  have hz := (hC.2.2.2.2.2.2.2.2.1.2.2.2.1 i hi).2.2.2.kept hC.2.2.2.2.2.2.2.2.2.1.old
  have h := k p e R s m args below meth c H locs ls a0 n0 a hC hn hg hH hS hlv
  have e2 : (Value.int x :: Value.ref (2000 + i) :: st).map (xrel a) = Value.int x :: Value.ref (E.2.2.2.1 (1000 + i)) :: st.map (xrel a) := by
    simp only [List.map_cons, xrel]
    rw [← hH.2.2.2.1.2 (1000 + i), ← Nat.add_assoc]
  rw [e2]
  exact va_tb (v := .int ((SBY.getD i []).getD x.toNatClampNeg 0)) hC.1 hC.2.1 hz hS hx rfl d h
theorem x_rald {x : Int32} (hx : vp_in x 4) (d : decode Y.2.1 pc = .ok (.iaload, 1)) (k : Wx E Y (pc + 1) lv (.int (RNK.getD x.toNatClampNeg 0) :: st) n cs ss σ K) : Wx E Y pc lv (.int x :: .ref 3001 :: st) n cs ss σ K := by
  intro p e R s m args below meth c H locs ls a0 n0 a hC hn hg hH hS hlv
  have hz := hC.2.2.2.2.2.2.2.2.1.2.2.2.2.2.2.2.kept hC.2.2.2.2.2.2.2.2.2.1.old
  have h := k p e R s m args below meth c H locs ls a0 n0 a hC hn hg hH hS hlv
  have e2 : (Value.int x :: Value.ref 3001 :: st).map (xrel a) = Value.int x :: Value.ref (E.2.2.2.1 2001) :: st.map (xrel a) := by
    simp only [List.map_cons, xrel]
    rw [← hH.2.2.2.1.2 2001]
  rw [e2]
  exact va_ti (v := .int (RNK.getD x.toNatClampNeg 0)) hC.1 hC.2.1 hz hS hx rfl d h
theorem x_invVS {Z : xY} {idx i : Nat} {As rest : List Value} {nA : Nat} (d : decode Y.2.1 pc = .ok (.invokevirtual idx, 3)) (hM : xM Y.1.cls idx Z nA) (hin : Cond.instanceMethod Z.1 ∈ TBg) (hsel : Cond.selects Z.1.cls Z.1 Z.1 ∈ TBg) (hA : As.length = nA) (hst : st = As.reverse ++ .ref (1000 + i) :: rest) (hi : i < 21) (hcn : Z.1.cls = "java/lang/String") (hrm : xRm Y Z cs ss) (hcat : (rest.map fun v => v.category).sum ≤ 8) (hlv : (lv.all fun q => xokv n q.2) = true) (hrs : (rest.all (xokv n)) = true)
    (kk : Cx E Z (.ref (1000 + i) :: As) n σ (fun v n' σ' => Wx E Y (pc + 3) lv (v.toList ++ rest) n' (cs + Z.2.2.2.2.cells) (ss + Z.2.2.2.2.slots) σ' K)) : Wx E Y pc lv st n cs ss σ K := by
  intro p e R s m args below meth c H locs ls a0 n0 a hC hn hg hH hS hl
  have hts := hC.2.2.2.2.2.1
  have hK := hC.2.2.2.2.2.2.2.2.1
  have hb : xB E H := hC.2.2.2.2.2.2.2.2.2.1.of hS
  obtain ⟨hR1, hR2, hR3, hR4, -⟩ := hC.2.2.2.2.2.2.2.2.2.2
  have hrec : ∃ cell : Cell, H[a (1000 + i)]? = some cell ∧ cell.vm.isStatics = false ∧ s.vm.findClass Z.1.cls = some cell.cls := by
    obtain ⟨cell, q1, q2, q3, -⟩ := (hK.2.2.2.1 i hi).1.kept hb.old
    exact ⟨cell, by rw [hH.2.2.2.1.2 i]; exact q1, q2, by rw [hcn]; exact q3⟩
  have hp := x_pre (av := .ref (1000 + i) :: As) hK hH hb
  subst hst
  refine x_back (av := (Value.ref (a (1000 + i)) :: As.map (xrel a)).toArray) (g0 := (As.reverse ++ .ref (1000 + i) :: rest).map (xrel a)) hC hn hg hS hl hlv hrs (va_runV (As := As.map (xrel a)) (rest := rest.map (xrel a)) (b := a (1000 + i)) (C := Z.1.cls) (bytes := Z.2.1) (maxL := Z.2.2.1) (ret := Z.2.2.2.1) (n := nA) ⟨hC.1, hC.2.1, hC.2.2.2.1, hC.2.2.2.2.1, hts⟩ (kk a) ⟨callB_of nA hts (good_TB hM.2.2.1) rfl rfl rfl (hts _ hM.2.1) (hts _ hM.1) hM.2.2.2 ⟨Nat.le_trans hrm.1.1 hR1, Nat.le_trans hrm.1.2 hR2⟩, hts _ hin, hts _ hsel⟩ ⟨hp.1, hrec, hp.2⟩ rfl (by rw [List.length_map]; exact hA) hl.1 (by simp [xrel]) ?_ d ⟨Nat.le_trans hrm.2.1 hR3, Nat.le_trans hrm.2.2 hR4⟩)
  refine lv_room ?_
  rw [List.map_map]
  have : ((fun v => v.category) ∘ xrel a : Value → Nat) = fun v => v.category := funext fun v => xrel_cat
  rw [this]
  exact hcat
/-- a static that is only carried: nobody asks which -/
theorem x_getsF {idx : Nat} (hl : Cond.fieldLink Y.1.cls idx "jdk/internal/util/Preconditions" "SIOOBE_FORMATTER" "Ljava/util/function/BiFunction;" ∈ TBg) (d : decode Y.2.1 pc = .ok (.getstatic idx, 3)) (k : ∀ v : Value, v = .null ∨ v = .ref 3000 → Wx E Y (pc + 3) lv (v :: st) n cs ss σ K) : Wx E Y pc lv st n cs ss σ K := by
  intro p e R s m args below meth c H locs ls a0 n0 a hC hn hg hH hS hlv
  rcases hC.2.2.2.2.2.2.2.2.1.2.2.2.2.2.1 with hz | hz
  · have hz := hz.kept hC.2.2.2.2.2.2.2.2.2.1.old
    exact va_gets (v := .null) hC.1 hC.2.1 hz hS hC.2.2.2.2.1 (hC.2.2.2.2.2.1 _ hl) (fun _ h => h) d (k .null (Or.inl rfl) p e R s m args below meth c H locs ls a0 n0 a hC hn hg hH hS hlv)
  · have hz := hz.kept hC.2.2.2.2.2.2.2.2.2.1.old
    have h := k (.ref 3000) (Or.inr rfl) p e R s m args below meth c H locs ls a0 n0 a hC hn hg hH hS hlv
    have e1 : (Value.ref 3000 :: st).map (xrel a) = Value.ref (E.2.2.2.1 2000) :: st.map (xrel a) := by
      simp only [List.map_cons, xrel]
      rw [← hH.2.2.2.1.2 2000]
    rw [e1] at h
    exact va_gets (v := .ref (E.2.2.2.1 2000)) hC.1 hC.2.1 hz hS hC.2.2.2.2.1 (hC.2.2.2.2.2.1 _ hl) (fun _ h => h) d h
end XF
section ZF
variable {E : xV} {Y : xY} {pc pc' : Nat} {lv : List (Nat × Value)} {st : List Value} {σ : zS} {K : zKt}
theorem z_getsC {idx : Nat} (hl : Cond.fieldLink Y.1.cls idx "java/lang/String" "COMPACT_STRINGS" "Z" ∈ TBg) (d : decode Y.2.1 pc = .ok (.getstatic idx, 3) ∧ pc + 3 = pc') (k : Wz E Y pc' lv (.int 1 :: st) σ K) : Wz E Y pc lv st σ K := by
  obtain ⟨d, rfl⟩ := d
  exact x_getsC hl d k
theorem z_getsR {idx : Nat} (hl : Cond.fieldLink Y.1.cls idx "RightsHouse$Judge" "RANK" "[I" ∈ TBg) (d : decode Y.2.1 pc = .ok (.getstatic idx, 3) ∧ pc + 3 = pc') (k : Wz E Y pc' lv (.ref 3001 :: st) σ K) : Wz E Y pc lv st σ K := by
  obtain ⟨d, rfl⟩ := d
  exact x_getsR hl d k
theorem z_sgetc {idx i : Nat} (hi : i < 21) (hl : Cond.fieldLink Y.1.cls idx "java/lang/String" "coder" "B" ∈ TBg) (d : decode Y.2.1 pc = .ok (.getfield idx, 3) ∧ pc + 3 = pc') (k : Wz E Y pc' lv (.int 0 :: st) σ K) : Wz E Y pc lv (.ref (1000 + i) :: st) σ K := by
  obtain ⟨d, rfl⟩ := d
  exact x_sgetc hi hl d k
theorem z_sgetv {idx i : Nat} (hi : i < 21) (hl : Cond.fieldLink Y.1.cls idx "java/lang/String" "value" "[B" ∈ TBg) (d : decode Y.2.1 pc = .ok (.getfield idx, 3) ∧ pc + 3 = pc') (k : Wz E Y pc' lv (.ref (2000 + i) :: st) σ K) : Wz E Y pc lv (.ref (1000 + i) :: st) σ K := by
  obtain ⟨d, rfl⟩ := d
  exact x_sgetv hi hl d k
theorem z_slen {i : Nat} {v : Int32} (hi : i < 21) (hv : Int32.ofNat (SLN.getD i 0) = v) (d : decode Y.2.1 pc = .ok (.arraylength, 1) ∧ pc + 1 = pc') (k : Wz E Y pc' lv (.int v :: st) σ K) : Wz E Y pc lv (.ref (2000 + i) :: st) σ K := by
  obtain ⟨d, rfl⟩ := d
  exact x_slen hi hv d k
theorem z_sald {i : Nat} {x : Int32} (hi : i < 21) (hx : vp_in x (SLN.getD i 0)) (d : decode Y.2.1 pc = .ok (.baload, 1) ∧ pc + 1 = pc') (k : Wz E Y pc' lv (.int ((SBY.getD i []).getD x.toNatClampNeg 0) :: st) σ K) : Wz E Y pc lv (.int x :: .ref (2000 + i) :: st) σ K := by
  obtain ⟨d, rfl⟩ := d
  exact x_sald hi hx d k
theorem z_rald {x : Int32} (hx : vp_in x 4) (d : decode Y.2.1 pc = .ok (.iaload, 1) ∧ pc + 1 = pc') (k : Wz E Y pc' lv (.int (RNK.getD x.toNatClampNeg 0) :: st) σ K) : Wz E Y pc lv (.int x :: .ref 3001 :: st) σ K := by
  obtain ⟨d, rfl⟩ := d
  exact x_rald hx d k
theorem z_invVS {Z : xY} {idx i : Nat} {As rest : List Value} {nA : Nat} (hM : xM Y.1.cls idx Z nA) (hin : Cond.instanceMethod Z.1 ∈ TBg) (hsel : Cond.selects Z.1.cls Z.1 Z.1 ∈ TBg) (hi : i < 21) (hcn : Z.1.cls = "java/lang/String") (hrm : zRm Y Z) (d : decode Y.2.1 pc = .ok (.invokevirtual idx, 3) ∧ pc + 3 = pc') (hA : As.length = nA) (hst : st = As.reverse ++ .ref (1000 + i) :: rest) (hcat : (rest.map fun v => v.category).sum ≤ 8) (hlv : (lv.all fun q => xokv 215 q.2) = true) (hrs : (rest.all (xokv 215)) = true)
    (kk : Cz E Z (.ref (1000 + i) :: As) σ (fun v σ' => Wz E Y pc' lv (v.toList ++ rest) σ' K)) : Wz E Y pc lv st σ K := by
  obtain ⟨d, rfl⟩ := d
  exact x_invVS d hM hin hsel hA hst hi hcn hrm.x hcat hlv hrs (Cx.mono kk (z_after hrm))
theorem z_getsF {idx : Nat} (hl : Cond.fieldLink Y.1.cls idx "jdk/internal/util/Preconditions" "SIOOBE_FORMATTER" "Ljava/util/function/BiFunction;" ∈ TBg) (d : decode Y.2.1 pc = .ok (.getstatic idx, 3) ∧ pc + 3 = pc') (k : ∀ v : Value, v = .null ∨ v = .ref 3000 → Wz E Y pc' lv (v :: st) σ K) : Wz E Y pc lv st σ K := by
  obtain ⟨d, rfl⟩ := d
  exact x_getsF hl d k
end ZF
