/-! ===== new long[N][M] in a constructor ===== -/
def mnaL (k N : Nat) : List (Nat × (Nat × Nat)) := (List.range N).map fun j => (k, (j, k + 2 + j))
theorem mna_in {k N : Nat} {B : List (Nat × (Nat × Nat))} {n : Nat} (hB : xlt n B) (j : Nat) (hk : k = n) : la (mnaL k N ++ B) k j = if j < N then k + 2 + j else 0 := by
  by_cases hj : j < N
  · rw [if_pos hj]
    have : (mnaL k N).find? (fun q => q.1 == k && q.2.1 == j) = some (k, (j, k + 2 + j)) := by
      cases h : (mnaL k N).find? (fun q => q.1 == k && q.2.1 == j) with
      | none =>
        rw [List.find?_eq_none] at h
        have := h (k, (j, k + 2 + j)) (List.mem_map.mpr ⟨j, List.mem_range.mpr hj, rfl⟩)
        simp at this
      | some q =>
        have h1 := List.find?_some h
        have h2 := List.mem_of_find?_eq_some h
        obtain ⟨i, -, rfl⟩ := List.mem_map.mp h2
        simp at h1
        rw [h1]
    simp [la, List.find?_append, this]
  · rw [if_neg hj]
    have : (mnaL k N).find? (fun q => q.1 == k && q.2.1 == j) = none := by
      rw [List.find?_eq_none]
      intro q hq
      obtain ⟨i, hi, rfl⟩ := List.mem_map.mp hq
      have := List.mem_range.mp hi
      simp
      omega
    have h0 := la_none hB (Nat.le_of_eq hk.symm) j
    simp only [la] at h0 ⊢
    rw [List.find?_append, this]
    simpa using h0
theorem mna_out {k N k' : Nat} {B : List (Nat × (Nat × Nat))} (j : Nat) (hk : k' ≠ k) : la (mnaL k N ++ B) k' j = la B k' j := by
  have : (mnaL k N).find? (fun q => q.1 == k' && q.2.1 == j) = none := by
    rw [List.find?_eq_none]
    intro q hq
    obtain ⟨i, hi, rfl⟩ := List.mem_map.mp hq
    simp
    omega
  simp [la, List.find?_append, this]
theorem x_outer (c : ClassId) (N h0 : Nat) : ∀ i : Nat, Jvm.Free.Multi.outerC c N h0 i = arrV c N (fun j => va_rf (if j < i then some (h0 + 1 + j) else none))
  | 0 => by
    show ({ cls := c, slots := Array.replicate N .null, vm := .none } : Cell) = _
    rw [arrV_new]
    refine congrArg (arrV c N) (funext fun j => ?_)
    simp [va_rf]
  | i + 1 => by
    show (Jvm.Free.Multi.outerC c N h0 i).setSlot i (.ref (h0 + 1 + i)) = _
    rw [x_outer c N h0 i, arrV_store]
    refine congrArg (arrV c N) (funext fun j => ?_)
    by_cases e : j = i
    · subst e
      simp [updV, va_rf]
    · by_cases h : j < i
      · simp [updV, e, h, Nat.lt_succ_of_lt h]
      · have h2 : ¬ j < i + 1 := by omega
        simp [updV, e, h, h2]
section XMN
variable {A : List (Nat × (Nat × Int32))} {B : List (Nat × (Nat × Nat))} {E : xV} {Y : xY} {pc pc' n n' cs cs' ss ss' : Nat} {lv lv' : List (Nat × Value)} {st : List Value} {K : xQQ}
theorem n_mna {idx N M : Nat} {u v : Int32} (hA : xlt n A) (hB : xlt n B) (h9 : n + 1 + N ≤ 1000) (d : decode Y.2.1 pc = .ok (.multianewarray idx 2, 4) ∧ pc + 4 = pc') (w1 : Cond.classLink Y.1.cls idx "[[J" ∈ TBg) (w2 : Cond.arrayClass .long ∈ TBg) (hu : ¬ u < 0) (hv : ¬ v < 0) (hN : u.toNatClampNeg = N) (hM : v.toNatClampNeg = M) (hM9 : M ≤ 100000) (hd : KD n = (103, [N])) (hd2 : ∀ j, j < N → KD (n + 1 + j) = (101, [M])) (hcs : cs + (1 + N) ≤ Y.2.2.2.2.cells) (hss : ss + (N + N * M) ≤ Y.2.2.2.2.slots) (hlv : (lv.all fun q => xokv n q.2) = true) (hst : (st.all (xokv n)) = true) (hn : n + 1 + N = n' ∧ cs + 1 + N = cs' ∧ ss + N + N * M = ss')
    (kk : Wx E Y pc' lv (.ref n :: st) n' cs' ss' (s0 A (mnaL n N ++ B)) K) : Wx E Y pc lv (.int v :: .int u :: st) n cs ss (s0 A B) K := by
  obtain ⟨d, rfl⟩ := d
  obtain ⟨rfl, rfl, rfl⟩ := hn
  subst hN
  subst hM
  intro p e R s m args below meth c H locs ls a0 n0 a hC hn hg hH hS hl
  have hts := hC.2.2.2.2.2.1
  have hK := hC.2.2.2.2.2.2.2.2.1.1
  have hb : E.2.2.1 ≤ H.size := (hC.2.2.2.2.2.2.2.2.2.1.of hS).1
  obtain ⟨hR1, hR2, hR3, hR4, -⟩ := hC.2.2.2.2.2.2.2.2.2.2
  intro T hT Xs
  obtain ⟨vm₁, cA, comp, -, fA, fC, -, -, X', step⟩ := Xs.multianewarray2F (ty := .long) hC.1 hC.2.2.2.2.1 (hts _ w1) hC.2.2.2.2.2.2.2.2.1.2.2.1 (hts _ w2) (g := F0 m pc ls (.int v :: .int u :: st.map (xrel a))) rfl (by rw [hC.2.1]; exact d) rfl hu hv (by omega) (by show _ * 8 ≤ _; omega) (by omega) rfl rfl (Nat.le_trans hcs hR3) (Nat.le_trans hss hR4)
  have eC : comp = E.2.1.2.2.1 := by
    have h1 : s.vm.findClass ("[" ++ FieldType.long.toString) = some E.2.1.2.2.1 := (hK.2 1 _ rfl).2
    exact Option.some.inj (fC.symm.trans h1)
  have eA : cA = E.2.1.2.2.2.2 := by
    have h1 : s.vm.findClass ("[" ++ (FieldType.array .long).toString) = some E.2.1.2.2.2.2 := (hK.2 3 _ rfl).2
    exact Option.some.inj (fA.symm.trans h1)
  subst eC
  subst eA
  generalize hF : Jvm.Free.Multi.fill (T.setVm vm₁) E.2.1.2.2.2.2 E.2.1.2.2.1 u.toNatClampNeg v.toNatClampNeg (defaultValue .long) u.toNatClampNeg = F at X' step
  have hTh : (T.setVm vm₁).heap = H := hT
  obtain ⟨f1, f2, -, -⟩ := Jvm.Free.Multi.fill_facts (T.setVm vm₁) E.2.1.2.2.2.2 E.2.1.2.2.1 u.toNatClampNeg v.toNatClampNeg (defaultValue .long) u.toNatClampNeg
  rw [hF, hTh] at f1 f2
  rw [x_outer] at f2
  have hold : ∀ x : Nat, x < H.size → F.heap[x]? = H[x]? := fun x hx => by
    have := Jvm.Free.Multi.fill_old (T.setVm vm₁) E.2.1.2.2.2.2 E.2.1.2.2.1 u.toNatClampNeg v.toNatClampNeg (defaultValue .long) (a := x) (by rw [hTh]; exact hx) u.toNatClampNeg
    rw [hF, hTh] at this
    exact this
  have hrow : ∀ j : Nat, j < u.toNatClampNeg → F.heap[H.size + 1 + j]? = some (arrV E.2.1.2.2.1 v.toNatClampNeg (fun _ => .long 0)) := fun j hj => by
    have := Jvm.Free.Multi.fill_inner (T.setVm vm₁) E.2.1.2.2.2.2 E.2.1.2.2.1 u.toNatClampNeg v.toNatClampNeg (defaultValue .long) u.toNatClampNeg j hj
    rw [hF, hTh] at this
    rw [this]
    show some ({ cls := _, slots := Array.replicate _ _, vm := .none } : Cell) = _
    rw [arrV_new]
    rfl
  generalize hN : u.toNatClampNeg = N at *
  generalize hM : v.toNatClampNeg = M at *
  let a' : Nat → Nat := fun i => if i < n then a i else if i ≤ n + N then H.size + (i - n) else a i
  have a_old : ∀ i, i < n → a' i = a i := fun i hi => if_pos hi
  have a_new : ∀ i, n ≤ i → i ≤ n + N → a' i = H.size + (i - n) := fun i h1 h2 => by
    show (if i < n then a i else if i ≤ n + N then H.size + (i - n) else a i) = _
    rw [if_neg (by omega), if_pos h2]
  have a_far : ∀ i, n + N < i → a' i = a i := fun i h1 => by
    show (if i < n then a i else if i ≤ n + N then H.size + (i - n) else a i) = _
    rw [if_neg (by omega), if_neg (by omega)]
  have hag : xag n a a' := fun i hi => by
    rcases hi with h | h
    · exact a_old i h
    · exact a_far i (by omega)
  have hH1 : xH E a' (n + 1 + N) (s0 A (mnaL n N ++ B)) F.heap := by
    refine ⟨fun i j hi hj hij => ?_, fun i hi => ?_, fun k j => ?_, ⟨h9, fun i => ?_⟩, fun k q hk => ?_⟩
    · by_cases h1 : i < n <;> by_cases h2 : j < n
      · rw [a_old i h1, a_old j h2] at hij
        exact hH.1 i j h1 h2 hij
      · rw [a_old i h1, a_new j (by omega) (by omega)] at hij
        have := xH_lt hH h1
        omega
      · rw [a_old j h2, a_new i (by omega) (by omega)] at hij
        have := xH_lt hH h2
        omega
      · rw [a_new i (by omega) (by omega), a_new j (by omega) (by omega)] at hij
        omega
    · by_cases h1 : i < n
      · rw [a_old i h1]
        exact hH.2.1 i h1
      · rw [a_new i (by omega) (by omega)]
        omega
    · show la (mnaL n N ++ B) k j ≤ n + 1 + N
      by_cases h1 : k = n
      · subst h1
        rw [mna_in hB j rfl]
        split <;> omega
      · rw [mna_out j h1]
        have : la B k j ≤ n := hH.2.2.1 k j
        omega
    · rw [a_far _ (by omega)]
      exact hH.2.2.2.1.2 i
    · obtain ⟨hk1, rfl⟩ := xW_inv hk
      by_cases h1 : k < n
      · have hx : xc E.2.1 a' (s0 A (mnaL n N ++ B)) k = xc E.2.1 a (s0 A B) k := by
          have hP : (s0 A (mnaL n N ++ B)).2.2 k = (s0 A B).2.2 k := funext fun j => mna_out j (by omega)
          unfold xc
          rw [hP, xE_ag (n := n) hag (hH.2.2.1 k), a_old k h1]
          rfl
        rw [hx]
        have h0 := hH.2.2.2.2 k _ (xW_at h1)
        exact h0.kept (hold _ h0.lt)
      · by_cases h2 : k = n
        · subst h2
          rw [xc_rows hd, a_new k (Nat.le_refl _) (by omega)]
          show F.heap[H.size + (k - k)]? = some (vp_cell _ _)
          rw [Nat.sub_self, Nat.add_zero, f2, vp_cell_q]
          congr 2
          funext j
          show va_rf _ = va_rf (xro a' (la (mnaL k N ++ B) k j))
          rw [mna_in hB j rfl]
          split
          · have : k + 2 + j = (k + 1 + j) + 1 := by omega
            rw [this]
            show va_rf (some _) = va_rf (some (a' (k + 1 + j)))
            rw [a_new (k + 1 + j) (by omega) (by omega)]
            congr 2
            omega
          · rfl
        · have hj : k = n + 1 + (k - n - 1) := by omega
          have hd3 := hd2 (k - n - 1) (by omega)
          rw [← hj] at hd3
          rw [xc_long hd3, a_new k (by omega) (by omega)]
          show F.heap[H.size + (k - n)]? = some (vp_cell _ _)
          have e5 : H.size + (k - n) = H.size + 1 + (k - n - 1) := by omega
          rw [e5, hrow _ (by omega), vp_cell_l]
          rfl
  have hl1 : lv_has ls Y.2.2.1 (xlv a' lv) := by rw [xlv_ag hag hlv]; exact hl
  have hk := kk p e R s m args below meth c F.heap locs ls a0 n0 a' hC (by omega) (fun i hi => (hag i (hi.imp_left fun h => Nat.lt_of_lt_of_le h hn)).trans (hg i hi)) hH1 ⟨Nat.le_trans hS.1 (by omega), fun q h5 h6 => (hold q (Nat.lt_of_lt_of_le h5 hS.1)).trans (hS.2.1 q h5 h6), hS.2.2⟩ hl1
  have hm : (Value.ref n :: st).map (xrel a') = Value.ref H.size :: st.map (xrel a) := by
    rw [List.map_cons, xst_ag hag hst]
    simp only [xrel]
    rw [a_new n (Nat.le_refl _) (by omega), Nat.sub_self, Nat.add_zero]
  rw [hm] at hk
  obtain ⟨t, a1, b1⟩ := hk F rfl X'
  refine ⟨t, step t ?_, b1⟩
  rw [hT]
  exact a1
end XMN
