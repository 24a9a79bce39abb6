/-! ===== the time of the constructors: ints and references by lists of what was set, the latest first; no long is set ===== -/
def lm (A : List (Nat × (Nat × Int32))) (k j : Nat) : Int32 := match A.find? (fun q => q.1 == k && q.2.1 == j) with
  | some q => q.2.2
  | none => 0
def la (B : List (Nat × (Nat × Nat))) (k j : Nat) : Nat := match B.find? (fun q => q.1 == k && q.2.1 == j) with
  | some q => q.2.2
  | none => 0
def s0 (A : List (Nat × (Nat × Int32))) (B : List (Nat × (Nat × Nat))) : xS := (lm A, (fun _ _ => 0, la B))
def xlt {α : Type} (n : Nat) (A : List (Nat × α)) : Prop := ∀ q ∈ A, q.1 < n
theorem xlt.le {α : Type} {n n' : Nat} {A : List (Nat × α)} (h : xlt n A) (hn : n ≤ n') : xlt n' A := fun q hq => Nat.lt_of_lt_of_le (h q hq) hn
theorem xlt.cons {α : Type} {n k : Nat} {v : α} {A : List (Nat × α)} (h : xlt n A) (hk : k < n) : xlt n ((k, v) :: A) := by
  intro q hq
  rcases List.mem_cons.mp hq with e | e
  · rw [e]; exact hk
  · exact h q e
theorem xlt.nil {α : Type} {n : Nat} : xlt n ([] : List (Nat × α)) := fun _ h => absurd h List.not_mem_nil
theorem lm_none {A : List (Nat × (Nat × Int32))} {n k : Nat} (h : xlt n A) (hk : n ≤ k) (j : Nat) : lm A k j = 0 := by
  have : A.find? (fun q => q.1 == k && q.2.1 == j) = none := by
    rw [List.find?_eq_none]
    intro q hq
    have := h q hq
    simp
    omega
  simp [lm, this]
theorem la_none {B : List (Nat × (Nat × Nat))} {n k : Nat} (h : xlt n B) (hk : n ≤ k) (j : Nat) : la B k j = 0 := by
  have : B.find? (fun q => q.1 == k && q.2.1 == j) = none := by
    rw [List.find?_eq_none]
    intro q hq
    have := h q hq
    simp
    omega
  simp [la, this]
theorem lm_cons {A : List (Nat × (Nat × Int32))} {k j : Nat} {v : Int32} : lm ((k, (j, v)) :: A) = xup (lm A) k (upd (lm A k) j v) := by
  funext k' j'
  unfold xup
  by_cases hk : k' = k
  · subst hk
    rw [if_pos rfl]
    unfold upd
    by_cases hj : j' = j
    · subst hj
      simp [lm]
    · rw [if_neg hj]
      have : (j == j') = false := by simp; omega
      simp [lm, this]
  · rw [if_neg hk]
    have : (k == k') = false := by simp; omega
    simp [lm, this]
theorem la_cons {B : List (Nat × (Nat × Nat))} {k j v : Nat} : la ((k, (j, v)) :: B) = xup (la B) k (xupN (la B k) j v) := by
  funext k' j'
  unfold xup
  by_cases hk : k' = k
  · subst hk
    rw [if_pos rfl]
    unfold xupN
    by_cases hj : j' = j
    · subst hj
      simp [la]
    · rw [if_neg hj]
      have : (j == j') = false := by simp; omega
      simp [la, this]
  · rw [if_neg hk]
    have : (k == k') = false := by simp; omega
    simp [la, this]
section XO
variable {A : List (Nat × (Nat × Int32))} {B : List (Nat × (Nat × Nat))}
theorem s0_I {k j : Nat} {v : Int32} : sI (s0 A B) k j v = s0 ((k, (j, v)) :: A) B := by
  unfold s0 sI
  rw [lm_cons]
theorem s0_R {k j v : Nat} : sR (s0 A B) k j v = s0 A ((k, (j, v)) :: B) := by
  unfold s0 sR
  rw [la_cons]
theorem xup_self {α : Type} {M : Nat → α} {k : Nat} {f : α} (h : M k = f) : xup M k f = M := by
  funext i
  unfold xup
  split
  · rename_i e
    rw [e, h]
  · rfl
theorem s0_N {n : Nat} (hA : xlt n A) (hB : xlt n B) : sN (s0 A B) n = s0 A B := by
  unfold s0 sN
  rw [xup_self (funext fun j => lm_none hA (Nat.le_refl _) j), xup_self (funext fun j => la_none hB (Nat.le_refl _) j), xup_self rfl]
variable {E : xV} {Y : xY} {pc pc' n n' cs cs' ss ss' : Nat} {lv lv' : List (Nat × Value)} {st : List Value} {σ : xS} {K : xQQ}
theorem n_newi {z : Nat} {v : Int32} (hA : xlt n A) (hB : xlt n B) (h9 : n < 1000) (d : decode Y.2.1 pc = .ok (.newarray .int, 2) ∧ pc + 2 = pc') (harr : Cond.arrayClass .int ∈ TBg) (hv : ¬ v < 0) (hz : v.toNatClampNeg = z) (hbytes : z ≤ 100000) (hd : KD n = (100, [z])) (hcs : cs + 1 ≤ Y.2.2.2.2.cells) (hss : ss + z ≤ Y.2.2.2.2.slots) (hlv : (lv.all fun q => xokv n q.2) = true) (hst : (st.all (xokv n)) = true) (hn : n + 1 = n' ∧ cs + 1 = cs' ∧ ss + z = ss')
    (k : Wx E Y pc' lv (.ref n :: st) n' cs' ss' (s0 A B) K) : Wx E Y pc lv (.int v :: st) n cs ss (s0 A B) K := by
  obtain ⟨d, rfl⟩ := d
  obtain ⟨rfl, rfl, rfl⟩ := hn
  exact x_newi h9 d harr hv hz hbytes hd hcs hss hlv hst ((s0_N hA hB).symm ▸ k)
theorem n_newj {z : Nat} {v : Int32} (hA : xlt n A) (hB : xlt n B) (h9 : n < 1000) (d : decode Y.2.1 pc = .ok (.newarray .long, 2) ∧ pc + 2 = pc') (harr : Cond.arrayClass .long ∈ TBg) (hv : ¬ v < 0) (hz : v.toNatClampNeg = z) (hbytes : z ≤ 100000) (hd : KD n = (101, [z])) (hcs : cs + 1 ≤ Y.2.2.2.2.cells) (hss : ss + z ≤ Y.2.2.2.2.slots) (hlv : (lv.all fun q => xokv n q.2) = true) (hst : (st.all (xokv n)) = true) (hn : n + 1 = n' ∧ cs + 1 = cs' ∧ ss + z = ss')
    (k : Wx E Y pc' lv (.ref n :: st) n' cs' ss' (s0 A B) K) : Wx E Y pc lv (.int v :: st) n cs ss (s0 A B) K := by
  obtain ⟨d, rfl⟩ := d
  obtain ⟨rfl, rfl, rfl⟩ := hn
  exact x_newj h9 d harr hv hz hbytes hd hcs hss hlv hst ((s0_N hA hB).symm ▸ k)
theorem n_newz {z : Nat} {v : Int32} (hA : xlt n A) (hB : xlt n B) (h9 : n < 1000) (d : decode Y.2.1 pc = .ok (.newarray .boolean, 2) ∧ pc + 2 = pc') (harr : Cond.arrayClass .boolean ∈ TBg) (hv : ¬ v < 0) (hz : v.toNatClampNeg = z) (hbytes : z ≤ 100000) (hd : KD n = (102, [z])) (hcs : cs + 1 ≤ Y.2.2.2.2.cells) (hss : ss + z ≤ Y.2.2.2.2.slots) (hlv : (lv.all fun q => xokv n q.2) = true) (hst : (st.all (xokv n)) = true) (hn : n + 1 = n' ∧ cs + 1 = cs' ∧ ss + z = ss')
    (k : Wx E Y pc' lv (.ref n :: st) n' cs' ss' (s0 A B) K) : Wx E Y pc lv (.int v :: st) n cs ss (s0 A B) K := by
  obtain ⟨d, rfl⟩ := d
  obtain ⟨rfl, rfl, rfl⟩ := hn
  exact x_newz h9 d harr hv hz hbytes hd hcs hss hlv hst ((s0_N hA hB).symm ▸ k)
theorem n_new {idx ci N : Nat} {C : String} {T : u_T} {l : List Nat} (ty0 : Nat → FieldType) (hA : xlt n A) (hB : xlt n B) (d : decode Y.2.1 pc = .ok (.new idx, 3) ∧ pc + 3 = pc') (hcl : cls[ci]? = some (C, T, N)) (hin : ∀ w ∈ u_ws C T N, w ∈ TBg) (hty : ∀ k, k < N → parseFieldDescriptor (T k).2.2.1 = some (ty0 k)) (h1 : Cond.classLink Y.1.cls idx C ∈ TBg) (h2 : Cond.instantiable C N ∈ TBg) (h3 : Cond.initialized C ∈ TBg) (h9 : n < 1000) (hd : KD n = (ci, l)) (hc : ci < 100) (hfs : ∀ j, j < N → defaultValue (ty0 j) = vp_V (xF (fun _ => 0) (fun _ => 0) (fun _ => 0) (fun _ => 0) 0 l) j) (hcs : cs + 1 ≤ Y.2.2.2.2.cells) (hss : ss + N ≤ Y.2.2.2.2.slots) (hlv : (lv.all fun q => xokv n q.2) = true) (hst : (st.all (xokv n)) = true) (hn : n + 1 = n' ∧ cs + 1 = cs' ∧ ss + N = ss')
    (k : Wx E Y pc' lv (.ref n :: st) n' cs' ss' (s0 A B) K) : Wx E Y pc lv st n cs ss (s0 A B) K := by
  obtain ⟨d, rfl⟩ := d
  obtain ⟨rfl, rfl, rfl⟩ := hn
  exact x_new ty0 d hcl hin hty h1 h2 h3 h9 hd hc hfs hcs hss hlv hst ((s0_N hA hB).symm ▸ k)
theorem n_putrF {k j i v idx ci : Nat} {l : List Nat} {ty : FieldType} (F : xFl Y.1.cls idx ci j ty true) (hini : Y.1.name = "<init>") (hcn : (cls[ci]?.map fun q => q.1) = some Y.1.cls) (hk : k < n) (hi : i < n) (hd : KD k = (ci, l)) (hc : ci < 100) (hj : l[j]? = some 2) (hw : ∀ q, narrow ty (.ref q) = .ref q) (hf : ∀ q, fits ty (.ref q) = true) (hv : i + 1 = v) (d : decode Y.2.1 pc = .ok (.putfield idx, 3) ∧ pc + 3 = pc') (kk : Wx E Y pc' lv st n cs ss (s0 A ((k, (j, v)) :: B)) K) : Wx E Y pc lv (.ref i :: .ref k :: st) n cs ss (s0 A B) K := by
  obtain ⟨d, rfl⟩ := d
  subst hv
  exact x_putrF F hini hcn hk hi hd hc hj hw hf d (s0_R.symm ▸ kk)
theorem n_puti {k j idx ci : Nat} {l : List Nat} {ty : FieldType} {v : Int32} (F : xFl Y.1.cls idx ci j ty false) (hk : k < n) (hd : KD k = (ci, l)) (hc : ci < 100) (hj : l[j]? = some 0) (hw : narrow ty (.int v) = .int v) (hf : fits ty (.int v) = true) (d : decode Y.2.1 pc = .ok (.putfield idx, 3) ∧ pc + 3 = pc') (kk : Wx E Y pc' lv st n cs ss (s0 ((k, (j, v)) :: A) B) K) : Wx E Y pc lv (.int v :: .ref k :: st) n cs ss (s0 A B) K := by
  obtain ⟨d, rfl⟩ := d
  exact x_puti F hk hd hc hj hw hf d (s0_I.symm ▸ kk)
theorem n_iast {k z j : Nat} {i x : Int32} (hk : k < n) (hd : KD k = (100, [z])) (hi : vp_in i z) (hj : i.toNatClampNeg = j) (d : decode Y.2.1 pc = .ok (.iastore, 1) ∧ pc + 1 = pc') (kk : Wx E Y pc' lv st n cs ss (s0 ((k, (j, x)) :: A) B) K) : Wx E Y pc lv (.int x :: .int i :: .ref k :: st) n cs ss (s0 A B) K := by
  obtain ⟨d, rfl⟩ := d
  subst hj
  exact x_iast hk hd hi d (s0_I.symm ▸ kk)
theorem n_iald {k z j : Nat} {i x : Int32} (hk : k < n) (hd : KD k = (100, [z])) (hi : vp_in i z) (hj : i.toNatClampNeg = j) (hx : lm A k j = x) (d : decode Y.2.1 pc = .ok (.iaload, 1) ∧ pc + 1 = pc') (kk : Wx E Y pc' lv (.int x :: st) n cs ss (s0 A B) K) : Wx E Y pc lv (.int i :: .ref k :: st) n cs ss (s0 A B) K := by
  obtain ⟨d, rfl⟩ := d
  subst hj
  subst hx
  exact x_iald hk hd hi d kk
theorem n_getr {k j i idx ci : Nat} {l : List Nat} {ty : FieldType} {fin : Bool} (F : xFl Y.1.cls idx ci j ty fin) (hk : k < n) (hd : KD k = (ci, l)) (hc : ci < 100) (hj : l[j]? = some 2) (hr : la B k j = i + 1) (d : decode Y.2.1 pc = .ok (.getfield idx, 3) ∧ pc + 3 = pc') (kk : Wx E Y pc' lv (.ref i :: st) n cs ss (s0 A B) K) : Wx E Y pc lv (.ref k :: st) n cs ss (s0 A B) K := by
  obtain ⟨d, rfl⟩ := d
  exact x_getr F hk hd hc hj hr d kk
end XO
