/-! ===== fields, arrays, returns ===== -/
/-- field j of class ci, linked as idx in class own: its type, whether it is final -/
def xFl (own : String) (idx ci j : Nat) (ty : FieldType) (fin : Bool) : Prop := ∃ (C : String) (T : u_T) (N : Nat) (ty0 : Nat → FieldType), cls[ci]? = some (C, T, N) ∧ (∀ w ∈ u_ws C T N, w ∈ TBg) ∧ (∀ k, k < N → parseFieldDescriptor (T k).2.2.1 = some (ty0 k)) ∧ (∀ a, a < N → ∀ b, b < N → a ≠ b → (T a).2.1 ≠ (T b).2.1) ∧ j < N ∧ Cond.fieldLink own idx (T j).1 (T j).2.1 (T j).2.2.1 ∈ TBg ∧ parseFieldDescriptor (T j).2.2.1 = some ty ∧ (T j).2.2.2 = fin ∧ (T j).1 = C
theorem xc_obj {G : xG} {a : Nat → Nat} {σ : xS} {k ci : Nat} {cs : List Nat} (hd : KD k = (ci, cs)) (hc : ci < 100) : xc G a σ k = (a k, .inr (ci, xF a (σ.1 k) (σ.2.1 k) (σ.2.2 k) 0 cs)) := by
  simp [xc, xE, hd, hc]
theorem xc_int {G : xG} {a : Nat → Nat} {σ : xS} {k z : Nat} (hd : KD k = (100, [z])) : xc G a σ k = (a k, .inl (G.2.1, (z, .inl (σ.1 k)))) := by
  simp [xc, xE, hd]
theorem xc_long {G : xG} {a : Nat → Nat} {σ : xS} {k z : Nat} (hd : KD k = (101, [z])) : xc G a σ k = (a k, .inl (G.2.2.1, (z, .inr (.inl (σ.2.1 k))))) := by
  simp [xc, xE, hd]
theorem xc_bool {G : xG} {a : Nat → Nat} {σ : xS} {k z : Nat} (hd : KD k = (102, [z])) : xc G a σ k = (a k, .inl (G.2.2.2.1, (z, .inl (σ.1 k)))) := by
  simp [xc, xE, hd]
theorem xc_at {G : xG} {a : Nat → Nat} {n : Nat} {σ : xS} {k : Nat} {q : Nat × va_E} (hk : k < n) (h : xc G a σ k = q) : (xW G a n σ)[k]? = some q := (xW_at hk).trans (congrArg some h)
theorem sI_off {σ : xS} {k j : Nat} {v : Int32} (i : Nat) (h : i ≠ k) : (sI σ k j v).1 i = σ.1 i ∧ (sI σ k j v).2.1 i = σ.2.1 i ∧ (sI σ k j v).2.2 i = σ.2.2 i := ⟨xup_ne h, rfl, rfl⟩
theorem sJ_off {σ : xS} {k j : Nat} {v : Int64} (i : Nat) (h : i ≠ k) : (sJ σ k j v).1 i = σ.1 i ∧ (sJ σ k j v).2.1 i = σ.2.1 i ∧ (sJ σ k j v).2.2 i = σ.2.2 i := ⟨rfl, xup_ne h, rfl⟩
theorem sR_off {σ : xS} {k j : Nat} {v : Nat} (i : Nat) (h : i ≠ k) : (sR σ k j v).1 i = σ.1 i ∧ (sR σ k j v).2.1 i = σ.2.1 i ∧ (sR σ k j v).2.2 i = σ.2.2 i := ⟨rfl, rfl, xup_ne h⟩
theorem xc_sI {G : xG} {a : Nat → Nat} {σ : xS} {k ci j : Nat} {cs : List Nat} {v : Int32} (hd : KD k = (ci, cs)) (hc : ci < 100) (hj : cs[j]? = some 0) : (a k, (.inr (ci, (xF a (σ.1 k) (σ.2.1 k) (σ.2.2 k) 0 cs).set j (.int v)) : va_E)) = xc G a (sI σ k j v) k := by
  rw [xc_obj hd hc]
  congr 3
  refine xF_set cs 0 j hj ?_ ?_
  · simp [xfv, sI, xup, upd]
  · intro i c' hi
    have hi' : i ≠ j := by omega
    unfold xfv
    split <;> simp [sI, xup, upd, hi']
theorem xc_sJ {G : xG} {a : Nat → Nat} {σ : xS} {k ci j : Nat} {cs : List Nat} {v : Int64} (hd : KD k = (ci, cs)) (hc : ci < 100) (hj : cs[j]? = some 1) : (a k, (.inr (ci, (xF a (σ.1 k) (σ.2.1 k) (σ.2.2 k) 0 cs).set j (.long v)) : va_E)) = xc G a (sJ σ k j v) k := by
  rw [xc_obj hd hc]
  congr 3
  refine xF_set cs 0 j hj ?_ ?_
  · simp [xfv, sJ, xup, vp_updL]
  · intro i c' hi
    have hi' : i ≠ j := by omega
    unfold xfv
    split <;> simp [sJ, xup, vp_updL, hi']
theorem xc_sR {G : xG} {a : Nat → Nat} {σ : xS} {k ci j i : Nat} {cs : List Nat} (hd : KD k = (ci, cs)) (hc : ci < 100) (hj : cs[j]? = some 2) : (a k, (.inr (ci, (xF a (σ.1 k) (σ.2.1 k) (σ.2.2 k) 0 cs).set j (.ref (a i))) : va_E)) = xc G a (sR σ k j (i + 1)) k := by
  rw [xc_obj hd hc]
  congr 3
  refine xF_set cs 0 j hj ?_ ?_
  · simp [xfv, sR, xup, xupN, xrv]
  · intro i c' hi
    have hi' : i ≠ j := by omega
    unfold xfv
    split <;> simp [sR, xup, xupN, hi']
section XH
variable {E : xV} {Y : xY} {pc n cs ss : Nat} {lv lv' : List (Nat × Value)} {st : List Value} {σ : xS} {K : xQQ}
theorem x_geti {k j idx ci : Nat} {l : List Nat} {ty : FieldType} {fin : Bool} (F : xFl Y.1.cls idx ci j ty fin) (hk : k < n) (hd : KD k = (ci, l)) (hc : ci < 100) (hj : l[j]? = some 0) (d : decode Y.2.1 pc = .ok (.getfield idx, 3)) (kk : Wx E Y (pc + 3) lv (.int (σ.1 k j) :: st) n cs ss σ K) : Wx E Y pc lv (.ref k :: st) n cs ss σ K := by
  intro p e R s m args below meth c H locs ls a0 n0 a hC hn hg hH hS hl
  obtain ⟨C, T, N, ty0, f1, f2, f3, f4, f5, f6, f7, f8, f9⟩ := F
  exact va_get (D := E.2.1.1) (cl := cls) (tys := xT E.2.1) (v := .int (σ.1 k j)) hC.1 hC.2.1 hC.2.2.2.2.2.1 f2 hC.2.2.2.2.1 hC.2.2.2.2.2.2.2.2.1.1 hH.2.2.2.2 k (xc_at hk (xc_obj hd hc)) f1 j f5 (hC.2.2.2.2.2.1 _ f6) (fun _ h => h) ((xF_at l 0 j hj).trans (by simp [xfv])) d (kk p e R s m args below meth c H locs ls a0 n0 a hC hn hg hH hS hl)
theorem x_getj {k j idx ci : Nat} {l : List Nat} {ty : FieldType} {fin : Bool} (F : xFl Y.1.cls idx ci j ty fin) (hk : k < n) (hd : KD k = (ci, l)) (hc : ci < 100) (hj : l[j]? = some 1) (d : decode Y.2.1 pc = .ok (.getfield idx, 3)) (kk : Wx E Y (pc + 3) lv (.long (σ.2.1 k j) :: st) n cs ss σ K) : Wx E Y pc lv (.ref k :: st) n cs ss σ K := by
  intro p e R s m args below meth c H locs ls a0 n0 a hC hn hg hH hS hl
  obtain ⟨C, T, N, ty0, f1, f2, f3, f4, f5, f6, f7, f8, f9⟩ := F
  exact va_get (D := E.2.1.1) (cl := cls) (tys := xT E.2.1) (v := .long (σ.2.1 k j)) hC.1 hC.2.1 hC.2.2.2.2.2.1 f2 hC.2.2.2.2.1 hC.2.2.2.2.2.2.2.2.1.1 hH.2.2.2.2 k (xc_at hk (xc_obj hd hc)) f1 j f5 (hC.2.2.2.2.2.1 _ f6) (fun _ h => h) ((xF_at l 0 j hj).trans (by simp [xfv])) d (kk p e R s m args below meth c H locs ls a0 n0 a hC hn hg hH hS hl)
theorem x_getr {k j i idx ci : Nat} {l : List Nat} {ty : FieldType} {fin : Bool} (F : xFl Y.1.cls idx ci j ty fin) (hk : k < n) (hd : KD k = (ci, l)) (hc : ci < 100) (hj : l[j]? = some 2) (hr : σ.2.2 k j = i + 1) (d : decode Y.2.1 pc = .ok (.getfield idx, 3)) (kk : Wx E Y (pc + 3) lv (.ref i :: st) n cs ss σ K) : Wx E Y pc lv (.ref k :: st) n cs ss σ K := by
  intro p e R s m args below meth c H locs ls a0 n0 a hC hn hg hH hS hl
  obtain ⟨C, T, N, ty0, f1, f2, f3, f4, f5, f6, f7, f8, f9⟩ := F
  exact va_get (D := E.2.1.1) (cl := cls) (tys := xT E.2.1) (v := .ref (a i)) hC.1 hC.2.1 hC.2.2.2.2.2.1 f2 hC.2.2.2.2.1 hC.2.2.2.2.2.2.2.2.1.1 hH.2.2.2.2 k (xc_at hk (xc_obj hd hc)) f1 j f5 (hC.2.2.2.2.2.1 _ f6) (fun _ h => h) ((xF_at l 0 j hj).trans (by simp [xfv, hr, xrv])) d (kk p e R s m args below meth c H locs ls a0 n0 a hC hn hg hH hS hl)
theorem x_puti {k j idx ci : Nat} {l : List Nat} {ty : FieldType} {v : Int32} (F : xFl Y.1.cls idx ci j ty false) (hk : k < n) (hd : KD k = (ci, l)) (hc : ci < 100) (hj : l[j]? = some 0) (hw : narrow ty (.int v) = .int v) (hf : fits ty (.int v) = true) (d : decode Y.2.1 pc = .ok (.putfield idx, 3)) (kk : Wx E Y (pc + 3) lv st n cs ss (sI σ k j v) K) : Wx E Y pc lv (.int v :: .ref k :: st) n cs ss σ K := by
  intro p e R s m args below meth c H locs ls a0 n0 a hC hn hg hH hS hl
  obtain ⟨C, T, N, ty0, f1, f2, f3, f4, f5, f6, f7, f8, f9⟩ := F
  refine va_put (D := E.2.1.1) (cl := cls) (tys := xT E.2.1) (ty := ty) (v := .int v) hC.1 hC.2.1 hC.2.2.2.2.2.1 f2 ty0 f3 f4 hC.2.2.2.2.1 hC.2.2.2.2.2.2.2.2.1.1 hH.2.2.2.2 hH.D hS k (xc_at hk (xc_obj hd hc)) f1 j f5 (hC.2.2.2.2.2.1 _ f6) (fun _ h => h) f8 f7 hw hf (by rw [xF_len]; exact (List.getElem?_eq_some_iff.mp hj).1) d (fun H1 locs1 hP1 _ hS1 => ?_)
  rw [xc_sI hd hc hj, xW_set hk sI_off] at hP1
  exact kk p e R s m args below meth c H1 locs1 ls a0 n0 a hC hn hg ⟨hH.1, hH.2.1, hH.2.2.1, hH.2.2.2.1, hP1⟩ hS1 hl
theorem x_putj {k j idx ci : Nat} {l : List Nat} {v : Int64} (F : xFl Y.1.cls idx ci j .long false) (hk : k < n) (hd : KD k = (ci, l)) (hc : ci < 100) (hj : l[j]? = some 1) (d : decode Y.2.1 pc = .ok (.putfield idx, 3)) (kk : Wx E Y (pc + 3) lv st n cs ss (sJ σ k j v) K) : Wx E Y pc lv (.long v :: .ref k :: st) n cs ss σ K := by
  intro p e R s m args below meth c H locs ls a0 n0 a hC hn hg hH hS hl
  obtain ⟨C, T, N, ty0, f1, f2, f3, f4, f5, f6, f7, f8, f9⟩ := F
  refine va_put (D := E.2.1.1) (cl := cls) (tys := xT E.2.1) (ty := .long) (v := .long v) hC.1 hC.2.1 hC.2.2.2.2.2.1 f2 ty0 f3 f4 hC.2.2.2.2.1 hC.2.2.2.2.2.2.2.2.1.1 hH.2.2.2.2 hH.D hS k (xc_at hk (xc_obj hd hc)) f1 j f5 (hC.2.2.2.2.2.1 _ f6) (fun _ h => h) f8 f7 rfl rfl (by rw [xF_len]; exact (List.getElem?_eq_some_iff.mp hj).1) d (fun H1 locs1 hP1 _ hS1 => ?_)
  rw [xc_sJ hd hc hj, xW_set hk sJ_off] at hP1
  exact kk p e R s m args below meth c H1 locs1 ls a0 n0 a hC hn hg ⟨hH.1, hH.2.1, hH.2.2.1, hH.2.2.2.1, hP1⟩ hS1 hl
theorem sR_le {σ : xS} {n k j v : Nat} (h : ∀ k j, σ.2.2 k j ≤ n) (hv : v ≤ n) : ∀ k' j', (sR σ k j v).2.2 k' j' ≤ n := by
  intro k' j'
  show xup σ.2.2 k (xupN (σ.2.2 k) j v) k' j' ≤ n
  unfold xup xupN
  split
  · dsimp only
    split
    · exact hv
    · exact h _ _
  · exact h _ _
/-- a final reference field, in a constructor -/
theorem x_putrF {k j i idx ci : Nat} {l : List Nat} {ty : FieldType} (F : xFl Y.1.cls idx ci j ty true) (hini : Y.1.name = "<init>") (hcn : (cls[ci]?.map fun q => q.1) = some Y.1.cls) (hk : k < n) (hi : i < n) (hd : KD k = (ci, l)) (hc : ci < 100) (hj : l[j]? = some 2) (hw : ∀ q, narrow ty (.ref q) = .ref q) (hf : ∀ q, fits ty (.ref q) = true) (d : decode Y.2.1 pc = .ok (.putfield idx, 3)) (kk : Wx E Y (pc + 3) lv st n cs ss (sR σ k j (i + 1)) K) : Wx E Y pc lv (.ref i :: .ref k :: st) n cs ss σ K := by
  intro p e R s m args below meth c H locs ls a0 n0 a hC hn hg hH hS hl
  obtain ⟨C, T, N, ty0, f1, f2, f3, f4, f5, f6, f7, f8, f9⟩ := F
  have hCn : C = Y.1.cls := by rw [f1] at hcn; exact Option.some.inj hcn
  refine va_putF (D := E.2.1.1) (cl := cls) (tys := xT E.2.1) (ty := ty) (v := .ref (a i)) hC.1 hC.2.1 hC.2.2.2.2.2.1 f2 ty0 f3 f4 hC.2.2.2.2.1 hC.2.2.2.2.2.2.2.2.1.1 hH.2.2.2.2 hH.D hS k (xc_at hk (xc_obj hd hc)) f1 j f5 (hC.2.2.2.2.2.1 _ f6) (fun _ h => h) f8 (hC.2.2.2.2.2.2.2.1 hini) (f9.trans hCn) f7 (hw _) (hf _) (by rw [xF_len]; exact (List.getElem?_eq_some_iff.mp hj).1) d (fun H1 locs1 hP1 _ hS1 => ?_)
  rw [xc_sR hd hc hj, xW_set hk sR_off] at hP1
  exact kk p e R s m args below meth c H1 locs1 ls a0 n0 a hC hn hg ⟨hH.1, hH.2.1, sR_le hH.2.2.1 hi, hH.2.2.2.1, hP1⟩ hS1 hl
theorem x_iald {k z : Nat} {i : Int32} (hk : k < n) (hd : KD k = (100, [z])) (hi : vp_in i z) (d : decode Y.2.1 pc = .ok (.iaload, 1)) (kk : Wx E Y (pc + 1) lv (.int (σ.1 k i.toNatClampNeg) :: st) n cs ss σ K) : Wx E Y pc lv (.int i :: .ref k :: st) n cs ss σ K :=
  fun p e R s m args below meth c H locs ls a0 n0 a hC hn hg hH hS hl => va_iald (D := E.2.1.1) (cl := cls) (tys := xT E.2.1) hC.1 hC.2.1 hC.2.2.2.2.2.2.2.2.1.1 hH.2.2.2.2 k 0 (xc_at hk (xc_int hd)) rfl hi d (kk p e R s m args below meth c H locs ls a0 n0 a hC hn hg hH hS hl)
theorem x_zald {k z : Nat} {i : Int32} (hk : k < n) (hd : KD k = (102, [z])) (hi : vp_in i z) (d : decode Y.2.1 pc = .ok (.baload, 1)) (kk : Wx E Y (pc + 1) lv (.int (σ.1 k i.toNatClampNeg) :: st) n cs ss σ K) : Wx E Y pc lv (.int i :: .ref k :: st) n cs ss σ K :=
  fun p e R s m args below meth c H locs ls a0 n0 a hC hn hg hH hS hl => va_zald (D := E.2.1.1) (cl := cls) (tys := xT E.2.1) hC.1 hC.2.1 hC.2.2.2.2.2.2.2.2.1.1 hH.2.2.2.2 k 2 (xc_at hk (xc_bool hd)) rfl hi d (kk p e R s m args below meth c H locs ls a0 n0 a hC hn hg hH hS hl)
theorem x_lald {k z : Nat} {i : Int32} (hk : k < n) (hd : KD k = (101, [z])) (hi : vp_in i z) (d : decode Y.2.1 pc = .ok (.laload, 1)) (kk : Wx E Y (pc + 1) lv (.long (σ.2.1 k i.toNatClampNeg) :: st) n cs ss σ K) : Wx E Y pc lv (.int i :: .ref k :: st) n cs ss σ K :=
  fun p e R s m args below meth c H locs ls a0 n0 a hC hn hg hH hS hl => va_lald (D := E.2.1.1) (cl := cls) (tys := xT E.2.1) hC.1 hC.2.1 hC.2.2.2.2.2.2.2.2.1.1 hH.2.2.2.2 k 1 (xc_at hk (xc_long hd)) rfl hi d (kk p e R s m args below meth c H locs ls a0 n0 a hC hn hg hH hS hl)
theorem x_iast {k z : Nat} {i x : Int32} (hk : k < n) (hd : KD k = (100, [z])) (hi : vp_in i z) (d : decode Y.2.1 pc = .ok (.iastore, 1)) (kk : Wx E Y (pc + 1) lv st n cs ss (sI σ k i.toNatClampNeg x) K) : Wx E Y pc lv (.int x :: .int i :: .ref k :: st) n cs ss σ K := by
  intro p e R s m args below meth c H locs ls a0 n0 a hC hn hg hH hS hl
  refine va_iast (D := E.2.1.1) (cl := cls) (tys := xT E.2.1) hC.1 hC.2.1 hC.2.2.2.2.2.2.2.2.1.1 hH.2.2.2.2 hH.D hS k 0 (xc_at hk (xc_int hd)) rfl hi d (fun H1 locs1 hP1 _ hS1 => ?_)
  have hx : (a k, (.inl (E.2.1.2.1, (z, .inl (upd (σ.1 k) i.toNatClampNeg x))) : va_E)) = xc E.2.1 a (sI σ k i.toNatClampNeg x) k := by rw [xc_int hd]; simp [sI, xup]
  rw [hx, xW_set hk sI_off] at hP1
  exact kk p e R s m args below meth c H1 locs1 ls a0 n0 a hC hn hg ⟨hH.1, hH.2.1, hH.2.2.1, hH.2.2.2.1, hP1⟩ hS1 hl
theorem x_zast {k z : Nat} {i x : Int32} (hk : k < n) (hd : KD k = (102, [z])) (hi : vp_in i z) (d : decode Y.2.1 pc = .ok (.bastore, 1)) (kk : Wx E Y (pc + 1) lv st n cs ss (sI σ k i.toNatClampNeg (vp_nar .boolean x)) K) : Wx E Y pc lv (.int x :: .int i :: .ref k :: st) n cs ss σ K := by
  intro p e R s m args below meth c H locs ls a0 n0 a hC hn hg hH hS hl
  refine va_zast (D := E.2.1.1) (cl := cls) (tys := xT E.2.1) hC.1 hC.2.1 hC.2.2.2.2.2.2.2.2.1.1 hH.2.2.2.2 hH.D hS k 2 (xc_at hk (xc_bool hd)) rfl hi d (fun H1 locs1 hP1 _ hS1 => ?_)
  have hx : (a k, (.inl (E.2.1.2.2.2.1, (z, .inl (upd (σ.1 k) i.toNatClampNeg (vp_nar .boolean x)))) : va_E)) = xc E.2.1 a (sI σ k i.toNatClampNeg (vp_nar .boolean x)) k := by rw [xc_bool hd]; simp [sI, xup]
  rw [hx, xW_set hk sI_off] at hP1
  exact kk p e R s m args below meth c H1 locs1 ls a0 n0 a hC hn hg ⟨hH.1, hH.2.1, hH.2.2.1, hH.2.2.2.1, hP1⟩ hS1 hl
theorem x_last {k z : Nat} {i : Int32} {x : Int64} (hk : k < n) (hd : KD k = (101, [z])) (hi : vp_in i z) (d : decode Y.2.1 pc = .ok (.lastore, 1)) (kk : Wx E Y (pc + 1) lv st n cs ss (sJ σ k i.toNatClampNeg x) K) : Wx E Y pc lv (.long x :: .int i :: .ref k :: st) n cs ss σ K := by
  intro p e R s m args below meth c H locs ls a0 n0 a hC hn hg hH hS hl
  refine va_last (D := E.2.1.1) (cl := cls) (tys := xT E.2.1) hC.1 hC.2.1 hC.2.2.2.2.2.2.2.2.1.1 hH.2.2.2.2 hH.D hS k 1 (xc_at hk (xc_long hd)) rfl hi d (fun H1 locs1 hP1 _ hS1 => ?_)
  have hx : (a k, (.inl (E.2.1.2.2.1, (z, .inr (.inl (vp_updL (σ.2.1 k) i.toNatClampNeg x)))) : va_E)) = xc E.2.1 a (sJ σ k i.toNatClampNeg x) k := by rw [xc_long hd]; simp [sJ, xup]
  rw [hx, xW_set hk sJ_off] at hP1
  exact kk p e R s m args below meth c H1 locs1 ls a0 n0 a hC hn hg ⟨hH.1, hH.2.1, hH.2.2.1, hH.2.2.2.1, hP1⟩ hS1 hl
theorem x_iret {K : xK} {v : Int32} {ty : FieldType} (hr : Y.2.2.2.1 = some ty) (hw : narrow ty (.int v) = .int v) (d : decode Y.2.1 pc = .ok (.ireturn, 1)) (h1 : cs ≤ Y.2.2.2.2.cells) (h2 : ss ≤ Y.2.2.2.2.slots) (hK : K (some (.int v)) n σ) : Wx E Y pc lv [.int v] n cs ss σ (xMQ E Y K) :=
  fun p e R s m args below meth c H locs ls a0 n0 a hC hn hg hH hS hl => W.widen h1 h2 (W.zret hC.1 hC.2.1 (hC.2.2.1.trans hr) hw (fun t ht hW => ⟨some (.int v), n, σ, a, rfl, hn, hg, hK, ht ▸ hH, hS.F ht⟩) hS.2.2 d hC.2.2.2.2.2.2.1)
theorem x_lret {K : xK} {v : Int64} (hr : Y.2.2.2.1 = some .long) (d : decode Y.2.1 pc = .ok (.lreturn, 1)) (h1 : cs ≤ Y.2.2.2.2.cells) (h2 : ss ≤ Y.2.2.2.2.slots) (hK : K (some (.long v)) n σ) : Wx E Y pc lv [.long v] n cs ss σ (xMQ E Y K) :=
  fun p e R s m args below meth c H locs ls a0 n0 a hC hn hg hH hS hl => W.widen h1 h2 (W.lret hC.1 hC.2.1 (hC.2.2.1.trans hr) (fun t ht hW => ⟨some (.long v), n, σ, a, rfl, hn, hg, hK, ht ▸ hH, hS.F ht⟩) hS.2.2 d hC.2.2.2.2.2.2.1)
theorem x_vret {K : xK} (hr : Y.2.2.2.1 = none) (d : decode Y.2.1 pc = .ok (.return_, 1)) (h1 : cs ≤ Y.2.2.2.2.cells) (h2 : ss ≤ Y.2.2.2.2.slots) (hK : K none n σ) : Wx E Y pc lv [] n cs ss σ (xMQ E Y K) :=
  fun p e R s m args below meth c H locs ls a0 n0 a hC hn hg hH hS hl => W.widen h1 h2 (W.vret hC.1 hC.2.1 (hC.2.2.1.trans hr) (fun t ht hW => ⟨none, n, σ, a, rfl, hn, hg, hK, ht ▸ hH, hS.F ht⟩) hS.2.2 d hC.2.2.2.2.2.2.1)
end XH
