/-! ===== cells made anew ===== -/
def sN (σ : xS) (k : Nat) : xS := (xup σ.1 k (fun _ => 0), (xup σ.2.1 k (fun _ => 0), xup σ.2.2 k (fun _ => 0)))
theorem xrv_ag {n : Nat} {a a' : Nat → Nat} (h : xag n a a') {k : Nat} (hk : k ≤ n) : xrv a' k = xrv a k := by
  cases k with
  | zero => rfl
  | succ k => simp only [xrv]; rw [h k (Or.inl (by omega))]
theorem xro_ag {n : Nat} {a a' : Nat → Nat} (h : xag n a a') {k : Nat} (hk : k ≤ n) : xro a' k = xro a k := by
  cases k with
  | zero => rfl
  | succ k => simp only [xro]; rw [h k (Or.inl (by omega))]
theorem xF_ag {n : Nat} {a a' : Nat → Nat} (hg : xag n a a') {f : Nat → Int32} {g : Nat → Int64} {h : Nat → Nat} (hh : ∀ j, h j ≤ n) : ∀ (cs : List Nat) (o : Nat), xF a' f g h o cs = xF a f g h o cs
  | [], _ => rfl
  | c :: cs, o => by
    simp only [xF]
    rw [xF_ag hg hh cs]
    congr 1
    unfold xfv
    split
    · rfl
    · rfl
    · exact xrv_ag hg (hh o)
theorem xF_z : ∀ (cs : List Nat) (o : Nat) (a a' : Nat → Nat), xF a (fun _ => 0) (fun _ => 0) (fun _ => 0) o cs = xF a' (fun _ => 0) (fun _ => 0) (fun _ => 0) o cs
  | [], _, _, _ => rfl
  | c :: cs, o, a, a' => by
    simp only [xF]
    rw [xF_z cs (o + 1) a a']
    congr 1
theorem xE_ag {G : xG} {n : Nat} {a a' : Nat → Nat} (hg : xag n a a') {d : Nat × List Nat} {f : Nat → Int32} {g : Nat → Int64} {h : Nat → Nat} (hh : ∀ j, h j ≤ n) : xE G a' d f g h = xE G a d f g h := by
  unfold xE
  rw [xF_ag hg hh]
  have : (fun i => xro a' (h i)) = fun i => xro a (h i) := funext fun i => xro_ag hg (hh i)
  rw [this]
theorem xup_ag {a : Nat → Nat} {n q : Nat} (h9 : n < 1000) : xag n a (xup a n q) := fun i hi => xup_ne (by omega)
theorem xH_lt {E : xV} {a : Nat → Nat} {n : Nat} {σ : xS} {H : Heap} (hH : xH E a n σ H) {i : Nat} (hi : i < n) : a i < H.size := (hH.2.2.2.2 i _ (xW_at hi)).lt
theorem sN_off {σ : xS} {k i : Nat} (h : i ≠ k) : (sN σ k).1 i = σ.1 i ∧ (sN σ k).2.1 i = σ.2.1 i ∧ (sN σ k).2.2 i = σ.2.2 i := ⟨xup_ne h, xup_ne h, xup_ne h⟩
theorem xH_new {E : xV} {a : Nat → Nat} {n : Nat} {σ : xS} {H H1 : Heap} (h9 : n < 1000) (hH : xH E a n σ H) (hb : E.2.2.1 ≤ H.size) (hold : ∀ q, q < H.size → H1[q]? = H[q]?) (hnew : va_at E.2.1.1 cls (xc E.2.1 (xup a n H.size) (sN σ n) n) H1) : xH E (xup a n H.size) (n + 1) (sN σ n) H1 := by
  refine ⟨fun i j hi hj hij => ?_, fun i hi => ?_, fun k j => ?_, ⟨by omega, fun i => ?_⟩, fun k q hk => ?_⟩
  · by_cases h1 : i = n <;> by_cases h2 : j = n
    · omega
    · subst h1
      rw [xup_same, xup_ne h2] at hij
      have := xH_lt hH (show j < i by omega)
      omega
    · subst h2
      rw [xup_same, xup_ne h1] at hij
      have := xH_lt hH (show i < j by omega)
      omega
    · rw [xup_ne h1, xup_ne h2] at hij
      exact hH.1 i j (by omega) (by omega) hij
  · by_cases h1 : i = n
    · subst h1; rw [xup_same]; exact hb
    · rw [xup_ne h1]; exact hH.2.1 i (by omega)
  · show xup σ.2.2 n (fun _ => 0) k j ≤ n + 1
    by_cases h1 : k = n
    · subst h1; rw [xup_same]; omega
    · rw [xup_ne h1]; have := hH.2.2.1 k j; omega
  · rw [xup_ne (by omega)]; exact hH.2.2.2.1.2 i
  · obtain ⟨hk1, rfl⟩ := xW_inv hk
    by_cases h1 : k = n
    · subst h1; exact hnew
    · have hkn : k < n := by omega
      obtain ⟨o1, o2, o3⟩ := sN_off (σ := σ) h1
      have hx : xc E.2.1 (xup a n H.size) (sN σ n) k = xc E.2.1 a σ k := by
        unfold xc
        rw [o1, o2, o3, xE_ag (xup_ag (n := n) h9) (hH.2.2.1 k), xup_ne h1]
      rw [hx]
      have h0 := hH.2.2.2.2 k _ (xW_at hkn)
      exact h0.kept (hold _ h0.lt)
section XN
variable {E : xV} {Y : xY} {pc n cs ss : Nat} {lv lv' : List (Nat × Value)} {st : List Value} {σ : xS} {K : xQQ}
theorem x_new {idx ci N : Nat} {C : String} {T : u_T} {l : List Nat} (ty0 : Nat → FieldType) (d : decode Y.2.1 pc = .ok (.new idx, 3)) (hcl : cls[ci]? = some (C, T, N)) (hin : ∀ w ∈ u_ws C T N, w ∈ TBg) (hty : ∀ k, k < N → parseFieldDescriptor (T k).2.2.1 = some (ty0 k)) (h1 : Cond.classLink Y.1.cls idx C ∈ TBg) (h2 : Cond.instantiable C N ∈ TBg) (h3 : Cond.initialized C ∈ TBg) (h9 : n < 1000) (hd : KD n = (ci, l)) (hc : ci < 100) (hfs : ∀ j, j < N → defaultValue (ty0 j) = vp_V (xF (fun _ => 0) (fun _ => 0) (fun _ => 0) (fun _ => 0) 0 l) j) (hcs : cs + 1 ≤ Y.2.2.2.2.cells) (hss : ss + N ≤ Y.2.2.2.2.slots) (hlv : (lv.all fun q => xokv n q.2) = true) (hst : (st.all (xokv n)) = true)
    (k : Wx E Y (pc + 3) lv (.ref n :: st) (n + 1) (cs + 1) (ss + N) (sN σ n) K) : Wx E Y pc lv st n cs ss σ K := by
  intro p e R s m args below meth c H locs ls a0 n0 a hC hn hg hH hS hl
  have hts := hC.2.2.2.2.2.1
  have hK := hC.2.2.2.2.2.2.2.2.1.1
  have hb : E.2.2.1 ≤ H.size := (hC.2.2.2.2.2.2.2.2.2.1.of hS).1
  obtain ⟨hR1, hR2, hR3, hR4, -⟩ := hC.2.2.2.2.2.2.2.2.2.2
  have hKn := hK.1 ci _ hcl
  refine W.newcK hC.1 hC.2.1 hC.2.2.2.2.1 (hts _ h1) (hts _ h2) (hts _ h3) rfl d (Nat.le_trans hcs hR3) (Nat.le_trans hss hR4) hKn.2.1 rfl fun H1 kC hkC e1 z1 o1 => ?_
  have hnew : va_at E.2.1.1 cls (xc E.2.1 (xup a n H.size) (sN σ n) n) H1 := by
    rw [xc_obj hd hc, xup_same]
    refine ⟨_, hcl, (u_born ty0 hts hin hKn hkC e1 hty).to fun j hj => (hfs j hj).trans ?_⟩
    have e0 : xF (fun _ => 0) (fun _ => 0) (fun _ => 0) (fun _ => 0) 0 l = xF (xup a n H.size) ((sN σ n).1 n) ((sN σ n).2.1 n) ((sN σ n).2.2 n) 0 l := by
      have q1 : (sN σ n).1 n = fun _ => 0 := xup_same
      have q2 : (sN σ n).2.1 n = fun _ => 0 := xup_same
      have q3 : (sN σ n).2.2 n = fun _ => 0 := xup_same
      rw [q1, q2, q3]
      exact (xF_z l 0 _ _)
    rw [e0]
  have hH1 := xH_new h9 hH hb (fun q hq => o1 q hq) hnew
  have hl1 : lv_has ls Y.2.2.1 (xlv (xup a n H.size) lv) := by rw [xlv_ag (xup_ag h9) hlv]; exact hl
  have hk := k p e R s m args below meth c H1 locs ls a0 n0 (xup a n H.size) hC (by omega) (fun i hi => (xup_ag h9 i (hi.imp_left fun h => Nat.lt_of_lt_of_le h hn)).trans (hg i hi)) hH1 ⟨Nat.le_trans hS.1 (by omega), fun q h5 h6 => (o1 q (Nat.lt_of_lt_of_le h5 hS.1)).trans (hS.2.1 q h5 h6), hS.2.2⟩ hl1
  have hm : (Value.ref n :: st).map (xrel (xup a n H.size)) = Value.ref H.size :: st.map (xrel a) := by
    rw [List.map_cons, xst_ag (xup_ag h9) hst]
    simp [xrel, xup_same]
  rw [hm] at hk
  exact hk
/-- newarray: the class of the array is the one that the tables have -/
theorem x_newa (h9 : n < 1000) {z : Nat} {v : Int32} {at' : ArrayType} {ty : FieldType} {ti : Nat} {cA0 : ClassId} {kx : (Nat → Int32) ⊕ (Nat → Int64) ⊕ (Nat → UInt32) ⊕ (Nat → UInt64) ⊕ (Nat → Option Nat)} (d : decode Y.2.1 pc = .ok (.newarray at', 2)) (hty : newarray.typeOf at' = ty) (harr : Cond.arrayClass ty ∈ TBg) (hv : ¬ v < 0) (hz : v.toNatClampNeg = z) (hbytes : z * componentBytes ty ≤ 536870912) (hti : (xT E.2.1)[ti]? = some (cA0, ty)) (hRA : ∀ U cA, va_RA U cA ty → U.vm.findClass ("[" ++ ty.toString) = some cA) (hnewc : ∀ a, xc E.2.1 a (sN σ n) n = (a n, .inl (cA0, (z, kx)))) (hkx : ∀ cA, vp_cell cA (z, kx) = arrV cA z (fun _ => defaultValue ty)) (hcs : cs + 1 ≤ Y.2.2.2.2.cells) (hss : ss + z ≤ Y.2.2.2.2.slots) (hlv : (lv.all fun q => xokv n q.2) = true) (hst : (st.all (xokv n)) = true)
    (k : Wx E Y (pc + 2) lv (.ref n :: st) (n + 1) (cs + 1) (ss + z) (sN σ n) K) : Wx E Y pc lv (.int v :: st) n cs ss σ K := by
  subst hty
  intro p e R s m args below meth c H locs ls a0 n0 a hC hn hg hH hS hl
  have hts := hC.2.2.2.2.2.1
  have hK := hC.2.2.2.2.2.2.2.2.1.1
  have hb : E.2.2.1 ≤ H.size := (hC.2.2.2.2.2.2.2.2.2.1.of hS).1
  obtain ⟨hR1, hR2, hR3, hR4, -⟩ := hC.2.2.2.2.2.2.2.2.2.2
  refine va_newaK (g := F0 m pc ls (.int v :: st.map (xrel a))) (N := z) hC.1 hC.2.1 (hts _ harr) rfl d rfl hv hz hbytes (Nat.le_trans hcs hR3) (Nat.le_trans hss hR4) rfl fun H1 cA e1 z1 o1 hAr hNm => ?_
  have hcA : cA = cA0 := by
    have h5 := hRA _ _ (hK.2 ti _ hti).2
    rw [h5] at hNm
    exact (Option.some.inj hNm).symm
  subst hcA
  have hnew : va_at E.2.1.1 cls (xc E.2.1 (xup a n H.size) (sN σ n) n) H1 := by
    rw [hnewc, xup_same]
    show H1[H.size]? = some (vp_cell _ _)
    rw [e1, hkx]
  have hH1 := xH_new h9 hH hb (fun q hq => o1 q hq) hnew
  have hl1 : lv_has ls Y.2.2.1 (xlv (xup a n H.size) lv) := by rw [xlv_ag (xup_ag h9) hlv]; exact hl
  have hk := k p e R s m args below meth c H1 locs ls a0 n0 (xup a n H.size) hC (by omega) (fun i hi => (xup_ag h9 i (hi.imp_left fun h => Nat.lt_of_lt_of_le h hn)).trans (hg i hi)) hH1 ⟨Nat.le_trans hS.1 (by omega), fun q h5 h6 => (o1 q (Nat.lt_of_lt_of_le h5 hS.1)).trans (hS.2.1 q h5 h6), hS.2.2⟩ hl1
  have hm : (Value.ref n :: st).map (xrel (xup a n H.size)) = Value.ref H.size :: st.map (xrel a) := by
    rw [List.map_cons, xst_ag (xup_ag h9) hst]
    simp [xrel, xup_same]
  rw [hm] at hk
  exact hk
theorem x_newi (h9 : n < 1000) {z : Nat} {v : Int32} (d : decode Y.2.1 pc = .ok (.newarray .int, 2)) (harr : Cond.arrayClass .int ∈ TBg) (hv : ¬ v < 0) (hz : v.toNatClampNeg = z) (hbytes : z ≤ 100000) (hd : KD n = (100, [z])) (hcs : cs + 1 ≤ Y.2.2.2.2.cells) (hss : ss + z ≤ Y.2.2.2.2.slots) (hlv : (lv.all fun q => xokv n q.2) = true) (hst : (st.all (xokv n)) = true)
    (k : Wx E Y (pc + 2) lv (.ref n :: st) (n + 1) (cs + 1) (ss + z) (sN σ n) K) : Wx E Y pc lv (.int v :: st) n cs ss σ K :=
  x_newa h9 (ty := .int) (ti := 0) (kx := .inl fun _ => 0) d rfl harr hv hz (by show z * 4 ≤ _; omega) rfl (fun _ _ h => h) (fun a => by rw [xc_int hd]; simp [sN, xup]) (fun cA => by rw [vp_cell_i]; rfl) hcs hss hlv hst k
theorem x_newj (h9 : n < 1000) {z : Nat} {v : Int32} (d : decode Y.2.1 pc = .ok (.newarray .long, 2)) (harr : Cond.arrayClass .long ∈ TBg) (hv : ¬ v < 0) (hz : v.toNatClampNeg = z) (hbytes : z ≤ 100000) (hd : KD n = (101, [z])) (hcs : cs + 1 ≤ Y.2.2.2.2.cells) (hss : ss + z ≤ Y.2.2.2.2.slots) (hlv : (lv.all fun q => xokv n q.2) = true) (hst : (st.all (xokv n)) = true)
    (k : Wx E Y (pc + 2) lv (.ref n :: st) (n + 1) (cs + 1) (ss + z) (sN σ n) K) : Wx E Y pc lv (.int v :: st) n cs ss σ K :=
  x_newa h9 (ty := .long) (ti := 1) (kx := .inr (.inl fun _ => 0)) d rfl harr hv hz (by show z * 8 ≤ _; omega) rfl (fun _ _ h => h) (fun a => by rw [xc_long hd]; simp [sN, xup]) (fun cA => by rw [vp_cell_l]; rfl) hcs hss hlv hst k
theorem x_newz (h9 : n < 1000) {z : Nat} {v : Int32} (d : decode Y.2.1 pc = .ok (.newarray .boolean, 2)) (harr : Cond.arrayClass .boolean ∈ TBg) (hv : ¬ v < 0) (hz : v.toNatClampNeg = z) (hbytes : z ≤ 100000) (hd : KD n = (102, [z])) (hcs : cs + 1 ≤ Y.2.2.2.2.cells) (hss : ss + z ≤ Y.2.2.2.2.slots) (hlv : (lv.all fun q => xokv n q.2) = true) (hst : (st.all (xokv n)) = true)
    (k : Wx E Y (pc + 2) lv (.ref n :: st) (n + 1) (cs + 1) (ss + z) (sN σ n) K) : Wx E Y pc lv (.int v :: st) n cs ss σ K :=
  x_newa h9 (ty := .boolean) (ti := 2) (kx := .inl fun _ => 0) d rfl harr hv hz (by show z * 1 ≤ _; omega) rfl (fun _ _ h => h) (fun a => by rw [xc_bool hd]; simp [sN, xup]) (fun cA => by rw [vp_cell_i]; rfl) hcs hss hlv hst k
end XN
