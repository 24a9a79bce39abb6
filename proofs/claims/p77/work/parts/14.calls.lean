/-! ===== calls, the entry of a method, what is made anew, switches ===== -/
def xokv (n : Nat) (v : Value) : Bool := match v with
  | .ref k => decide (k < n) || decide (1000 ≤ k)
  | _ => true
theorem xrel_ag {n : Nat} {a a' : Nat → Nat} (h : xag n a a') {v : Value} (hv : xokv n v = true) : xrel a' v = xrel a v := by
  cases v with
  | ref k => simp only [xrel]; rw [h k (by simpa [xokv] using hv)]
  | _ => rfl
theorem xlv_ag {n : Nat} {a a' : Nat → Nat} (h : xag n a a') {lv : List (Nat × Value)} (hv : (lv.all fun q => xokv n q.2) = true) : xlv a' lv = xlv a lv := by
  apply List.map_congr_left
  intro q hq
  rw [xrel_ag h (List.all_eq_true.mp hv q hq)]
theorem xst_ag {n : Nat} {a a' : Nat → Nat} (h : xag n a a') {st : List Value} (hv : (st.all (xokv n)) = true) : st.map (xrel a') = st.map (xrel a) := by
  apply List.map_congr_left
  intro v hq
  exact xrel_ag h (List.all_eq_true.mp hv v hq)
theorem good_TB {y : MethodName} {bytes : ByteArray} {nL : Nat} {ret : Option FieldType} (h : Cond.code y bytes nL ret ∈ TBg) : GoodIn TBg (Cond.code y bytes nL ret :: TBg) := by
  intro w hw
  have hm : w ∈ TBg := by
    rcases List.mem_cons.mp hw with e | e
    · rw [e]; exact h
    · exact e
  exact ⟨hm, good_of_word (List.mem_filter.mp hm).2⟩
/-- what the tables say of a call of Z, linked as idx in class own, with n arguments behind the receiver -/
def xM (own : String) (idx : Nat) (Z : xY) (n : Nat) : Prop := Cond.methodLink own idx Z.1 ∈ TBg ∧ Cond.initialized Z.1.cls ∈ TBg ∧ Cond.code Z.1 Z.2.1 Z.2.2.1 Z.2.2.2.1 ∈ TBg ∧ (Z.1.cls ≠ "java/lang/invoke/MethodHandle" ∧ Z.1.cls ≠ "java/lang/invoke/VarHandle" ∧ (parseMethodDescriptor Z.1.desc).map (fun d => d.parameters.length) = some n)
/-- the callee's room fits the caller's -/
def xRm (Y Z : xY) (cs ss : Nat) : Prop := (Z.2.2.2.2.frames + 1 ≤ Y.2.2.2.2.frames ∧ 8 + (Z.2.2.1 + 11) + Z.2.2.2.2.locals ≤ Y.2.2.2.2.locals) ∧ (cs + Z.2.2.2.2.cells ≤ Y.2.2.2.2.cells ∧ ss + Z.2.2.2.2.slots ≤ Y.2.2.2.2.slots)
section XQ
variable {E : xV} {Y Z : xY} {pc n cs ss : Nat} {lv lv' : List (Nat × Value)} {st : List Value} {σ : xS} {K : xQQ}
/-- what is asked of a state at a call holds there -/
theorem x_pre {a : Nat → Nat} {s : State} {H : Heap} {av : List Value} (hK : xKs E s) (hH : xH E a n σ H) (hb : xB E H) : FrameBlind (va_Pc (av.map (xrel a)) (fun U => xH E a n σ U.heap ∧ xKs E U ∧ xB E U.heap)) ∧ ∀ U : State, U.heap = H → s.WarmedH U.vm → va_Pc (av.map (xrel a)) (fun U => xH E a n σ U.heap ∧ xKs E U ∧ xB E U.heap) (av.map (xrel a)).toArray U := by
  refine ⟨fun a' U g mk q => ?_, fun U hU hW => ⟨rfl, by rw [hU]; exact hH, hK.warm hW, by rw [hU]; exact hb⟩⟩
  obtain ⟨q0, q1, q2, q3⟩ := q
  exact ⟨q0, q1, xKs.same (s := U) (U := U.calling g mk a') rfl q2, q3⟩
/-- behind a call -/
theorem x_back {p : Program} {e : Env} {R : Room} {s : State} {m : MethodId} {args : Array Value} {below : List Frame} {meth : Method} {c : Code} {H : Heap} {locs : List Loc} {ls : Array Slot} {a0 a : Nat → Nat} {n0 : Nat} {av : Array Value} {g0 : List Value} {rest : List Value} {mc ms : Nat}
    (hC : xC E Y K.1 p R s m args meth c) (hn : n0 ≤ n) (hg : xag n0 a0 a) (hS : va_S (fun q => E.2.2.1 ≤ q) s.heap H locs) (hl : lv_has ls Y.2.2.1 (xlv a lv)) (hlv : (lv.all fun q => xokv n q.2) = true) (hst : (rest.all (xokv n)) = true)
    (hr : va_Run p E.1 e R s m args below meth c H locs cs ss mc ms (F0 m pc ls g0) (rest.map (xrel a)) (xQ E a n (fun v n' σ' => Wx E Y (pc + 3) lv (v.toList ++ rest) n' (cs + mc) (ss + ms) σ' K) av) (fun q => E.2.2.1 ≤ q)) :
    W p E.1 e R s m args below meth c H locs cs ss (K.2 below args s a0 n0) (F0 m pc ls g0) := by
  intro T hT X
  obtain ⟨v, st₀, t, T', L, h0, X', hL, e1, e2, ⟨v', n', σ', a', hv, hn', hag, hK', hH', hF⟩, sto⟩ := hr T hT X
  cases hv
  have hz := hF.1
  have hk := hF.2
  rw [h0] at hz hk
  have hlv' : lv_has ls Y.2.2.1 (xlv a' lv) := by rw [xlv_ag hag hlv]; exact hl
  obtain ⟨t2, a1, b1⟩ := hK' p e R s m args below meth c T'.heap (locs ++ L) ls a0 n0 a' hC (Nat.le_trans hn hn') (fun i hi => (hag i (hi.imp_left fun h => Nat.lt_of_lt_of_le h hn)).trans (hg i hi)) (by rw [e1]; exact hH')
    ⟨Nat.le_trans hS.1 (by rw [e1]; exact hz), fun q h1 h2 => by rw [e1, hk q (Nat.lt_of_lt_of_le h1 hS.1) h2]; exact hS.2.1 q h1 h2, fun q hq => by
      rcases List.mem_append.mp hq with h | h
      · exact hS.2.2 q h
      · exact hL q h⟩ hlv' T' rfl X'
  refine ⟨t2, sto t2 ?_, b1⟩
  have hm : (v'.toList ++ rest).map (xrel a') = (v'.map (xrel a')).toList ++ rest.map (xrel a) := by
    rw [List.map_append, xst_ag hag hst]
    cases v' <;> rfl
  rw [hm] at a1
  exact a1
theorem x_invV {idx kb ci : Nat} {As rest : List Value} {l : List Nat} {nA : Nat} (d : decode Y.2.1 pc = .ok (.invokevirtual idx, 3)) (hM : xM Y.1.cls idx Z nA) (hin : Cond.instanceMethod Z.1 ∈ TBg) (hsel : Cond.selects Z.1.cls Z.1 Z.1 ∈ TBg) (hA : As.length = nA) (hst : st = As.reverse ++ .ref kb :: rest) (hk : kb < n) (hd : KD kb = (ci, l)) (hc : ci < 100) (hcn : (cls[ci]?.map fun q => q.1) = some Z.1.cls) (hrm : xRm Y Z cs ss) (hcat : (rest.map fun v => v.category).sum ≤ 8) (hlv : (lv.all fun q => xokv n q.2) = true) (hrs : (rest.all (xokv n)) = true)
    (kk : Cx E Z (.ref kb :: As) n σ (fun v n' σ' => Wx E Y (pc + 3) lv (v.toList ++ rest) n' (cs + Z.2.2.2.2.cells) (ss + Z.2.2.2.2.slots) σ' K)) : Wx E Y pc lv st n cs ss σ K := by
  intro p e R s m args below meth c H locs ls a0 n0 a hC hn hg hH hS hl
  have hts := hC.2.2.2.2.2.1
  have hK := hC.2.2.2.2.2.2.2.2.1
  have hb : xB E H := hC.2.2.2.2.2.2.2.2.2.1.of hS
  obtain ⟨hR1, hR2, hR3, hR4, -⟩ := hC.2.2.2.2.2.2.2.2.2.2
  obtain ⟨q, hq, hqn⟩ : ∃ q, cls[ci]? = some q ∧ q.1 = Z.1.cls := by
    cases h : cls[ci]? with
    | none => rw [h] at hcn; cases hcn
    | some q => rw [h] at hcn; exact ⟨q, rfl, Option.some.inj hcn⟩
  have hrec := va_recv hK.1 hH.2.2.2.2 hq (xc_at hk (xc_obj (a := a) (G := E.2.1) (σ := σ) hd hc))
  rw [hqn] at hrec
  have hp := x_pre (av := .ref kb :: As) hK hH hb
  subst hst
  refine x_back (av := (Value.ref (a kb) :: As.map (xrel a)).toArray) (g0 := (As.reverse ++ .ref kb :: rest).map (xrel a)) hC hn hg hS hl hlv hrs (va_runV (As := As.map (xrel a)) (rest := rest.map (xrel a)) (b := a kb) (C := Z.1.cls) (bytes := Z.2.1) (maxL := Z.2.2.1) (ret := Z.2.2.2.1) (n := nA) ⟨hC.1, hC.2.1, hC.2.2.2.1, hC.2.2.2.2.1, hts⟩ (kk a) ⟨callB_of nA hts (good_TB hM.2.2.1) rfl rfl rfl (hts _ hM.2.1) (hts _ hM.1) hM.2.2.2 ⟨Nat.le_trans hrm.1.1 hR1, Nat.le_trans hrm.1.2 hR2⟩, hts _ hin, hts _ hsel⟩ ⟨hp.1, hrec, hp.2⟩ rfl (by rw [List.length_map]; exact hA) hl.1 (by simp [xrel]) ?_ d ⟨Nat.le_trans hrm.2.1 hR3, Nat.le_trans hrm.2.2 hR4⟩)
  refine lv_room ?_
  rw [List.map_map]
  have : ((fun v => v.category) ∘ xrel a : Value → Nat) = fun v => v.category := funext fun v => xrel_cat
  rw [this]
  exact hcat
theorem x_invS {idx : Nat} {As rest : List Value} {nA : Nat} (d : decode Y.2.1 pc = .ok (.invokestatic idx, 3)) (hM : xM Y.1.cls idx Z nA) (hstat : Cond.static Z.1 ∈ TBg) (hA : As.length = nA) (hst : st = As.reverse ++ rest) (hrm : xRm Y Z cs ss) (hcat : (rest.map fun v => v.category).sum ≤ 8) (hlv : (lv.all fun q => xokv n q.2) = true) (hrs : (rest.all (xokv n)) = true)
    (kk : Cx E Z As n σ (fun v n' σ' => Wx E Y (pc + 3) lv (v.toList ++ rest) n' (cs + Z.2.2.2.2.cells) (ss + Z.2.2.2.2.slots) σ' K)) : Wx E Y pc lv st n cs ss σ K := by
  intro p e R s m args below meth c H locs ls a0 n0 a hC hn hg hH hS hl
  have hts := hC.2.2.2.2.2.1
  have hK := hC.2.2.2.2.2.2.2.2.1
  have hb : xB E H := hC.2.2.2.2.2.2.2.2.2.1.of hS
  obtain ⟨hR1, hR2, hR3, hR4, -⟩ := hC.2.2.2.2.2.2.2.2.2.2
  have hp := x_pre (av := As) hK hH hb
  subst hst
  refine x_back (av := (As.map (xrel a)).toArray) (g0 := (As.reverse ++ rest).map (xrel a)) hC hn hg hS hl hlv hrs (va_runS (As := As.map (xrel a)) (rest := rest.map (xrel a)) (bytes := Z.2.1) (maxL := Z.2.2.1) (ret := Z.2.2.2.1) (n := nA) ⟨hC.1, hC.2.1, hC.2.2.2.1, hC.2.2.2.2.1, hts⟩ (kk a) ⟨callB_of nA hts (good_TB hM.2.2.1) rfl rfl rfl (hts _ hM.2.1) (hts _ hM.1) hM.2.2.2 ⟨Nat.le_trans hrm.1.1 hR1, Nat.le_trans hrm.1.2 hR2⟩, hts _ hstat⟩ ⟨hp.1, hp.2⟩ rfl (by rw [List.length_map]; exact hA) hl.1 (by simp) ?_ d ⟨Nat.le_trans hrm.2.1 hR3, Nat.le_trans hrm.2.2 hR4⟩)
  refine lv_room ?_
  rw [List.map_map]
  have : ((fun v => v.category) ∘ xrel a : Value → Nat) = fun v => v.category := funext fun v => xrel_cat
  rw [this]
  exact hcat
theorem x_invI {idx kb : Nat} {As rest : List Value} {nA : Nat} (d : decode Y.2.1 pc = .ok (.invokespecial idx, 3)) (hM : xM Y.1.cls idx Z nA) (hin : Cond.instanceMethod Z.1 ∈ TBg) (hname : Z.1.name = "<init>") (hret : Z.2.2.2.1 = none) (hA : As.length = nA) (hst : st = As.reverse ++ .ref kb :: rest) (hrm : xRm Y Z cs ss) (hcat : (rest.map fun v => v.category).sum ≤ 8) (hlv : (lv.all fun q => xokv n q.2) = true) (hrs : (rest.all (xokv n)) = true)
    (kk : Cx E Z (.ref kb :: As) n σ (fun v n' σ' => Wx E Y (pc + 3) lv (v.toList ++ rest) n' (cs + Z.2.2.2.2.cells) (ss + Z.2.2.2.2.slots) σ' K)) : Wx E Y pc lv st n cs ss σ K := by
  intro p e R s m args below meth c H locs ls a0 n0 a hC hn hg hH hS hl
  have hts := hC.2.2.2.2.2.1
  have hK := hC.2.2.2.2.2.2.2.2.1
  have hb : xB E H := hC.2.2.2.2.2.2.2.2.2.1.of hS
  obtain ⟨hR1, hR2, hR3, hR4, -⟩ := hC.2.2.2.2.2.2.2.2.2.2
  have hp := x_pre (av := .ref kb :: As) hK hH hb
  have hcd := hM.2.2.1
  rw [hret] at hcd
  have kk1 := kk a
  rw [hret] at kk1
  subst hst
  refine x_back (av := (Value.ref (a kb) :: As.map (xrel a)).toArray) (g0 := (As.reverse ++ .ref kb :: rest).map (xrel a)) hC hn hg hS hl hlv hrs (va_runI (As := As.map (xrel a)) (rest := rest.map (xrel a)) (b := a kb) (bytes := Z.2.1) (maxL := Z.2.2.1) (n := nA) ⟨hC.1, hC.2.1, hC.2.2.2.1, hC.2.2.2.2.1, hts⟩ kk1 ⟨callB_of nA hts (good_TB hcd) rfl rfl rfl (hts _ hM.2.1) (hts _ hM.1) hM.2.2.2 ⟨Nat.le_trans hrm.1.1 hR1, Nat.le_trans hrm.1.2 hR2⟩, hname, hts _ hin⟩ ⟨hp.1, hp.2⟩ rfl (by rw [List.length_map]; exact hA) hl.1 (by simp [xrel]) ?_ d ⟨Nat.le_trans hrm.2.1 hR3, Nat.le_trans hrm.2.2 hR4⟩)
  refine lv_room ?_
  rw [List.map_map]
  have : ((fun v => v.category) ∘ xrel a : Value → Nat) = fun v => v.category := funext fun v => xrel_cat
  rw [this]
  exact hcat
theorem xlv_args {a : Nat → Nat} : ∀ (av : List Value) (i : Nat), lv_args i (av.map (xrel a)) = xlv a (lv_args i av)
  | [], _ => rfl
  | v :: av, i => by
    simp only [List.map_cons, lv_args, xrel_cat]
    rw [xlv_args av]
    rfl
/-- a contract out of a walk from the method's first instruction -/
theorem x_entry {K : xK} {av : List Value} {lv0 : List (Nat × Value)} (hy : plainName Y.1.cls = true) (hlen : ∀ a, (lg_sl (av.map (xrel a))).length ≤ Y.2.2.1) (hlv : lv_args 0 av = lv0) (k : Wx E Y 0 lv0 [] n 0 0 σ (xMQ E Y K)) : Cx E Y av n σ K := by
  intro a
  refine Met.ofW (cc := Y.2.1) (maxL := Y.2.2.1) (ret := Y.2.2.2.1) hy rfl ?_
  intro p e s m args below meth c s₁ B hml hv
  obtain ⟨rfl, hH, hK, hb⟩ := hv
  have hts0 := atoms_spec (ws := Cond.code Y.1 Y.2.1 Y.2.2.1 Y.2.2.2.1 :: TBg) B.pre
  have hl := lv_entry (av.map (xrel a)) (n := Y.2.2.1) (hlen a)
  rw [xlv_args, hlv] at hl
  rw [lg_entry_eq]
  exact k p e _ s m _ below meth c s.heap [] _ a n a ⟨B.exec, B.bytes, B.returns, hml, findClass_of_methodNamed B.named, fun w hw => hts0 w (List.mem_cons_of_mem _ hw), B.notSynchronized, fun h => (name_of_methodNamed B.named B.method).1.trans h, hK, hb, ⟨Nat.le_refl _, Nat.le_refl _, Nat.le_refl _, Nat.le_refl _, trivial⟩⟩ (Nat.le_refl _) (fun _ _ => rfl) hH va_S.rf hl
theorem x_objInit {idx kb : Nat} (d : decode Y.2.1 pc = .ok (.invokespecial idx, 3)) (h1 : Cond.methodLink Y.1.cls idx Lib.objectInit ∈ TBg) (h2 : Cond.instanceMethod Lib.objectInit ∈ TBg) (h3 : Cond.code Lib.objectInit ⟨#[0xb1]⟩ 1 none ∈ TBg) (hfr : 1 ≤ Y.2.2.2.2.frames) (hlo : 20 ≤ Y.2.2.2.2.locals) (hcat : (st.map fun v => v.category).sum ≤ 8) (k : Wx E Y (pc + 3) lv st n cs ss σ K) : Wx E Y pc lv (.ref kb :: st) n cs ss σ K := by
  intro p e R s m args below meth c H locs ls a0 n0 a hC hn hg hH hS hl
  obtain ⟨hR1, hR2, hR3, hR4, -⟩ := hC.2.2.2.2.2.2.2.2.2.2
  have hts := hC.2.2.2.2.2.1
  refine W.objInit (a := a kb) (rest := st.map (xrel a)) hC.1 hC.2.1 hC.2.2.2.2.1 (hts _ h1) (hts _ h2) (hts _ h3) rfl (hl.1.trans hC.2.2.2.1.symm) rfl d (Nat.le_trans hfr hR1) ?_ (k p e R s m args below meth c H locs ls a0 n0 a hC hn hg hH hS hl)
  have h8 : 2 * (F0 m pc ls (Value.ref (a kb) :: st.map (xrel a))).monitorRoom + ((st.map (xrel a)).map fun v => v.category).sum ≤ 8 := by
    refine lv_room ?_
    rw [List.map_map]
    have : ((fun v => v.category) ∘ xrel a : Value → Nat) = fun v => v.category := funext fun v => xrel_cat
    rw [this]
    exact hcat
  exact Nat.le_trans (Nat.add_le_add_right h8 12) (Nat.le_trans hlo hR2)
theorem x_tableIn {dflt lo hi : Int} {offs : Array Int} {len : Nat} {x : Int32} {off : Int} {tgt : Nat} (d : decode Y.2.1 pc = .ok (.tableswitch dflt lo hi offs, len)) (h1 : ¬ x.toInt < lo) (h2 : ¬ hi < x.toInt) (ho : offs[(x.toInt - lo).toNat]? = some off) (ht : (pc : Int) + off = (tgt : Int)) (k : Wx E Y tgt lv st n cs ss σ K) : Wx E Y pc lv (.int x :: st) n cs ss σ K :=
  fun p e R s m args below meth c H locs ls a0 n0 a hC hn hg hH hS hl => lv_tableIn hC.1 hC.2.1 d h1 h2 ho ht (k p e R s m args below meth c H locs ls a0 n0 a hC hn hg hH hS hl)
theorem x_tableOut {dflt lo hi : Int} {offs : Array Int} {len : Nat} {x : Int32} {tgt : Nat} (d : decode Y.2.1 pc = .ok (.tableswitch dflt lo hi offs, len)) (h : x.toInt < lo ∨ hi < x.toInt) (ht : (pc : Int) + dflt = (tgt : Int)) (k : Wx E Y tgt lv st n cs ss σ K) : Wx E Y pc lv (.int x :: st) n cs ss σ K :=
  fun p e R s m args below meth c H locs ls a0 n0 a hC hn hg hH hS hl => lv_tableOut hC.1 hC.2.1 d h ht (k p e R s m args below meth c H locs ls a0 n0 a hC hn hg hH hS hl)
theorem x_lookup {dflt : Int} {ps : Array (Int × Int)} {len : Nat} {x : Int32} {off : Int} {tgt : Nat} (d : decode Y.2.1 pc = .ok (.lookupswitch dflt ps, len)) (hp : (ps.toList.zip (ps.toList.drop 1)).all (fun (a, next) => a.1 < next.1) = true) (ho : Op.lookupswitch.offset ps.toList dflt x.toInt = off) (ht : (pc : Int) + off = (tgt : Int)) (k : Wx E Y tgt lv st n cs ss σ K) : Wx E Y pc lv (.int x :: st) n cs ss σ K :=
  fun p e R s m args below meth c H locs ls a0 n0 a hC hn hg hH hS hl => lv_lookup hC.1 hC.2.1 d hp ho ht (k p e R s m args below meth c H locs ls a0 n0 a hC hn hg hH hS hl)
end XQ
