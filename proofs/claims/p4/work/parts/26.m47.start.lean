/-- the ints that the constructors set, the latest first -/
def MA : List (Nat × (Nat × Int32)) := [(110, (81, (-4))), (110, (20, 1)), (109, (5, (-4))), (109, (4, (-4))), (74, (3, 8)), (74, (2, 4)), (74, (1, 2)), (74, (0, 1)), (60, (13, 255)), (60, (12, 255)), (60, (11, 255)), (60, (10, 255)), (60, (9, 255)), (60, (8, 255)), (60, (7, 255)), (60, (6, 255)), (60, (5, 255)), (60, (4, 255)), (60, (3, 255)), (60, (2, 255)), (60, (1, 255)), (60, (0, 255)), (49, (31, (-4))), (44, (31, (-4))), (49, (30, (-4))), (44, (30, (-4))), (49, (29, (-4))), (44, (29, (-4))), (49, (28, (-4))), (44, (28, (-4))), (49, (27, (-4))), (44, (27, (-4))), (49, (26, (-4))), (44, (26, (-4))), (49, (25, (-4))), (44, (25, (-4))), (49, (24, (-4))), (44, (24, (-4))), (49, (23, (-4))), (44, (23, (-4))), (49, (22, (-4))), (44, (22, (-4))), (49, (21, (-4))), (44, (21, (-4))), (49, (20, (-4))), (44, (20, (-4))), (49, (19, (-4))), (44, (19, (-4))), (49, (18, (-4))), (44, (18, (-4))), (49, (17, (-4))), (44, (17, (-4))), (49, (16, (-4))), (44, (16, (-4))), (49, (15, (-4))), (44, (15, (-4))), (49, (14, (-4))), (44, (14, (-4))), (49, (13, (-4))), (44, (13, (-4))), (49, (12, (-4))), (44, (12, (-4))), (49, (11, (-4))), (44, (11, (-4))), (49, (10, (-4))), (44, (10, (-4))), (49, (9, (-4))), (44, (9, (-4))), (49, (8, (-4))), (44, (8, (-4))), (49, (7, (-4))), (44, (7, (-4))), (49, (6, (-4))), (44, (6, (-4))), (49, (5, (-4))), (44, (5, (-4))), (49, (4, (-4))), (44, (4, (-4))), (49, (3, (-4))), (44, (3, (-4))), (49, (2, (-4))), (44, (2, (-4))), (49, (1, (-4))), (44, (1, (-4))), (49, (0, (-4))), (44, (0, (-4))), (34, (5, (-4))), (16, (5, 63)), (16, (5, 63)), (16, (4, 16)), (16, (5, 63)), (16, (3, 8)), (16, (5, 63)), (16, (2, 4)), (16, (5, 63)), (16, (1, 3)), (16, (5, 63)), (16, (1, 3)), (16, (0, 1)), (16, (5, 63)), (16, (4, 16)), (16, (3, 8)), (16, (2, 4)), (16, (1, 3)), (16, (0, 1)), (15, (1, 1)), (15, (5, 63)), (10, (0, 1)), (12, (0, (-4))), (11, (0, (-4)))]
def σ00 : zS := (lm MA, fun _ _ => 0)
theorem law_cls {s : State} {args : Array Value} (hts : ∀ w ∈ TBg, w.before args s = true) : ∃ D : va_G, ∀ (c : Nat) (q : vw_C), cls[c]? = some q → u_Kn s q.1 q.2.1 q.2.2 (D.1 c) (D.2 c) := by
  have h : ∀ c : Nat, ∃ x : ClassId × (Nat → Nat), ∀ q : vw_C, cls[c]? = some q → u_Kn s q.1 q.2.1 q.2.2 x.1 x.2 := by
    intro c
    match c with
    | 0 =>
      obtain ⟨cC, iS, hk⟩ := u_known hts cu_0 (hts _ k_2_157)
      exact ⟨(cC, iS), fun q hq => by cases hq; exact hk⟩
    | 1 =>
      obtain ⟨cC, iS, hk⟩ := u_known hts cu_1 (hts _ k_3_5)
      exact ⟨(cC, iS), fun q hq => by cases hq; exact hk⟩
    | 2 =>
      obtain ⟨cC, iS, hk⟩ := u_known hts cu_2 (hts _ k_2_206)
      exact ⟨(cC, iS), fun q hq => by cases hq; exact hk⟩
    | 3 =>
      obtain ⟨cC, iS, hk⟩ := u_known hts cu_3 (hts _ k_1_181)
      exact ⟨(cC, iS), fun q hq => by cases hq; exact hk⟩
    | 4 =>
      obtain ⟨cC, iS, hk⟩ := u_known hts cu_4 (hts _ k_2_112)
      exact ⟨(cC, iS), fun q hq => by cases hq; exact hk⟩
    | 5 =>
      obtain ⟨cC, iS, hk⟩ := u_known hts cu_5 (hts _ k_1_116)
      exact ⟨(cC, iS), fun q hq => by cases hq; exact hk⟩
    | 6 =>
      obtain ⟨cC, iS, hk⟩ := u_known hts cu_6 (hts _ k_2_13)
      exact ⟨(cC, iS), fun q hq => by cases hq; exact hk⟩
    | 7 =>
      obtain ⟨cC, iS, hk⟩ := u_known hts cu_7 (hts _ k_1_75)
      exact ⟨(cC, iS), fun q hq => by cases hq; exact hk⟩
    | 8 =>
      obtain ⟨cC, iS, hk⟩ := u_known hts cu_8 (hts _ k_1_31)
      exact ⟨(cC, iS), fun q hq => by cases hq; exact hk⟩
    | 9 =>
      obtain ⟨cC, iS, hk⟩ := u_known hts cu_9 (hts _ k_2_55)
      exact ⟨(cC, iS), fun q hq => by cases hq; exact hk⟩
    | 10 =>
      obtain ⟨cC, iS, hk⟩ := u_known hts cu_10 (hts _ k_1_23)
      exact ⟨(cC, iS), fun q hq => by cases hq; exact hk⟩
    | 11 =>
      obtain ⟨cC, iS, hk⟩ := u_known hts cu_11 (hts _ k_8_168)
      exact ⟨(cC, iS), fun q hq => by cases hq; exact hk⟩
    | n + 12 => exact ⟨(0, fun _ => 0), fun q hq => by simp [cls] at hq⟩
  obtain ⟨f, hf⟩ := Classical.axiomOfChoice h
  exact ⟨(fun c => (f c).1, fun c => (f c).2), fun c q hq => hf c q hq⟩
theorem law_arr {s : State} {args : Array Value} {ty : FieldType} (h : (Cond.arrayClass ty).before args s = true) (hR : ∀ cA, s.vm.findClass ("[" ++ ty.toString) = some cA → va_RA s cA ty) : ∃ cA : ClassId, ArrOfT s cA ty ∧ va_RA s cA ty := by
  obtain ⟨cA, kA, comp, h1, h2, h3⟩ := Cond.arrayClass_spec h
  exact ⟨cA, fun n z => ⟨fun k h => (by cases h), kA, h2, comp, h3⟩, hR cA h1⟩
theorem law_arr2 {s : State} {args : Array Value} (h : (Cond.arrayOver (.array .long)).before args s = true) : ∃ cA : ClassId, ArrOfT s cA (.array .long) ∧ va_RA s cA (.array .long) := by
  obtain ⟨comp, c, k, h1, h2, h3, h4, h5⟩ := arrayOver_specB h
  exact ⟨c, fun n z => ⟨fun k h => (by cases h), k, h3, comp, h4⟩, h5⟩
theorem law_str {s : State} {args : Array Value} (hts : ∀ w ∈ lw_tbl, w.before args s = true) (hgv : (Jvm.Cond.and given_1 narrow_1).before args s = true) : ∃ f : Nat → Nat, ∀ (i : Nat) (q : String × (Nat × String)), STR[i]? = some q → vk_R q.1 q.2.1 q.2.2 (f i) s := by
  have hs := flat_of_before _ hgv
  have h : ∀ i : Nat, ∃ a : Nat, ∀ q : String × (Nat × String), STR[i]? = some q → vk_R q.1 q.2.1 q.2.2 a s := by
    intro i
    match i with
    | 0 =>
      obtain ⟨a, _, _, _, q1, -⟩ := Cond.exactly_spec (hs (Cond.exactly (Term.string "RightsHouse$Policies" 109) "java/lang/String") (by decide +kernel))
      exact ⟨a, fun q hq => by cases hq; exact vk_R.of (hts _ (List.mem_append_right _ (mt_4 (List.mem_of_getElem? (i := 151) rfl)))) q1⟩
    | 1 =>
      obtain ⟨a, _, _, _, q1, -⟩ := Cond.exactly_spec (hs (Cond.exactly (Term.string "RightsHouse$Policies" 167) "java/lang/String") (by decide +kernel))
      exact ⟨a, fun q hq => by cases hq; exact vk_R.of (hts _ (List.mem_append_right _ (mt_5 (List.mem_of_getElem? (i := 9) rfl)))) q1⟩
    | 2 =>
      obtain ⟨a, _, _, _, q1, -⟩ := Cond.exactly_spec (hs (Cond.exactly (Term.string "RightsHouse$Policies" 171) "java/lang/String") (by decide +kernel))
      exact ⟨a, fun q hq => by cases hq; exact vk_R.of (hts _ (List.mem_append_right _ (mt_5 (List.mem_of_getElem? (i := 35) rfl)))) q1⟩
    | 3 =>
      obtain ⟨a, _, _, _, q1, -⟩ := Cond.exactly_spec (hs (Cond.exactly (Term.string "RightsHouse$Policies" 173) "java/lang/String") (by decide +kernel))
      exact ⟨a, fun q hq => by cases hq; exact vk_R.of (hts _ (List.mem_append_right _ (mt_5 (List.mem_of_getElem? (i := 36) rfl)))) q1⟩
    | 4 =>
      obtain ⟨a, _, _, _, q1, -⟩ := Cond.exactly_spec (hs (Cond.exactly (Term.string "RightsHouse$Policies" 183) "java/lang/String") (by decide +kernel))
      exact ⟨a, fun q hq => by cases hq; exact vk_R.of (hts _ (List.mem_append_right _ (mt_5 (List.mem_of_getElem? (i := 50) rfl)))) q1⟩
    | 5 =>
      obtain ⟨a, _, _, _, q1, -⟩ := Cond.exactly_spec (hs (Cond.exactly (Term.string "RightsHouse$Policies" 185) "java/lang/String") (by decide +kernel))
      exact ⟨a, fun q hq => by cases hq; exact vk_R.of (hts _ (List.mem_append_right _ (mt_5 (List.mem_of_getElem? (i := 51) rfl)))) q1⟩
    | 6 =>
      obtain ⟨a, _, _, _, q1, -⟩ := Cond.exactly_spec (hs (Cond.exactly (Term.string "RightsHouse$Policies" 195) "java/lang/String") (by decide +kernel))
      exact ⟨a, fun q hq => by cases hq; exact vk_R.of (hts _ (List.mem_append_right _ (mt_5 (List.mem_of_getElem? (i := 58) rfl)))) q1⟩
    | 7 =>
      obtain ⟨a, _, _, _, q1, -⟩ := Cond.exactly_spec (hs (Cond.exactly (Term.string "RightsHouse$Policies" 197) "java/lang/String") (by decide +kernel))
      exact ⟨a, fun q hq => by cases hq; exact vk_R.of (hts _ (List.mem_append_right _ (mt_5 (List.mem_of_getElem? (i := 59) rfl)))) q1⟩
    | 8 =>
      obtain ⟨a, _, _, _, q1, -⟩ := Cond.exactly_spec (hs (Cond.exactly (Term.string "RightsHouse$Policies" 156) "java/lang/String") (by decide +kernel))
      exact ⟨a, fun q hq => by cases hq; exact vk_R.of (hts _ (List.mem_append_right _ (mt_5 (List.mem_of_getElem? (i := 73) rfl)))) q1⟩
    | 9 =>
      obtain ⟨a, _, _, _, q1, -⟩ := Cond.exactly_spec (hs (Cond.exactly (Term.string "RightsHouse$Policies" 224) "java/lang/String") (by decide +kernel))
      exact ⟨a, fun q hq => by cases hq; exact vk_R.of (hts _ (List.mem_append_right _ (mt_5 (List.mem_of_getElem? (i := 86) rfl)))) q1⟩
    | 10 =>
      obtain ⟨a, _, _, _, q1, -⟩ := Cond.exactly_spec (hs (Cond.exactly (Term.string "RightsHouse$Policies" 226) "java/lang/String") (by decide +kernel))
      exact ⟨a, fun q hq => by cases hq; exact vk_R.of (hts _ (List.mem_append_right _ (mt_5 (List.mem_of_getElem? (i := 91) rfl)))) q1⟩
    | 11 =>
      obtain ⟨a, _, _, _, q1, -⟩ := Cond.exactly_spec (hs (Cond.exactly (Term.string "RightsHouse$Policies" 263) "java/lang/String") (by decide +kernel))
      exact ⟨a, fun q hq => by cases hq; exact vk_R.of (hts _ (List.mem_append_right _ (mt_5 (List.mem_of_getElem? (i := 96) rfl)))) q1⟩
    | 12 =>
      obtain ⟨a, _, _, _, q1, -⟩ := Cond.exactly_spec (hs (Cond.exactly (Term.string "RightsHouse$Policies" 265) "java/lang/String") (by decide +kernel))
      exact ⟨a, fun q hq => by cases hq; exact vk_R.of (hts _ (List.mem_append_right _ (mt_5 (List.mem_of_getElem? (i := 97) rfl)))) q1⟩
    | 13 =>
      obtain ⟨a, _, _, _, q1, -⟩ := Cond.exactly_spec (hs (Cond.exactly (Term.string "RightsHouse$Policies" 267) "java/lang/String") (by decide +kernel))
      exact ⟨a, fun q hq => by cases hq; exact vk_R.of (hts _ (List.mem_append_right _ (mt_5 (List.mem_of_getElem? (i := 98) rfl)))) q1⟩
    | 14 =>
      obtain ⟨a, _, _, _, q1, -⟩ := Cond.exactly_spec (hs (Cond.exactly (Term.string "RightsHouse$Policies" 254) "java/lang/String") (by decide +kernel))
      exact ⟨a, fun q hq => by cases hq; exact vk_R.of (hts _ (List.mem_append_right _ (mt_5 (List.mem_of_getElem? (i := 127) rfl)))) q1⟩
    | 15 =>
      obtain ⟨a, _, _, _, q1, -⟩ := Cond.exactly_spec (hs (Cond.exactly (Term.string "RightsHouse$Policies" 256) "java/lang/String") (by decide +kernel))
      exact ⟨a, fun q hq => by cases hq; exact vk_R.of (hts _ (List.mem_append_right _ (mt_5 (List.mem_of_getElem? (i := 128) rfl)))) q1⟩
    | 16 =>
      obtain ⟨a, _, _, _, q1, -⟩ := Cond.exactly_spec (hs (Cond.exactly (Term.string "RightsHouse$Policies" 258) "java/lang/String") (by decide +kernel))
      exact ⟨a, fun q hq => by cases hq; exact vk_R.of (hts _ (List.mem_append_right _ (mt_5 (List.mem_of_getElem? (i := 129) rfl)))) q1⟩
    | 17 =>
      obtain ⟨a, _, _, _, q1, -⟩ := Cond.exactly_spec (hs (Cond.exactly (Term.string "RightsHouse$Policies" 240) "java/lang/String") (by decide +kernel))
      exact ⟨a, fun q hq => by cases hq; exact vk_R.of (hts _ (List.mem_append_right _ (mt_5 (List.mem_of_getElem? (i := 134) rfl)))) q1⟩
    | 18 =>
      obtain ⟨a, _, _, _, q1, -⟩ := Cond.exactly_spec (hs (Cond.exactly (Term.string "RightsHouse$Policies" 222) "java/lang/String") (by decide +kernel))
      exact ⟨a, fun q hq => by cases hq; exact vk_R.of (hts _ (List.mem_append_right _ (mt_5 (List.mem_of_getElem? (i := 139) rfl)))) q1⟩
    | 19 =>
      obtain ⟨a, _, _, _, q1, -⟩ := Cond.exactly_spec (hs (Cond.exactly (Term.string "RightsHouse$Policies" 209) "java/lang/String") (by decide +kernel))
      exact ⟨a, fun q hq => by cases hq; exact vk_R.of (hts _ (List.mem_append_right _ (mt_5 (List.mem_of_getElem? (i := 144) rfl)))) q1⟩
    | 20 =>
      obtain ⟨a, _, _, _, q1, -⟩ := Cond.exactly_spec (hs (Cond.exactly (Term.string "RightsHouse$Policies" 165) "java/lang/String") (by decide +kernel))
      exact ⟨a, fun q hq => by cases hq; exact vk_R.of (hts _ (List.mem_append_right _ (mt_5 (List.mem_of_getElem? (i := 145) rfl)))) q1⟩
    | n + 21 => exact ⟨0, fun q hq => by simp [STR] at hq⟩
  obtain ⟨f, hf⟩ := Classical.axiomOfChoice h
  exact ⟨f, hf⟩
theorem law_env (l : Launch) {p : Program} {s : State} {m : MethodId} {meth : Method} {c : Code} {b L : Nat} {xs : Nat → Int32} (C0 : lw_At p s m meth c b L xs) : ∃ E : xV, E.1 = l ∧ E.2.2.1 = s.heap.size ∧ E.2.2.2.1 21 = b ∧ E.2.2.2.2 = s.heap ∧ xKs E s := by
  obtain ⟨hx, hb, hr, hml, hown, hts, hX, hbl, hlocks, hgv⟩ := C0
  have htg : ∀ w ∈ TBg, w.before #[Value.ref b] s = true := fun w hw => hts w (List.mem_filter.mp hw).1
  obtain ⟨D, hD⟩ := law_cls htg
  obtain ⟨cI, hI⟩ := law_arr (htg _ k_1_72) (fun _ h => h)
  obtain ⟨cJ, hJ⟩ := law_arr (htg _ k_1_73) (fun _ h => h)
  obtain ⟨cZ, hZ⟩ := law_arr (htg _ k_1_114) (fun _ h => h)
  have hov : (Cond.arrayOver (.array .long)).before #[Value.ref b] s = true := hts _ (List.mem_append_right _ (mt_2 (List.mem_of_getElem? (i := 212) rfl)))
  obtain ⟨cL, hLL⟩ := law_arr2 hov
  obtain ⟨f, hf⟩ := law_str hts hgv
  refine ⟨(l, ((D, (cI, (cJ, (cZ, cL)))), (s.heap.size, ((fun i => if i = 21 then b else f i), s.heap)))), rfl, rfl, (show (if 21 = 21 then b else f 21) = b from if_pos rfl), rfl, ⟨hD, ?_⟩, ?_, arrayOver_alikeB (Vm.Alike.refl s.vm) hov⟩
  · intro k q hk
    match k with
    | 0 => cases hk; exact hI
    | 1 => cases hk; exact hJ
    | 2 => cases hk; exact hZ
    | 3 => cases hk; exact hLL
    | n + 4 => simp [xT] at hk
  · intro i q hq
    have hi : i ≠ 21 := by
      intro h
      subst h
      simp [STR] at hq
    show vk_R q.1 q.2.1 q.2.2 (if i = 21 then b else f i) s
    rw [if_neg hi]
    exact hf i q hq
set_option maxHeartbeats 4000000 in
set_option maxRecDepth 100000 in
theorem law_new {E : xV} {bS L : Nat} {xs : Nat → Int32} (h : Wx E YL 18 [(0, .ref 1021), (1, .ref 0), (2, .ref 110), (3, .int 0)] [] 215 215 100784 (zx σ00) (QL E bS L xs)) : Wx E YL 0 [(0, .ref 1021)] [] 0 0 0 (s0 [] []) (QL E bS L xs) := by
  have hA : xlt 0 ([] : List (Nat × (Nat × Int32))) := xlt.nil
  have hB : xlt 0 ([] : List (Nat × (Nat × Nat))) := xlt.nil
  refine n_new (n' := 1) (cs' := 1) (ss' := 18) ty_10 hA hB d_L_0 rfl cu_10 ct_10 k_1_22 k_1_23 k_1_1 (by decide) rfl (by decide) cd_10 (Nat.le_of_ble_eq_true rfl) (Nat.le_of_ble_eq_true rfl) rfl rfl ⟨rfl, rfl, rfl⟩ ?_
  have hA := hA.le (show 0 ≤ 1 from by decide)
  have hB := hB.le (show 0 ≤ 1 from by decide)
  refine y_dupr d_L_3 ?_
  refine y_invI (Z := Y_H_init) (kb := 0) (As := []) (rest := [.ref 0]) (show xM YL.1.cls 9 Y_H_init 0 from ⟨k_1_24, k_1_1, k_1_26, by decide, by decide, by decide +kernel⟩) k_1_25 rfl rfl d_L_4 rfl rfl ⟨⟨Nat.le_of_ble_eq_true rfl, Nat.le_of_ble_eq_true rfl⟩, Nat.le_of_ble_eq_true rfl, Nat.le_of_ble_eq_true rfl⟩ (Nat.le_of_ble_eq_true rfl) rfl rfl (n_H_init hB ?_)
  show Wx E YL 7 [(0, .ref 1021)] [.ref 0] 110 110 47155 (s0 ((109, (5, (-4))) :: ((109, (4, (-4))) :: ((74, (3, 8)) :: ((74, (2, 4)) :: ((74, (1, 2)) :: ((74, (0, 1)) :: ((60, (13, 255)) :: ((60, (12, 255)) :: ((60, (11, 255)) :: ((60, (10, 255)) :: ((60, (9, 255)) :: ((60, (8, 255)) :: ((60, (7, 255)) :: ((60, (6, 255)) :: ((60, (5, 255)) :: ((60, (4, 255)) :: ((60, (3, 255)) :: ((60, (2, 255)) :: ((60, (1, 255)) :: ((60, (0, 255)) :: ((49, (31, (-4))) :: ((44, (31, (-4))) :: ((49, (30, (-4))) :: ((44, (30, (-4))) :: ((49, (29, (-4))) :: ((44, (29, (-4))) :: ((49, (28, (-4))) :: ((44, (28, (-4))) :: ((49, (27, (-4))) :: ((44, (27, (-4))) :: ((49, (26, (-4))) :: ((44, (26, (-4))) :: ((49, (25, (-4))) :: ((44, (25, (-4))) :: ((49, (24, (-4))) :: ((44, (24, (-4))) :: ((49, (23, (-4))) :: ((44, (23, (-4))) :: ((49, (22, (-4))) :: ((44, (22, (-4))) :: ((49, (21, (-4))) :: ((44, (21, (-4))) :: ((49, (20, (-4))) :: ((44, (20, (-4))) :: ((49, (19, (-4))) :: ((44, (19, (-4))) :: ((49, (18, (-4))) :: ((44, (18, (-4))) :: ((49, (17, (-4))) :: ((44, (17, (-4))) :: ((49, (16, (-4))) :: ((44, (16, (-4))) :: ((49, (15, (-4))) :: ((44, (15, (-4))) :: ((49, (14, (-4))) :: ((44, (14, (-4))) :: ((49, (13, (-4))) :: ((44, (13, (-4))) :: ((49, (12, (-4))) :: ((44, (12, (-4))) :: ((49, (11, (-4))) :: ((44, (11, (-4))) :: ((49, (10, (-4))) :: ((44, (10, (-4))) :: ((49, (9, (-4))) :: ((44, (9, (-4))) :: ((49, (8, (-4))) :: ((44, (8, (-4))) :: ((49, (7, (-4))) :: ((44, (7, (-4))) :: ((49, (6, (-4))) :: ((44, (6, (-4))) :: ((49, (5, (-4))) :: ((44, (5, (-4))) :: ((49, (4, (-4))) :: ((44, (4, (-4))) :: ((49, (3, (-4))) :: ((44, (3, (-4))) :: ((49, (2, (-4))) :: ((44, (2, (-4))) :: ((49, (1, (-4))) :: ((44, (1, (-4))) :: ((49, (0, (-4))) :: ((44, (0, (-4))) :: ((34, (5, (-4))) :: ((16, (5, 63)) :: ((16, (5, 63)) :: ((16, (4, 16)) :: ((16, (5, 63)) :: ((16, (3, 8)) :: ((16, (5, 63)) :: ((16, (2, 4)) :: ((16, (5, 63)) :: ((16, (1, 3)) :: ((16, (5, 63)) :: ((16, (1, 3)) :: ((16, (0, 1)) :: ((16, (5, 63)) :: ((16, (4, 16)) :: ((16, (3, 8)) :: ((16, (2, 4)) :: ((16, (1, 3)) :: ((16, (0, 1)) :: ((15, (1, 1)) :: ((15, (5, 63)) :: ((10, (0, 1)) :: ((12, (0, (-4))) :: ((11, (0, (-4))) :: [])))))))))))))))))))))))))))))))))))))))))))))))))))))))))))))))))))))))))))))))))))))))))))))))))))))))))))) ((0, (17, 99)) :: ((98, (13, 110)) :: ((98, (11, 109)) :: ((98, (10, 108)) :: ((98, (9, 107)) :: ((98, (8, 106)) :: ((98, (7, 105)) :: ((98, (6, 104)) :: ((98, (5, 103)) :: ((98, (4, 102)) :: ((98, (3, 101)) :: ((98, (1, 100)) :: ((0, (16, 71)) :: ((70, (8, 98)) :: ((70, (5, 97)) :: ((70, (4, 76)) :: (mnaL 75 20 ++ ((70, (3, 75)) :: ((70, (2, 74)) :: ((70, (1, 73)) :: ((70, (0, 72)) :: ((0, (15, 60)) :: ((59, (10, 70)) :: ((59, (9, 69)) :: ((59, (8, 68)) :: ((59, (7, 67)) :: ((59, (6, 66)) :: ((59, (5, 65)) :: ((59, (4, 64)) :: ((59, (3, 63)) :: ((59, (2, 62)) :: ((59, (0, 61)) :: ((0, (14, 53)) :: ((52, (8, 59)) :: ((52, (7, 58)) :: ((52, (6, 57)) :: ((52, (4, 56)) :: ((52, (3, 55)) :: ((52, (2, 54)) :: ((52, (0, 11)) :: ((0, (13, 42)) :: ((41, (11, 52)) :: ((41, (10, 51)) :: ((41, (9, 50)) :: ((41, (8, 49)) :: ((41, (7, 48)) :: ((41, (6, 47)) :: ((41, (5, 46)) :: ((41, (4, 45)) :: ((41, (3, 44)) :: ((41, (2, 43)) :: ((41, (0, 6)) :: ((0, (12, 35)) :: ((34, (9, 41)) :: ((34, (8, 40)) :: ((34, (7, 39)) :: ((34, (4, 38)) :: ((34, (3, 37)) :: ((34, (2, 36)) :: ((34, (0, 6)) :: ((0, (11, 28)) :: ((27, (17, 34)) :: ((27, (15, 33)) :: ((27, (14, 32)) :: ((27, (11, 31)) :: ((27, (9, 30)) :: ((27, (8, 29)) :: ((27, (2, 18)) :: ((27, (1, 11)) :: ((27, (0, 6)) :: ((0, (10, 18)) :: ((17, (12, 27)) :: ((17, (11, 26)) :: ((17, (10, 25)) :: ((17, (8, 24)) :: ((17, (5, 23)) :: ((17, (4, 22)) :: ((17, (3, 21)) :: ((17, (2, 20)) :: ((17, (1, 19)) :: ((17, (7, 11)) :: ((17, (6, 6)) :: ((0, (9, 11)) :: ((10, (6, 17)) :: ((10, (5, 16)) :: ((10, (4, 15)) :: ((10, (3, 14)) :: ((10, (2, 13)) :: ((10, (1, 12)) :: ((0, (8, 6)) :: ((5, (6, 10)) :: ((5, (5, 9)) :: ((5, (4, 8)) :: ((5, (3, 7)) :: ((0, (6, 5)) :: ((0, (4, 4)) :: ((0, (3, 3)) :: ((0, (0, 2)) :: []))))))))))))))))))))))))))))))))))))))))))))))))))))))))))))))))))))))))))))))))))))))))))))))))))) _
  refine y_astore_n (lv' := [(1, .ref 0), (0, .ref 1021)]) d_L_7 rfl (by decide) rfl ?_
  have hA := (((((((((((((((((((((((((((((((((((((((((((((((((((((((((((((((((((((((((((((((((((((((((((((((((((((((((((((xlt.nil : xlt 110 ([] : List (Nat × (Nat × Int32))))).cons (k := 11) (v := (0, (-4))) (by decide)).cons (k := 12) (v := (0, (-4))) (by decide)).cons (k := 10) (v := (0, 1)) (by decide)).cons (k := 15) (v := (5, 63)) (by decide)).cons (k := 15) (v := (1, 1)) (by decide)).cons (k := 16) (v := (0, 1)) (by decide)).cons (k := 16) (v := (1, 3)) (by decide)).cons (k := 16) (v := (2, 4)) (by decide)).cons (k := 16) (v := (3, 8)) (by decide)).cons (k := 16) (v := (4, 16)) (by decide)).cons (k := 16) (v := (5, 63)) (by decide)).cons (k := 16) (v := (0, 1)) (by decide)).cons (k := 16) (v := (1, 3)) (by decide)).cons (k := 16) (v := (5, 63)) (by decide)).cons (k := 16) (v := (1, 3)) (by decide)).cons (k := 16) (v := (5, 63)) (by decide)).cons (k := 16) (v := (2, 4)) (by decide)).cons (k := 16) (v := (5, 63)) (by decide)).cons (k := 16) (v := (3, 8)) (by decide)).cons (k := 16) (v := (5, 63)) (by decide)).cons (k := 16) (v := (4, 16)) (by decide)).cons (k := 16) (v := (5, 63)) (by decide)).cons (k := 16) (v := (5, 63)) (by decide)).cons (k := 34) (v := (5, (-4))) (by decide)).cons (k := 44) (v := (0, (-4))) (by decide)).cons (k := 49) (v := (0, (-4))) (by decide)).cons (k := 44) (v := (1, (-4))) (by decide)).cons (k := 49) (v := (1, (-4))) (by decide)).cons (k := 44) (v := (2, (-4))) (by decide)).cons (k := 49) (v := (2, (-4))) (by decide)).cons (k := 44) (v := (3, (-4))) (by decide)).cons (k := 49) (v := (3, (-4))) (by decide)).cons (k := 44) (v := (4, (-4))) (by decide)).cons (k := 49) (v := (4, (-4))) (by decide)).cons (k := 44) (v := (5, (-4))) (by decide)).cons (k := 49) (v := (5, (-4))) (by decide)).cons (k := 44) (v := (6, (-4))) (by decide)).cons (k := 49) (v := (6, (-4))) (by decide)).cons (k := 44) (v := (7, (-4))) (by decide)).cons (k := 49) (v := (7, (-4))) (by decide)).cons (k := 44) (v := (8, (-4))) (by decide)).cons (k := 49) (v := (8, (-4))) (by decide)).cons (k := 44) (v := (9, (-4))) (by decide)).cons (k := 49) (v := (9, (-4))) (by decide)).cons (k := 44) (v := (10, (-4))) (by decide)).cons (k := 49) (v := (10, (-4))) (by decide)).cons (k := 44) (v := (11, (-4))) (by decide)).cons (k := 49) (v := (11, (-4))) (by decide)).cons (k := 44) (v := (12, (-4))) (by decide)).cons (k := 49) (v := (12, (-4))) (by decide)).cons (k := 44) (v := (13, (-4))) (by decide)).cons (k := 49) (v := (13, (-4))) (by decide)).cons (k := 44) (v := (14, (-4))) (by decide)).cons (k := 49) (v := (14, (-4))) (by decide)).cons (k := 44) (v := (15, (-4))) (by decide)).cons (k := 49) (v := (15, (-4))) (by decide)).cons (k := 44) (v := (16, (-4))) (by decide)).cons (k := 49) (v := (16, (-4))) (by decide)).cons (k := 44) (v := (17, (-4))) (by decide)).cons (k := 49) (v := (17, (-4))) (by decide)).cons (k := 44) (v := (18, (-4))) (by decide)).cons (k := 49) (v := (18, (-4))) (by decide)).cons (k := 44) (v := (19, (-4))) (by decide)).cons (k := 49) (v := (19, (-4))) (by decide)).cons (k := 44) (v := (20, (-4))) (by decide)).cons (k := 49) (v := (20, (-4))) (by decide)).cons (k := 44) (v := (21, (-4))) (by decide)).cons (k := 49) (v := (21, (-4))) (by decide)).cons (k := 44) (v := (22, (-4))) (by decide)).cons (k := 49) (v := (22, (-4))) (by decide)).cons (k := 44) (v := (23, (-4))) (by decide)).cons (k := 49) (v := (23, (-4))) (by decide)).cons (k := 44) (v := (24, (-4))) (by decide)).cons (k := 49) (v := (24, (-4))) (by decide)).cons (k := 44) (v := (25, (-4))) (by decide)).cons (k := 49) (v := (25, (-4))) (by decide)).cons (k := 44) (v := (26, (-4))) (by decide)).cons (k := 49) (v := (26, (-4))) (by decide)).cons (k := 44) (v := (27, (-4))) (by decide)).cons (k := 49) (v := (27, (-4))) (by decide)).cons (k := 44) (v := (28, (-4))) (by decide)).cons (k := 49) (v := (28, (-4))) (by decide)).cons (k := 44) (v := (29, (-4))) (by decide)).cons (k := 49) (v := (29, (-4))) (by decide)).cons (k := 44) (v := (30, (-4))) (by decide)).cons (k := 49) (v := (30, (-4))) (by decide)).cons (k := 44) (v := (31, (-4))) (by decide)).cons (k := 49) (v := (31, (-4))) (by decide)).cons (k := 60) (v := (0, 255)) (by decide)).cons (k := 60) (v := (1, 255)) (by decide)).cons (k := 60) (v := (2, 255)) (by decide)).cons (k := 60) (v := (3, 255)) (by decide)).cons (k := 60) (v := (4, 255)) (by decide)).cons (k := 60) (v := (5, 255)) (by decide)).cons (k := 60) (v := (6, 255)) (by decide)).cons (k := 60) (v := (7, 255)) (by decide)).cons (k := 60) (v := (8, 255)) (by decide)).cons (k := 60) (v := (9, 255)) (by decide)).cons (k := 60) (v := (10, 255)) (by decide)).cons (k := 60) (v := (11, 255)) (by decide)).cons (k := 60) (v := (12, 255)) (by decide)).cons (k := 60) (v := (13, 255)) (by decide)).cons (k := 74) (v := (0, 1)) (by decide)).cons (k := 74) (v := (1, 2)) (by decide)).cons (k := 74) (v := (2, 4)) (by decide)).cons (k := 74) (v := (3, 8)) (by decide)).cons (k := 109) (v := (4, (-4))) (by decide)).cons (k := 109) (v := (5, (-4))) (by decide)
  have hB := (((((((((((((((((xlt_mna (N := 20) (((((((((((((((((((((((((((((((((((((((((((((((((((((((((((((((((((((((((((((((((((xlt.nil : xlt 110 ([] : List (Nat × (Nat × Nat))))).cons (k := 0) (v := (0, 2)) (by decide)).cons (k := 0) (v := (3, 3)) (by decide)).cons (k := 0) (v := (4, 4)) (by decide)).cons (k := 0) (v := (6, 5)) (by decide)).cons (k := 5) (v := (3, 7)) (by decide)).cons (k := 5) (v := (4, 8)) (by decide)).cons (k := 5) (v := (5, 9)) (by decide)).cons (k := 5) (v := (6, 10)) (by decide)).cons (k := 0) (v := (8, 6)) (by decide)).cons (k := 10) (v := (1, 12)) (by decide)).cons (k := 10) (v := (2, 13)) (by decide)).cons (k := 10) (v := (3, 14)) (by decide)).cons (k := 10) (v := (4, 15)) (by decide)).cons (k := 10) (v := (5, 16)) (by decide)).cons (k := 10) (v := (6, 17)) (by decide)).cons (k := 0) (v := (9, 11)) (by decide)).cons (k := 17) (v := (6, 6)) (by decide)).cons (k := 17) (v := (7, 11)) (by decide)).cons (k := 17) (v := (1, 19)) (by decide)).cons (k := 17) (v := (2, 20)) (by decide)).cons (k := 17) (v := (3, 21)) (by decide)).cons (k := 17) (v := (4, 22)) (by decide)).cons (k := 17) (v := (5, 23)) (by decide)).cons (k := 17) (v := (8, 24)) (by decide)).cons (k := 17) (v := (10, 25)) (by decide)).cons (k := 17) (v := (11, 26)) (by decide)).cons (k := 17) (v := (12, 27)) (by decide)).cons (k := 0) (v := (10, 18)) (by decide)).cons (k := 27) (v := (0, 6)) (by decide)).cons (k := 27) (v := (1, 11)) (by decide)).cons (k := 27) (v := (2, 18)) (by decide)).cons (k := 27) (v := (8, 29)) (by decide)).cons (k := 27) (v := (9, 30)) (by decide)).cons (k := 27) (v := (11, 31)) (by decide)).cons (k := 27) (v := (14, 32)) (by decide)).cons (k := 27) (v := (15, 33)) (by decide)).cons (k := 27) (v := (17, 34)) (by decide)).cons (k := 0) (v := (11, 28)) (by decide)).cons (k := 34) (v := (0, 6)) (by decide)).cons (k := 34) (v := (2, 36)) (by decide)).cons (k := 34) (v := (3, 37)) (by decide)).cons (k := 34) (v := (4, 38)) (by decide)).cons (k := 34) (v := (7, 39)) (by decide)).cons (k := 34) (v := (8, 40)) (by decide)).cons (k := 34) (v := (9, 41)) (by decide)).cons (k := 0) (v := (12, 35)) (by decide)).cons (k := 41) (v := (0, 6)) (by decide)).cons (k := 41) (v := (2, 43)) (by decide)).cons (k := 41) (v := (3, 44)) (by decide)).cons (k := 41) (v := (4, 45)) (by decide)).cons (k := 41) (v := (5, 46)) (by decide)).cons (k := 41) (v := (6, 47)) (by decide)).cons (k := 41) (v := (7, 48)) (by decide)).cons (k := 41) (v := (8, 49)) (by decide)).cons (k := 41) (v := (9, 50)) (by decide)).cons (k := 41) (v := (10, 51)) (by decide)).cons (k := 41) (v := (11, 52)) (by decide)).cons (k := 0) (v := (13, 42)) (by decide)).cons (k := 52) (v := (0, 11)) (by decide)).cons (k := 52) (v := (2, 54)) (by decide)).cons (k := 52) (v := (3, 55)) (by decide)).cons (k := 52) (v := (4, 56)) (by decide)).cons (k := 52) (v := (6, 57)) (by decide)).cons (k := 52) (v := (7, 58)) (by decide)).cons (k := 52) (v := (8, 59)) (by decide)).cons (k := 0) (v := (14, 53)) (by decide)).cons (k := 59) (v := (0, 61)) (by decide)).cons (k := 59) (v := (2, 62)) (by decide)).cons (k := 59) (v := (3, 63)) (by decide)).cons (k := 59) (v := (4, 64)) (by decide)).cons (k := 59) (v := (5, 65)) (by decide)).cons (k := 59) (v := (6, 66)) (by decide)).cons (k := 59) (v := (7, 67)) (by decide)).cons (k := 59) (v := (8, 68)) (by decide)).cons (k := 59) (v := (9, 69)) (by decide)).cons (k := 59) (v := (10, 70)) (by decide)).cons (k := 0) (v := (15, 60)) (by decide)).cons (k := 70) (v := (0, 72)) (by decide)).cons (k := 70) (v := (1, 73)) (by decide)).cons (k := 70) (v := (2, 74)) (by decide)).cons (k := 70) (v := (3, 75)) (by decide)) (show 75 < 110 from by decide) (Nat.le_refl _))).cons (k := 70) (v := (4, 76)) (by decide)).cons (k := 70) (v := (5, 97)) (by decide)).cons (k := 70) (v := (8, 98)) (by decide)).cons (k := 0) (v := (16, 71)) (by decide)).cons (k := 98) (v := (1, 100)) (by decide)).cons (k := 98) (v := (3, 101)) (by decide)).cons (k := 98) (v := (4, 102)) (by decide)).cons (k := 98) (v := (5, 103)) (by decide)).cons (k := 98) (v := (6, 104)) (by decide)).cons (k := 98) (v := (7, 105)) (by decide)).cons (k := 98) (v := (8, 106)) (by decide)).cons (k := 98) (v := (9, 107)) (by decide)).cons (k := 98) (v := (10, 108)) (by decide)).cons (k := 98) (v := (11, 109)) (by decide)).cons (k := 98) (v := (13, 110)) (by decide)).cons (k := 0) (v := (17, 99)) (by decide)
  refine n_new (n' := 111) (cs' := 111) (ss' := 47306) ty_11 hA hB d_L_8 rfl cu_11 ct_11 k_8_167 k_8_168 k_1_12 (by decide) rfl (by decide) cd_11 (Nat.le_of_ble_eq_true rfl) (Nat.le_of_ble_eq_true rfl) rfl rfl ⟨rfl, rfl, rfl⟩ ?_
  have hA := hA.le (show 110 ≤ 111 from by decide)
  have hB := hB.le (show 110 ≤ 111 from by decide)
  refine y_dupr d_L_11 ?_
  refine y_invI (Z := Y_M_init) (kb := 110) (As := []) (rest := [.ref 110]) (show xM YL.1.cls 12 Y_M_init 0 from ⟨k_8_169, k_1_12, k_8_171, by decide, by decide, by decide +kernel⟩) k_8_170 rfl rfl d_L_12 rfl rfl ⟨⟨Nat.le_of_ble_eq_true rfl, Nat.le_of_ble_eq_true rfl⟩, Nat.le_of_ble_eq_true rfl, Nat.le_of_ble_eq_true rfl⟩ (Nat.le_of_ble_eq_true rfl) rfl rfl (n_M_init hA hB ?_)
  show Wx E YL 15 [(1, .ref 0), (0, .ref 1021)] [.ref 110] 215 215 100784 (s0 ((110, (81, (-4))) :: ((110, (20, 1)) :: ((109, (5, (-4))) :: ((109, (4, (-4))) :: ((74, (3, 8)) :: ((74, (2, 4)) :: ((74, (1, 2)) :: ((74, (0, 1)) :: ((60, (13, 255)) :: ((60, (12, 255)) :: ((60, (11, 255)) :: ((60, (10, 255)) :: ((60, (9, 255)) :: ((60, (8, 255)) :: ((60, (7, 255)) :: ((60, (6, 255)) :: ((60, (5, 255)) :: ((60, (4, 255)) :: ((60, (3, 255)) :: ((60, (2, 255)) :: ((60, (1, 255)) :: ((60, (0, 255)) :: ((49, (31, (-4))) :: ((44, (31, (-4))) :: ((49, (30, (-4))) :: ((44, (30, (-4))) :: ((49, (29, (-4))) :: ((44, (29, (-4))) :: ((49, (28, (-4))) :: ((44, (28, (-4))) :: ((49, (27, (-4))) :: ((44, (27, (-4))) :: ((49, (26, (-4))) :: ((44, (26, (-4))) :: ((49, (25, (-4))) :: ((44, (25, (-4))) :: ((49, (24, (-4))) :: ((44, (24, (-4))) :: ((49, (23, (-4))) :: ((44, (23, (-4))) :: ((49, (22, (-4))) :: ((44, (22, (-4))) :: ((49, (21, (-4))) :: ((44, (21, (-4))) :: ((49, (20, (-4))) :: ((44, (20, (-4))) :: ((49, (19, (-4))) :: ((44, (19, (-4))) :: ((49, (18, (-4))) :: ((44, (18, (-4))) :: ((49, (17, (-4))) :: ((44, (17, (-4))) :: ((49, (16, (-4))) :: ((44, (16, (-4))) :: ((49, (15, (-4))) :: ((44, (15, (-4))) :: ((49, (14, (-4))) :: ((44, (14, (-4))) :: ((49, (13, (-4))) :: ((44, (13, (-4))) :: ((49, (12, (-4))) :: ((44, (12, (-4))) :: ((49, (11, (-4))) :: ((44, (11, (-4))) :: ((49, (10, (-4))) :: ((44, (10, (-4))) :: ((49, (9, (-4))) :: ((44, (9, (-4))) :: ((49, (8, (-4))) :: ((44, (8, (-4))) :: ((49, (7, (-4))) :: ((44, (7, (-4))) :: ((49, (6, (-4))) :: ((44, (6, (-4))) :: ((49, (5, (-4))) :: ((44, (5, (-4))) :: ((49, (4, (-4))) :: ((44, (4, (-4))) :: ((49, (3, (-4))) :: ((44, (3, (-4))) :: ((49, (2, (-4))) :: ((44, (2, (-4))) :: ((49, (1, (-4))) :: ((44, (1, (-4))) :: ((49, (0, (-4))) :: ((44, (0, (-4))) :: ((34, (5, (-4))) :: ((16, (5, 63)) :: ((16, (5, 63)) :: ((16, (4, 16)) :: ((16, (5, 63)) :: ((16, (3, 8)) :: ((16, (5, 63)) :: ((16, (2, 4)) :: ((16, (5, 63)) :: ((16, (1, 3)) :: ((16, (5, 63)) :: ((16, (1, 3)) :: ((16, (0, 1)) :: ((16, (5, 63)) :: ((16, (4, 16)) :: ((16, (3, 8)) :: ((16, (2, 4)) :: ((16, (1, 3)) :: ((16, (0, 1)) :: ((15, (1, 1)) :: ((15, (5, 63)) :: ((10, (0, 1)) :: ((12, (0, (-4))) :: ((11, (0, (-4))) :: [])))))))))))))))))))))))))))))))))))))))))))))))))))))))))))))))))))))))))))))))))))))))))))))))))))))))))))))) ((110, (149, 215)) :: ((110, (147, 214)) :: ((110, (146, 213)) :: ((110, (145, 212)) :: ((110, (144, 211)) :: ((110, (143, 210)) :: ((110, (142, 209)) :: ((110, (141, 208)) :: ((110, (140, 207)) :: ((110, (139, 206)) :: ((110, (137, 205)) :: ((110, (135, 204)) :: ((110, (133, 203)) :: ((110, (132, 202)) :: ((110, (131, 201)) :: ((110, (130, 200)) :: ((110, (129, 199)) :: ((110, (128, 198)) :: ((110, (127, 197)) :: ((110, (126, 196)) :: ((110, (125, 195)) :: ((110, (124, 194)) :: ((110, (123, 193)) :: ((110, (122, 192)) :: ((110, (121, 191)) :: ((110, (120, 190)) :: ((110, (119, 189)) :: ((110, (116, 188)) :: ((110, (115, 187)) :: ((110, (114, 186)) :: ((110, (113, 185)) :: ((110, (111, 184)) :: ((110, (110, 183)) :: ((110, (108, 182)) :: ((110, (106, 181)) :: ((110, (105, 180)) :: ((110, (104, 179)) :: ((110, (103, 178)) :: ((110, (102, 177)) :: ((110, (101, 176)) :: ((110, (100, 175)) :: ((110, (99, 174)) :: ((110, (98, 173)) :: ((110, (97, 172)) :: ((110, (94, 171)) :: ((110, (93, 170)) :: ((110, (92, 169)) :: ((110, (91, 168)) :: ((110, (90, 167)) :: ((110, (89, 166)) :: ((110, (88, 165)) :: ((110, (87, 164)) :: ((110, (86, 163)) :: ((110, (84, 162)) :: ((110, (83, 161)) :: ((110, (80, 160)) :: ((110, (79, 159)) :: ((110, (78, 158)) :: ((110, (76, 157)) :: ((110, (73, 156)) :: ((110, (72, 155)) :: ((110, (70, 154)) :: ((110, (63, 153)) :: ((110, (62, 152)) :: ((110, (55, 151)) :: ((110, (54, 150)) :: ((110, (53, 149)) :: ((110, (51, 148)) :: ((110, (50, 147)) :: ((110, (49, 146)) :: ((110, (48, 145)) :: ((110, (47, 144)) :: ((110, (45, 143)) :: ((110, (44, 142)) :: ((110, (43, 141)) :: ((110, (42, 140)) :: ((110, (41, 139)) :: ((110, (40, 138)) :: ((110, (39, 137)) :: ((110, (38, 136)) :: ((110, (37, 135)) :: ((110, (36, 134)) :: ((110, (35, 133)) :: ((110, (34, 132)) :: ((110, (33, 131)) :: ((110, (25, 130)) :: ((110, (24, 129)) :: ((110, (23, 128)) :: ((110, (22, 127)) :: ((110, (21, 126)) :: ((110, (19, 125)) :: ((110, (18, 124)) :: ((110, (17, 123)) :: ((110, (16, 122)) :: ((110, (15, 121)) :: ((110, (14, 120)) :: ((110, (13, 119)) :: ((110, (12, 118)) :: ((110, (11, 117)) :: ((110, (10, 116)) :: ((110, (9, 115)) :: ((110, (5, 114)) :: ((110, (4, 113)) :: ((110, (2, 112)) :: ((0, (17, 99)) :: ((98, (13, 110)) :: ((98, (11, 109)) :: ((98, (10, 108)) :: ((98, (9, 107)) :: ((98, (8, 106)) :: ((98, (7, 105)) :: ((98, (6, 104)) :: ((98, (5, 103)) :: ((98, (4, 102)) :: ((98, (3, 101)) :: ((98, (1, 100)) :: ((0, (16, 71)) :: ((70, (8, 98)) :: ((70, (5, 97)) :: ((70, (4, 76)) :: (mnaL 75 20 ++ ((70, (3, 75)) :: ((70, (2, 74)) :: ((70, (1, 73)) :: ((70, (0, 72)) :: ((0, (15, 60)) :: ((59, (10, 70)) :: ((59, (9, 69)) :: ((59, (8, 68)) :: ((59, (7, 67)) :: ((59, (6, 66)) :: ((59, (5, 65)) :: ((59, (4, 64)) :: ((59, (3, 63)) :: ((59, (2, 62)) :: ((59, (0, 61)) :: ((0, (14, 53)) :: ((52, (8, 59)) :: ((52, (7, 58)) :: ((52, (6, 57)) :: ((52, (4, 56)) :: ((52, (3, 55)) :: ((52, (2, 54)) :: ((52, (0, 11)) :: ((0, (13, 42)) :: ((41, (11, 52)) :: ((41, (10, 51)) :: ((41, (9, 50)) :: ((41, (8, 49)) :: ((41, (7, 48)) :: ((41, (6, 47)) :: ((41, (5, 46)) :: ((41, (4, 45)) :: ((41, (3, 44)) :: ((41, (2, 43)) :: ((41, (0, 6)) :: ((0, (12, 35)) :: ((34, (9, 41)) :: ((34, (8, 40)) :: ((34, (7, 39)) :: ((34, (4, 38)) :: ((34, (3, 37)) :: ((34, (2, 36)) :: ((34, (0, 6)) :: ((0, (11, 28)) :: ((27, (17, 34)) :: ((27, (15, 33)) :: ((27, (14, 32)) :: ((27, (11, 31)) :: ((27, (9, 30)) :: ((27, (8, 29)) :: ((27, (2, 18)) :: ((27, (1, 11)) :: ((27, (0, 6)) :: ((0, (10, 18)) :: ((17, (12, 27)) :: ((17, (11, 26)) :: ((17, (10, 25)) :: ((17, (8, 24)) :: ((17, (5, 23)) :: ((17, (4, 22)) :: ((17, (3, 21)) :: ((17, (2, 20)) :: ((17, (1, 19)) :: ((17, (7, 11)) :: ((17, (6, 6)) :: ((0, (9, 11)) :: ((10, (6, 17)) :: ((10, (5, 16)) :: ((10, (4, 15)) :: ((10, (3, 14)) :: ((10, (2, 13)) :: ((10, (1, 12)) :: ((0, (8, 6)) :: ((5, (6, 10)) :: ((5, (5, 9)) :: ((5, (4, 8)) :: ((5, (3, 7)) :: ((0, (6, 5)) :: ((0, (4, 4)) :: ((0, (3, 3)) :: ((0, (0, 2)) :: []))))))))))))))))))))))))))))))))))))))))))))))))))))))))))))))))))))))))))))))))))))))))))))))))))))))))))))))))))))))))))))))))))))))))))))))))))))))))))))))))))))))))))))))))))))))))))))))))))))))))))) _
  refine y_astore_n (lv' := [(2, .ref 110), (1, .ref 0), (0, .ref 1021)]) d_L_15 rfl (by decide) rfl ?_
  refine y_iconst (v := 0) d_L_16 (by decide) ?_
  refine y_istore_n (lv' := [(3, .int 0), (2, .ref 110), (1, .ref 0), (0, .ref 1021)]) d_L_17 rfl (by decide) rfl ?_
  refine x_sub [3, 2, 1, 0] rfl ?_
  exact h
theorem law_begin (l : Launch) {p : Program} {e : Env} {s : State} {m : MethodId} {below : List Frame} {meth : Method} {c : Code} {b L : Nat} {xs : Nat → Int32} (C0 : lw_At p s m meth c b L xs)
    (h : ∀ E : xV, Wx E YL 18 [(0, .ref 1021), (1, .ref 0), (2, .ref 110), (3, .int 0)] [] 215 215 100784 (zx σ00) (QL E b L xs)) : W p l e room_1 s m #[Value.ref b] below meth c s.heap [] 0 0 (lw_Z below #[Value.ref b] s) (entryFrame m ([Value.ref b] : List Value).toArray 4) := by
  obtain ⟨E, e1, e2, e3, e4, hKs⟩ := law_env l C0
  obtain ⟨hx, hb, hr, hml, hown, hts, hX, hbl, hlocks, hgv⟩ := C0
  have hl := lv_entry ([Value.ref b]) (n := 4) (Nat.le_of_ble_eq_true rfl)
  rw [lg_entry_eq]
  have hlv : lv_args 0 [Value.ref b] = xlv (fun i => E.2.2.2.1 (i - 1000)) [(0, .ref 1021)] := by
    show [(0, Value.ref b)] = [(0, Value.ref (E.2.2.2.1 21))]
    rw [e3]
  rw [hlv] at hl
  subst e1
  exact law_new (h E) p e room_1 s m #[Value.ref b] below meth c s.heap [] _ (fun i => E.2.2.2.1 (i - 1000)) 0 (fun i => E.2.2.2.1 (i - 1000))
    ⟨hx, hb, hr, hml, hown, fun w hw => hts w (List.mem_filter.mp hw).1, hlocks, fun h => absurd h (by decide), hKs, ⟨Nat.le_of_eq e2, fun q _ => by rw [e4]⟩, ⟨Nat.le_refl _, Nat.le_refl _, Nat.le_refl _, Nat.le_refl _, rfl, rfl, hX, by rw [e2]; exact hbl, e3, e2.symm⟩⟩
    (Nat.le_refl _) (fun _ _ => rfl)
    ⟨fun i j hi => absurd hi (Nat.not_lt_zero _), fun i hi => absurd hi (Nat.not_lt_zero _), fun k j => Nat.le_refl _, ⟨by decide, fun i => by show E.2.2.2.1 (1000 + i - 1000) = _; rw [Nat.add_sub_cancel_left]⟩, fun k q hk => by simp [xW] at hk⟩
    va_S.rf hl
