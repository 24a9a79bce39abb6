noncomputable section
/-! ===== what else holds; hints; all together ===== -/
noncomputable def QQ : QK := (141, (139, (140, (131, (148, (110, 32))))))
noncomputable def PE9 : List Ep := [(400, (5, (0, (110, (6, 1))))), (404, (10, (0, (110, (20, 1))))), (408, (11, (1, (125, (1, 39))))), (412, (12, (1, (126, (1, 39))))), (416, (13, (0, (127, (0, 40))))), (420, (14, (0, (128, (0, 40))))), (424, (0, (2, (110, (0, 1))))), (428, (52, (1, (110, (96, 1))))), (432, (54, (0, (179, (0, 60))))), (436, (52, (5, (110, (109, 1)))))]
theorem PE9_apt : eApt PE9 := ⟨by decide, by decide, by decide, by decide, by decide, by decide, by decide, by decide, by decide, by decide, trivial⟩
noncomputable def PL9 : List Ep := []
theorem PL9_apt : eApt PL9 := trivial
noncomputable def RWg : List Nat := [53, 54, 55, 52, 110, 180, 181, 12, 11, 13, 15, 171, 172, 173, 174, 175, 176, 177, 178]
noncomputable def WG : List (Nat × List Ru) := [(11, [wu_tP]), (12, [wu_tO]), (13, [wu_tI]), (15, [wu_tT]), (52, [wu_lO, wu_lP, wu_lN]), (53, [wu_rK0, wu_rN0, wu_rK1, wu_rN1, wu_rK2, wu_rN2, wu_rK3, wu_rN3, wu_rK4, wu_rN4, wu_rK5, wu_rN5, wu_rK6, wu_rN6, wu_rK7, wu_rN7, wu_rZ]), (54, [wu_sC, wu_s0, wu_sO, wu_sW]), (55, [wu_cC]), (110, [wu_o0, wu_o27, wu_o97, wu_o110, wu_oL, wu_oB, wu_oK]), (171, [wu_mC0]), (172, [wu_mC1]), (173, [wu_mC2]), (174, [wu_mC3]), (175, [wu_mC4]), (176, [wu_mC5]), (177, [wu_mC6, wu_mS6]), (178, [wu_mC7]), (180, [wu_dC, wu_d0]), (181, [wu_eC])]
theorem WG_ok : ∀ e ∈ WG, ∀ R ∈ e.2, tgsOk 870 999 RWg R = true ∧ WrOk SL e.1 R := List.forall_mem_cons.mpr ⟨List.forall_mem_cons.mpr ⟨⟨by decide +kernel, wk_tP⟩, fun _ h => (by cases h)⟩, List.forall_mem_cons.mpr ⟨List.forall_mem_cons.mpr ⟨⟨by decide +kernel, wk_tO⟩, fun _ h => (by cases h)⟩, List.forall_mem_cons.mpr ⟨List.forall_mem_cons.mpr ⟨⟨by decide +kernel, wk_tI⟩, fun _ h => (by cases h)⟩, List.forall_mem_cons.mpr ⟨List.forall_mem_cons.mpr ⟨⟨by decide +kernel, wk_tT⟩, fun _ h => (by cases h)⟩, List.forall_mem_cons.mpr ⟨List.forall_mem_cons.mpr ⟨⟨by decide +kernel, wk_lO⟩, List.forall_mem_cons.mpr ⟨⟨by decide +kernel, wk_lP⟩, List.forall_mem_cons.mpr ⟨⟨by decide +kernel, wk_lN⟩, fun _ h => (by cases h)⟩⟩⟩, List.forall_mem_cons.mpr ⟨List.forall_mem_cons.mpr ⟨⟨by decide +kernel, wk_rK0⟩, List.forall_mem_cons.mpr ⟨⟨by decide +kernel, wk_rN0⟩, List.forall_mem_cons.mpr ⟨⟨by decide +kernel, wk_rK1⟩, List.forall_mem_cons.mpr ⟨⟨by decide +kernel, wk_rN1⟩, List.forall_mem_cons.mpr ⟨⟨by decide +kernel, wk_rK2⟩, List.forall_mem_cons.mpr ⟨⟨by decide +kernel, wk_rN2⟩, List.forall_mem_cons.mpr ⟨⟨by decide +kernel, wk_rK3⟩, List.forall_mem_cons.mpr ⟨⟨by decide +kernel, wk_rN3⟩, List.forall_mem_cons.mpr ⟨⟨by decide +kernel, wk_rK4⟩, List.forall_mem_cons.mpr ⟨⟨by decide +kernel, wk_rN4⟩, List.forall_mem_cons.mpr ⟨⟨by decide +kernel, wk_rK5⟩, List.forall_mem_cons.mpr ⟨⟨by decide +kernel, wk_rN5⟩, List.forall_mem_cons.mpr ⟨⟨by decide +kernel, wk_rK6⟩, List.forall_mem_cons.mpr ⟨⟨by decide +kernel, wk_rN6⟩, List.forall_mem_cons.mpr ⟨⟨by decide +kernel, wk_rK7⟩, List.forall_mem_cons.mpr ⟨⟨by decide +kernel, wk_rN7⟩, List.forall_mem_cons.mpr ⟨⟨by decide +kernel, wk_rZ⟩, fun _ h => (by cases h)⟩⟩⟩⟩⟩⟩⟩⟩⟩⟩⟩⟩⟩⟩⟩⟩⟩, List.forall_mem_cons.mpr ⟨List.forall_mem_cons.mpr ⟨⟨by decide +kernel, wk_sC⟩, List.forall_mem_cons.mpr ⟨⟨by decide +kernel, wk_s0⟩, List.forall_mem_cons.mpr ⟨⟨by decide +kernel, wk_sO⟩, List.forall_mem_cons.mpr ⟨⟨by decide +kernel, wk_sW⟩, fun _ h => (by cases h)⟩⟩⟩⟩, List.forall_mem_cons.mpr ⟨List.forall_mem_cons.mpr ⟨⟨by decide +kernel, wk_cC⟩, fun _ h => (by cases h)⟩, List.forall_mem_cons.mpr ⟨List.forall_mem_cons.mpr ⟨⟨by decide +kernel, wk_o0⟩, List.forall_mem_cons.mpr ⟨⟨by decide +kernel, wk_o27⟩, List.forall_mem_cons.mpr ⟨⟨by decide +kernel, wk_o97⟩, List.forall_mem_cons.mpr ⟨⟨by decide +kernel, wk_o110⟩, List.forall_mem_cons.mpr ⟨⟨by decide +kernel, wk_oL⟩, List.forall_mem_cons.mpr ⟨⟨by decide +kernel, wk_oB⟩, List.forall_mem_cons.mpr ⟨⟨by decide +kernel, wk_oK⟩, fun _ h => (by cases h)⟩⟩⟩⟩⟩⟩⟩, List.forall_mem_cons.mpr ⟨List.forall_mem_cons.mpr ⟨⟨by decide +kernel, wk_mC0⟩, fun _ h => (by cases h)⟩, List.forall_mem_cons.mpr ⟨List.forall_mem_cons.mpr ⟨⟨by decide +kernel, wk_mC1⟩, fun _ h => (by cases h)⟩, List.forall_mem_cons.mpr ⟨List.forall_mem_cons.mpr ⟨⟨by decide +kernel, wk_mC2⟩, fun _ h => (by cases h)⟩, List.forall_mem_cons.mpr ⟨List.forall_mem_cons.mpr ⟨⟨by decide +kernel, wk_mC3⟩, fun _ h => (by cases h)⟩, List.forall_mem_cons.mpr ⟨List.forall_mem_cons.mpr ⟨⟨by decide +kernel, wk_mC4⟩, fun _ h => (by cases h)⟩, List.forall_mem_cons.mpr ⟨List.forall_mem_cons.mpr ⟨⟨by decide +kernel, wk_mC5⟩, fun _ h => (by cases h)⟩, List.forall_mem_cons.mpr ⟨List.forall_mem_cons.mpr ⟨⟨by decide +kernel, wk_mC6⟩, List.forall_mem_cons.mpr ⟨⟨by decide +kernel, wk_mS6⟩, fun _ h => (by cases h)⟩⟩, List.forall_mem_cons.mpr ⟨List.forall_mem_cons.mpr ⟨⟨by decide +kernel, wk_mC7⟩, fun _ h => (by cases h)⟩, List.forall_mem_cons.mpr ⟨List.forall_mem_cons.mpr ⟨⟨by decide +kernel, wk_dC⟩, List.forall_mem_cons.mpr ⟨⟨by decide +kernel, wk_d0⟩, fun _ h => (by cases h)⟩⟩, List.forall_mem_cons.mpr ⟨List.forall_mem_cons.mpr ⟨⟨by decide +kernel, wk_eC⟩, fun _ h => (by cases h)⟩, fun _ h => (by cases h)⟩⟩⟩⟩⟩⟩⟩⟩⟩⟩⟩⟩⟩⟩⟩⟩⟩⟩⟩
noncomputable def RGT : BT Ru := [(307, [(300, ru_sayN), (301, ru_say1), (302, ru_say3), (303, ru_sayS), (304, ru_hush), (305, ru_kn0), (306, ru_op0), (307, ru_kn1)]), (315, [(308, ru_op1), (309, ru_kn2), (310, ru_op2), (311, ru_kn3), (312, ru_op3), (313, ru_kn4), (314, ru_op4), (315, ru_kn5)]), (323, [(316, ru_op5), (317, ru_kn6), (318, ru_op6), (319, ru_kn7), (320, ru_op7), (321, ru_eq7), (322, ru_begun), (323, ru_wclr)]), (331, [(324, ru_lvl0), (325, ru_lnext), (326, ru_qd), (327, ru_fnext), (328, ru_wend), (329, ru_wfree), (330, ru_qh), (331, ru_q3)]), (339, [(332, ru_ownQ), (333, ru_ql), (334, ru_q2), (335, ru_qk0), (336, ru_qk2), (337, ru_qk3), (338, ru_q1), (339, ru_mq1)]), (347, [(340, ru_cnoS), (341, ru_cnoL), (342, ru_cnoG), (343, ru_cnoF), (344, ru_cnoH), (345, ru_cnoU), (346, ru_cfound), (347, ru_cbad)]), (355, [(348, ru_mnoS), (349, ru_mnoL), (350, ru_mnoG), (351, ru_mnoF), (352, ru_mnoH), (353, ru_mnoU), (354, ru_mfound), (355, ru_mbad)]), (363, [(356, ru_nbad), (357, ru_cnx), (358, ru_mnx), (359, ru_justL), (360, ru_justG), (361, ru_brf), (362, ru_kopen), (363, ru_k0)]), (365, [(364, ru_kend), (365, ru_kAt)])]
theorem RGT_ok : BT.AllP (fun _ R => tgsOk 870 999 RWg R = true ∧ RuOk SL R) RGT := ⟨⟨⟨by decide +kernel, rk_sayN⟩, ⟨by decide +kernel, rk_say1⟩, ⟨by decide +kernel, rk_say3⟩, ⟨by decide +kernel, rk_sayS⟩, ⟨by decide +kernel, rk_hush⟩, ⟨by decide +kernel, rk_kn0⟩, ⟨by decide +kernel, rk_op0⟩, ⟨by decide +kernel, rk_kn1⟩, trivial⟩, ⟨⟨by decide +kernel, rk_op1⟩, ⟨by decide +kernel, rk_kn2⟩, ⟨by decide +kernel, rk_op2⟩, ⟨by decide +kernel, rk_kn3⟩, ⟨by decide +kernel, rk_op3⟩, ⟨by decide +kernel, rk_kn4⟩, ⟨by decide +kernel, rk_op4⟩, ⟨by decide +kernel, rk_kn5⟩, trivial⟩, ⟨⟨by decide +kernel, rk_op5⟩, ⟨by decide +kernel, rk_kn6⟩, ⟨by decide +kernel, rk_op6⟩, ⟨by decide +kernel, rk_kn7⟩, ⟨by decide +kernel, rk_op7⟩, ⟨by decide +kernel, rk_eq7⟩, ⟨by decide +kernel, rk_begun⟩, ⟨by decide +kernel, rk_wclr⟩, trivial⟩, ⟨⟨by decide +kernel, rk_lvl0⟩, ⟨by decide +kernel, rk_lnext⟩, ⟨by decide +kernel, rk_qd⟩, ⟨by decide +kernel, rk_fnext⟩, ⟨by decide +kernel, rk_wend⟩, ⟨by decide +kernel, rk_wfree⟩, ⟨by decide +kernel, rk_qh⟩, ⟨by decide +kernel, rk_q3⟩, trivial⟩, ⟨⟨by decide +kernel, rk_ownQ⟩, ⟨by decide +kernel, rk_ql⟩, ⟨by decide +kernel, rk_q2⟩, ⟨by decide +kernel, rk_qk0⟩, ⟨by decide +kernel, rk_qk2⟩, ⟨by decide +kernel, rk_qk3⟩, ⟨by decide +kernel, rk_q1⟩, ⟨by decide +kernel, rk_mq1⟩, trivial⟩, ⟨⟨by decide +kernel, rk_cnoS⟩, ⟨by decide +kernel, rk_cnoL⟩, ⟨by decide +kernel, rk_cnoG⟩, ⟨by decide +kernel, rk_cnoF⟩, ⟨by decide +kernel, rk_cnoH⟩, ⟨by decide +kernel, rk_cnoU⟩, ⟨by decide +kernel, rk_cfound⟩, ⟨by decide +kernel, rk_cbad⟩, trivial⟩, ⟨⟨by decide +kernel, rk_mnoS⟩, ⟨by decide +kernel, rk_mnoL⟩, ⟨by decide +kernel, rk_mnoG⟩, ⟨by decide +kernel, rk_mnoF⟩, ⟨by decide +kernel, rk_mnoH⟩, ⟨by decide +kernel, rk_mnoU⟩, ⟨by decide +kernel, rk_mfound⟩, ⟨by decide +kernel, rk_mbad⟩, trivial⟩, ⟨⟨by decide +kernel, rk_nbad⟩, ⟨by decide +kernel, rk_cnx⟩, ⟨by decide +kernel, rk_mnx⟩, ⟨by decide +kernel, rk_justL⟩, ⟨by decide +kernel, rk_justG⟩, ⟨by decide +kernel, rk_brf⟩, ⟨by decide +kernel, rk_kopen⟩, ⟨by decide +kernel, rk_k0⟩, trivial⟩, ⟨⟨by decide +kernel, rk_kend⟩, ⟨by decide +kernel, rk_kAt⟩, trivial⟩, trivial⟩
noncomputable def CS : List Cp := [cz 310 120 16, cz 311 201 4, cl 320 196, cf 110 148 211 210 206, cg9 110 112 183 144, ctr 125 110 20 26, cr QQ, cu 24 25 26, ceq PE9, ceqL PL9, ck 11 0 (-4), cn 110 26 20, cb 125 128, co 125, cw9 11 13, ck 12 0 (-4), cv9 126 110 26, cC9 15 129 110 26 16, cR 870 999 RWg SL WG]
noncomputable def evk (s : Sy) (a : AV) : Bool := match a with
  | .inl (id, _) => Nat.blt id s.nx
  | .inr (.inl _) => true
  | _ => false
theorem evk_ok {J : Jt} {s : Sy} {ρ : List Int} {σ : zS} {a : AV} (ho : Ok J s ρ σ) (h : evk s a = true) : ∃ z, ev ρ a = some z := by
  rcases a with ⟨id, o⟩ | n | ⟨_, _⟩ | _ | _ | ⟨_, _⟩
  · have h1 : id < ρ.length := by rw [ho.len]; exact Nat.le_of_ble_eq_true h
    refine ⟨ρ[id] + o, ?_⟩
    simp only [ev, List.getElem?_eq_getElem h1]
  · exact ⟨n, rfl⟩
  · cases h
  · cases h
  · cases h
  · cases h
noncomputable def hxg_0 (h : Nat × (Nat × Nat)) (f : Fm) (s : Sy) : Option Sy :=
  bif Nat.beq h.1 1 then TJ.tg f h.2.1 s
  else bif Nat.beq h.1 10 then (bif Nat.beq h.2.1 310 then some (hz10 310 16 s) else bif Nat.beq h.2.1 311 then some (hz10 311 4 s) else some s)
  else bif Nat.beq h.1 11 then (bif Nat.beq h.2.1 310 then some (h11 310 s) else bif Nat.beq h.2.1 311 then some (h11 311 s) else bif Nat.beq h.2.1 320 then some (h11 320 s) else bif Nat.ble 300 h.2.1 && Nat.ble h.2.1 304 then some (h11 h.2.1 s) else some s)
  else bif Nat.beq h.1 13 then some (hl13 320 s)
  else bif Nat.beq h.1 14 then some (hl14 320 s)
  else bif Nat.beq h.1 15 then (match lk s.hl 320 with
    | some a => some (hl15 196 a s.me s)
    | none => some s)
  else bif Nat.beq h.1 16 then (bif Nat.beq h.2.1 310 then (match lk s.hl 310 with
    | some a => hz16 120 16 a s.me s
    | none => some s) else match lk s.hl 311 with
    | some a => hz16 201 4 a s.me s
    | none => some s)
  else some s
noncomputable def hxg_1 (h : Nat × (Nat × Nat)) (f : Fm) (s : Sy) : Option Sy :=
  bif Nat.beq h.1 17 then some (hl17 320 196 s)
  else bif Nat.beq h.1 18 then some (hf18 110 148 211 210 206 s.me s)
  else bif Nat.beq h.1 20 then some (hg20 s)
  else bif Nat.beq h.1 21 then some (hg21 110 112 144 s)
  else bif Nat.beq h.1 22 then (match f.st with
    | a :: _ => bif evk s a then some (ht22 110 26 a s) else some s
    | [] => some s)
  else bif Nat.beq h.1 23 then (match f.st with
    | a :: _ => bif evk s a then some (ht23 125 110 26 a s) else some s
    | [] => some s)
  else bif Nat.beq h.1 25 then (match f.st, lget f.lv h.2.1 with
    | a :: _, some b => bif evk s a && evk s b then some (ht25 a b s) else some s
    | _, _ => some s)
  else some s
noncomputable def hxg_2 (h : Nat × (Nat × Nat)) (f : Fm) (s : Sy) : Option Sy :=
  bif Nat.beq h.1 26 then (match f.st with
    | a :: _ => bif evk s a then some (ht26 125 a s) else some s
    | [] => some s)
  else bif Nat.beq h.1 30 then some (h30 s.fa s)
  else bif Nat.beq h.1 31 then hr31 QQ s
  else bif Nat.beq h.1 32 then some (hr32 QQ s)
  else bif Nat.beq h.1 33 then some (hr33 QQ s)
  else bif Nat.beq h.1 34 then some (hr34 s)
  else bif Nat.beq h.1 35 then some (hr35 s)
  else some s
noncomputable def hxg_3 (h : Nat × (Nat × Nat)) (f : Fm) (s : Sy) : Option Sy :=
  bif Nat.beq h.1 36 then (match lget f.lv h.2.1 with
    | some r => bif evk s r then some (hr36 QQ r s) else some s
    | none => some s)
  else bif Nat.beq h.1 37 then some (hr37 QQ h.2.1 s)
  else bif Nat.beq h.1 38 then some (hr38 QQ s)
  else bif Nat.beq h.1 39 then some (hr39 s)
  else bif Nat.beq h.1 40 then (match lget f.lv h.2.1, lget f.lv h.2.2 with
    | some p, some r => bif evk s p && evk s r then some (hr40 QQ p r s) else some s
    | _, _ => some s)
  else bif Nat.beq h.1 41 then some (hr41 QQ s)
  else bif Nat.beq h.1 42 then some (hr42 QQ s)
  else some s
noncomputable def hxg_4 (h : Nat × (Nat × Nat)) (f : Fm) (s : Sy) : Option Sy :=
  bif Nat.beq h.1 43 then some (hr43 s)
  else bif Nat.beq h.1 44 then some (hr44 QQ true h.2.1 h.2.2 s)
  else bif Nat.beq h.1 45 then some (h45a s.fa s.fa s)
  else bif Nat.beq h.1 46 then some (hr44 QQ false h.2.1 h.2.2 s)
  else bif Nat.beq h.1 50 then some (hu50 s)
  else bif Nat.beq h.1 51 then some (hu51 25 s)
  else bif Nat.beq h.1 52 then (match f.st with
    | a :: _ => bif evk s a then some (hu52 24 25 26 a s) else some s
    | [] => some s)
  else some s
noncomputable def hxg_5 (h : Nat × (Nat × Nat)) (f : Fm) (s : Sy) : Option Sy :=
  bif Nat.beq h.1 54 then some (hu54 17 14 24 25 26 s)
  else bif Nat.beq h.1 55 then some (hu55 17 14 25 s)
  else bif Nat.beq h.1 56 then some (hu56 s)
  else bif Nat.beq h.1 57 then some (hu57 s)
  else bif Nat.beq h.1 58 then some (hu58 17 14 15 0 25 s)
  else bif Nat.beq h.1 59 then hu59 17 15 s
  else bif Nat.beq h.1 60 then some (hsAllL PL9 (hsAll PE9 s))
  else some s
noncomputable def hxg_6 (h : Nat × (Nat × Nat)) (f : Fm) (s : Sy) : Option Sy :=
  bif Nat.beq h.1 61 then (match f.st[h.2.2]? with
    | some a => bif evk s a then some (h61 h.2.1 a s) else some s
    | none => some s)
  else bif Nat.beq h.1 62 then (match f.st[h.2.2]? with
    | some a => bif evk s a then some (hopL h.2.1 a PE9 s) else some s
    | none => some s)
  else bif Nat.beq h.1 63 then (bif Nat.beq h.2.1 0 then h63 11 0 (-4) s else h63 12 0 (-4) s)
  else bif Nat.beq h.1 64 then h64 110 26 20 s
  else bif Nat.beq h.1 70 then (match lget f.lv h.2.1 with
    | some a => bif evk s a then some (h70 a h.2.2 s) else some s
    | none => some s)
  else bif Nat.beq h.1 71 then (match lget f.lv h.2.1 with
    | some a => bif evk s a && leAV s (.c 0) a then some (h71 125 128 a s) else some s
    | none => some s)
  else bif Nat.beq h.1 72 then (match lget f.lv h.2.1 with
    | some a => bif evk s a && leAV s (.c 0) a then some (h72 125 128 a s) else some s
    | none => some s)
  else some s
noncomputable def hxg_7 (h : Nat × (Nat × Nat)) (f : Fm) (s : Sy) : Option Sy :=
  bif Nat.beq h.1 73 then (match lget f.lv h.2.1 with
    | some a => bif evk s a && leAV s (.c 0) a then h73 125 128 a s else some s
    | none => some s)
  else bif Nat.beq h.1 74 then h74 s
  else bif Nat.beq h.1 75 then some (h75 s)
  else bif Nat.beq h.1 76 then some (h76 s)
  else bif Nat.beq h.1 80 then (match f.st with
    | a :: _ => bif evk s a then some (h80 110 26 a s) else some s
    | [] => some s)
  else bif Nat.beq h.1 81 then h81 110 26 s
  else bif Nat.beq h.1 82 then h82 125 110 26 s
  else some s
noncomputable def hxg_8 (h : Nat × (Nat × Nat)) (f : Fm) (s : Sy) : Option Sy :=
  bif Nat.beq h.1 83 then (match f.st with
    | a :: _ => bif evk s a then some (h83 a s) else some s
    | [] => some s)
  else bif Nat.beq h.1 84 then (match f.st with
    | a :: _ => bif evk s a then some (h84 125 a s) else some s
    | [] => some s)
  else bif Nat.beq h.1 85 then some (h85 s)
  else bif Nat.beq h.1 86 then some (h86 s)
  else bif Nat.beq h.1 87 then (match f.st with
    | a :: _ => bif evk s a then some (h87 125 a s) else some s
    | [] => some s)
  else bif Nat.beq h.1 88 then (match f.st with
    | a :: _ => bif evk s a then some (h88 125 a s) else some s
    | [] => some s)
  else bif Nat.beq h.1 89 then h89 s
  else some s
noncomputable def hxg_9 (h : Nat × (Nat × Nat)) (f : Fm) (s : Sy) : Option Sy :=
  bif Nat.beq h.1 90 then h90 s
  else bif Nat.beq h.1 92 then some (h92 s)
  else bif Nat.beq h.1 95 then (match lget f.lv h.2.1, lget f.lv h.2.2 with
    | some a, some b => bif evk s a && evk s b then some (h95 a b s) else some s
    | _, _ => some s)
  else bif Nat.beq h.1 96 then some (h96 s)
  else bif Nat.beq h.1 97 then (match f.st with
    | a :: _ => bif evk s a then some (h97 11 13 a s) else some s
    | [] => some s)
  else bif Nat.beq h.1 98 then h98 11 13 s
  else bif Nat.beq h.1 99 then some (h99 s)
  else some s
noncomputable def hxg_10 (h : Nat × (Nat × Nat)) (f : Fm) (s : Sy) : Option Sy :=
  bif Nat.beq h.1 100 then some (h100 s)
  else bif Nat.beq h.1 150 then h150 126 110 26 s
  else bif Nat.beq h.1 183 then (match f.st with
    | a :: _ => bif evk s a then some (h183 129 110 26 a s) else some s
    | [] => some s)
  else bif Nat.beq h.1 184 then some (h184 s)
  else bif Nat.beq h.1 190 then some (h190 s)
  else bif Nat.beq h.1 191 then some (h191 s)
  else bif Nat.beq h.1 192 then (match lget f.lv h.2.1 with
    | some a => bif evk s a then some (h192 16 a s) else some s
    | none => some s)
  else some s
noncomputable def hxg_11 (h : Nat × (Nat × Nat)) (f : Fm) (s : Sy) : Option Sy :=
  bif Nat.beq h.1 193 then some (h193 s)
  else bif Nat.beq h.1 194 then some (h194 s)
  else bif Nat.beq h.1 195 then (match lget f.lv h.2.1 with
    | some a => bif evk s a then some (h195 16 a s) else some s
    | none => some s)
  else bif Nat.beq h.1 196 then (match f.st with
    | a :: _ => bif evk s a then some (h196 a s) else some s
    | [] => some s)
  else bif Nat.beq h.1 197 then (match lget f.lv h.2.1 with
    | some a => bif evk s a then some (h197 a s) else some s
    | none => some s)
  else bif Nat.beq h.1 198 then (match f.st with
    | a :: _ => bif evk s a then some (h198 129 110 26 a s) else some s
    | [] => some s)
  else bif Nat.beq h.1 199 then (match f.st with
    | a :: _ => bif evk s a then some (h199 a s) else some s
    | [] => some s)
  else some s
noncomputable def hxg_12 (h : Nat × (Nat × Nat)) (f : Fm) (s : Sy) : Option Sy :=
  bif Nat.beq h.1 200 then some (h200 s)
  else bif Nat.beq h.1 202 then some (h202 110 26 s)
  else bif Nat.beq h.1 203 then some (h203 s)
  else bif Nat.beq h.1 204 then some (h204 s)
  else bif Nat.beq h.1 206 then some (h206 s)
  else bif Nat.beq h.1 207 then some (h207 s)
  else bif Nat.beq h.1 208 then (match f.st with
    | b :: a :: _ => bif evk s a && evk s b then some (h95 a b s) else some s
    | _ => some s)
  else some s
noncomputable def hxg_13 (h : Nat × (Nat × Nat)) (f : Fm) (s : Sy) : Option Sy :=
  bif Nat.beq h.1 209 then (match f.st with
    | b :: a :: _ => bif evk s a && evk s b then some (h209 a b s) else some s
    | _ => some s)
  else bif Nat.beq h.1 210 then (match (bif Nat.beq h.2.1 0 then f.st[0]? else lget f.lv (h.2.1 - 1)) with
    | some a => bif evk s a then some (h210 412 12 126 110 26 a s) else some s
    | none => some s)
  else bif Nat.ble 300 h.1 then (match RGT.get h.1 with
    | some R => ruA RWg R (f.lv, (f.st, (.c 0, .c 0))) s
    | none => some s)
  else some s
noncomputable def hxT (h : Nat × (Nat × Nat)) (f : Fm) (s : Sy) : Option Sy :=
  bif Nat.ble h.1 16 then hxg_0 h f s
  else bif Nat.ble h.1 25 then hxg_1 h f s
  else bif Nat.ble h.1 35 then hxg_2 h f s
  else bif Nat.ble h.1 42 then hxg_3 h f s
  else bif Nat.ble h.1 52 then hxg_4 h f s
  else bif Nat.ble h.1 60 then hxg_5 h f s
  else bif Nat.ble h.1 72 then hxg_6 h f s
  else bif Nat.ble h.1 82 then hxg_7 h f s
  else bif Nat.ble h.1 89 then hxg_8 h f s
  else bif Nat.ble h.1 99 then hxg_9 h f s
  else bif Nat.ble h.1 192 then hxg_10 h f s
  else bif Nat.ble h.1 199 then hxg_11 h f s
  else bif Nat.ble h.1 208 then hxg_12 h f s
  else hxg_13 h f s
noncomputable def trT (t k : Nat) : Bool := (Nat.beq t 310 && Nat.beq k 120) || ((Nat.beq t 311 && Nat.beq k 201) || ((Nat.beq t 320 && Nat.beq k 196) || (((Nat.ble 300 t && Nat.ble t 304) && Nat.beq k 125) || ((((Nat.ble 312 t && Nat.ble t 314) || (Nat.ble 321 t && Nat.ble t 328)) && (Nat.beq k 141 || (Nat.beq k 139 || (Nat.beq k 140 || Nat.beq k 148)))) || ((Nat.beq t 306 || Nat.beq t 307) && (Nat.beq k 24 || (Nat.beq k 25 || Nat.beq k 26)))))))
noncomputable def GG : Gl := mkG [] []
noncomputable def GX : Gx := mkX (TJ.P GG (cW CS)) hxT CTT trT
noncomputable abbrev JJ : Jt := Jf TJ GG (cS CS)
theorem row_in {k kd n : Nat} (h : GG.ka.get k = some (kd, n)) : ∀ j, InB GG k j → j < n := by
  intro j hj
  rcases hj with ⟨q, _⟩ | ⟨kd', z, q, hj⟩
  · rw [h] at q; cases q
  · rw [h] at q; cases Option.some.inj q; exact hj
theorem hR30 {σ : zS} (hb : Bd TJ GG σ) : ∀ q : Nat, q < 8 → Pp σ 131 q ≤ 30 := by
  intro q hq
  have hk : GG.ka.get 131 = some (100, 8) := by decide +kernel
  have hc : TJ.co.get 131 = none := by decide +kernel
  have := hb 131 q (Or.inr ⟨100, 8, hk, hq⟩)
  have e : TJ.bd GG 131 q = [(0, 30)] := by
    unfold Jx.bd
    rw [hk, hc]
    show (TJ.ai.get 131).getD T32 = _
    decide +kernel
  rw [e] at this
  exact (inD_one this).2
theorem bS12 {σ : zS} (hb : Bd TJ GG σ) : ∀ q : Nat, q < 1201 → inD (σ.1 25 q).toInt [(0, 1200)] := by
  intro q hq
  have hk : GG.ka.get 25 = some (100, 1201) := by decide +kernel
  have hc : TJ.co.get 25 = none := by decide +kernel
  have := hb 25 q (Or.inr ⟨100, 1201, hk, hq⟩)
  have e : TJ.bd GG 25 q = [(0, 1200)] := by
    unfold Jx.bd
    rw [hk, hc]
    show (TJ.ai.get 25).getD T32 = _
    decide +kernel
  rw [e] at this
  exact this
theorem CS_ok : ∀ c ∈ CS, CpOk TJ GG c := by
  intro c hc
  rcases List.mem_cons.mp hc with rfl | hc
  · exact cz_ok (by decide) (row_in (kd := 102) (by decide +kernel))
  rcases List.mem_cons.mp hc with rfl | hc
  · exact cz_ok (by decide) (row_in (kd := 102) (by decide +kernel))
  rcases List.mem_cons.mp hc with rfl | hc
  · exact cl_ok (by decide)
  rcases List.mem_cons.mp hc with rfl | hc
  · exact cf_ok (by decide) (by decide) (by decide) (by decide) (by decide) (by decide)
  rcases List.mem_cons.mp hc with rfl | hc
  · exact cg9_ok (by decide) (row_in (kd := 100) (by decide +kernel))
  rcases List.mem_cons.mp hc with rfl | hc
  · exact ctr_ok (by decide) (by decide) (row_in (kd := 100) (by decide +kernel))
  rcases List.mem_cons.mp hc with rfl | hc
  · exact cr_ok (by decide) (fun σ hb => hR30 hb)
  rcases List.mem_cons.mp hc with rfl | hc
  · exact cu_ok
  rcases List.mem_cons.mp hc with rfl | hc
  · exact ceq_ok (by decide) PE9_apt (by decide)
  rcases List.mem_cons.mp hc with rfl | hc
  · exact ceqL_ok (by decide) PL9_apt (by decide)
  rcases List.mem_cons.mp hc with rfl | hc
  · exact ck_ok
  rcases List.mem_cons.mp hc with rfl | hc
  · exact cn_ok (by decide)
  rcases List.mem_cons.mp hc with rfl | hc
  · exact cb_ok
  rcases List.mem_cons.mp hc with rfl | hc
  · exact co_ok
  rcases List.mem_cons.mp hc with rfl | hc
  · exact cw9_ok
  rcases List.mem_cons.mp hc with rfl | hc
  · exact ck_ok
  rcases List.mem_cons.mp hc with rfl | hc
  · exact cv9_ok (by decide)
  rcases List.mem_cons.mp hc with rfl | hc
  · exact cC9_ok (by decide) (by decide) (by decide) (by decide) (by decide) (by decide)
  rcases List.mem_cons.mp hc with rfl | hc
  · exact cR_ok (by decide) WG_ok
  · cases hc
theorem tgC {t : Nat} (h : (ctr 125 110 20 26 : Cp).tg t = true) : t = 300 ∨ t = 301 ∨ t = 302 ∨ t = 303 ∨ t = 304 ∨ t = 340 := by
  have h : ((Nat.ble 300 t && Nat.ble t 304) || Nat.beq t 340) = true := h
  simp only [Bool.or_eq_true, Bool.and_eq_true] at h
  rcases h with ⟨h1, h2⟩ | h
  · have h1 := Nat.le_of_ble_eq_true h1
    have h2 := Nat.le_of_ble_eq_true h2
    omega
  · have := Nat.eq_of_beq_eq_true h
    omega
theorem tgQ {t : Nat} (h : qtg t = true) : t = 312 ∨ t = 313 ∨ t = 314 ∨ t = 321 ∨ t = 322 ∨ t = 323 ∨ t = 324 ∨ t = 325 ∨ t = 326 ∨ t = 327 ∨ t = 328 ∨ t = 341 := by
  have h : ((Nat.ble 312 t && Nat.ble t 314) || ((Nat.ble 321 t && Nat.ble t 328) || Nat.beq t 341)) = true := h
  simp only [Bool.or_eq_true, Bool.and_eq_true] at h
  rcases h with ⟨h1, h2⟩ | ⟨h1, h2⟩ | h
  · have h1 := Nat.le_of_ble_eq_true h1
    have h2 := Nat.le_of_ble_eq_true h2
    omega
  · have h1 := Nat.le_of_ble_eq_true h1
    have h2 := Nat.le_of_ble_eq_true h2
    omega
  · have := Nat.eq_of_beq_eq_true h
    omega
theorem tgU {t : Nat} (h : utg t = true) : t = 306 ∨ t = 307 := by
  have h : (Nat.beq t 306 || Nat.beq t 307) = true := h
  rw [Bool.or_eq_true] at h
  rcases h with h | h
  · exact Or.inl (Nat.eq_of_beq_eq_true h)
  · exact Or.inr (Nat.eq_of_beq_eq_true h)
theorem etg_rg {t : Nat} (h : (ceq PE9 : Cp).tg t = true) : 400 ≤ t ∧ t < 500 := by
  have h : (Nat.ble 400 t && Nat.blt t 500) = true := h
  rw [Bool.and_eq_true] at h
  have h1 := Nat.le_of_ble_eq_true h.1
  have h2 := Nat.le_of_ble_eq_true h.2
  omega
theorem etg_f {t : Nat} (h : t < 400 ∨ 500 ≤ t) : (ceq PE9 : Cp).tg t = false := by
  cases e : (ceq PE9 : Cp).tg t with
  | false => rfl
  | true =>
    have := etg_rg e
    omega
theorem ltg_rg {t : Nat} (h : (ceqL PL9 : Cp).tg t = true) : 600 ≤ t ∧ t < 800 := by
  have h : (Nat.ble 600 t && Nat.blt t 800) = true := h
  rw [Bool.and_eq_true] at h
  have h1 := Nat.le_of_ble_eq_true h.1
  have h2 := Nat.le_of_ble_eq_true h.2
  omega
theorem ltg_f {t : Nat} (h : t < 600 ∨ 800 ≤ t) : (ceqL PL9 : Cp).tg t = false := by
  cases e : (ceqL PL9 : Cp).tg t with
  | false => rfl
  | true =>
    have := ltg_rg e
    omega
theorem btg_rg {t : Nat} (h : (cb 125 128 : Cp).tg t = true) : 510 ≤ t ∧ t < 513 := by
  have h : (Nat.ble 510 t && Nat.ble t 512) = true := h
  rw [Bool.and_eq_true] at h
  have h1 := Nat.le_of_ble_eq_true h.1
  have h2 := Nat.le_of_ble_eq_true h.2
  omega
theorem btg_f {t : Nat} (h : t < 510 ∨ 513 ≤ t) : (cb 125 128 : Cp).tg t = false := by
  cases e : (cb 125 128 : Cp).tg t with
  | false => rfl
  | true =>
    have := btg_rg e
    omega
theorem otg_rg {t : Nat} (h : (co 125 : Cp).tg t = true) : 520 ≤ t ∧ t < 526 := by
  have h : (Nat.ble 520 t && Nat.ble t 525) = true := h
  rw [Bool.and_eq_true] at h
  have h1 := Nat.le_of_ble_eq_true h.1
  have h2 := Nat.le_of_ble_eq_true h.2
  omega
theorem otg_f {t : Nat} (h : t < 520 ∨ 526 ≤ t) : (co 125 : Cp).tg t = false := by
  cases e : (co 125 : Cp).tg t with
  | false => rfl
  | true =>
    have := otg_rg e
    omega
theorem wtg_rg {t : Nat} (h : (cw9 11 13 : Cp).tg t = true) : 530 ≤ t ∧ t < 534 := by
  have h : (Nat.ble 530 t && Nat.ble t 533) = true := h
  rw [Bool.and_eq_true] at h
  have h1 := Nat.le_of_ble_eq_true h.1
  have h2 := Nat.le_of_ble_eq_true h.2
  omega
theorem wtg_f {t : Nat} (h : t < 530 ∨ 534 ≤ t) : (cw9 11 13 : Cp).tg t = false := by
  cases e : (cw9 11 13 : Cp).tg t with
  | false => rfl
  | true =>
    have := wtg_rg e
    omega
theorem vtg_rg {t : Nat} (h : (cv9 126 110 26 : Cp).tg t = true) : 595 ≤ t ∧ t < 596 := by
  have h : (Nat.ble 595 t && Nat.ble t 595) = true := h
  rw [Bool.and_eq_true] at h
  have h1 := Nat.le_of_ble_eq_true h.1
  have h2 := Nat.le_of_ble_eq_true h.2
  omega
theorem vtg_f {t : Nat} (h : t < 595 ∨ 596 ≤ t) : (cv9 126 110 26 : Cp).tg t = false := by
  cases e : (cv9 126 110 26 : Cp).tg t with
  | false => rfl
  | true =>
    have := vtg_rg e
    omega
theorem ct9_rg {t : Nat} (h : (cC9 15 129 110 26 16 : Cp).tg t = true) : 820 ≤ t ∧ t < 867 := by
  have h : (Nat.ble 820 t && Nat.ble t 866) = true := h
  rw [Bool.and_eq_true] at h
  have h1 := Nat.le_of_ble_eq_true h.1
  have h2 := Nat.le_of_ble_eq_true h.2
  omega
theorem ct9_f {t : Nat} (h : t < 820 ∨ 867 ≤ t) : (cC9 15 129 110 26 16 : Cp).tg t = false := by
  cases e : (cC9 15 129 110 26 16 : Cp).tg t with
  | false => rfl
  | true =>
    have := ct9_rg e
    omega
theorem rtg_rg {t : Nat} (h : (cR 870 999 RWg SL WG : Cp).tg t = true) : 870 ≤ t ∧ t < 1000 := by
  have h : (Nat.ble 870 t && Nat.ble t 999) = true := h
  rw [Bool.and_eq_true] at h
  have h1 := Nat.le_of_ble_eq_true h.1
  have h2 := Nat.le_of_ble_eq_true h.2
  omega
theorem rtg_f {t : Nat} (h : t < 870 ∨ 1000 ≤ t) : (cR 870 999 RWg SL WG : Cp).tg t = false := by
  cases e : (cR 870 999 RWg SL WG : Cp).tg t with
  | false => rfl
  | true =>
    have := rtg_rg e
    omega
theorem apt_0 : ∀ c' ∈ ([cz 311 201 4, cl 320 196, cf 110 148 211 210 206, cg9 110 112 183 144, ctr 125 110 20 26, cr QQ, cu 24 25 26, ceq PE9, ceqL PL9, ck 11 0 (-4), cn 110 26 20, cb 125 128, co 125, cw9 11 13, ck 12 0 (-4), cv9 126 110 26, cC9 15 129 110 26 16, cR 870 999 RWg SL WG] : List Cp), ∀ t, (cz 310 120 16 : Cp).tg t = true → c'.tg t = false := by
  intro c' hc t ht
  have e : t = 310 := Nat.eq_of_beq_eq_true ht
  subst e
  rcases List.mem_cons.mp hc with rfl | hc
  · rfl
  rcases List.mem_cons.mp hc with rfl | hc
  · rfl
  rcases List.mem_cons.mp hc with rfl | hc
  · rfl
  rcases List.mem_cons.mp hc with rfl | hc
  · rfl
  rcases List.mem_cons.mp hc with rfl | hc
  · rfl
  rcases List.mem_cons.mp hc with rfl | hc
  · rfl
  rcases List.mem_cons.mp hc with rfl | hc
  · rfl
  rcases List.mem_cons.mp hc with rfl | hc
  · exact etg_f (by omega)
  rcases List.mem_cons.mp hc with rfl | hc
  · exact ltg_f (by omega)
  rcases List.mem_cons.mp hc with rfl | hc
  · rfl
  rcases List.mem_cons.mp hc with rfl | hc
  · rfl
  rcases List.mem_cons.mp hc with rfl | hc
  · exact btg_f (by omega)
  rcases List.mem_cons.mp hc with rfl | hc
  · exact otg_f (by omega)
  rcases List.mem_cons.mp hc with rfl | hc
  · exact wtg_f (by omega)
  rcases List.mem_cons.mp hc with rfl | hc
  · rfl
  rcases List.mem_cons.mp hc with rfl | hc
  · exact vtg_f (by omega)
  rcases List.mem_cons.mp hc with rfl | hc
  · exact ct9_f (by omega)
  rcases List.mem_cons.mp hc with rfl | hc
  · exact rtg_f (by omega)
  · cases hc
theorem apt_1 : ∀ c' ∈ ([cl 320 196, cf 110 148 211 210 206, cg9 110 112 183 144, ctr 125 110 20 26, cr QQ, cu 24 25 26, ceq PE9, ceqL PL9, ck 11 0 (-4), cn 110 26 20, cb 125 128, co 125, cw9 11 13, ck 12 0 (-4), cv9 126 110 26, cC9 15 129 110 26 16, cR 870 999 RWg SL WG] : List Cp), ∀ t, (cz 311 201 4 : Cp).tg t = true → c'.tg t = false := by
  intro c' hc t ht
  have e : t = 311 := Nat.eq_of_beq_eq_true ht
  subst e
  rcases List.mem_cons.mp hc with rfl | hc
  · rfl
  rcases List.mem_cons.mp hc with rfl | hc
  · rfl
  rcases List.mem_cons.mp hc with rfl | hc
  · rfl
  rcases List.mem_cons.mp hc with rfl | hc
  · rfl
  rcases List.mem_cons.mp hc with rfl | hc
  · rfl
  rcases List.mem_cons.mp hc with rfl | hc
  · rfl
  rcases List.mem_cons.mp hc with rfl | hc
  · exact etg_f (by omega)
  rcases List.mem_cons.mp hc with rfl | hc
  · exact ltg_f (by omega)
  rcases List.mem_cons.mp hc with rfl | hc
  · rfl
  rcases List.mem_cons.mp hc with rfl | hc
  · rfl
  rcases List.mem_cons.mp hc with rfl | hc
  · exact btg_f (by omega)
  rcases List.mem_cons.mp hc with rfl | hc
  · exact otg_f (by omega)
  rcases List.mem_cons.mp hc with rfl | hc
  · exact wtg_f (by omega)
  rcases List.mem_cons.mp hc with rfl | hc
  · rfl
  rcases List.mem_cons.mp hc with rfl | hc
  · exact vtg_f (by omega)
  rcases List.mem_cons.mp hc with rfl | hc
  · exact ct9_f (by omega)
  rcases List.mem_cons.mp hc with rfl | hc
  · exact rtg_f (by omega)
  · cases hc
theorem apt_2 : ∀ c' ∈ ([cf 110 148 211 210 206, cg9 110 112 183 144, ctr 125 110 20 26, cr QQ, cu 24 25 26, ceq PE9, ceqL PL9, ck 11 0 (-4), cn 110 26 20, cb 125 128, co 125, cw9 11 13, ck 12 0 (-4), cv9 126 110 26, cC9 15 129 110 26 16, cR 870 999 RWg SL WG] : List Cp), ∀ t, (cl 320 196 : Cp).tg t = true → c'.tg t = false := by
  intro c' hc t ht
  have e : t = 320 := Nat.eq_of_beq_eq_true ht
  subst e
  rcases List.mem_cons.mp hc with rfl | hc
  · rfl
  rcases List.mem_cons.mp hc with rfl | hc
  · rfl
  rcases List.mem_cons.mp hc with rfl | hc
  · rfl
  rcases List.mem_cons.mp hc with rfl | hc
  · rfl
  rcases List.mem_cons.mp hc with rfl | hc
  · rfl
  rcases List.mem_cons.mp hc with rfl | hc
  · exact etg_f (by omega)
  rcases List.mem_cons.mp hc with rfl | hc
  · exact ltg_f (by omega)
  rcases List.mem_cons.mp hc with rfl | hc
  · rfl
  rcases List.mem_cons.mp hc with rfl | hc
  · rfl
  rcases List.mem_cons.mp hc with rfl | hc
  · exact btg_f (by omega)
  rcases List.mem_cons.mp hc with rfl | hc
  · exact otg_f (by omega)
  rcases List.mem_cons.mp hc with rfl | hc
  · exact wtg_f (by omega)
  rcases List.mem_cons.mp hc with rfl | hc
  · rfl
  rcases List.mem_cons.mp hc with rfl | hc
  · exact vtg_f (by omega)
  rcases List.mem_cons.mp hc with rfl | hc
  · exact ct9_f (by omega)
  rcases List.mem_cons.mp hc with rfl | hc
  · exact rtg_f (by omega)
  · cases hc
theorem apt_4 : ∀ c' ∈ ([ctr 125 110 20 26, cr QQ, cu 24 25 26, ceq PE9, ceqL PL9, ck 11 0 (-4), cn 110 26 20, cb 125 128, co 125, cw9 11 13, ck 12 0 (-4), cv9 126 110 26, cC9 15 129 110 26 16, cR 870 999 RWg SL WG] : List Cp), ∀ t, (cg9 110 112 183 144 : Cp).tg t = true → c'.tg t = false := by
  intro c' hc t ht
  have ht : (Nat.beq t 330 || Nat.beq t 331) = true := ht
  rw [Bool.or_eq_true] at ht
  rcases List.mem_cons.mp hc with rfl | hc
  · rcases ht with ht | ht <;> rw [Nat.eq_of_beq_eq_true ht] <;> rfl
  rcases List.mem_cons.mp hc with rfl | hc
  · rcases ht with ht | ht <;> rw [Nat.eq_of_beq_eq_true ht] <;> rfl
  rcases List.mem_cons.mp hc with rfl | hc
  · rcases ht with ht | ht <;> rw [Nat.eq_of_beq_eq_true ht] <;> rfl
  rcases List.mem_cons.mp hc with rfl | hc
  · rcases ht with ht | ht <;> rw [Nat.eq_of_beq_eq_true ht] <;> exact etg_f (by omega)
  rcases List.mem_cons.mp hc with rfl | hc
  · rcases ht with ht | ht <;> rw [Nat.eq_of_beq_eq_true ht] <;> exact ltg_f (by omega)
  rcases List.mem_cons.mp hc with rfl | hc
  · rcases ht with ht | ht <;> rw [Nat.eq_of_beq_eq_true ht] <;> rfl
  rcases List.mem_cons.mp hc with rfl | hc
  · rcases ht with ht | ht <;> rw [Nat.eq_of_beq_eq_true ht] <;> rfl
  rcases List.mem_cons.mp hc with rfl | hc
  · rcases ht with ht | ht <;> rw [Nat.eq_of_beq_eq_true ht] <;> exact btg_f (by omega)
  rcases List.mem_cons.mp hc with rfl | hc
  · rcases ht with ht | ht <;> rw [Nat.eq_of_beq_eq_true ht] <;> exact otg_f (by omega)
  rcases List.mem_cons.mp hc with rfl | hc
  · rcases ht with ht | ht <;> rw [Nat.eq_of_beq_eq_true ht] <;> exact wtg_f (by omega)
  rcases List.mem_cons.mp hc with rfl | hc
  · rcases ht with ht | ht <;> rw [Nat.eq_of_beq_eq_true ht] <;> rfl
  rcases List.mem_cons.mp hc with rfl | hc
  · rcases ht with ht | ht <;> rw [Nat.eq_of_beq_eq_true ht] <;> exact vtg_f (by omega)
  rcases List.mem_cons.mp hc with rfl | hc
  · rcases ht with ht | ht <;> rw [Nat.eq_of_beq_eq_true ht] <;> exact ct9_f (by omega)
  rcases List.mem_cons.mp hc with rfl | hc
  · rcases ht with ht | ht <;> rw [Nat.eq_of_beq_eq_true ht] <;> exact rtg_f (by omega)
  · cases hc
theorem apt_5 : ∀ c' ∈ ([cr QQ, cu 24 25 26, ceq PE9, ceqL PL9, ck 11 0 (-4), cn 110 26 20, cb 125 128, co 125, cw9 11 13, ck 12 0 (-4), cv9 126 110 26, cC9 15 129 110 26 16, cR 870 999 RWg SL WG] : List Cp), ∀ t, (ctr 125 110 20 26 : Cp).tg t = true → c'.tg t = false := by
  intro c' hc t ht
  have ht2 : t = 300 ∨ t = 301 ∨ t = 302 ∨ t = 303 ∨ t = 304 ∨ t = 340 := tgC ht
  rcases List.mem_cons.mp hc with rfl | hc
  · rcases ht2 with rfl | rfl | rfl | rfl | rfl | rfl <;> rfl
  rcases List.mem_cons.mp hc with rfl | hc
  · rcases ht2 with rfl | rfl | rfl | rfl | rfl | rfl <;> rfl
  rcases List.mem_cons.mp hc with rfl | hc
  · rcases ht2 with rfl | rfl | rfl | rfl | rfl | rfl <;> exact etg_f (by omega)
  rcases List.mem_cons.mp hc with rfl | hc
  · rcases ht2 with rfl | rfl | rfl | rfl | rfl | rfl <;> exact ltg_f (by omega)
  rcases List.mem_cons.mp hc with rfl | hc
  · rcases ht2 with rfl | rfl | rfl | rfl | rfl | rfl <;> rfl
  rcases List.mem_cons.mp hc with rfl | hc
  · rcases ht2 with rfl | rfl | rfl | rfl | rfl | rfl <;> rfl
  rcases List.mem_cons.mp hc with rfl | hc
  · rcases ht2 with rfl | rfl | rfl | rfl | rfl | rfl <;> exact btg_f (by omega)
  rcases List.mem_cons.mp hc with rfl | hc
  · rcases ht2 with rfl | rfl | rfl | rfl | rfl | rfl <;> exact otg_f (by omega)
  rcases List.mem_cons.mp hc with rfl | hc
  · rcases ht2 with rfl | rfl | rfl | rfl | rfl | rfl <;> exact wtg_f (by omega)
  rcases List.mem_cons.mp hc with rfl | hc
  · rcases ht2 with rfl | rfl | rfl | rfl | rfl | rfl <;> rfl
  rcases List.mem_cons.mp hc with rfl | hc
  · rcases ht2 with rfl | rfl | rfl | rfl | rfl | rfl <;> exact vtg_f (by omega)
  rcases List.mem_cons.mp hc with rfl | hc
  · rcases ht2 with rfl | rfl | rfl | rfl | rfl | rfl <;> exact ct9_f (by omega)
  rcases List.mem_cons.mp hc with rfl | hc
  · rcases ht2 with rfl | rfl | rfl | rfl | rfl | rfl <;> exact rtg_f (by omega)
  · cases hc
theorem apt_6 : ∀ c' ∈ ([cu 24 25 26, ceq PE9, ceqL PL9, ck 11 0 (-4), cn 110 26 20, cb 125 128, co 125, cw9 11 13, ck 12 0 (-4), cv9 126 110 26, cC9 15 129 110 26 16, cR 870 999 RWg SL WG] : List Cp), ∀ t, (cr QQ : Cp).tg t = true → c'.tg t = false := by
  intro c' hc t ht
  have ht2 : t = 312 ∨ t = 313 ∨ t = 314 ∨ t = 321 ∨ t = 322 ∨ t = 323 ∨ t = 324 ∨ t = 325 ∨ t = 326 ∨ t = 327 ∨ t = 328 ∨ t = 341 := tgQ ht
  rcases List.mem_cons.mp hc with rfl | hc
  · rcases ht2 with rfl | rfl | rfl | rfl | rfl | rfl | rfl | rfl | rfl | rfl | rfl | rfl <;> rfl
  rcases List.mem_cons.mp hc with rfl | hc
  · rcases ht2 with rfl | rfl | rfl | rfl | rfl | rfl | rfl | rfl | rfl | rfl | rfl | rfl <;> exact etg_f (by omega)
  rcases List.mem_cons.mp hc with rfl | hc
  · rcases ht2 with rfl | rfl | rfl | rfl | rfl | rfl | rfl | rfl | rfl | rfl | rfl | rfl <;> exact ltg_f (by omega)
  rcases List.mem_cons.mp hc with rfl | hc
  · rcases ht2 with rfl | rfl | rfl | rfl | rfl | rfl | rfl | rfl | rfl | rfl | rfl | rfl <;> rfl
  rcases List.mem_cons.mp hc with rfl | hc
  · rcases ht2 with rfl | rfl | rfl | rfl | rfl | rfl | rfl | rfl | rfl | rfl | rfl | rfl <;> rfl
  rcases List.mem_cons.mp hc with rfl | hc
  · rcases ht2 with rfl | rfl | rfl | rfl | rfl | rfl | rfl | rfl | rfl | rfl | rfl | rfl <;> exact btg_f (by omega)
  rcases List.mem_cons.mp hc with rfl | hc
  · rcases ht2 with rfl | rfl | rfl | rfl | rfl | rfl | rfl | rfl | rfl | rfl | rfl | rfl <;> exact otg_f (by omega)
  rcases List.mem_cons.mp hc with rfl | hc
  · rcases ht2 with rfl | rfl | rfl | rfl | rfl | rfl | rfl | rfl | rfl | rfl | rfl | rfl <;> exact wtg_f (by omega)
  rcases List.mem_cons.mp hc with rfl | hc
  · rcases ht2 with rfl | rfl | rfl | rfl | rfl | rfl | rfl | rfl | rfl | rfl | rfl | rfl <;> rfl
  rcases List.mem_cons.mp hc with rfl | hc
  · rcases ht2 with rfl | rfl | rfl | rfl | rfl | rfl | rfl | rfl | rfl | rfl | rfl | rfl <;> exact vtg_f (by omega)
  rcases List.mem_cons.mp hc with rfl | hc
  · rcases ht2 with rfl | rfl | rfl | rfl | rfl | rfl | rfl | rfl | rfl | rfl | rfl | rfl <;> exact ct9_f (by omega)
  rcases List.mem_cons.mp hc with rfl | hc
  · rcases ht2 with rfl | rfl | rfl | rfl | rfl | rfl | rfl | rfl | rfl | rfl | rfl | rfl <;> exact rtg_f (by omega)
  · cases hc
theorem apt_7 : ∀ c' ∈ ([ceq PE9, ceqL PL9, ck 11 0 (-4), cn 110 26 20, cb 125 128, co 125, cw9 11 13, ck 12 0 (-4), cv9 126 110 26, cC9 15 129 110 26 16, cR 870 999 RWg SL WG] : List Cp), ∀ t, (cu 24 25 26 : Cp).tg t = true → c'.tg t = false := by
  intro c' hc t ht
  have ht : (Nat.beq t 306 || Nat.beq t 307) = true := ht
  rw [Bool.or_eq_true] at ht
  rcases List.mem_cons.mp hc with rfl | hc
  · rcases ht with ht | ht <;> rw [Nat.eq_of_beq_eq_true ht] <;> exact etg_f (by omega)
  rcases List.mem_cons.mp hc with rfl | hc
  · rcases ht with ht | ht <;> rw [Nat.eq_of_beq_eq_true ht] <;> exact ltg_f (by omega)
  rcases List.mem_cons.mp hc with rfl | hc
  · rcases ht with ht | ht <;> rw [Nat.eq_of_beq_eq_true ht] <;> rfl
  rcases List.mem_cons.mp hc with rfl | hc
  · rcases ht with ht | ht <;> rw [Nat.eq_of_beq_eq_true ht] <;> rfl
  rcases List.mem_cons.mp hc with rfl | hc
  · rcases ht with ht | ht <;> rw [Nat.eq_of_beq_eq_true ht] <;> exact btg_f (by omega)
  rcases List.mem_cons.mp hc with rfl | hc
  · rcases ht with ht | ht <;> rw [Nat.eq_of_beq_eq_true ht] <;> exact otg_f (by omega)
  rcases List.mem_cons.mp hc with rfl | hc
  · rcases ht with ht | ht <;> rw [Nat.eq_of_beq_eq_true ht] <;> exact wtg_f (by omega)
  rcases List.mem_cons.mp hc with rfl | hc
  · rcases ht with ht | ht <;> rw [Nat.eq_of_beq_eq_true ht] <;> rfl
  rcases List.mem_cons.mp hc with rfl | hc
  · rcases ht with ht | ht <;> rw [Nat.eq_of_beq_eq_true ht] <;> exact vtg_f (by omega)
  rcases List.mem_cons.mp hc with rfl | hc
  · rcases ht with ht | ht <;> rw [Nat.eq_of_beq_eq_true ht] <;> exact ct9_f (by omega)
  rcases List.mem_cons.mp hc with rfl | hc
  · rcases ht with ht | ht <;> rw [Nat.eq_of_beq_eq_true ht] <;> exact rtg_f (by omega)
  · cases hc
theorem apt_8 : ∀ c' ∈ ([ceqL PL9, ck 11 0 (-4), cn 110 26 20, cb 125 128, co 125, cw9 11 13, ck 12 0 (-4), cv9 126 110 26, cC9 15 129 110 26 16, cR 870 999 RWg SL WG] : List Cp), ∀ t, (ceq PE9 : Cp).tg t = true → c'.tg t = false := by
  intro c' hc t ht
  have r9 := etg_rg ht
  rcases List.mem_cons.mp hc with rfl | hc
  · exact ltg_f (by omega)
  rcases List.mem_cons.mp hc with rfl | hc
  · rfl
  rcases List.mem_cons.mp hc with rfl | hc
  · rfl
  rcases List.mem_cons.mp hc with rfl | hc
  · exact btg_f (by omega)
  rcases List.mem_cons.mp hc with rfl | hc
  · exact otg_f (by omega)
  rcases List.mem_cons.mp hc with rfl | hc
  · exact wtg_f (by omega)
  rcases List.mem_cons.mp hc with rfl | hc
  · rfl
  rcases List.mem_cons.mp hc with rfl | hc
  · exact vtg_f (by omega)
  rcases List.mem_cons.mp hc with rfl | hc
  · exact ct9_f (by omega)
  rcases List.mem_cons.mp hc with rfl | hc
  · exact rtg_f (by omega)
  · cases hc
theorem apt_9 : ∀ c' ∈ ([ck 11 0 (-4), cn 110 26 20, cb 125 128, co 125, cw9 11 13, ck 12 0 (-4), cv9 126 110 26, cC9 15 129 110 26 16, cR 870 999 RWg SL WG] : List Cp), ∀ t, (ceqL PL9 : Cp).tg t = true → c'.tg t = false := by
  intro c' hc t ht
  have r9 := ltg_rg ht
  rcases List.mem_cons.mp hc with rfl | hc
  · rfl
  rcases List.mem_cons.mp hc with rfl | hc
  · rfl
  rcases List.mem_cons.mp hc with rfl | hc
  · exact btg_f (by omega)
  rcases List.mem_cons.mp hc with rfl | hc
  · exact otg_f (by omega)
  rcases List.mem_cons.mp hc with rfl | hc
  · exact wtg_f (by omega)
  rcases List.mem_cons.mp hc with rfl | hc
  · rfl
  rcases List.mem_cons.mp hc with rfl | hc
  · exact vtg_f (by omega)
  rcases List.mem_cons.mp hc with rfl | hc
  · exact ct9_f (by omega)
  rcases List.mem_cons.mp hc with rfl | hc
  · exact rtg_f (by omega)
  · cases hc
theorem apt_12 : ∀ c' ∈ ([co 125, cw9 11 13, ck 12 0 (-4), cv9 126 110 26, cC9 15 129 110 26 16, cR 870 999 RWg SL WG] : List Cp), ∀ t, (cb 125 128 : Cp).tg t = true → c'.tg t = false := by
  intro c' hc t ht
  have r9 := btg_rg ht
  rcases List.mem_cons.mp hc with rfl | hc
  · exact otg_f (by omega)
  rcases List.mem_cons.mp hc with rfl | hc
  · exact wtg_f (by omega)
  rcases List.mem_cons.mp hc with rfl | hc
  · rfl
  rcases List.mem_cons.mp hc with rfl | hc
  · exact vtg_f (by omega)
  rcases List.mem_cons.mp hc with rfl | hc
  · exact ct9_f (by omega)
  rcases List.mem_cons.mp hc with rfl | hc
  · exact rtg_f (by omega)
  · cases hc
theorem apt_13 : ∀ c' ∈ ([cw9 11 13, ck 12 0 (-4), cv9 126 110 26, cC9 15 129 110 26 16, cR 870 999 RWg SL WG] : List Cp), ∀ t, (co 125 : Cp).tg t = true → c'.tg t = false := by
  intro c' hc t ht
  have r9 := otg_rg ht
  rcases List.mem_cons.mp hc with rfl | hc
  · exact wtg_f (by omega)
  rcases List.mem_cons.mp hc with rfl | hc
  · rfl
  rcases List.mem_cons.mp hc with rfl | hc
  · exact vtg_f (by omega)
  rcases List.mem_cons.mp hc with rfl | hc
  · exact ct9_f (by omega)
  rcases List.mem_cons.mp hc with rfl | hc
  · exact rtg_f (by omega)
  · cases hc
theorem apt_14 : ∀ c' ∈ ([ck 12 0 (-4), cv9 126 110 26, cC9 15 129 110 26 16, cR 870 999 RWg SL WG] : List Cp), ∀ t, (cw9 11 13 : Cp).tg t = true → c'.tg t = false := by
  intro c' hc t ht
  have r9 := wtg_rg ht
  rcases List.mem_cons.mp hc with rfl | hc
  · rfl
  rcases List.mem_cons.mp hc with rfl | hc
  · exact vtg_f (by omega)
  rcases List.mem_cons.mp hc with rfl | hc
  · exact ct9_f (by omega)
  rcases List.mem_cons.mp hc with rfl | hc
  · exact rtg_f (by omega)
  · cases hc
theorem apt_16 : ∀ c' ∈ ([cC9 15 129 110 26 16, cR 870 999 RWg SL WG] : List Cp), ∀ t, (cv9 126 110 26 : Cp).tg t = true → c'.tg t = false := by
  intro c' hc t ht
  have r9 := vtg_rg ht
  rcases List.mem_cons.mp hc with rfl | hc
  · exact ct9_f (by omega)
  rcases List.mem_cons.mp hc with rfl | hc
  · exact rtg_f (by omega)
  · cases hc
theorem apt_17 : ∀ c' ∈ ([cR 870 999 RWg SL WG] : List Cp), ∀ t, (cC9 15 129 110 26 16 : Cp).tg t = true → c'.tg t = false := by
  intro c' hc t ht
  have r9 := ct9_rg ht
  rcases List.mem_cons.mp hc with rfl | hc
  · exact rtg_f (by omega)
  · cases hc
theorem apt_18 : ∀ c' ∈ ([] : List Cp), ∀ t, (cR 870 999 RWg SL WG : Cp).tg t = true → c'.tg t = false := by
  intro c' hc t ht
  cases hc
theorem CS_apt : Apt CS := ⟨apt_0, ⟨apt_1, ⟨apt_2, ⟨fun c _ t ht => (by cases ht), ⟨apt_4, ⟨apt_5, ⟨apt_6, ⟨apt_7, ⟨apt_8, ⟨apt_9, ⟨fun c _ t ht => (by cases ht), ⟨fun c _ t ht => (by cases ht), ⟨apt_12, ⟨apt_13, ⟨apt_14, ⟨fun c _ t ht => (by cases ht), ⟨apt_16, ⟨apt_17, ⟨apt_18, trivial⟩⟩⟩⟩⟩⟩⟩⟩⟩⟩⟩⟩⟩⟩⟩⟩⟩⟩⟩
theorem u310 : ∀ c ∈ CS, c.tg 310 = true → c = cz 310 120 16 := by
  intro c hc h
  rcases List.mem_cons.mp hc with rfl | hc
  · rfl
  rcases List.mem_cons.mp hc with rfl | hc
  · cases h
  rcases List.mem_cons.mp hc with rfl | hc
  · cases h
  rcases List.mem_cons.mp hc with rfl | hc
  · cases h
  rcases List.mem_cons.mp hc with rfl | hc
  · cases h
  rcases List.mem_cons.mp hc with rfl | hc
  · cases h
  rcases List.mem_cons.mp hc with rfl | hc
  · exact absurd h (by decide)
  rcases List.mem_cons.mp hc with rfl | hc
  · exact absurd h (by decide)
  rcases List.mem_cons.mp hc with rfl | hc
  · rw [etg_f (by omega)] at h; cases h
  rcases List.mem_cons.mp hc with rfl | hc
  · rw [ltg_f (by omega)] at h; cases h
  rcases List.mem_cons.mp hc with rfl | hc
  · cases h
  rcases List.mem_cons.mp hc with rfl | hc
  · cases h
  rcases List.mem_cons.mp hc with rfl | hc
  · rw [btg_f (by omega)] at h; cases h
  rcases List.mem_cons.mp hc with rfl | hc
  · rw [otg_f (by omega)] at h; cases h
  rcases List.mem_cons.mp hc with rfl | hc
  · rw [wtg_f (by omega)] at h; cases h
  rcases List.mem_cons.mp hc with rfl | hc
  · cases h
  rcases List.mem_cons.mp hc with rfl | hc
  · rw [vtg_f (by omega)] at h; cases h
  rcases List.mem_cons.mp hc with rfl | hc
  · rw [ct9_f (by omega)] at h; cases h
  rcases List.mem_cons.mp hc with rfl | hc
  · rw [rtg_f (by omega)] at h; cases h
  · cases hc
theorem u311 : ∀ c ∈ CS, c.tg 311 = true → c = cz 311 201 4 := by
  intro c hc h
  rcases List.mem_cons.mp hc with rfl | hc
  · cases h
  rcases List.mem_cons.mp hc with rfl | hc
  · rfl
  rcases List.mem_cons.mp hc with rfl | hc
  · cases h
  rcases List.mem_cons.mp hc with rfl | hc
  · cases h
  rcases List.mem_cons.mp hc with rfl | hc
  · cases h
  rcases List.mem_cons.mp hc with rfl | hc
  · cases h
  rcases List.mem_cons.mp hc with rfl | hc
  · exact absurd h (by decide)
  rcases List.mem_cons.mp hc with rfl | hc
  · exact absurd h (by decide)
  rcases List.mem_cons.mp hc with rfl | hc
  · rw [etg_f (by omega)] at h; cases h
  rcases List.mem_cons.mp hc with rfl | hc
  · rw [ltg_f (by omega)] at h; cases h
  rcases List.mem_cons.mp hc with rfl | hc
  · cases h
  rcases List.mem_cons.mp hc with rfl | hc
  · cases h
  rcases List.mem_cons.mp hc with rfl | hc
  · rw [btg_f (by omega)] at h; cases h
  rcases List.mem_cons.mp hc with rfl | hc
  · rw [otg_f (by omega)] at h; cases h
  rcases List.mem_cons.mp hc with rfl | hc
  · rw [wtg_f (by omega)] at h; cases h
  rcases List.mem_cons.mp hc with rfl | hc
  · cases h
  rcases List.mem_cons.mp hc with rfl | hc
  · rw [vtg_f (by omega)] at h; cases h
  rcases List.mem_cons.mp hc with rfl | hc
  · rw [ct9_f (by omega)] at h; cases h
  rcases List.mem_cons.mp hc with rfl | hc
  · rw [rtg_f (by omega)] at h; cases h
  · cases hc
theorem u320 : ∀ c ∈ CS, c.tg 320 = true → c = cl 320 196 := by
  intro c hc h
  rcases List.mem_cons.mp hc with rfl | hc
  · cases h
  rcases List.mem_cons.mp hc with rfl | hc
  · cases h
  rcases List.mem_cons.mp hc with rfl | hc
  · rfl
  rcases List.mem_cons.mp hc with rfl | hc
  · cases h
  rcases List.mem_cons.mp hc with rfl | hc
  · cases h
  rcases List.mem_cons.mp hc with rfl | hc
  · cases h
  rcases List.mem_cons.mp hc with rfl | hc
  · exact absurd h (by decide)
  rcases List.mem_cons.mp hc with rfl | hc
  · exact absurd h (by decide)
  rcases List.mem_cons.mp hc with rfl | hc
  · rw [etg_f (by omega)] at h; cases h
  rcases List.mem_cons.mp hc with rfl | hc
  · rw [ltg_f (by omega)] at h; cases h
  rcases List.mem_cons.mp hc with rfl | hc
  · cases h
  rcases List.mem_cons.mp hc with rfl | hc
  · cases h
  rcases List.mem_cons.mp hc with rfl | hc
  · rw [btg_f (by omega)] at h; cases h
  rcases List.mem_cons.mp hc with rfl | hc
  · rw [otg_f (by omega)] at h; cases h
  rcases List.mem_cons.mp hc with rfl | hc
  · rw [wtg_f (by omega)] at h; cases h
  rcases List.mem_cons.mp hc with rfl | hc
  · cases h
  rcases List.mem_cons.mp hc with rfl | hc
  · rw [vtg_f (by omega)] at h; cases h
  rcases List.mem_cons.mp hc with rfl | hc
  · rw [ct9_f (by omega)] at h; cases h
  rcases List.mem_cons.mp hc with rfl | hc
  · rw [rtg_f (by omega)] at h; cases h
  · cases hc
theorem u331 : ∀ c ∈ CS, c.tg 331 = true → c = cg9 110 112 183 144 := by
  intro c hc h
  rcases List.mem_cons.mp hc with rfl | hc
  · cases h
  rcases List.mem_cons.mp hc with rfl | hc
  · cases h
  rcases List.mem_cons.mp hc with rfl | hc
  · cases h
  rcases List.mem_cons.mp hc with rfl | hc
  · cases h
  rcases List.mem_cons.mp hc with rfl | hc
  · rfl
  rcases List.mem_cons.mp hc with rfl | hc
  · cases h
  rcases List.mem_cons.mp hc with rfl | hc
  · exact absurd h (by decide)
  rcases List.mem_cons.mp hc with rfl | hc
  · exact absurd h (by decide)
  rcases List.mem_cons.mp hc with rfl | hc
  · rw [etg_f (by omega)] at h; cases h
  rcases List.mem_cons.mp hc with rfl | hc
  · rw [ltg_f (by omega)] at h; cases h
  rcases List.mem_cons.mp hc with rfl | hc
  · cases h
  rcases List.mem_cons.mp hc with rfl | hc
  · cases h
  rcases List.mem_cons.mp hc with rfl | hc
  · rw [btg_f (by omega)] at h; cases h
  rcases List.mem_cons.mp hc with rfl | hc
  · rw [otg_f (by omega)] at h; cases h
  rcases List.mem_cons.mp hc with rfl | hc
  · rw [wtg_f (by omega)] at h; cases h
  rcases List.mem_cons.mp hc with rfl | hc
  · cases h
  rcases List.mem_cons.mp hc with rfl | hc
  · rw [vtg_f (by omega)] at h; cases h
  rcases List.mem_cons.mp hc with rfl | hc
  · rw [ct9_f (by omega)] at h; cases h
  rcases List.mem_cons.mp hc with rfl | hc
  · rw [rtg_f (by omega)] at h; cases h
  · cases hc
theorem m310 : cz 310 120 16 ∈ CS := List.mem_cons_self ..
theorem m311 : cz 311 201 4 ∈ CS := List.mem_cons_of_mem _ (List.mem_cons_self ..)
theorem m320 : cl 320 196 ∈ CS := List.mem_cons_of_mem _ (List.mem_cons_of_mem _ (List.mem_cons_self ..))
theorem mcf : cf 110 148 211 210 206 ∈ CS := List.mem_cons_of_mem _ (List.mem_cons_of_mem _ (List.mem_cons_of_mem _ (List.mem_cons_self ..)))
theorem mcg : cg9 110 112 183 144 ∈ CS := List.mem_cons_of_mem _ (List.mem_cons_of_mem _ (List.mem_cons_of_mem _ (List.mem_cons_of_mem _ (List.mem_cons_self ..))))
theorem mct : ctr 125 110 20 26 ∈ CS := List.mem_cons_of_mem _ (List.mem_cons_of_mem _ (List.mem_cons_of_mem _ (List.mem_cons_of_mem _ (List.mem_cons_of_mem _ (List.mem_cons_self ..)))))
theorem mcr : cr QQ ∈ CS := List.mem_cons_of_mem _ (List.mem_cons_of_mem _ (List.mem_cons_of_mem _ (List.mem_cons_of_mem _ (List.mem_cons_of_mem _ (List.mem_cons_of_mem _ (List.mem_cons_self ..))))))
theorem mcu : cu 24 25 26 ∈ CS := List.mem_cons_of_mem _ (List.mem_cons_of_mem _ (List.mem_cons_of_mem _ (List.mem_cons_of_mem _ (List.mem_cons_of_mem _ (List.mem_cons_of_mem _ (List.mem_cons_of_mem _ (List.mem_cons_self ..)))))))
theorem mce : ceq PE9 ∈ CS := List.mem_cons_of_mem _ (List.mem_cons_of_mem _ (List.mem_cons_of_mem _ (List.mem_cons_of_mem _ (List.mem_cons_of_mem _ (List.mem_cons_of_mem _ (List.mem_cons_of_mem _ (List.mem_cons_of_mem _ (List.mem_cons_self ..))))))))
theorem mcl : ceqL PL9 ∈ CS := List.mem_cons_of_mem _ (List.mem_cons_of_mem _ (List.mem_cons_of_mem _ (List.mem_cons_of_mem _ (List.mem_cons_of_mem _ (List.mem_cons_of_mem _ (List.mem_cons_of_mem _ (List.mem_cons_of_mem _ (List.mem_cons_of_mem _ (List.mem_cons_self ..)))))))))
theorem mck : ck 11 0 (-4) ∈ CS := List.mem_cons_of_mem _ (List.mem_cons_of_mem _ (List.mem_cons_of_mem _ (List.mem_cons_of_mem _ (List.mem_cons_of_mem _ (List.mem_cons_of_mem _ (List.mem_cons_of_mem _ (List.mem_cons_of_mem _ (List.mem_cons_of_mem _ (List.mem_cons_of_mem _ (List.mem_cons_self ..))))))))))
theorem mcn : cn 110 26 20 ∈ CS := List.mem_cons_of_mem _ (List.mem_cons_of_mem _ (List.mem_cons_of_mem _ (List.mem_cons_of_mem _ (List.mem_cons_of_mem _ (List.mem_cons_of_mem _ (List.mem_cons_of_mem _ (List.mem_cons_of_mem _ (List.mem_cons_of_mem _ (List.mem_cons_of_mem _ (List.mem_cons_of_mem _ (List.mem_cons_self ..)))))))))))
theorem mcb : cb 125 128 ∈ CS := List.mem_cons_of_mem _ (List.mem_cons_of_mem _ (List.mem_cons_of_mem _ (List.mem_cons_of_mem _ (List.mem_cons_of_mem _ (List.mem_cons_of_mem _ (List.mem_cons_of_mem _ (List.mem_cons_of_mem _ (List.mem_cons_of_mem _ (List.mem_cons_of_mem _ (List.mem_cons_of_mem _ (List.mem_cons_of_mem _ (List.mem_cons_self ..))))))))))))
theorem mco : co 125 ∈ CS := List.mem_cons_of_mem _ (List.mem_cons_of_mem _ (List.mem_cons_of_mem _ (List.mem_cons_of_mem _ (List.mem_cons_of_mem _ (List.mem_cons_of_mem _ (List.mem_cons_of_mem _ (List.mem_cons_of_mem _ (List.mem_cons_of_mem _ (List.mem_cons_of_mem _ (List.mem_cons_of_mem _ (List.mem_cons_of_mem _ (List.mem_cons_of_mem _ (List.mem_cons_self ..)))))))))))))
theorem mcw : cw9 11 13 ∈ CS := List.mem_cons_of_mem _ (List.mem_cons_of_mem _ (List.mem_cons_of_mem _ (List.mem_cons_of_mem _ (List.mem_cons_of_mem _ (List.mem_cons_of_mem _ (List.mem_cons_of_mem _ (List.mem_cons_of_mem _ (List.mem_cons_of_mem _ (List.mem_cons_of_mem _ (List.mem_cons_of_mem _ (List.mem_cons_of_mem _ (List.mem_cons_of_mem _ (List.mem_cons_of_mem _ (List.mem_cons_self ..))))))))))))))
theorem mck2 : ck 12 0 (-4) ∈ CS := List.mem_cons_of_mem _ (List.mem_cons_of_mem _ (List.mem_cons_of_mem _ (List.mem_cons_of_mem _ (List.mem_cons_of_mem _ (List.mem_cons_of_mem _ (List.mem_cons_of_mem _ (List.mem_cons_of_mem _ (List.mem_cons_of_mem _ (List.mem_cons_of_mem _ (List.mem_cons_of_mem _ (List.mem_cons_of_mem _ (List.mem_cons_of_mem _ (List.mem_cons_of_mem _ (List.mem_cons_of_mem _ (List.mem_cons_self ..)))))))))))))))
theorem mcv : cv9 126 110 26 ∈ CS := List.mem_cons_of_mem _ (List.mem_cons_of_mem _ (List.mem_cons_of_mem _ (List.mem_cons_of_mem _ (List.mem_cons_of_mem _ (List.mem_cons_of_mem _ (List.mem_cons_of_mem _ (List.mem_cons_of_mem _ (List.mem_cons_of_mem _ (List.mem_cons_of_mem _ (List.mem_cons_of_mem _ (List.mem_cons_of_mem _ (List.mem_cons_of_mem _ (List.mem_cons_of_mem _ (List.mem_cons_of_mem _ (List.mem_cons_of_mem _ (List.mem_cons_self ..))))))))))))))))
theorem mcB : cC9 15 129 110 26 16 ∈ CS := List.mem_cons_of_mem _ (List.mem_cons_of_mem _ (List.mem_cons_of_mem _ (List.mem_cons_of_mem _ (List.mem_cons_of_mem _ (List.mem_cons_of_mem _ (List.mem_cons_of_mem _ (List.mem_cons_of_mem _ (List.mem_cons_of_mem _ (List.mem_cons_of_mem _ (List.mem_cons_of_mem _ (List.mem_cons_of_mem _ (List.mem_cons_of_mem _ (List.mem_cons_of_mem _ (List.mem_cons_of_mem _ (List.mem_cons_of_mem _ (List.mem_cons_of_mem _ (List.mem_cons_self ..)))))))))))))))))
theorem mcR : cR 870 999 RWg SL WG ∈ CS := List.mem_cons_of_mem _ (List.mem_cons_of_mem _ (List.mem_cons_of_mem _ (List.mem_cons_of_mem _ (List.mem_cons_of_mem _ (List.mem_cons_of_mem _ (List.mem_cons_of_mem _ (List.mem_cons_of_mem _ (List.mem_cons_of_mem _ (List.mem_cons_of_mem _ (List.mem_cons_of_mem _ (List.mem_cons_of_mem _ (List.mem_cons_of_mem _ (List.mem_cons_of_mem _ (List.mem_cons_of_mem _ (List.mem_cons_of_mem _ (List.mem_cons_of_mem _ (List.mem_cons_of_mem _ (List.mem_cons_self ..))))))))))))))))))
theorem uQ : ∀ c ∈ CS, ∀ t : Nat, qtg t = true → c.tg t = true → c = cr QQ := by
  intro c hc t h0 h
  rcases List.mem_cons.mp hc with rfl | hc
  · rcases tgQ h0 with rfl | rfl | rfl | rfl | rfl | rfl | rfl | rfl | rfl | rfl | rfl | rfl <;> exact absurd h (by decide)
  rcases List.mem_cons.mp hc with rfl | hc
  · rcases tgQ h0 with rfl | rfl | rfl | rfl | rfl | rfl | rfl | rfl | rfl | rfl | rfl | rfl <;> exact absurd h (by decide)
  rcases List.mem_cons.mp hc with rfl | hc
  · rcases tgQ h0 with rfl | rfl | rfl | rfl | rfl | rfl | rfl | rfl | rfl | rfl | rfl | rfl <;> exact absurd h (by decide)
  rcases List.mem_cons.mp hc with rfl | hc
  · rcases tgQ h0 with rfl | rfl | rfl | rfl | rfl | rfl | rfl | rfl | rfl | rfl | rfl | rfl <;> exact absurd h (by decide)
  rcases List.mem_cons.mp hc with rfl | hc
  · rcases tgQ h0 with rfl | rfl | rfl | rfl | rfl | rfl | rfl | rfl | rfl | rfl | rfl | rfl <;> exact absurd h (by decide)
  rcases List.mem_cons.mp hc with rfl | hc
  · rcases tgQ h0 with rfl | rfl | rfl | rfl | rfl | rfl | rfl | rfl | rfl | rfl | rfl | rfl <;> exact absurd h (by decide)
  rcases List.mem_cons.mp hc with rfl | hc
  · rfl
  rcases List.mem_cons.mp hc with rfl | hc
  · rcases tgQ h0 with rfl | rfl | rfl | rfl | rfl | rfl | rfl | rfl | rfl | rfl | rfl | rfl <;> exact absurd h (by decide)
  rcases List.mem_cons.mp hc with rfl | hc
  · rcases tgQ h0 with rfl | rfl | rfl | rfl | rfl | rfl | rfl | rfl | rfl | rfl | rfl | rfl <;> (rw [etg_f (by omega)] at h; cases h)
  rcases List.mem_cons.mp hc with rfl | hc
  · rcases tgQ h0 with rfl | rfl | rfl | rfl | rfl | rfl | rfl | rfl | rfl | rfl | rfl | rfl <;> (rw [ltg_f (by omega)] at h; cases h)
  rcases List.mem_cons.mp hc with rfl | hc
  · cases h
  rcases List.mem_cons.mp hc with rfl | hc
  · cases h
  rcases List.mem_cons.mp hc with rfl | hc
  · rcases tgQ h0 with rfl | rfl | rfl | rfl | rfl | rfl | rfl | rfl | rfl | rfl | rfl | rfl <;> (rw [btg_f (by omega)] at h; cases h)
  rcases List.mem_cons.mp hc with rfl | hc
  · rcases tgQ h0 with rfl | rfl | rfl | rfl | rfl | rfl | rfl | rfl | rfl | rfl | rfl | rfl <;> (rw [otg_f (by omega)] at h; cases h)
  rcases List.mem_cons.mp hc with rfl | hc
  · rcases tgQ h0 with rfl | rfl | rfl | rfl | rfl | rfl | rfl | rfl | rfl | rfl | rfl | rfl <;> (rw [wtg_f (by omega)] at h; cases h)
  rcases List.mem_cons.mp hc with rfl | hc
  · cases h
  rcases List.mem_cons.mp hc with rfl | hc
  · rcases tgQ h0 with rfl | rfl | rfl | rfl | rfl | rfl | rfl | rfl | rfl | rfl | rfl | rfl <;> (rw [vtg_f (by omega)] at h; cases h)
  rcases List.mem_cons.mp hc with rfl | hc
  · rcases tgQ h0 with rfl | rfl | rfl | rfl | rfl | rfl | rfl | rfl | rfl | rfl | rfl | rfl <;> (rw [ct9_f (by omega)] at h; cases h)
  rcases List.mem_cons.mp hc with rfl | hc
  · rcases tgQ h0 with rfl | rfl | rfl | rfl | rfl | rfl | rfl | rfl | rfl | rfl | rfl | rfl <;> (rw [rtg_f (by omega)] at h; cases h)
  · cases hc
theorem uU : ∀ c ∈ CS, ∀ t : Nat, utg t = true → c.tg t = true → c = cu 24 25 26 := by
  intro c hc t h0 h
  rcases List.mem_cons.mp hc with rfl | hc
  · rcases tgU h0 with rfl | rfl <;> exact absurd h (by decide)
  rcases List.mem_cons.mp hc with rfl | hc
  · rcases tgU h0 with rfl | rfl <;> exact absurd h (by decide)
  rcases List.mem_cons.mp hc with rfl | hc
  · rcases tgU h0 with rfl | rfl <;> exact absurd h (by decide)
  rcases List.mem_cons.mp hc with rfl | hc
  · rcases tgU h0 with rfl | rfl <;> exact absurd h (by decide)
  rcases List.mem_cons.mp hc with rfl | hc
  · rcases tgU h0 with rfl | rfl <;> exact absurd h (by decide)
  rcases List.mem_cons.mp hc with rfl | hc
  · rcases tgU h0 with rfl | rfl <;> exact absurd h (by decide)
  rcases List.mem_cons.mp hc with rfl | hc
  · rcases tgU h0 with rfl | rfl <;> exact absurd h (by decide)
  rcases List.mem_cons.mp hc with rfl | hc
  · rfl
  rcases List.mem_cons.mp hc with rfl | hc
  · rcases tgU h0 with rfl | rfl <;> (rw [etg_f (by omega)] at h; cases h)
  rcases List.mem_cons.mp hc with rfl | hc
  · rcases tgU h0 with rfl | rfl <;> (rw [ltg_f (by omega)] at h; cases h)
  rcases List.mem_cons.mp hc with rfl | hc
  · cases h
  rcases List.mem_cons.mp hc with rfl | hc
  · cases h
  rcases List.mem_cons.mp hc with rfl | hc
  · rcases tgU h0 with rfl | rfl <;> (rw [btg_f (by omega)] at h; cases h)
  rcases List.mem_cons.mp hc with rfl | hc
  · rcases tgU h0 with rfl | rfl <;> (rw [otg_f (by omega)] at h; cases h)
  rcases List.mem_cons.mp hc with rfl | hc
  · rcases tgU h0 with rfl | rfl <;> (rw [wtg_f (by omega)] at h; cases h)
  rcases List.mem_cons.mp hc with rfl | hc
  · cases h
  rcases List.mem_cons.mp hc with rfl | hc
  · rcases tgU h0 with rfl | rfl <;> (rw [vtg_f (by omega)] at h; cases h)
  rcases List.mem_cons.mp hc with rfl | hc
  · rcases tgU h0 with rfl | rfl <;> (rw [ct9_f (by omega)] at h; cases h)
  rcases List.mem_cons.mp hc with rfl | hc
  · rcases tgU h0 with rfl | rfl <;> (rw [rtg_f (by omega)] at h; cases h)
  · cases hc
theorem qH : QH TJ GG CS QQ := ⟨TJ_wf, CS_ok, mcr, uQ⟩
theorem uH : UH TJ GG CS 24 25 26 := ⟨TJ_wf, CS_ok, mcu, uU⟩
theorem uT : ∀ c ∈ CS, ∀ t : Nat, 300 ≤ t → t ≤ 304 → c.tg t = true → c = ctr 125 110 20 26 := by
  intro c hc t h1 h2 h
  rcases List.mem_cons.mp hc with rfl | hc
  · have := Nat.eq_of_beq_eq_true h; omega
  rcases List.mem_cons.mp hc with rfl | hc
  · have := Nat.eq_of_beq_eq_true h; omega
  rcases List.mem_cons.mp hc with rfl | hc
  · have := Nat.eq_of_beq_eq_true h; omega
  rcases List.mem_cons.mp hc with rfl | hc
  · cases h
  rcases List.mem_cons.mp hc with rfl | hc
  · have h : (Nat.beq t 330 || Nat.beq t 331) = true := h
    rw [Bool.or_eq_true] at h
    rcases h with h | h <;> (have := Nat.eq_of_beq_eq_true h; omega)
  rcases List.mem_cons.mp hc with rfl | hc
  · rfl
  rcases List.mem_cons.mp hc with rfl | hc
  · have h9 : t = 300 ∨ t = 301 ∨ t = 302 ∨ t = 303 ∨ t = 304 := by omega
    rcases h9 with rfl | rfl | rfl | rfl | rfl <;> exact absurd h (by decide)
  rcases List.mem_cons.mp hc with rfl | hc
  · have h9 : t = 300 ∨ t = 301 ∨ t = 302 ∨ t = 303 ∨ t = 304 := by omega
    rcases h9 with rfl | rfl | rfl | rfl | rfl <;> exact absurd h (by decide)
  rcases List.mem_cons.mp hc with rfl | hc
  · have := etg_rg h; omega
  rcases List.mem_cons.mp hc with rfl | hc
  · have := ltg_rg h; omega
  rcases List.mem_cons.mp hc with rfl | hc
  · cases h
  rcases List.mem_cons.mp hc with rfl | hc
  · cases h
  rcases List.mem_cons.mp hc with rfl | hc
  · have := btg_rg h; omega
  rcases List.mem_cons.mp hc with rfl | hc
  · have := otg_rg h; omega
  rcases List.mem_cons.mp hc with rfl | hc
  · have := wtg_rg h; omega
  rcases List.mem_cons.mp hc with rfl | hc
  · cases h
  rcases List.mem_cons.mp hc with rfl | hc
  · have := vtg_rg h; omega
  rcases List.mem_cons.mp hc with rfl | hc
  · have := ct9_rg h; omega
  rcases List.mem_cons.mp hc with rfl | hc
  · have := rtg_rg h; omega
  · cases hc
theorem del_t {H : List (Nat × Int)} {σ : zS} {t : Nat} (h1 : t ≤ 304) (hS : (ctr 125 110 20 26).S H σ) : (ctr 125 110 20 26).S (hdel t H) σ := by
  obtain ⟨s1, s2, s3, s4, s5⟩ := (hS : tS 125 110 20 26 H σ)
  have w : ∀ u z, lk (hdel t H) u = some z → lk H u = some z := fun u z h => by
    rw [lk_hdel] at h
    split at h
    · cases h
    · exact h
  refine ⟨fun h0 => ?_, s2, fun h => s3 (by rw [lk_hdel, if_neg (by omega)] at h; exact h), s4, fun q t' x a b c => s5 q t' x (w _ _ a) (w _ _ b) (w _ _ c)⟩
  obtain ⟨r, a1, a2⟩ := s1 h0
  exact ⟨r, a1, fun x n a b => a2 x n (w _ _ a) (w _ _ b)⟩
theorem h40 {σ : zS} (hb : Bd TJ GG σ) : ∀ x, x < 40 → Pp σ 125 x < 40 := by
  intro x hx
  have hk : GG.ka.get 125 = some (100, 40) := by decide +kernel
  have hc : TJ.co.get 125 = none := by decide +kernel
  have := hb 125 x (Or.inr ⟨100, 40, hk, hx⟩)
  have e : TJ.bd GG 125 x = [(-4, -4), (0, 39)] := by
    unfold Jx.bd
    rw [hk, hc]
    show (TJ.ai.get 125).getD T32 = _
    decide +kernel
  rw [e] at this
  obtain ⟨p, hp, h1, h2⟩ := this
  rcases List.mem_cons.mp hp with rfl | hp
  · dsimp only at h2; show (σ.1 125 x).toInt < 40; omega
  rcases List.mem_cons.mp hp with rfl | hp
  · dsimp only at h2; show (σ.1 125 x).toInt < 40; omega
  · cases hp
theorem tlt_0 {t : Nat} (h : (cz 310 120 16 : Cp).tg t = true) : t < 400 := by
  have := Nat.eq_of_beq_eq_true h; omega
theorem tlt_1 {t : Nat} (h : (cz 311 201 4 : Cp).tg t = true) : t < 400 := by
  have := Nat.eq_of_beq_eq_true h; omega
theorem tlt_2 {t : Nat} (h : (cl 320 196 : Cp).tg t = true) : t < 400 := by
  have := Nat.eq_of_beq_eq_true h; omega
theorem tlt_3 {t : Nat} (h : (cf 110 148 211 210 206 : Cp).tg t = true) : t < 400 := by
  cases h
theorem tlt_4 {t : Nat} (h : (cg9 110 112 183 144 : Cp).tg t = true) : t < 400 := by
  have h : (Nat.beq t 330 || Nat.beq t 331) = true := h
  rw [Bool.or_eq_true] at h
  rcases h with h | h <;> (have := Nat.eq_of_beq_eq_true h; omega)
theorem tlt_5 {t : Nat} (h : (ctr 125 110 20 26 : Cp).tg t = true) : t < 400 := by
  have := tgC h; omega
theorem tlt_6 {t : Nat} (h : (cr QQ : Cp).tg t = true) : t < 400 := by
  have := tgQ h; omega
theorem tlt_7 {t : Nat} (h : (cu 24 25 26 : Cp).tg t = true) : t < 400 := by
  have := tgU h; omega
theorem pHb0 : ∀ c ∈ CS, c = cb 125 128 ∨ ∀ t, (cb 125 128 : Cp).tg t = true → c.tg t = false := by
  intro c hc
  rcases List.mem_cons.mp hc with rfl | hc
  · exact Or.inr (fun t ht => by
    have r9 := btg_rg ht
    cases e : (cz 310 120 16 : Cp).tg t with
    | false => rfl
    | true =>
      have := tlt_0 e
      omega)
  rcases List.mem_cons.mp hc with rfl | hc
  · exact Or.inr (fun t ht => by
    have r9 := btg_rg ht
    cases e : (cz 311 201 4 : Cp).tg t with
    | false => rfl
    | true =>
      have := tlt_1 e
      omega)
  rcases List.mem_cons.mp hc with rfl | hc
  · exact Or.inr (fun t ht => by
    have r9 := btg_rg ht
    cases e : (cl 320 196 : Cp).tg t with
    | false => rfl
    | true =>
      have := tlt_2 e
      omega)
  rcases List.mem_cons.mp hc with rfl | hc
  · exact Or.inr (fun t ht => by
    have r9 := btg_rg ht
    cases e : (cf 110 148 211 210 206 : Cp).tg t with
    | false => rfl
    | true =>
      have := tlt_3 e
      omega)
  rcases List.mem_cons.mp hc with rfl | hc
  · exact Or.inr (fun t ht => by
    have r9 := btg_rg ht
    cases e : (cg9 110 112 183 144 : Cp).tg t with
    | false => rfl
    | true =>
      have := tlt_4 e
      omega)
  rcases List.mem_cons.mp hc with rfl | hc
  · exact Or.inr (fun t ht => by
    have r9 := btg_rg ht
    cases e : (ctr 125 110 20 26 : Cp).tg t with
    | false => rfl
    | true =>
      have := tlt_5 e
      omega)
  rcases List.mem_cons.mp hc with rfl | hc
  · exact Or.inr (fun t ht => by
    have r9 := btg_rg ht
    cases e : (cr QQ : Cp).tg t with
    | false => rfl
    | true =>
      have := tlt_6 e
      omega)
  rcases List.mem_cons.mp hc with rfl | hc
  · exact Or.inr (fun t ht => by
    have r9 := btg_rg ht
    cases e : (cu 24 25 26 : Cp).tg t with
    | false => rfl
    | true =>
      have := tlt_7 e
      omega)
  rcases List.mem_cons.mp hc with rfl | hc
  · exact Or.inr (fun t ht => by
    have r9 := btg_rg ht
    exact etg_f (by omega))
  rcases List.mem_cons.mp hc with rfl | hc
  · exact Or.inr (fun t ht => by
    have r9 := btg_rg ht
    exact ltg_f (by omega))
  rcases List.mem_cons.mp hc with rfl | hc
  · exact Or.inr (fun t ht => rfl)
  rcases List.mem_cons.mp hc with rfl | hc
  · exact Or.inr (fun t ht => rfl)
  rcases List.mem_cons.mp hc with rfl | hc
  · exact Or.inl rfl
  rcases List.mem_cons.mp hc with rfl | hc
  · exact Or.inr (fun t ht => by
    have r9 := btg_rg ht
    exact otg_f (by omega))
  rcases List.mem_cons.mp hc with rfl | hc
  · exact Or.inr (fun t ht => by
    have r9 := btg_rg ht
    exact wtg_f (by omega))
  rcases List.mem_cons.mp hc with rfl | hc
  · exact Or.inr (fun t ht => rfl)
  rcases List.mem_cons.mp hc with rfl | hc
  · exact Or.inr (fun t ht => by
    have r9 := btg_rg ht
    exact vtg_f (by omega))
  rcases List.mem_cons.mp hc with rfl | hc
  · exact Or.inr (fun t ht => by
    have r9 := btg_rg ht
    exact ct9_f (by omega))
  rcases List.mem_cons.mp hc with rfl | hc
  · exact Or.inr (fun t ht => by
    have r9 := btg_rg ht
    exact rtg_f (by omega))
  · cases hc
theorem pHb : PH TJ GG CS (cb 125 128) := ⟨TJ_wf, CS_ok, mcb, pHb0⟩
theorem pHo0 : ∀ c ∈ CS, c = co 125 ∨ ∀ t, (co 125 : Cp).tg t = true → c.tg t = false := by
  intro c hc
  rcases List.mem_cons.mp hc with rfl | hc
  · exact Or.inr (fun t ht => by
    have r9 := otg_rg ht
    cases e : (cz 310 120 16 : Cp).tg t with
    | false => rfl
    | true =>
      have := tlt_0 e
      omega)
  rcases List.mem_cons.mp hc with rfl | hc
  · exact Or.inr (fun t ht => by
    have r9 := otg_rg ht
    cases e : (cz 311 201 4 : Cp).tg t with
    | false => rfl
    | true =>
      have := tlt_1 e
      omega)
  rcases List.mem_cons.mp hc with rfl | hc
  · exact Or.inr (fun t ht => by
    have r9 := otg_rg ht
    cases e : (cl 320 196 : Cp).tg t with
    | false => rfl
    | true =>
      have := tlt_2 e
      omega)
  rcases List.mem_cons.mp hc with rfl | hc
  · exact Or.inr (fun t ht => by
    have r9 := otg_rg ht
    cases e : (cf 110 148 211 210 206 : Cp).tg t with
    | false => rfl
    | true =>
      have := tlt_3 e
      omega)
  rcases List.mem_cons.mp hc with rfl | hc
  · exact Or.inr (fun t ht => by
    have r9 := otg_rg ht
    cases e : (cg9 110 112 183 144 : Cp).tg t with
    | false => rfl
    | true =>
      have := tlt_4 e
      omega)
  rcases List.mem_cons.mp hc with rfl | hc
  · exact Or.inr (fun t ht => by
    have r9 := otg_rg ht
    cases e : (ctr 125 110 20 26 : Cp).tg t with
    | false => rfl
    | true =>
      have := tlt_5 e
      omega)
  rcases List.mem_cons.mp hc with rfl | hc
  · exact Or.inr (fun t ht => by
    have r9 := otg_rg ht
    cases e : (cr QQ : Cp).tg t with
    | false => rfl
    | true =>
      have := tlt_6 e
      omega)
  rcases List.mem_cons.mp hc with rfl | hc
  · exact Or.inr (fun t ht => by
    have r9 := otg_rg ht
    cases e : (cu 24 25 26 : Cp).tg t with
    | false => rfl
    | true =>
      have := tlt_7 e
      omega)
  rcases List.mem_cons.mp hc with rfl | hc
  · exact Or.inr (fun t ht => by
    have r9 := otg_rg ht
    exact etg_f (by omega))
  rcases List.mem_cons.mp hc with rfl | hc
  · exact Or.inr (fun t ht => by
    have r9 := otg_rg ht
    exact ltg_f (by omega))
  rcases List.mem_cons.mp hc with rfl | hc
  · exact Or.inr (fun t ht => rfl)
  rcases List.mem_cons.mp hc with rfl | hc
  · exact Or.inr (fun t ht => rfl)
  rcases List.mem_cons.mp hc with rfl | hc
  · exact Or.inr (fun t ht => by
    have r9 := otg_rg ht
    exact btg_f (by omega))
  rcases List.mem_cons.mp hc with rfl | hc
  · exact Or.inl rfl
  rcases List.mem_cons.mp hc with rfl | hc
  · exact Or.inr (fun t ht => by
    have r9 := otg_rg ht
    exact wtg_f (by omega))
  rcases List.mem_cons.mp hc with rfl | hc
  · exact Or.inr (fun t ht => rfl)
  rcases List.mem_cons.mp hc with rfl | hc
  · exact Or.inr (fun t ht => by
    have r9 := otg_rg ht
    exact vtg_f (by omega))
  rcases List.mem_cons.mp hc with rfl | hc
  · exact Or.inr (fun t ht => by
    have r9 := otg_rg ht
    exact ct9_f (by omega))
  rcases List.mem_cons.mp hc with rfl | hc
  · exact Or.inr (fun t ht => by
    have r9 := otg_rg ht
    exact rtg_f (by omega))
  · cases hc
theorem pHo : PH TJ GG CS (co 125) := ⟨TJ_wf, CS_ok, mco, pHo0⟩
theorem pHw0 : ∀ c ∈ CS, c = cw9 11 13 ∨ ∀ t, (cw9 11 13 : Cp).tg t = true → c.tg t = false := by
  intro c hc
  rcases List.mem_cons.mp hc with rfl | hc
  · exact Or.inr (fun t ht => by
    have r9 := wtg_rg ht
    cases e : (cz 310 120 16 : Cp).tg t with
    | false => rfl
    | true =>
      have := tlt_0 e
      omega)
  rcases List.mem_cons.mp hc with rfl | hc
  · exact Or.inr (fun t ht => by
    have r9 := wtg_rg ht
    cases e : (cz 311 201 4 : Cp).tg t with
    | false => rfl
    | true =>
      have := tlt_1 e
      omega)
  rcases List.mem_cons.mp hc with rfl | hc
  · exact Or.inr (fun t ht => by
    have r9 := wtg_rg ht
    cases e : (cl 320 196 : Cp).tg t with
    | false => rfl
    | true =>
      have := tlt_2 e
      omega)
  rcases List.mem_cons.mp hc with rfl | hc
  · exact Or.inr (fun t ht => by
    have r9 := wtg_rg ht
    cases e : (cf 110 148 211 210 206 : Cp).tg t with
    | false => rfl
    | true =>
      have := tlt_3 e
      omega)
  rcases List.mem_cons.mp hc with rfl | hc
  · exact Or.inr (fun t ht => by
    have r9 := wtg_rg ht
    cases e : (cg9 110 112 183 144 : Cp).tg t with
    | false => rfl
    | true =>
      have := tlt_4 e
      omega)
  rcases List.mem_cons.mp hc with rfl | hc
  · exact Or.inr (fun t ht => by
    have r9 := wtg_rg ht
    cases e : (ctr 125 110 20 26 : Cp).tg t with
    | false => rfl
    | true =>
      have := tlt_5 e
      omega)
  rcases List.mem_cons.mp hc with rfl | hc
  · exact Or.inr (fun t ht => by
    have r9 := wtg_rg ht
    cases e : (cr QQ : Cp).tg t with
    | false => rfl
    | true =>
      have := tlt_6 e
      omega)
  rcases List.mem_cons.mp hc with rfl | hc
  · exact Or.inr (fun t ht => by
    have r9 := wtg_rg ht
    cases e : (cu 24 25 26 : Cp).tg t with
    | false => rfl
    | true =>
      have := tlt_7 e
      omega)
  rcases List.mem_cons.mp hc with rfl | hc
  · exact Or.inr (fun t ht => by
    have r9 := wtg_rg ht
    exact etg_f (by omega))
  rcases List.mem_cons.mp hc with rfl | hc
  · exact Or.inr (fun t ht => by
    have r9 := wtg_rg ht
    exact ltg_f (by omega))
  rcases List.mem_cons.mp hc with rfl | hc
  · exact Or.inr (fun t ht => rfl)
  rcases List.mem_cons.mp hc with rfl | hc
  · exact Or.inr (fun t ht => rfl)
  rcases List.mem_cons.mp hc with rfl | hc
  · exact Or.inr (fun t ht => by
    have r9 := wtg_rg ht
    exact btg_f (by omega))
  rcases List.mem_cons.mp hc with rfl | hc
  · exact Or.inr (fun t ht => by
    have r9 := wtg_rg ht
    exact otg_f (by omega))
  rcases List.mem_cons.mp hc with rfl | hc
  · exact Or.inl rfl
  rcases List.mem_cons.mp hc with rfl | hc
  · exact Or.inr (fun t ht => rfl)
  rcases List.mem_cons.mp hc with rfl | hc
  · exact Or.inr (fun t ht => by
    have r9 := wtg_rg ht
    exact vtg_f (by omega))
  rcases List.mem_cons.mp hc with rfl | hc
  · exact Or.inr (fun t ht => by
    have r9 := wtg_rg ht
    exact ct9_f (by omega))
  rcases List.mem_cons.mp hc with rfl | hc
  · exact Or.inr (fun t ht => by
    have r9 := wtg_rg ht
    exact rtg_f (by omega))
  · cases hc
theorem pHw : PH TJ GG CS (cw9 11 13) := ⟨TJ_wf, CS_ok, mcw, pHw0⟩
theorem pHB0 : ∀ c ∈ CS, c = cC9 15 129 110 26 16 ∨ ∀ t, (cC9 15 129 110 26 16 : Cp).tg t = true → c.tg t = false := by
  intro c hc
  rcases List.mem_cons.mp hc with rfl | hc
  · exact Or.inr (fun t ht => by
    have r9 := ct9_rg ht
    cases e : (cz 310 120 16 : Cp).tg t with
    | false => rfl
    | true =>
      have := tlt_0 e
      omega)
  rcases List.mem_cons.mp hc with rfl | hc
  · exact Or.inr (fun t ht => by
    have r9 := ct9_rg ht
    cases e : (cz 311 201 4 : Cp).tg t with
    | false => rfl
    | true =>
      have := tlt_1 e
      omega)
  rcases List.mem_cons.mp hc with rfl | hc
  · exact Or.inr (fun t ht => by
    have r9 := ct9_rg ht
    cases e : (cl 320 196 : Cp).tg t with
    | false => rfl
    | true =>
      have := tlt_2 e
      omega)
  rcases List.mem_cons.mp hc with rfl | hc
  · exact Or.inr (fun t ht => by
    have r9 := ct9_rg ht
    cases e : (cf 110 148 211 210 206 : Cp).tg t with
    | false => rfl
    | true =>
      have := tlt_3 e
      omega)
  rcases List.mem_cons.mp hc with rfl | hc
  · exact Or.inr (fun t ht => by
    have r9 := ct9_rg ht
    cases e : (cg9 110 112 183 144 : Cp).tg t with
    | false => rfl
    | true =>
      have := tlt_4 e
      omega)
  rcases List.mem_cons.mp hc with rfl | hc
  · exact Or.inr (fun t ht => by
    have r9 := ct9_rg ht
    cases e : (ctr 125 110 20 26 : Cp).tg t with
    | false => rfl
    | true =>
      have := tlt_5 e
      omega)
  rcases List.mem_cons.mp hc with rfl | hc
  · exact Or.inr (fun t ht => by
    have r9 := ct9_rg ht
    cases e : (cr QQ : Cp).tg t with
    | false => rfl
    | true =>
      have := tlt_6 e
      omega)
  rcases List.mem_cons.mp hc with rfl | hc
  · exact Or.inr (fun t ht => by
    have r9 := ct9_rg ht
    cases e : (cu 24 25 26 : Cp).tg t with
    | false => rfl
    | true =>
      have := tlt_7 e
      omega)
  rcases List.mem_cons.mp hc with rfl | hc
  · exact Or.inr (fun t ht => by
    have r9 := ct9_rg ht
    exact etg_f (by omega))
  rcases List.mem_cons.mp hc with rfl | hc
  · exact Or.inr (fun t ht => by
    have r9 := ct9_rg ht
    exact ltg_f (by omega))
  rcases List.mem_cons.mp hc with rfl | hc
  · exact Or.inr (fun t ht => rfl)
  rcases List.mem_cons.mp hc with rfl | hc
  · exact Or.inr (fun t ht => rfl)
  rcases List.mem_cons.mp hc with rfl | hc
  · exact Or.inr (fun t ht => by
    have r9 := ct9_rg ht
    exact btg_f (by omega))
  rcases List.mem_cons.mp hc with rfl | hc
  · exact Or.inr (fun t ht => by
    have r9 := ct9_rg ht
    exact otg_f (by omega))
  rcases List.mem_cons.mp hc with rfl | hc
  · exact Or.inr (fun t ht => by
    have r9 := ct9_rg ht
    exact wtg_f (by omega))
  rcases List.mem_cons.mp hc with rfl | hc
  · exact Or.inr (fun t ht => rfl)
  rcases List.mem_cons.mp hc with rfl | hc
  · exact Or.inr (fun t ht => by
    have r9 := ct9_rg ht
    exact vtg_f (by omega))
  rcases List.mem_cons.mp hc with rfl | hc
  · exact Or.inl rfl
  rcases List.mem_cons.mp hc with rfl | hc
  · exact Or.inr (fun t ht => by
    have r9 := ct9_rg ht
    exact rtg_f (by omega))
  · cases hc
theorem pHB : PH TJ GG CS (cC9 15 129 110 26 16) := ⟨TJ_wf, CS_ok, mcB, pHB0⟩
theorem pHR0 : ∀ c ∈ CS, c = cR 870 999 RWg SL WG ∨ ∀ t, (cR 870 999 RWg SL WG : Cp).tg t = true → c.tg t = false := by
  intro c hc
  rcases List.mem_cons.mp hc with rfl | hc
  · exact Or.inr (fun t ht => by
    have r9 := rtg_rg ht
    cases e : (cz 310 120 16 : Cp).tg t with
    | false => rfl
    | true =>
      have := tlt_0 e
      omega)
  rcases List.mem_cons.mp hc with rfl | hc
  · exact Or.inr (fun t ht => by
    have r9 := rtg_rg ht
    cases e : (cz 311 201 4 : Cp).tg t with
    | false => rfl
    | true =>
      have := tlt_1 e
      omega)
  rcases List.mem_cons.mp hc with rfl | hc
  · exact Or.inr (fun t ht => by
    have r9 := rtg_rg ht
    cases e : (cl 320 196 : Cp).tg t with
    | false => rfl
    | true =>
      have := tlt_2 e
      omega)
  rcases List.mem_cons.mp hc with rfl | hc
  · exact Or.inr (fun t ht => by
    have r9 := rtg_rg ht
    cases e : (cf 110 148 211 210 206 : Cp).tg t with
    | false => rfl
    | true =>
      have := tlt_3 e
      omega)
  rcases List.mem_cons.mp hc with rfl | hc
  · exact Or.inr (fun t ht => by
    have r9 := rtg_rg ht
    cases e : (cg9 110 112 183 144 : Cp).tg t with
    | false => rfl
    | true =>
      have := tlt_4 e
      omega)
  rcases List.mem_cons.mp hc with rfl | hc
  · exact Or.inr (fun t ht => by
    have r9 := rtg_rg ht
    cases e : (ctr 125 110 20 26 : Cp).tg t with
    | false => rfl
    | true =>
      have := tlt_5 e
      omega)
  rcases List.mem_cons.mp hc with rfl | hc
  · exact Or.inr (fun t ht => by
    have r9 := rtg_rg ht
    cases e : (cr QQ : Cp).tg t with
    | false => rfl
    | true =>
      have := tlt_6 e
      omega)
  rcases List.mem_cons.mp hc with rfl | hc
  · exact Or.inr (fun t ht => by
    have r9 := rtg_rg ht
    cases e : (cu 24 25 26 : Cp).tg t with
    | false => rfl
    | true =>
      have := tlt_7 e
      omega)
  rcases List.mem_cons.mp hc with rfl | hc
  · exact Or.inr (fun t ht => by
    have r9 := rtg_rg ht
    exact etg_f (by omega))
  rcases List.mem_cons.mp hc with rfl | hc
  · exact Or.inr (fun t ht => by
    have r9 := rtg_rg ht
    exact ltg_f (by omega))
  rcases List.mem_cons.mp hc with rfl | hc
  · exact Or.inr (fun t ht => rfl)
  rcases List.mem_cons.mp hc with rfl | hc
  · exact Or.inr (fun t ht => rfl)
  rcases List.mem_cons.mp hc with rfl | hc
  · exact Or.inr (fun t ht => by
    have r9 := rtg_rg ht
    exact btg_f (by omega))
  rcases List.mem_cons.mp hc with rfl | hc
  · exact Or.inr (fun t ht => by
    have r9 := rtg_rg ht
    exact otg_f (by omega))
  rcases List.mem_cons.mp hc with rfl | hc
  · exact Or.inr (fun t ht => by
    have r9 := rtg_rg ht
    exact wtg_f (by omega))
  rcases List.mem_cons.mp hc with rfl | hc
  · exact Or.inr (fun t ht => rfl)
  rcases List.mem_cons.mp hc with rfl | hc
  · exact Or.inr (fun t ht => by
    have r9 := rtg_rg ht
    exact vtg_f (by omega))
  rcases List.mem_cons.mp hc with rfl | hc
  · exact Or.inr (fun t ht => by
    have r9 := rtg_rg ht
    exact ct9_f (by omega))
  rcases List.mem_cons.mp hc with rfl | hc
  · exact Or.inl rfl
  · cases hc
theorem pHR : PH TJ GG CS (cR 870 999 RWg SL WG) := ⟨TJ_wf, CS_ok, mcR, pHR0⟩
theorem hP0 {σ : zS} (hb : Bd TJ GG σ) (hn : Pp σ 125 0 < 0) : Pp σ 125 0 = -4 := by
  have hk : GG.ka.get 125 = some (100, 40) := by decide +kernel
  have hc : TJ.co.get 125 = none := by decide +kernel
  have := hb 125 0 (Or.inr ⟨100, 40, hk, by decide⟩)
  have e : TJ.bd GG 125 0 = [(-4, -4), (0, 39)] := by
    unfold Jx.bd
    rw [hk, hc]
    show (TJ.ai.get 125).getD T32 = _
    decide +kernel
  rw [e] at this
  have hn : (σ.1 125 0).toInt < 0 := hn
  show (σ.1 125 0).toInt = -4
  obtain ⟨p, hp, h1, h2⟩ := this
  rcases List.mem_cons.mp hp with rfl | hp
  · dsimp only at h1 h2; omega
  rcases List.mem_cons.mp hp with rfl | hp
  · dsimp only at h1 h2; omega
  · cases hp
theorem JJ_pb : PBt JJ := pb_ok pHB
theorem GX_J : POk GX.g GX.P JJ := P_ok TJ_wf (cS_ok CS_ok CS_apt)
theorem del_z {t k n : Nat} {H : List (Nat × Int)} {σ : zS} : (cz t k n).S (hdel t H) σ := fun z hz => by rw [lk_hdel, if_pos rfl] at hz; cases hz
theorem del_l {t k : Nat} {H : List (Nat × Int)} {σ : zS} : (cl t k).S (hdel t H) σ := fun z hz => by rw [lk_hdel, if_pos rfl] at hz; cases hz
theorem hxg_0_ok {h : Nat × (Nat × Nat)} {f : Fm} {s : Sy} {ρ : List Int} {σ : zS} (ho : Ok JJ s ρ σ) : ∃ s' ρ', hxg_0 h f s = some s' ∧ Pre ρ ρ' ∧ Ok JJ s' ρ' σ := by
  have same : ∃ s' ρ', some s = some s' ∧ Pre ρ ρ' ∧ Ok JJ s' ρ' σ := ⟨s, ρ, rfl, Pre.rf, ho⟩
  unfold hxg_0
  cases Nat.beq h.1 1 with
  | true =>
    obtain ⟨s', e1, e2⟩ := tg_ok (f := f) (i := h.2.1) ho
    exact ⟨s', ρ, e1, Pre.rf, e2⟩
  | false =>
  cases Nat.beq h.1 10 with
  | true =>
    cases Nat.beq h.2.1 310 with
    | true =>
      obtain ⟨ρ', e1, e2⟩ := hz10_ok TJ_wf CS_ok (by decide) u310 ho
      exact ⟨_, ρ', rfl, e1, e2⟩
    | false =>
    cases Nat.beq h.2.1 311 with
    | true =>
      obtain ⟨ρ', e1, e2⟩ := hz10_ok TJ_wf CS_ok (by decide) u311 ho
      exact ⟨_, ρ', rfl, e1, e2⟩
    | false => exact same
  | false =>
  cases Nat.beq h.1 11 with
  | true =>
    cases Nat.beq h.2.1 310 with
    | true => exact ⟨_, ρ, rfl, Pre.rf, h11_ok TJ_wf CS_ok (by decide) (fun c q e H σ _ => by rw [u310 c q e]; exact del_z) ho⟩
    | false =>
    cases Nat.beq h.2.1 311 with
    | true => exact ⟨_, ρ, rfl, Pre.rf, h11_ok TJ_wf CS_ok (by decide) (fun c q e H σ _ => by rw [u311 c q e]; exact del_z) ho⟩
    | false =>
    cases Nat.beq h.2.1 320 with
    | true => exact ⟨_, ρ, rfl, Pre.rf, h11_ok TJ_wf CS_ok (by decide) (fun c q e H σ _ => by rw [u320 c q e]; exact del_l) ho⟩
    | false =>
    cases hT : Nat.ble 300 h.2.1 && Nat.ble h.2.1 304 with
    | true =>
      rw [Bool.and_eq_true] at hT
      have t1 := Nat.le_of_ble_eq_true hT.1
      have t2 := Nat.le_of_ble_eq_true hT.2
      exact ⟨_, ρ, rfl, Pre.rf, h11_ok TJ_wf CS_ok (by omega) (fun c q e H σ hs => by have ec := uT c q _ t1 t2 e; subst ec; exact del_t t2 hs) ho⟩
    | false => exact same
  | false =>
  cases Nat.beq h.1 13 with
  | true => exact ⟨_, ρ, rfl, Pre.rf, hl13_ok TJ_wf CS_ok (by decide) u320 m320 ho⟩
  | false =>
  cases Nat.beq h.1 14 with
  | true => exact ⟨_, ρ, rfl, Pre.rf, hl14_ok TJ_wf CS_ok (by decide) u320 ho⟩
  | false =>
  cases Nat.beq h.1 15 with
  | true =>
    simp only [cond_true, cond_false]
    split
    · rename_i a ha
      obtain ⟨H, i1, i2⟩ := ho.inv
      rcases i1.lkp (t := 320) with ⟨q1, q2⟩ | ⟨a', z, q1, q2, q3⟩
      · rw [ha] at q1; cases q1
      · rw [ha] at q1
        cases Option.some.inj q1
        exact ⟨_, ρ, rfl, Pre.rf, hl15_ok q3 (fun j hj => i2.2.2 _ m320 z q2 j hj) ho ho.me⟩
    · exact same
  | false =>
  cases Nat.beq h.1 16 with
  | true =>
    simp only [cond_true, cond_false]
    cases Nat.beq h.2.1 310 with
    | true =>
      simp only [cond_true]
      split
      · rename_i a ha
        obtain ⟨H, i1, i2⟩ := ho.inv
        rcases i1.lkp (t := 310) with ⟨q1, q2⟩ | ⟨a', z, q1, q2, q3⟩
        · rw [ha] at q1; cases q1
        · rw [ha] at q1
          cases Option.some.inj q1
          have e := i2.2.2 _ m310 z q2
          obtain ⟨s', e1, e2⟩ := hz16_ok (by rw [← e]; exact q3) ho ho.me
          exact ⟨s', ρ, e1, Pre.rf, e2⟩
      · exact same
    | false =>
      simp only [cond_false]
      split
      · rename_i a ha
        obtain ⟨H, i1, i2⟩ := ho.inv
        rcases i1.lkp (t := 311) with ⟨q1, q2⟩ | ⟨a', z, q1, q2, q3⟩
        · rw [ha] at q1; cases q1
        · rw [ha] at q1
          cases Option.some.inj q1
          have e := i2.2.2 _ m311 z q2
          obtain ⟨s', e1, e2⟩ := hz16_ok (by rw [← e]; exact q3) ho ho.me
          exact ⟨s', ρ, e1, Pre.rf, e2⟩
      · exact same
  | false =>
  exact same
theorem hxg_1_ok {h : Nat × (Nat × Nat)} {f : Fm} {s : Sy} {ρ : List Int} {σ : zS} (ho : Ok JJ s ρ σ) : ∃ s' ρ', hxg_1 h f s = some s' ∧ Pre ρ ρ' ∧ Ok JJ s' ρ' σ := by
  have same : ∃ s' ρ', some s = some s' ∧ Pre ρ ρ' ∧ Ok JJ s' ρ' σ := ⟨s, ρ, rfl, Pre.rf, ho⟩
  unfold hxg_1
  cases Nat.beq h.1 17 with
  | true => exact ⟨_, ρ, rfl, Pre.rf, hl17_ok TJ_wf CS_ok (by decide) u320 m320 ho⟩
  | false =>
  cases Nat.beq h.1 18 with
  | true =>
    obtain ⟨H, i1, i2⟩ := ho.inv
    exact ⟨_, ρ, rfl, Pre.rf, hf18_ok (i2.2.2 _ mcf) ho ho.me⟩
  | false =>
  cases Nat.beq h.1 20 with
  | true => exact ⟨_, ρ, rfl, Pre.rf, hg20_ok TJ_wf CS_ok u331 ho⟩
  | false =>
  cases Nat.beq h.1 21 with
  | true => exact ⟨_, ρ, rfl, Pre.rf, hg21_ok mcg ho⟩
  | false =>
  cases Nat.beq h.1 22 with
  | true =>
    simp only [cond_true, cond_false]
    split
    · rename_i a _ _
      cases hv : evk s a with
      | false => exact same
      | true =>
        obtain ⟨z, hz⟩ := evk_ok ho hv
        obtain ⟨ρ', e1, e2⟩ := ht22_ok TJ_wf CS_ok mct (fun c q t ht e => uT c q t (by omega) (by omega) e) hz ho
        exact ⟨_, ρ', rfl, e1, e2⟩
    · exact same
  | false =>
  cases Nat.beq h.1 23 with
  | true =>
    simp only [cond_true, cond_false]
    split
    · rename_i a _ _
      cases hv : evk s a with
      | false => exact same
      | true =>
        obtain ⟨z, hz⟩ := evk_ok ho hv
        obtain ⟨ρ', e1, e2⟩ := ht23_ok TJ_wf CS_ok mct (fun c q t ht e => uT c q t (by omega) (by omega) e) h40 hz ho
        exact ⟨_, ρ', rfl, e1, e2⟩
    · exact same
  | false =>
  cases Nat.beq h.1 25 with
  | true =>
    simp only [cond_true, cond_false]
    split
    · rename_i a _ b _ _
      cases hv : evk s a && evk s b with
      | false => exact same
      | true =>
        rw [Bool.and_eq_true] at hv
        obtain ⟨z, hz⟩ := evk_ok ho hv.1
        obtain ⟨y, hy⟩ := evk_ok ho hv.2
        exact ⟨_, ρ, rfl, Pre.rf, ht25_ok TJ_wf CS_ok mct (fun c q t ht e => uT c q t (by omega) (by omega) e) hz hy ho⟩
    · exact same
  | false =>
  exact same
theorem hxg_2_ok {h : Nat × (Nat × Nat)} {f : Fm} {s : Sy} {ρ : List Int} {σ : zS} (ho : Ok JJ s ρ σ) : ∃ s' ρ', hxg_2 h f s = some s' ∧ Pre ρ ρ' ∧ Ok JJ s' ρ' σ := by
  have same : ∃ s' ρ', some s = some s' ∧ Pre ρ ρ' ∧ Ok JJ s' ρ' σ := ⟨s, ρ, rfl, Pre.rf, ho⟩
  unfold hxg_2
  cases Nat.beq h.1 26 with
  | true =>
    simp only [cond_true, cond_false]
    split
    · rename_i a _ _
      cases hv : evk s a with
      | false => exact same
      | true =>
        obtain ⟨z, hz⟩ := evk_ok ho hv
        exact ⟨_, ρ, rfl, Pre.rf, ht26_ok TJ_wf CS_ok mct (fun c q e => uT c q 304 (by omega) (by omega) e) hz ho⟩
    · exact same
  | false =>
  cases Nat.beq h.1 30 with
  | true => exact ⟨_, ρ, rfl, Pre.rf, h30_ok ho ho.fa⟩
  | false =>
  cases Nat.beq h.1 31 with
  | true =>
    obtain ⟨s', e1, e2⟩ := hr31_ok qH ho
    exact ⟨s', ρ, e1, Pre.rf, e2⟩
  | false =>
  cases Nat.beq h.1 32 with
  | true => exact ⟨_, ρ, rfl, Pre.rf, hr32_ok qH ho⟩
  | false =>
  cases Nat.beq h.1 33 with
  | true => exact ⟨_, ρ, rfl, Pre.rf, hr33_ok qH ho⟩
  | false =>
  cases Nat.beq h.1 34 with
  | true => exact ⟨_, ρ, rfl, Pre.rf, hr34_ok qH ho⟩
  | false =>
  cases Nat.beq h.1 35 with
  | true => exact ⟨_, ρ, rfl, Pre.rf, hr35_ok qH ho⟩
  | false =>
  exact same
theorem hxg_3_ok {h : Nat × (Nat × Nat)} {f : Fm} {s : Sy} {ρ : List Int} {σ : zS} (ho : Ok JJ s ρ σ) : ∃ s' ρ', hxg_3 h f s = some s' ∧ Pre ρ ρ' ∧ Ok JJ s' ρ' σ := by
  have same : ∃ s' ρ', some s = some s' ∧ Pre ρ ρ' ∧ Ok JJ s' ρ' σ := ⟨s, ρ, rfl, Pre.rf, ho⟩
  unfold hxg_3
  cases Nat.beq h.1 36 with
  | true =>
    simp only [cond_true, cond_false]
    split
    · rename_i r _
      cases hv : evk s r with
      | false => exact same
      | true =>
        obtain ⟨z, hz⟩ := evk_ok ho hv
        exact ⟨_, ρ, rfl, Pre.rf, hr36_ok qH hz ho⟩
    · exact same
  | false =>
  cases Nat.beq h.1 37 with
  | true =>
    obtain ⟨ρ', e1, e2⟩ := hr37_ok qH ho
    exact ⟨_, ρ', rfl, e1, e2⟩
  | false =>
  cases Nat.beq h.1 38 with
  | true => exact ⟨_, ρ, rfl, Pre.rf, hr38_ok qH ho⟩
  | false =>
  cases Nat.beq h.1 39 with
  | true => exact ⟨_, ρ, rfl, Pre.rf, hr39_ok qH ho⟩
  | false =>
  cases Nat.beq h.1 40 with
  | true =>
    simp only [cond_true, cond_false]
    split
    · rename_i p r _ _
      cases hv : evk s p && evk s r with
      | false => exact same
      | true =>
        rw [Bool.and_eq_true] at hv
        obtain ⟨z, hz⟩ := evk_ok ho hv.1
        obtain ⟨y, hy⟩ := evk_ok ho hv.2
        exact ⟨_, ρ, rfl, Pre.rf, hr40_ok qH hz hy ho⟩
    · exact same
  | false =>
  cases Nat.beq h.1 41 with
  | true => exact ⟨_, ρ, rfl, Pre.rf, hr41_ok qH ho⟩
  | false =>
  cases Nat.beq h.1 42 with
  | true => exact ⟨_, ρ, rfl, Pre.rf, hr42_ok qH ho⟩
  | false =>
  exact same
theorem hxg_4_ok {h : Nat × (Nat × Nat)} {f : Fm} {s : Sy} {ρ : List Int} {σ : zS} (ho : Ok JJ s ρ σ) : ∃ s' ρ', hxg_4 h f s = some s' ∧ Pre ρ ρ' ∧ Ok JJ s' ρ' σ := by
  have same : ∃ s' ρ', some s = some s' ∧ Pre ρ ρ' ∧ Ok JJ s' ρ' σ := ⟨s, ρ, rfl, Pre.rf, ho⟩
  unfold hxg_4
  cases Nat.beq h.1 43 with
  | true => exact ⟨_, ρ, rfl, Pre.rf, hr43_ok qH ho⟩
  | false =>
  cases Nat.beq h.1 44 with
  | true => exact ⟨_, ρ, rfl, Pre.rf, hr44_ok ho⟩
  | false =>
  cases Nat.beq h.1 45 with
  | true => exact ⟨_, ρ, rfl, Pre.rf, h45a_ok ho.fa ho ho.fa⟩
  | false =>
  cases Nat.beq h.1 46 with
  | true => exact ⟨_, ρ, rfl, Pre.rf, hr44_ok ho⟩
  | false =>
  cases Nat.beq h.1 50 with
  | true => exact ⟨_, ρ, rfl, Pre.rf, hu50_ok uH ho⟩
  | false =>
  cases Nat.beq h.1 51 with
  | true => exact ⟨_, ρ, rfl, Pre.rf, hu51_ok uH ho⟩
  | false =>
  cases Nat.beq h.1 52 with
  | true =>
    simp only [cond_true, cond_false]
    split
    · rename_i a _ _
      cases hv : evk s a with
      | false => exact same
      | true =>
        obtain ⟨z, hz⟩ := evk_ok ho hv
        exact ⟨_, ρ, rfl, Pre.rf, hu52_ok uH hz ho⟩
    · exact same
  | false =>
  exact same
theorem hxg_5_ok {h : Nat × (Nat × Nat)} {f : Fm} {s : Sy} {ρ : List Int} {σ : zS} (ho : Ok JJ s ρ σ) : ∃ s' ρ', hxg_5 h f s = some s' ∧ Pre ρ ρ' ∧ Ok JJ s' ρ' σ := by
  have same : ∃ s' ρ', some s = some s' ∧ Pre ρ ρ' ∧ Ok JJ s' ρ' σ := ⟨s, ρ, rfl, Pre.rf, ho⟩
  unfold hxg_5
  cases Nat.beq h.1 54 with
  | true => exact ⟨_, ρ, rfl, Pre.rf, hu54_ok uH ho⟩
  | false =>
  cases Nat.beq h.1 55 with
  | true =>
    obtain ⟨H, i1, i2⟩ := ho.inv
    obtain ⟨ρ', e1, e2⟩ := hu55_ok (bS12 i2.1) ho
    exact ⟨_, ρ', rfl, e1, e2⟩
  | false =>
  cases Nat.beq h.1 56 with
  | true => exact ⟨_, ρ, rfl, Pre.rf, hu56_ok uH ho⟩
  | false =>
  cases Nat.beq h.1 57 with
  | true => exact ⟨_, ρ, rfl, Pre.rf, hu57_ok uH ho⟩
  | false =>
  cases Nat.beq h.1 58 with
  | true => exact ⟨_, ρ, rfl, Pre.rf, hu58_ok ho⟩
  | false =>
  cases Nat.beq h.1 59 with
  | true =>
    obtain ⟨s', e1, e2⟩ := hu59_ok ho
    exact ⟨s', ρ, e1, Pre.rf, e2⟩
  | false =>
  cases Nat.beq h.1 60 with
  | true =>
    obtain ⟨H, i1, i2⟩ := ho.inv
    obtain ⟨a1, a2⟩ := hsAll_ok (i2.2.2 _ mce) ho i1
    exact ⟨_, ρ, rfl, Pre.rf, (hsAllL_ok (i2.2.2 _ mcl) a1 (by rw [a2]; exact i1)).1⟩
  | false =>
  exact same
theorem hxg_6_ok {h : Nat × (Nat × Nat)} {f : Fm} {s : Sy} {ρ : List Int} {σ : zS} (ho : Ok JJ s ρ σ) : ∃ s' ρ', hxg_6 h f s = some s' ∧ Pre ρ ρ' ∧ Ok JJ s' ρ' σ := by
  have same : ∃ s' ρ', some s = some s' ∧ Pre ρ ρ' ∧ Ok JJ s' ρ' σ := ⟨s, ρ, rfl, Pre.rf, ho⟩
  unfold hxg_6
  cases Nat.beq h.1 61 with
  | true =>
    show ∃ s' ρ', (match f.st[h.2.2]? with
    | some a => bif evk s a then some (h61 h.2.1 a s) else some s
    | none => some s) = some s' ∧ Pre ρ ρ' ∧ Ok JJ s' ρ' σ
    split
    · rename_i a _
      cases hv : evk s a with
      | false => exact same
      | true =>
        obtain ⟨z, hz⟩ := evk_ok ho hv
        exact ⟨_, ρ, rfl, Pre.rf, h61_ok hz ho⟩
    · exact same
  | false =>
  cases Nat.beq h.1 62 with
  | true =>
    show ∃ s' ρ', (match f.st[h.2.2]? with
      | some a => bif evk s a then some (hopL h.2.1 a PE9 s) else some s
      | none => some s) = some s' ∧ Pre ρ ρ' ∧ Ok JJ s' ρ' σ
    split
    · rename_i a _
      cases hv : evk s a with
      | false => exact same
      | true =>
        obtain ⟨z, hz⟩ := evk_ok ho hv
        obtain ⟨H, i1, i2⟩ := ho.inv
        exact ⟨_, ρ, rfl, Pre.rf, hopL_ok hz (i2.2.2 _ mce) ho i1⟩
    · exact same
  | false =>
  cases Nat.beq h.1 63 with
  | true =>
    cases Nat.beq h.2.1 0 with
    | true =>
      obtain ⟨s', e1, e2⟩ := h63_ok mck ho
      exact ⟨s', ρ, e1, Pre.rf, e2⟩
    | false =>
      obtain ⟨s', e1, e2⟩ := h63_ok mck2 ho
      exact ⟨s', ρ, e1, Pre.rf, e2⟩
  | false =>
  cases Nat.beq h.1 64 with
  | true =>
    obtain ⟨s', e1, e2⟩ := h64_ok mcn ho
    exact ⟨s', ρ, e1, Pre.rf, e2⟩
  | false =>
  cases Nat.beq h.1 70 with
  | true =>
    show ∃ s' ρ', (match lget f.lv h.2.1 with
    | some a => bif evk s a then some (h70 a h.2.2 s) else some s
    | none => some s) = some s' ∧ Pre ρ ρ' ∧ Ok JJ s' ρ' σ
    split
    · rename_i a _
      cases hv : evk s a with
      | false => exact same
      | true =>
        obtain ⟨z, hz⟩ := evk_ok ho hv
        exact ⟨_, ρ, rfl, Pre.rf, h70_ok pHb hz ho⟩
    · exact same
  | false =>
  cases Nat.beq h.1 71 with
  | true =>
    show ∃ s' ρ', (match lget f.lv h.2.1 with
    | some a => bif evk s a && leAV s (.c 0) a then some (h71 125 128 a s) else some s
    | none => some s) = some s' ∧ Pre ρ ρ' ∧ Ok JJ s' ρ' σ
    split
    · rename_i a _
      cases hv : evk s a && leAV s (.c 0) a with
      | false => exact same
      | true =>
        rw [Bool.and_eq_true] at hv
        obtain ⟨z, hz0⟩ := evk_ok ho hv.1
        have g := leAV_ok ho hv.2 (x := 0) rfl hz0
        have hz : ev ρ a = some ((z.toNat : Nat) : Int) := hz0.trans (congrArg some (by omega))
        exact ⟨_, ρ, rfl, Pre.rf, h71_ok pHb hz ho⟩
    · exact same
  | false =>
  cases Nat.beq h.1 72 with
  | true =>
    show ∃ s' ρ', (match lget f.lv h.2.1 with
    | some a => bif evk s a && leAV s (.c 0) a then some (h72 125 128 a s) else some s
    | none => some s) = some s' ∧ Pre ρ ρ' ∧ Ok JJ s' ρ' σ
    split
    · rename_i a _
      cases hv : evk s a && leAV s (.c 0) a with
      | false => exact same
      | true =>
        rw [Bool.and_eq_true] at hv
        obtain ⟨z, hz0⟩ := evk_ok ho hv.1
        have g := leAV_ok ho hv.2 (x := 0) rfl hz0
        have hz : ev ρ a = some ((z.toNat : Nat) : Int) := hz0.trans (congrArg some (by omega))
        exact ⟨_, ρ, rfl, Pre.rf, h72_ok pHb hz ho⟩
    · exact same
  | false =>
  exact same
theorem hxg_7_ok {h : Nat × (Nat × Nat)} {f : Fm} {s : Sy} {ρ : List Int} {σ : zS} (ho : Ok JJ s ρ σ) : ∃ s' ρ', hxg_7 h f s = some s' ∧ Pre ρ ρ' ∧ Ok JJ s' ρ' σ := by
  have same : ∃ s' ρ', some s = some s' ∧ Pre ρ ρ' ∧ Ok JJ s' ρ' σ := ⟨s, ρ, rfl, Pre.rf, ho⟩
  unfold hxg_7
  cases Nat.beq h.1 73 with
  | true =>
    show ∃ s' ρ', (match lget f.lv h.2.1 with
    | some a => bif evk s a && leAV s (.c 0) a then h73 125 128 a s else some s
    | none => some s) = some s' ∧ Pre ρ ρ' ∧ Ok JJ s' ρ' σ
    split
    · rename_i a _
      cases hv : evk s a && leAV s (.c 0) a with
      | false => exact same
      | true =>
        rw [Bool.and_eq_true] at hv
        obtain ⟨z, hz0⟩ := evk_ok ho hv.1
        have g := leAV_ok ho hv.2 (x := 0) rfl hz0
        have hz : ev ρ a = some ((z.toNat : Nat) : Int) := hz0.trans (congrArg some (by omega))
        obtain ⟨s', e1, e2⟩ := h73_ok mcb hz ho
        exact ⟨s', ρ, e1, Pre.rf, e2⟩
    · exact same
  | false =>
  cases Nat.beq h.1 74 with
  | true =>
    obtain ⟨s', e1, e2⟩ := h74_ok mcb ho
    exact ⟨s', ρ, e1, Pre.rf, e2⟩
  | false =>
  cases Nat.beq h.1 75 with
  | true =>
    exact ⟨_, ρ, rfl, Pre.rf, h75_ok pHb ho⟩
  | false =>
  cases Nat.beq h.1 76 with
  | true =>
    exact ⟨_, ρ, rfl, Pre.rf, h76_ok pHb ho⟩
  | false =>
  cases Nat.beq h.1 80 with
  | true =>
    show ∃ s' ρ', (match f.st with
    | a :: _ => bif evk s a then some (h80 110 26 a s) else some s
    | [] => some s) = some s' ∧ Pre ρ ρ' ∧ Ok JJ s' ρ' σ
    split
    · rename_i a _ _
      cases hv : evk s a with
      | false => exact same
      | true =>
        obtain ⟨z, hz⟩ := evk_ok ho hv
        obtain ⟨ρ', e1, e2⟩ := h80_ok TJ_wf CS_ok mct (fun c q t ht e => uT c q t (by omega) (by omega) e) hz ho
        exact ⟨_, ρ', rfl, e1, e2⟩
    · exact same
  | false =>
  cases Nat.beq h.1 81 with
  | true =>
    obtain ⟨s', e1, e2⟩ := h81_ok mct ho
    exact ⟨s', ρ, e1, Pre.rf, e2⟩
  | false =>
  cases Nat.beq h.1 82 with
  | true =>
    obtain ⟨s', e1, e2⟩ := h82_ok mct (fun hb hn => hP0 hb hn) ho
    exact ⟨s', ρ, e1, Pre.rf, e2⟩
  | false =>
  exact same
theorem hxg_8_ok {h : Nat × (Nat × Nat)} {f : Fm} {s : Sy} {ρ : List Int} {σ : zS} (ho : Ok JJ s ρ σ) : ∃ s' ρ', hxg_8 h f s = some s' ∧ Pre ρ ρ' ∧ Ok JJ s' ρ' σ := by
  have same : ∃ s' ρ', some s = some s' ∧ Pre ρ ρ' ∧ Ok JJ s' ρ' σ := ⟨s, ρ, rfl, Pre.rf, ho⟩
  unfold hxg_8
  cases Nat.beq h.1 83 with
  | true =>
    show ∃ s' ρ', (match f.st with
    | a :: _ => bif evk s a then some (h83 a s) else some s
    | [] => some s) = some s' ∧ Pre ρ ρ' ∧ Ok JJ s' ρ' σ
    split
    · rename_i a _ _
      cases hv : evk s a with
      | false => exact same
      | true =>
        obtain ⟨z, hz⟩ := evk_ok ho hv
        exact ⟨_, ρ, rfl, Pre.rf, h83_ok pHo hz ho⟩
    · exact same
  | false =>
  cases Nat.beq h.1 84 with
  | true =>
    show ∃ s' ρ', (match f.st with
    | a :: _ => bif evk s a then some (h84 125 a s) else some s
    | [] => some s) = some s' ∧ Pre ρ ρ' ∧ Ok JJ s' ρ' σ
    split
    · rename_i a _ _
      cases hv : evk s a with
      | false => exact same
      | true =>
        obtain ⟨z, hz⟩ := evk_ok ho hv
        exact ⟨_, ρ, rfl, Pre.rf, h84_ok pHo hz ho⟩
    · exact same
  | false =>
  cases Nat.beq h.1 85 with
  | true =>
    exact ⟨_, ρ, rfl, Pre.rf, h85_ok pHo ho⟩
  | false =>
  cases Nat.beq h.1 86 with
  | true =>
    exact ⟨_, ρ, rfl, Pre.rf, h86_ok pHo mct ho⟩
  | false =>
  cases Nat.beq h.1 87 with
  | true =>
    show ∃ s' ρ', (match f.st with
    | a :: _ => bif evk s a then some (h87 125 a s) else some s
    | [] => some s) = some s' ∧ Pre ρ ρ' ∧ Ok JJ s' ρ' σ
    split
    · rename_i a _ _
      cases hv : evk s a with
      | false => exact same
      | true =>
        obtain ⟨z, hz⟩ := evk_ok ho hv
        exact ⟨_, ρ, rfl, Pre.rf, h87_ok pHo hz ho⟩
    · exact same
  | false =>
  cases Nat.beq h.1 88 with
  | true =>
    show ∃ s' ρ', (match f.st with
    | a :: _ => bif evk s a then some (h88 125 a s) else some s
    | [] => some s) = some s' ∧ Pre ρ ρ' ∧ Ok JJ s' ρ' σ
    split
    · rename_i a _ _
      cases hv : evk s a with
      | false => exact same
      | true =>
        obtain ⟨z, hz⟩ := evk_ok ho hv
        exact ⟨_, ρ, rfl, Pre.rf, h88_ok pHo hz ho⟩
    · exact same
  | false =>
  cases Nat.beq h.1 89 with
  | true =>
    obtain ⟨s', e1, e2⟩ := h89_ok mco ho
    exact ⟨s', ρ, e1, Pre.rf, e2⟩
  | false =>
  exact same
theorem hxg_9_ok {h : Nat × (Nat × Nat)} {f : Fm} {s : Sy} {ρ : List Int} {σ : zS} (ho : Ok JJ s ρ σ) : ∃ s' ρ', hxg_9 h f s = some s' ∧ Pre ρ ρ' ∧ Ok JJ s' ρ' σ := by
  have same : ∃ s' ρ', some s = some s' ∧ Pre ρ ρ' ∧ Ok JJ s' ρ' σ := ⟨s, ρ, rfl, Pre.rf, ho⟩
  unfold hxg_9
  cases Nat.beq h.1 90 with
  | true =>
    obtain ⟨s', e1, e2⟩ := h90_ok mco ho
    exact ⟨s', ρ, e1, Pre.rf, e2⟩
  | false =>
  cases Nat.beq h.1 92 with
  | true =>
    exact ⟨_, ρ, rfl, Pre.rf, h92_ok pHo ho⟩
  | false =>
  cases Nat.beq h.1 95 with
  | true =>
    show ∃ s' ρ', (match lget f.lv h.2.1, lget f.lv h.2.2 with
    | some a, some b => bif evk s a && evk s b then some (h95 a b s) else some s
    | _, _ => some s) = some s' ∧ Pre ρ ρ' ∧ Ok JJ s' ρ' σ
    split
    · rename_i a b _ _
      cases hv : evk s a && evk s b with
      | false => exact same
      | true =>
        rw [Bool.and_eq_true] at hv
        obtain ⟨x, hx⟩ := evk_ok ho hv.1
        obtain ⟨y, hy⟩ := evk_ok ho hv.2
        obtain ⟨ρ', e1, e2⟩ := h95_ok pHw hx hy ho
        exact ⟨_, ρ', rfl, e1, e2⟩
    · exact same
  | false =>
  cases Nat.beq h.1 96 with
  | true =>
    exact ⟨_, ρ, rfl, Pre.rf, h96_ok pHw ho⟩
  | false =>
  cases Nat.beq h.1 97 with
  | true =>
    show ∃ s' ρ', (match f.st with
    | a :: _ => bif evk s a then some (h97 11 13 a s) else some s
    | [] => some s) = some s' ∧ Pre ρ ρ' ∧ Ok JJ s' ρ' σ
    split
    · rename_i a _ _
      cases hv : evk s a with
      | false => exact same
      | true =>
        obtain ⟨z, hz⟩ := evk_ok ho hv
        exact ⟨_, ρ, rfl, Pre.rf, h97_ok pHw hz ho⟩
    · exact same
  | false =>
  cases Nat.beq h.1 98 with
  | true =>
    obtain ⟨s', e1, e2⟩ := h98_ok mcw ho
    exact ⟨s', ρ, e1, Pre.rf, e2⟩
  | false =>
  cases Nat.beq h.1 99 with
  | true =>
    exact ⟨_, ρ, rfl, Pre.rf, h99_ok pHw ho⟩
  | false =>
  exact same
theorem hxg_10_ok {h : Nat × (Nat × Nat)} {f : Fm} {s : Sy} {ρ : List Int} {σ : zS} (ho : Ok JJ s ρ σ) : ∃ s' ρ', hxg_10 h f s = some s' ∧ Pre ρ ρ' ∧ Ok JJ s' ρ' σ := by
  have same : ∃ s' ρ', some s = some s' ∧ Pre ρ ρ' ∧ Ok JJ s' ρ' σ := ⟨s, ρ, rfl, Pre.rf, ho⟩
  unfold hxg_10
  cases Nat.beq h.1 100 with
  | true =>
    exact ⟨_, ρ, rfl, Pre.rf, h100_ok pHw ho⟩
  | false =>
  cases Nat.beq h.1 150 with
  | true =>
    obtain ⟨s', e1, e2⟩ := h150_ok mcv ho
    exact ⟨s', ρ, e1, Pre.rf, e2⟩
  | false =>
  cases Nat.beq h.1 183 with
  | true =>
    show ∃ s' ρ', (match f.st with
    | a :: _ => bif evk s a then some (h183 129 110 26 a s) else some s
    | [] => some s) = some s' ∧ Pre ρ ρ' ∧ Ok JJ s' ρ' σ
    split
    · rename_i a _ _
      cases hv : evk s a with
      | false => exact same
      | true =>
        obtain ⟨z, hz⟩ := evk_ok ho hv
        exact ⟨_, ρ, rfl, Pre.rf, h183_ok mcB hz ho⟩
    · exact same
  | false =>
  cases Nat.beq h.1 184 with
  | true =>
    exact ⟨_, ρ, rfl, Pre.rf, h184_ok pHB ho⟩
  | false =>
  cases Nat.beq h.1 190 with
  | true =>
    exact ⟨_, ρ, rfl, Pre.rf, h190_ok pHB ho⟩
  | false =>
  cases Nat.beq h.1 191 with
  | true =>
    exact ⟨_, ρ, rfl, Pre.rf, h191_ok pHB ho⟩
  | false =>
  cases Nat.beq h.1 192 with
  | true =>
    show ∃ s' ρ', (match lget f.lv h.2.1 with
    | some a => bif evk s a then some (h192 16 a s) else some s
    | none => some s) = some s' ∧ Pre ρ ρ' ∧ Ok JJ s' ρ' σ
    split
    · rename_i a _
      cases hv : evk s a with
      | false => exact same
      | true =>
        obtain ⟨z, hz⟩ := evk_ok ho hv
        exact ⟨_, ρ, rfl, Pre.rf, h192_ok pHB ho⟩
    · exact same
  | false =>
  exact same
theorem hxg_11_ok {h : Nat × (Nat × Nat)} {f : Fm} {s : Sy} {ρ : List Int} {σ : zS} (ho : Ok JJ s ρ σ) : ∃ s' ρ', hxg_11 h f s = some s' ∧ Pre ρ ρ' ∧ Ok JJ s' ρ' σ := by
  have same : ∃ s' ρ', some s = some s' ∧ Pre ρ ρ' ∧ Ok JJ s' ρ' σ := ⟨s, ρ, rfl, Pre.rf, ho⟩
  unfold hxg_11
  cases Nat.beq h.1 193 with
  | true =>
    exact ⟨_, ρ, rfl, Pre.rf, h193_ok pHB ho⟩
  | false =>
  cases Nat.beq h.1 194 with
  | true =>
    exact ⟨_, ρ, rfl, Pre.rf, h194_ok pHB ho⟩
  | false =>
  cases Nat.beq h.1 195 with
  | true =>
    show ∃ s' ρ', (match lget f.lv h.2.1 with
    | some a => bif evk s a then some (h195 16 a s) else some s
    | none => some s) = some s' ∧ Pre ρ ρ' ∧ Ok JJ s' ρ' σ
    split
    · rename_i a _
      cases hv : evk s a with
      | false => exact same
      | true =>
        obtain ⟨z, hz⟩ := evk_ok ho hv
        exact ⟨_, ρ, rfl, Pre.rf, h195_ok pHB hz ho⟩
    · exact same
  | false =>
  cases Nat.beq h.1 196 with
  | true =>
    show ∃ s' ρ', (match f.st with
    | a :: _ => bif evk s a then some (h196 a s) else some s
    | [] => some s) = some s' ∧ Pre ρ ρ' ∧ Ok JJ s' ρ' σ
    split
    · rename_i a _ _
      cases hv : evk s a with
      | false => exact same
      | true =>
        obtain ⟨z, hz⟩ := evk_ok ho hv
        exact ⟨_, ρ, rfl, Pre.rf, h196_ok pHB hz ho⟩
    · exact same
  | false =>
  cases Nat.beq h.1 197 with
  | true =>
    show ∃ s' ρ', (match lget f.lv h.2.1 with
    | some a => bif evk s a then some (h197 a s) else some s
    | none => some s) = some s' ∧ Pre ρ ρ' ∧ Ok JJ s' ρ' σ
    split
    · rename_i a _
      cases hv : evk s a with
      | false => exact same
      | true =>
        obtain ⟨z, hz⟩ := evk_ok ho hv
        exact ⟨_, ρ, rfl, Pre.rf, h197_ok pHB hz ho⟩
    · exact same
  | false =>
  cases Nat.beq h.1 198 with
  | true =>
    show ∃ s' ρ', (match f.st with
    | a :: _ => bif evk s a then some (h198 129 110 26 a s) else some s
    | [] => some s) = some s' ∧ Pre ρ ρ' ∧ Ok JJ s' ρ' σ
    split
    · rename_i a _ _
      cases hv : evk s a with
      | false => exact same
      | true =>
        obtain ⟨z, hz⟩ := evk_ok ho hv
        exact ⟨_, ρ, rfl, Pre.rf, h198_ok pHB hz ho⟩
    · exact same
  | false =>
  cases Nat.beq h.1 199 with
  | true =>
    show ∃ s' ρ', (match f.st with
    | a :: _ => bif evk s a then some (h199 a s) else some s
    | [] => some s) = some s' ∧ Pre ρ ρ' ∧ Ok JJ s' ρ' σ
    split
    · rename_i a _ _
      cases hv : evk s a with
      | false => exact same
      | true =>
        obtain ⟨z, hz⟩ := evk_ok ho hv
        exact ⟨_, ρ, rfl, Pre.rf, h199_ok pHB hz ho⟩
    · exact same
  | false =>
  exact same
theorem hxg_12_ok {h : Nat × (Nat × Nat)} {f : Fm} {s : Sy} {ρ : List Int} {σ : zS} (ho : Ok JJ s ρ σ) : ∃ s' ρ', hxg_12 h f s = some s' ∧ Pre ρ ρ' ∧ Ok JJ s' ρ' σ := by
  have same : ∃ s' ρ', some s = some s' ∧ Pre ρ ρ' ∧ Ok JJ s' ρ' σ := ⟨s, ρ, rfl, Pre.rf, ho⟩
  unfold hxg_12
  cases Nat.beq h.1 200 with
  | true =>
    exact ⟨_, ρ, rfl, Pre.rf, h200_ok pHB ho⟩
  | false =>
  cases Nat.beq h.1 202 with
  | true =>
    exact ⟨_, ρ, rfl, Pre.rf, h202_ok pHB ho⟩
  | false =>
  cases Nat.beq h.1 203 with
  | true =>
    exact ⟨_, ρ, rfl, Pre.rf, h203_ok mcB ho⟩
  | false =>
  cases Nat.beq h.1 204 with
  | true =>
    exact ⟨_, ρ, rfl, Pre.rf, h204_ok pHB ho⟩
  | false =>
  cases Nat.beq h.1 206 with
  | true =>
    exact ⟨_, ρ, rfl, Pre.rf, h206_ok pHB pHR rfl ho⟩
  | false =>
  cases Nat.beq h.1 207 with
  | true =>
    exact ⟨_, ρ, rfl, Pre.rf, h207_ok pHw pHR rfl rfl ho⟩
  | false =>
  cases Nat.beq h.1 208 with
  | true =>
    show ∃ s' ρ', (match f.st with
    | b :: a :: _ => bif evk s a && evk s b then some (h95 a b s) else some s
    | _ => some s) = some s' ∧ Pre ρ ρ' ∧ Ok JJ s' ρ' σ
    split
    · rename_i b a _ _
      cases hv : evk s a && evk s b with
      | false => exact same
      | true =>
        rw [Bool.and_eq_true] at hv
        obtain ⟨x, hx⟩ := evk_ok ho hv.1
        obtain ⟨y, hy⟩ := evk_ok ho hv.2
        obtain ⟨ρ', e1, e2⟩ := h95_ok pHw hx hy ho
        exact ⟨_, ρ', rfl, e1, e2⟩
    · exact same
  | false =>
  exact same
theorem hxg_13_ok {h : Nat × (Nat × Nat)} {f : Fm} {s : Sy} {ρ : List Int} {σ : zS} (ho : Ok JJ s ρ σ) : ∃ s' ρ', hxg_13 h f s = some s' ∧ Pre ρ ρ' ∧ Ok JJ s' ρ' σ := by
  have same : ∃ s' ρ', some s = some s' ∧ Pre ρ ρ' ∧ Ok JJ s' ρ' σ := ⟨s, ρ, rfl, Pre.rf, ho⟩
  unfold hxg_13
  cases Nat.beq h.1 209 with
  | true =>
    show ∃ s' ρ', (match f.st with
    | b :: a :: _ => bif evk s a && evk s b then some (h209 a b s) else some s
    | _ => some s) = some s' ∧ Pre ρ ρ' ∧ Ok JJ s' ρ' σ
    split
    · rename_i b a _ _
      cases hv : evk s a && evk s b with
      | false => exact same
      | true =>
        rw [Bool.and_eq_true] at hv
        obtain ⟨x, hx⟩ := evk_ok ho hv.1
        obtain ⟨y, hy⟩ := evk_ok ho hv.2
        obtain ⟨ρ', e1, e2⟩ := h209_ok pHB hx hy ho
        exact ⟨_, ρ', rfl, e1, e2⟩
    · exact same
  | false =>
  cases Nat.beq h.1 210 with
  | true =>
    show ∃ s' ρ', (match (bif Nat.beq h.2.1 0 then f.st[0]? else lget f.lv (h.2.1 - 1)) with
    | some a => bif evk s a then some (h210 412 12 126 110 26 a s) else some s
    | none => some s) = some s' ∧ Pre ρ ρ' ∧ Ok JJ s' ρ' σ
    split
    · rename_i a _
      cases hv : evk s a with
      | false => exact same
      | true =>
        obtain ⟨z, hz⟩ := evk_ok ho hv
        exact ⟨_, ρ, rfl, Pre.rf, h210_ok (fun H σ hJ => (hJ.2.2 _ mce) (412, (12, (1, (126, (1, 39))))) (by decide)) mck2 mcv hz ho⟩
    · exact same
  | false =>
  cases Nat.ble 300 h.1 with
  | true =>
    show ∃ s' ρ', (match RGT.get h.1 with
      | some R => ruA RWg R (f.lv, (f.st, (.c 0, .c 0))) s
      | none => some s) = some s' ∧ Pre ρ ρ' ∧ Ok JJ s' ρ' σ
    split
    · rename_i R hR
      obtain ⟨q1, q2⟩ := RGT_ok.at hR
      exact ruA_ok pHR q1 q2 rfl ho
    · exact same
  | false =>
  exact same
theorem GX_H : HOk GX JJ := by
  intro h f s ρ σ ho
  show ∃ s' ρ', hxT h f s = some s' ∧ Pre ρ ρ' ∧ Ok JJ s' ρ' σ
  unfold hxT
  cases Nat.ble h.1 16 with
  | true => rw [cond_true]; exact hxg_0_ok ho
  | false =>
  rw [cond_false]
  cases Nat.ble h.1 25 with
  | true => rw [cond_true]; exact hxg_1_ok ho
  | false =>
  rw [cond_false]
  cases Nat.ble h.1 35 with
  | true => rw [cond_true]; exact hxg_2_ok ho
  | false =>
  rw [cond_false]
  cases Nat.ble h.1 42 with
  | true => rw [cond_true]; exact hxg_3_ok ho
  | false =>
  rw [cond_false]
  cases Nat.ble h.1 52 with
  | true => rw [cond_true]; exact hxg_4_ok ho
  | false =>
  rw [cond_false]
  cases Nat.ble h.1 60 with
  | true => rw [cond_true]; exact hxg_5_ok ho
  | false =>
  rw [cond_false]
  cases Nat.ble h.1 72 with
  | true => rw [cond_true]; exact hxg_6_ok ho
  | false =>
  rw [cond_false]
  cases Nat.ble h.1 82 with
  | true => rw [cond_true]; exact hxg_7_ok ho
  | false =>
  rw [cond_false]
  cases Nat.ble h.1 89 with
  | true => rw [cond_true]; exact hxg_8_ok ho
  | false =>
  rw [cond_false]
  cases Nat.ble h.1 99 with
  | true => rw [cond_true]; exact hxg_9_ok ho
  | false =>
  rw [cond_false]
  cases Nat.ble h.1 192 with
  | true => rw [cond_true]; exact hxg_10_ok ho
  | false =>
  rw [cond_false]
  cases Nat.ble h.1 199 with
  | true => rw [cond_true]; exact hxg_11_ok ho
  | false =>
  rw [cond_false]
  cases Nat.ble h.1 208 with
  | true => rw [cond_true]; exact hxg_12_ok ho
  | false =>
  rw [cond_false]
  exact hxg_13_ok ho
theorem low_nil {H : List (Nat × Int)} (hb : ∀ e ∈ H, 100 ≤ e.1 ∧ e.1 < 330) {r : Nat} (hr : r < 100 ∨ 330 ≤ r) : lk H r = none := by
  cases h : lk H r with
  | none => rfl
  | some x => have := hb _ (lk_mem h); dsimp only at this; omega
theorem nil_S {H : List (Nat × Int)} {σ : zS} (hb : ∀ e ∈ H, 100 ≤ e.1 ∧ e.1 < 330) : ∀ c ∈ CS, c.S H σ → c.S [] σ := by
  intro c hc hS
  rcases List.mem_cons.mp hc with rfl | hc
  · intro z hz; cases hz
  rcases List.mem_cons.mp hc with rfl | hc
  · intro z hz; cases hz
  rcases List.mem_cons.mp hc with rfl | hc
  · intro z hz; cases hz
  rcases List.mem_cons.mp hc with rfl | hc
  · exact hS
  rcases List.mem_cons.mp hc with rfl | hc
  · exact (CS_ok _ mcg).dep H [] σ σ (fun u hu => by
    have hu : (Nat.beq u 330 || Nat.beq u 331) = true := hu
    rw [Bool.or_eq_true] at hu
    rcases hu with hu | hu <;> rw [Nat.eq_of_beq_eq_true hu, low_nil hb (by decide)] <;> rfl) (fun _ _ => rfl) hS
  rcases List.mem_cons.mp hc with rfl | hc
  · obtain ⟨s1, s2, s3, s4, s5⟩ := (hS : tS 125 110 20 26 H σ)
    exact ⟨fun h0 => (by obtain ⟨r, a1, _⟩ := s1 h0; exact ⟨r, a1, fun x n a => (by cases a)⟩), s2, fun _ => s3 (low_nil hb (by decide)), s4, fun q t x a => (by cases a)⟩
  rcases List.mem_cons.mp hc with rfl | hc
  · obtain ⟨s0, sz, s8, s7, s5, s6⟩ := (hS : qS QQ H σ)
    exact ⟨s0, fun _ => sz (low_nil hb (by decide)), fun P q => (by cases q), fun f e h w B N P q => (by cases q), fun r q => (by cases q), fun k t h q => (by cases q)⟩
  rcases List.mem_cons.mp hc with rfl | hc
  · exact ⟨fun T q => (by cases q), fun T z q => (by cases q)⟩
  rcases List.mem_cons.mp hc with rfl | hc
  · exact (CS_ok _ mce).dep H [] σ σ (fun u hu => by
    have hu := etg_rg hu
    rw [low_nil hb (Or.inr (by omega))]
    rfl) (fun _ _ => rfl) hS
  rcases List.mem_cons.mp hc with rfl | hc
  · exact (CS_ok _ mcl).dep H [] σ σ (fun u hu => by
    have hu := ltg_rg hu
    rw [low_nil hb (Or.inr (by omega))]
    rfl) (fun _ _ => rfl) hS
  rcases List.mem_cons.mp hc with rfl | hc
  · exact hS
  rcases List.mem_cons.mp hc with rfl | hc
  · exact hS
  rcases List.mem_cons.mp hc with rfl | hc
  · exact (CS_ok _ mcb).dep H [] σ σ (fun u hu => by
    have hu := btg_rg hu
    rw [low_nil hb (Or.inr (by omega))]
    rfl) (fun _ _ => rfl) hS
  rcases List.mem_cons.mp hc with rfl | hc
  · exact (CS_ok _ mco).dep H [] σ σ (fun u hu => by
    have hu := otg_rg hu
    rw [low_nil hb (Or.inr (by omega))]
    rfl) (fun _ _ => rfl) hS
  rcases List.mem_cons.mp hc with rfl | hc
  · exact (CS_ok _ mcw).dep H [] σ σ (fun u hu => by
    have hu := wtg_rg hu
    rw [low_nil hb (Or.inr (by omega))]
    rfl) (fun _ _ => rfl) hS
  rcases List.mem_cons.mp hc with rfl | hc
  · exact hS
  rcases List.mem_cons.mp hc with rfl | hc
  · exact (CS_ok _ mcv).dep H [] σ σ (fun u hu => by
    have hu := vtg_rg hu
    rw [low_nil hb (Or.inr (by omega))]
    rfl) (fun _ _ => rfl) hS
  rcases List.mem_cons.mp hc with rfl | hc
  · exact (CS_ok _ mcB).dep H [] σ σ (fun u hu => by
    have hu := ct9_rg hu
    rw [low_nil hb (Or.inr (by omega))]
    rfl) (fun _ _ => rfl) hS
  rcases List.mem_cons.mp hc with rfl | hc
  · exact (CS_ok _ mcR).dep H [] σ σ (fun u hu => by
    have hu := rtg_rg hu
    rw [low_nil hb (Or.inr (by omega))]
    rfl) (fun _ _ => rfl) hS
  · cases hc
theorem ctF {H : List (Nat × Int)} {σ σ' : zS} (hb : ∀ e ∈ H, 100 ≤ e.1 ∧ e.1 < 330) (hJ : JJ H σ) (hJ' : JJ [] σ') (hr : ∀ e ∈ H, ∀ k, trT e.1 k = true → σ'.1 k = σ.1 k ∧ σ'.2 k = σ.2 k) : (ctr 125 110 20 26).S H σ' := by
  by_cases h : ∀ t, 300 ≤ t → t ≤ 304 → lk H t = none
  · refine (CS_ok _ mct).dep [] H σ' σ' (fun u hu => ?_) (fun _ _ => rfl) (hJ'.2.2 _ mct)
    have hu : ((Nat.ble 300 u && Nat.ble u 304) || Nat.beq u 340) = true := hu
    rw [Bool.or_eq_true, Bool.and_eq_true] at hu
    rcases hu with ⟨u1, u2⟩ | u1
    · rw [h u (Nat.le_of_ble_eq_true u1) (Nat.le_of_ble_eq_true u2)]; rfl
    · rw [Nat.eq_of_beq_eq_true u1, low_nil hb (by decide)]; rfl
  · have hx : ∃ t z, 300 ≤ t ∧ t ≤ 304 ∧ lk H t = some z := Classical.byContradiction fun hn => h fun t h1 h2 => by
      cases hl : lk H t with
      | none => rfl
      | some z => exact absurd ⟨t, z, h1, h2, hl⟩ hn
    obtain ⟨t, z, h1, h2, hl⟩ := hx
    have rk9 := hr _ (lk_mem hl) 125 (by
      show trT t 125 = true
      unfold trT
      rw [Nat.ble_eq_true_of_le h1, Nat.ble_eq_true_of_le h2]
      simp)
    replace rk9 := rk9.1
    have rp : Pp σ' 125 = Pp σ 125 := by funext y; show (σ'.1 125 y).toInt = _; rw [rk9]
    obtain ⟨s1, s2, s3, s4, s5⟩ := (hJ.2.2 _ mct : tS 125 110 20 26 H σ)
    obtain ⟨t1, t2, t3, t4, t5⟩ := (hJ'.2.2 _ mct : tS 125 110 20 26 [] σ')
    exact ⟨by rw [rp]; exact s1, t2, fun _ => t3 rfl, t4, by rw [rp]; exact s5⟩
theorem Pp_eq {σ σ' : zS} {k : Nat} (h : σ'.1 k = σ.1 k) : Pp σ' k = Pp σ k := by
  funext y
  show (σ'.1 k y).toInt = _
  rw [h]
theorem crF {H : List (Nat × Int)} {σ σ' : zS} (hb : ∀ e ∈ H, 100 ≤ e.1 ∧ e.1 < 330) (hJ : JJ H σ) (hJ' : JJ [] σ') (hr : ∀ e ∈ H, ∀ k, trT e.1 k = true → σ'.1 k = σ.1 k ∧ σ'.2 k = σ.2 k) : (cr QQ).S H σ' := by
  obtain ⟨s0, sz, s8, s7, s5, s6⟩ := (hJ.2.2 _ mcr : qS QQ H σ)
  obtain ⟨t0, tz, _, _, _, _⟩ := (hJ'.2.2 _ mcr : qS QQ [] σ')
  refine ⟨t0, fun _ => tz rfl, fun P q => ?_, fun f e h w B N P q1 q2 q3 q4 q5 q6 q7 => ?_, fun r q => ?_, fun k t h q1 q2 q3 => ?_⟩
  · rw [low_nil hb (by decide)] at q
    cases q
  · have m := lk_mem q1
    rw [Pp_eq (k := QQ.c) (hr _ m _ rfl).1, Pp_eq (k := QQ.s) (hr _ m _ rfl).1, Pp_eq (k := QQ.e) (hr _ m _ rfl).1, Pp_eq (k := QQ.w) (hr _ m _ rfl).1]
    exact s7 f e h w B N P q1 q2 q3 q4 q5 q6 q7
  · have m := lk_mem q
    rw [Pp_eq (k := QQ.c) (hr _ m _ rfl).1, Pp_eq (k := QQ.s) (hr _ m _ rfl).1, Pp_eq (k := QQ.e) (hr _ m _ rfl).1]
    exact s5 r q
  · have m := lk_mem q1
    rw [Pp_eq (k := QQ.c) (hr _ m _ rfl).1]
    exact s6 k t h q1 q2 q3
theorem cuF {H : List (Nat × Int)} {σ σ' : zS} (hJ : JJ H σ) (hr : ∀ e ∈ H, ∀ k, trT e.1 k = true → σ'.1 k = σ.1 k ∧ σ'.2 k = σ.2 k) : (cu 24 25 26).S H σ' := by
  obtain ⟨s1, s2⟩ := (hJ.2.2 _ mcu : uS 24 25 26 H σ)
  refine ⟨fun T q i hi => ?_, fun T z q hz i hi => ?_⟩
  · have m := lk_mem q
    have := s1 T q i hi
    unfold uN at this ⊢
    rw [(hr _ m 25 rfl).1, (hr _ m 24 rfl).1, (hr _ m 26 rfl).2]
    exact this
  · have m := lk_mem q
    have := s2 T z q hz i hi
    unfold uN at this ⊢
    rw [(hr _ m 25 rfl).1, (hr _ m 24 rfl).1, (hr _ m 26 rfl).2]
    exact this
theorem GX_F : JFr GX JJ := by
  refine ⟨fun H σ hb hJ => ⟨hJ.1, fun r R hr j hj _ => hJ.2.1 r R hr j hj (by rw [low_nil hb (Or.inl (wf_row TJ_wf hr).1)]; intro q; cases q), fun c q => nil_S hb c q (hJ.2.2 c q)⟩, fun H σ σ' hb hJ hJ' hr => ⟨hJ'.1, fun r R hr j hj _ => hJ'.2.1 r R hr j hj (by intro q; cases q), ?_⟩, ?_⟩
  · have one : ∀ c ∈ CS, ∀ t k : Nat, (∀ u, c.tg u = Nat.beq u t) → (∀ u, c.rw u = Nat.beq u k) → (∀ u, c.lr u = false) → trT t k = true → c.S H σ' := by
      intro c q t k h1 h2 h4 h3
      cases hl : lk H t with
      | none => exact (CS_ok c q).dep [] H σ' σ' (fun u hu => by rw [h1] at hu; rw [Nat.eq_of_beq_eq_true hu, hl]; rfl) (fun _ _ => rfl) (hJ'.2.2 c q)
      | some x => exact (CS_ok c q).dep H H σ σ' (fun _ _ => rfl) (fun u hu => by rw [h2] at hu; rw [Nat.eq_of_beq_eq_true hu]; exact (hr _ (lk_mem hl) k h3).1) (hJ.2.2 c q) (fun u hu => by rw [h4] at hu; cases hu)
    intro c hc0
    have hc := hc0
    rcases List.mem_cons.mp hc with rfl | hc
    · exact one _ hc0 310 120 (fun _ => rfl) (fun _ => rfl) (fun _ => rfl) rfl
    rcases List.mem_cons.mp hc with rfl | hc
    · exact one _ hc0 311 201 (fun _ => rfl) (fun _ => rfl) (fun _ => rfl) rfl
    rcases List.mem_cons.mp hc with rfl | hc
    · exact one _ hc0 320 196 (fun _ => rfl) (fun _ => rfl) (fun _ => rfl) rfl
    rcases List.mem_cons.mp hc with rfl | hc
    · exact hJ'.2.2 _ mcf
    rcases List.mem_cons.mp hc with rfl | hc
    · exact (CS_ok _ mcg).dep [] H σ' σ' (fun u hu => by
        have hu : (Nat.beq u 330 || Nat.beq u 331) = true := hu
        rw [Bool.or_eq_true] at hu
        rcases hu with hu | hu <;> rw [Nat.eq_of_beq_eq_true hu, low_nil hb (by decide)] <;> rfl) (fun _ _ => rfl) (hJ'.2.2 _ mcg)
    rcases List.mem_cons.mp hc with rfl | hc
    · exact ctF hb hJ hJ' hr
    rcases List.mem_cons.mp hc with rfl | hc
    · exact crF hb hJ hJ' hr
    rcases List.mem_cons.mp hc with rfl | hc
    · exact cuF hJ hr
    rcases List.mem_cons.mp hc with rfl | hc
    · exact (CS_ok _ mce).dep [] H σ' σ' (fun u hu => by
        have hu := etg_rg hu
        rw [low_nil hb (Or.inr (by omega))]
        rfl) (fun _ _ => rfl) (hJ'.2.2 _ mce)
    rcases List.mem_cons.mp hc with rfl | hc
    · exact (CS_ok _ mcl).dep [] H σ' σ' (fun u hu => by
        have hu := ltg_rg hu
        rw [low_nil hb (Or.inr (by omega))]
        rfl) (fun _ _ => rfl) (hJ'.2.2 _ mcl)
    rcases List.mem_cons.mp hc with rfl | hc
    · exact hJ'.2.2 _ mck
    rcases List.mem_cons.mp hc with rfl | hc
    · exact hJ'.2.2 _ mcn
    rcases List.mem_cons.mp hc with rfl | hc
    · exact (CS_ok _ mcb).dep [] H σ' σ' (fun u hu => by
        have hu := btg_rg hu
        rw [low_nil hb (Or.inr (by omega))]
        rfl) (fun _ _ => rfl) (hJ'.2.2 _ mcb)
    rcases List.mem_cons.mp hc with rfl | hc
    · exact (CS_ok _ mco).dep [] H σ' σ' (fun u hu => by
        have hu := otg_rg hu
        rw [low_nil hb (Or.inr (by omega))]
        rfl) (fun _ _ => rfl) (hJ'.2.2 _ mco)
    rcases List.mem_cons.mp hc with rfl | hc
    · exact (CS_ok _ mcw).dep [] H σ' σ' (fun u hu => by
        have hu := wtg_rg hu
        rw [low_nil hb (Or.inr (by omega))]
        rfl) (fun _ _ => rfl) (hJ'.2.2 _ mcw)
    rcases List.mem_cons.mp hc with rfl | hc
    · exact hJ'.2.2 _ mck2
    rcases List.mem_cons.mp hc with rfl | hc
    · exact (CS_ok _ mcv).dep [] H σ' σ' (fun u hu => by
        have hu := vtg_rg hu
        rw [low_nil hb (Or.inr (by omega))]
        rfl) (fun _ _ => rfl) (hJ'.2.2 _ mcv)
    rcases List.mem_cons.mp hc with rfl | hc
    · exact (CS_ok _ mcB).dep [] H σ' σ' (fun u hu => by
        have hu := ct9_rg hu
        rw [low_nil hb (Or.inr (by omega))]
        rfl) (fun _ _ => rfl) (hJ'.2.2 _ mcB)
    rcases List.mem_cons.mp hc with rfl | hc
    · exact (CS_ok _ mcR).dep [] H σ' σ' (fun u hu => by
        have hu := rtg_rg hu
        rw [low_nil hb (Or.inr (by omega))]
        rfl) (fun _ _ => rfl) (hJ'.2.2 _ mcR)
    · cases hc
  · intro t k h
    have h : trT t k = true := h
    unfold trT at h
    simp only [Bool.or_eq_true, Bool.and_eq_true] at h
    rcases h with ⟨_, h⟩ | ⟨_, h⟩ | ⟨_, h⟩ | ⟨_, h⟩ | ⟨_, h⟩ | ⟨_, h⟩
    · rw [Nat.eq_of_beq_eq_true h]; decide +kernel
    · rw [Nat.eq_of_beq_eq_true h]; decide +kernel
    · rw [Nat.eq_of_beq_eq_true h]; decide +kernel
    · rw [Nat.eq_of_beq_eq_true h]; decide +kernel
    · rcases h with h | h | h | h <;> rw [Nat.eq_of_beq_eq_true h] <;> decide +kernel
    · rcases h with h | h | h <;> rw [Nat.eq_of_beq_eq_true h] <;> decide +kernel
theorem GX_G : GxOk Yf GX := G_ok _ _ _ _
end
