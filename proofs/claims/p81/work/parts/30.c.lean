noncomputable section
/-! ===== what else holds; hints; all together ===== -/
noncomputable def QQ : QK := (141, (139, (140, (131, (148, (110, 32))))))
noncomputable def PE9 : List Ep := [(400, (5, (0, (110, (6, 1))))), (404, (5, (1, (110, (7, 1))))), (408, (0, (2, (110, (0, 1))))), (412, (34, (1, (110, (77, 1))))), (416, (35, (0, (157, (0, 20))))), (420, (36, (0, (158, (0, 20))))), (424, (37, (0, (159, (0, 20))))), (428, (10, (0, (110, (20, 1))))), (432, (11, (1, (125, (1, 39))))), (436, (12, (1, (126, (1, 39))))), (440, (13, (0, (127, (0, 40))))), (444, (14, (0, (128, (0, 40)))))]
theorem PE9_apt : eApt PE9 := ⟨by decide, by decide, by decide, by decide, by decide, by decide, by decide, by decide, by decide, by decide, by decide, by decide, trivial⟩
noncomputable def PL9 : List Ep := []
theorem PL9_apt : eApt PL9 := trivial
noncomputable def RWg : List Nat := [6, 120, 40, 110, 5, 114, 115, 116, 117, 118, 119, 157, 158, 159]
noncomputable def WG : List (Nat × List Ru) := [(5, [wu_wL, wu_wG, wu_wN, wu_wO]), (6, [wu_rK0, wu_rN0, wu_rO0, wu_rK1, wu_rN1, wu_rO1, wu_rK2, wu_rN2, wu_rO2, wu_rK3, wu_rN3, wu_rO3, wu_rK4, wu_rN4, wu_rO4, wu_rK5, wu_rN5, wu_rO5]), (40, [wu_gW, wu_g0]), (110, [wu_oL, wu_oG, wu_oC]), (114, [wu_mC0]), (115, [wu_mC1]), (116, [wu_mC2]), (117, [wu_mC3]), (118, [wu_mC4]), (119, [wu_mC5]), (120, [wu_hC0, wu_hCL, wu_hCG, wu_hC1, wu_hS, wu_hK, wu_h0]), (157, [wu_l0]), (158, [wu_l1]), (159, [wu_l2])]
theorem WG_ok : ∀ e ∈ WG, ∀ R ∈ e.2, tgsOk 840 999 RWg R = true ∧ WrOk SG e.1 R := List.forall_mem_cons.mpr ⟨List.forall_mem_cons.mpr ⟨⟨by decide +kernel, wk_wL⟩, List.forall_mem_cons.mpr ⟨⟨by decide +kernel, wk_wG⟩, List.forall_mem_cons.mpr ⟨⟨by decide +kernel, wk_wN⟩, List.forall_mem_cons.mpr ⟨⟨by decide +kernel, wk_wO⟩, fun _ h => (by cases h)⟩⟩⟩⟩, List.forall_mem_cons.mpr ⟨List.forall_mem_cons.mpr ⟨⟨by decide +kernel, wk_rK0⟩, List.forall_mem_cons.mpr ⟨⟨by decide +kernel, wk_rN0⟩, List.forall_mem_cons.mpr ⟨⟨by decide +kernel, wk_rO0⟩, List.forall_mem_cons.mpr ⟨⟨by decide +kernel, wk_rK1⟩, List.forall_mem_cons.mpr ⟨⟨by decide +kernel, wk_rN1⟩, List.forall_mem_cons.mpr ⟨⟨by decide +kernel, wk_rO1⟩, List.forall_mem_cons.mpr ⟨⟨by decide +kernel, wk_rK2⟩, List.forall_mem_cons.mpr ⟨⟨by decide +kernel, wk_rN2⟩, List.forall_mem_cons.mpr ⟨⟨by decide +kernel, wk_rO2⟩, List.forall_mem_cons.mpr ⟨⟨by decide +kernel, wk_rK3⟩, List.forall_mem_cons.mpr ⟨⟨by decide +kernel, wk_rN3⟩, List.forall_mem_cons.mpr ⟨⟨by decide +kernel, wk_rO3⟩, List.forall_mem_cons.mpr ⟨⟨by decide +kernel, wk_rK4⟩, List.forall_mem_cons.mpr ⟨⟨by decide +kernel, wk_rN4⟩, List.forall_mem_cons.mpr ⟨⟨by decide +kernel, wk_rO4⟩, List.forall_mem_cons.mpr ⟨⟨by decide +kernel, wk_rK5⟩, List.forall_mem_cons.mpr ⟨⟨by decide +kernel, wk_rN5⟩, List.forall_mem_cons.mpr ⟨⟨by decide +kernel, wk_rO5⟩, fun _ h => (by cases h)⟩⟩⟩⟩⟩⟩⟩⟩⟩⟩⟩⟩⟩⟩⟩⟩⟩⟩, List.forall_mem_cons.mpr ⟨List.forall_mem_cons.mpr ⟨⟨by decide +kernel, wk_gW⟩, List.forall_mem_cons.mpr ⟨⟨by decide +kernel, wk_g0⟩, fun _ h => (by cases h)⟩⟩, List.forall_mem_cons.mpr ⟨List.forall_mem_cons.mpr ⟨⟨by decide +kernel, wk_oL⟩, List.forall_mem_cons.mpr ⟨⟨by decide +kernel, wk_oG⟩, List.forall_mem_cons.mpr ⟨⟨by decide +kernel, wk_oC⟩, fun _ h => (by cases h)⟩⟩⟩, List.forall_mem_cons.mpr ⟨List.forall_mem_cons.mpr ⟨⟨by decide +kernel, wk_mC0⟩, fun _ h => (by cases h)⟩, List.forall_mem_cons.mpr ⟨List.forall_mem_cons.mpr ⟨⟨by decide +kernel, wk_mC1⟩, fun _ h => (by cases h)⟩, List.forall_mem_cons.mpr ⟨List.forall_mem_cons.mpr ⟨⟨by decide +kernel, wk_mC2⟩, fun _ h => (by cases h)⟩, List.forall_mem_cons.mpr ⟨List.forall_mem_cons.mpr ⟨⟨by decide +kernel, wk_mC3⟩, fun _ h => (by cases h)⟩, List.forall_mem_cons.mpr ⟨List.forall_mem_cons.mpr ⟨⟨by decide +kernel, wk_mC4⟩, fun _ h => (by cases h)⟩, List.forall_mem_cons.mpr ⟨List.forall_mem_cons.mpr ⟨⟨by decide +kernel, wk_mC5⟩, fun _ h => (by cases h)⟩, List.forall_mem_cons.mpr ⟨List.forall_mem_cons.mpr ⟨⟨by decide +kernel, wk_hC0⟩, List.forall_mem_cons.mpr ⟨⟨by decide +kernel, wk_hCL⟩, List.forall_mem_cons.mpr ⟨⟨by decide +kernel, wk_hCG⟩, List.forall_mem_cons.mpr ⟨⟨by decide +kernel, wk_hC1⟩, List.forall_mem_cons.mpr ⟨⟨by decide +kernel, wk_hS⟩, List.forall_mem_cons.mpr ⟨⟨by decide +kernel, wk_hK⟩, List.forall_mem_cons.mpr ⟨⟨by decide +kernel, wk_h0⟩, fun _ h => (by cases h)⟩⟩⟩⟩⟩⟩⟩, List.forall_mem_cons.mpr ⟨List.forall_mem_cons.mpr ⟨⟨by decide +kernel, wk_l0⟩, fun _ h => (by cases h)⟩, List.forall_mem_cons.mpr ⟨List.forall_mem_cons.mpr ⟨⟨by decide +kernel, wk_l1⟩, fun _ h => (by cases h)⟩, List.forall_mem_cons.mpr ⟨List.forall_mem_cons.mpr ⟨⟨by decide +kernel, wk_l2⟩, fun _ h => (by cases h)⟩, fun _ h => (by cases h)⟩⟩⟩⟩⟩⟩⟩⟩⟩⟩⟩⟩⟩⟩
noncomputable def RGT : BT Ru := [(308, [(300, ru_oracle), (301, ru_ring), (302, ru_start), (303, ru_stand4), (304, ru_stand5), (305, ru_stand7), (306, ru_cnF), (307, ru_cnU), (308, ru_cnK)]), (317, [(309, ru_cnX), (310, ru_cnY), (311, ru_cyN), (312, ru_cyX), (313, ru_cnW), (314, ru_cnV), (315, ru_cyW), (316, ru_mnF), (317, ru_mnU)]), (326, [(318, ru_mnK), (319, ru_mnX), (320, ru_mnY), (321, ru_myN), (322, ru_myX), (323, ru_mnW), (324, ru_mnV), (325, ru_myW), (326, ru_skX)]), (335, [(327, ru_skL), (328, ru_skG), (329, ru_seS), (330, ru_empty), (331, ru_count1), (332, ru_rnd), (333, ru_clX), (334, ru_clL), (335, ru_clB)]), (344, [(336, ru_seC), (337, ru_rndN), (338, ru_rndE), (339, ru_rndR), (340, ru_many), (341, ru_fin), (342, ru_mstart), (343, ru_mclr), (344, ru_mclrR)]), (353, [(345, ru_mskX), (346, ru_mskL), (347, ru_mskG), (348, ru_mspr), (349, ru_mclX), (350, ru_mclL), (351, ru_mclB), (352, ru_mclS), (353, ru_mend)]), (362, [(354, ru_mendR), (355, ru_ask), (356, ru_free), (357, ru_bits), (358, ru_drop), (359, ru_say1), (360, ru_op0), (361, ru_op1), (362, ru_op2)]), (371, [(363, ru_op3), (364, ru_op4), (365, ru_op5), (366, ru_sayN), (367, ru_kn0), (368, ru_kn1), (369, ru_kn2), (370, ru_kn3), (371, ru_kn4)]), (380, [(372, ru_kn5), (373, ru_hush), (374, ru_rowsEq), (375, ru_freeQ), (376, ru_freeP), (377, ru_freeL), (378, ru_freeG), (379, ru_low), (380, ru_gstart)]), (387, [(381, ru_take9), (382, ru_bit1), (383, ru_ask1), (384, ru_lawAt), (385, ru_lawIs0), (386, ru_lawIs1), (387, ru_lawIs2)])]
theorem RGT_ok : BT.AllP (fun _ R => tgsOk 840 999 RWg R = true ∧ RuOk SG R) RGT := ⟨⟨⟨by decide +kernel, rk_oracle⟩, ⟨by decide +kernel, rk_ring⟩, ⟨by decide +kernel, rk_start⟩, ⟨by decide +kernel, rk_stand4⟩, ⟨by decide +kernel, rk_stand5⟩, ⟨by decide +kernel, rk_stand7⟩, ⟨by decide +kernel, rk_cnF⟩, ⟨by decide +kernel, rk_cnU⟩, ⟨by decide +kernel, rk_cnK⟩, trivial⟩, ⟨⟨by decide +kernel, rk_cnX⟩, ⟨by decide +kernel, rk_cnY⟩, ⟨by decide +kernel, rk_cyN⟩, ⟨by decide +kernel, rk_cyX⟩, ⟨by decide +kernel, rk_cnW⟩, ⟨by decide +kernel, rk_cnV⟩, ⟨by decide +kernel, rk_cyW⟩, ⟨by decide +kernel, rk_mnF⟩, ⟨by decide +kernel, rk_mnU⟩, trivial⟩, ⟨⟨by decide +kernel, rk_mnK⟩, ⟨by decide +kernel, rk_mnX⟩, ⟨by decide +kernel, rk_mnY⟩, ⟨by decide +kernel, rk_myN⟩, ⟨by decide +kernel, rk_myX⟩, ⟨by decide +kernel, rk_mnW⟩, ⟨by decide +kernel, rk_mnV⟩, ⟨by decide +kernel, rk_myW⟩, ⟨by decide +kernel, rk_skX⟩, trivial⟩, ⟨⟨by decide +kernel, rk_skL⟩, ⟨by decide +kernel, rk_skG⟩, ⟨by decide +kernel, rk_seS⟩, ⟨by decide +kernel, rk_empty⟩, ⟨by decide +kernel, rk_count1⟩, ⟨by decide +kernel, rk_rnd⟩, ⟨by decide +kernel, rk_clX⟩, ⟨by decide +kernel, rk_clL⟩, ⟨by decide +kernel, rk_clB⟩, trivial⟩, ⟨⟨by decide +kernel, rk_seC⟩, ⟨by decide +kernel, rk_rndN⟩, ⟨by decide +kernel, rk_rndE⟩, ⟨by decide +kernel, rk_rndR⟩, ⟨by decide +kernel, rk_many⟩, ⟨by decide +kernel, rk_fin⟩, ⟨by decide +kernel, rk_mstart⟩, ⟨by decide +kernel, rk_mclr⟩, ⟨by decide +kernel, rk_mclrR⟩, trivial⟩, ⟨⟨by decide +kernel, rk_mskX⟩, ⟨by decide +kernel, rk_mskL⟩, ⟨by decide +kernel, rk_mskG⟩, ⟨by decide +kernel, rk_mspr⟩, ⟨by decide +kernel, rk_mclX⟩, ⟨by decide +kernel, rk_mclL⟩, ⟨by decide +kernel, rk_mclB⟩, ⟨by decide +kernel, rk_mclS⟩, ⟨by decide +kernel, rk_mend⟩, trivial⟩, ⟨⟨by decide +kernel, rk_mendR⟩, ⟨by decide +kernel, rk_ask⟩, ⟨by decide +kernel, rk_free⟩, ⟨by decide +kernel, rk_bits⟩, ⟨by decide +kernel, rk_drop⟩, ⟨by decide +kernel, rk_say1⟩, ⟨by decide +kernel, rk_op0⟩, ⟨by decide +kernel, rk_op1⟩, ⟨by decide +kernel, rk_op2⟩, trivial⟩, ⟨⟨by decide +kernel, rk_op3⟩, ⟨by decide +kernel, rk_op4⟩, ⟨by decide +kernel, rk_op5⟩, ⟨by decide +kernel, rk_sayN⟩, ⟨by decide +kernel, rk_kn0⟩, ⟨by decide +kernel, rk_kn1⟩, ⟨by decide +kernel, rk_kn2⟩, ⟨by decide +kernel, rk_kn3⟩, ⟨by decide +kernel, rk_kn4⟩, trivial⟩, ⟨⟨by decide +kernel, rk_kn5⟩, ⟨by decide +kernel, rk_hush⟩, ⟨by decide +kernel, rk_rowsEq⟩, ⟨by decide +kernel, rk_freeQ⟩, ⟨by decide +kernel, rk_freeP⟩, ⟨by decide +kernel, rk_freeL⟩, ⟨by decide +kernel, rk_freeG⟩, ⟨by decide +kernel, rk_low⟩, ⟨by decide +kernel, rk_gstart⟩, trivial⟩, ⟨⟨by decide +kernel, rk_take9⟩, ⟨by decide +kernel, rk_bit1⟩, ⟨by decide +kernel, rk_ask1⟩, ⟨by decide +kernel, rk_lawAt⟩, ⟨by decide +kernel, rk_lawIs0⟩, ⟨by decide +kernel, rk_lawIs1⟩, ⟨by decide +kernel, rk_lawIs2⟩, trivial⟩, trivial⟩
noncomputable def CS : List Cp := [cz 310 120 16, cz 311 201 4, cl 320 196, cf 110 148 211 210 206, cg9 110 112 183 144, ctr 125 110 20 26, cr QQ, cu 24 25 26, ceq PE9, ceqL PL9, ck 11 0 (-4), cn 110 26 20, cb 125 128, co 125, ck 12 0 (-4), cv9 126 110 26, cR 840 999 RWg SG WG, cJH]
noncomputable def evk (s : Sy) (a : AV) : Bool := match a with
  | .inl (id, _) => Nat.blt id s.nx
  | .inr (.inl _) => true
  | _ => false
theorem evk_ok {J : Jt} {s : Sy} {ρ : List Int} {σ : zS} {a : AV} (ho : Ok J s ρ σ) (h : evk s a = true) : ∃ z, ev ρ a = some z := by
  rcases a with ⟨id, o⟩ | n | ⟨_, _⟩ | _ | _ | ⟨_, _⟩
  · have h1 : id < ρ.length := by rw [ho.len]; exact Nat.le_of_ble_eq_true h
    refine ⟨ρ[id] + o, ?_⟩
    simp only [ev, List.getElem?_eq_getElem h1]
  · exact ⟨n, rfl⟩
  · cases h
  · cases h
  · cases h
  · cases h
noncomputable def hxg_0 (h : Nat × (Nat × Nat)) (f : Fm) (s : Sy) : Option Sy :=
  bif Nat.beq h.1 1 then TJ.tg f h.2.1 s
  else bif Nat.beq h.1 10 then (bif Nat.beq h.2.1 310 then some (hz10 310 16 s) else bif Nat.beq h.2.1 311 then some (hz10 311 4 s) else some s)
  else bif Nat.beq h.1 11 then (bif Nat.beq h.2.1 310 then some (h11 310 s) else bif Nat.beq h.2.1 311 then some (h11 311 s) else bif Nat.beq h.2.1 320 then some (h11 320 s) else bif Nat.ble 300 h.2.1 && Nat.ble h.2.1 304 then some (h11 h.2.1 s) else some s)
  else bif Nat.beq h.1 13 then some (hl13 320 s)
  else bif Nat.beq h.1 14 then some (hl14 320 s)
  else bif Nat.beq h.1 15 then (match lk s.hl 320 with
    | some a => some (hl15 196 a s.me s)
    | none => some s)
  else bif Nat.beq h.1 16 then (bif Nat.beq h.2.1 310 then (match lk s.hl 310 with
    | some a => hz16 120 16 a s.me s
    | none => some s) else match lk s.hl 311 with
    | some a => hz16 201 4 a s.me s
    | none => some s)
  else some s
noncomputable def hxg_1 (h : Nat × (Nat × Nat)) (f : Fm) (s : Sy) : Option Sy :=
  bif Nat.beq h.1 17 then some (hl17 320 196 s)
  else bif Nat.beq h.1 18 then some (hf18 110 148 211 210 206 s.me s)
  else bif Nat.beq h.1 20 then some (hg20 s)
  else bif Nat.beq h.1 21 then some (hg21 110 112 144 s)
  else bif Nat.beq h.1 22 then (match f.st with
    | a :: _ => bif evk s a then some (ht22 110 26 a s) else some s
    | [] => some s)
  else bif Nat.beq h.1 23 then (match f.st with
    | a :: _ => bif evk s a then some (ht23 125 110 26 a s) else some s
    | [] => some s)
  else bif Nat.beq h.1 25 then (match f.st, lget f.lv h.2.1 with
    | a :: _, some b => bif evk s a && evk s b then some (ht25 a b s) else some s
    | _, _ => some s)
  else some s
noncomputable def hxg_2 (h : Nat × (Nat × Nat)) (f : Fm) (s : Sy) : Option Sy :=
  bif Nat.beq h.1 26 then (match f.st with
    | a :: _ => bif evk s a then some (ht26 125 a s) else some s
    | [] => some s)
  else bif Nat.beq h.1 30 then some (h30 s.fa s)
  else bif Nat.beq h.1 31 then hr31 QQ s
  else bif Nat.beq h.1 32 then some (hr32 QQ s)
  else bif Nat.beq h.1 33 then some (hr33 QQ s)
  else bif Nat.beq h.1 34 then some (hr34 s)
  else bif Nat.beq h.1 35 then some (hr35 s)
  else some s
noncomputable def hxg_3 (h : Nat × (Nat × Nat)) (f : Fm) (s : Sy) : Option Sy :=
  bif Nat.beq h.1 36 then (match lget f.lv h.2.1 with
    | some r => bif evk s r then some (hr36 QQ r s) else some s
    | none => some s)
  else bif Nat.beq h.1 37 then some (hr37 QQ h.2.1 s)
  else bif Nat.beq h.1 38 then some (hr38 QQ s)
  else bif Nat.beq h.1 39 then some (hr39 s)
  else bif Nat.beq h.1 40 then (match lget f.lv h.2.1, lget f.lv h.2.2 with
    | some p, some r => bif evk s p && evk s r then some (hr40 QQ p r s) else some s
    | _, _ => some s)
  else bif Nat.beq h.1 41 then some (hr41 QQ s)
  else bif Nat.beq h.1 42 then some (hr42 QQ s)
  else some s
noncomputable def hxg_4 (h : Nat × (Nat × Nat)) (f : Fm) (s : Sy) : Option Sy :=
  bif Nat.beq h.1 43 then some (hr43 s)
  else bif Nat.beq h.1 44 then some (hr44 QQ true h.2.1 h.2.2 s)
  else bif Nat.beq h.1 45 then some (h45a s.fa s.fa s)
  else bif Nat.beq h.1 46 then some (hr44 QQ false h.2.1 h.2.2 s)
  else bif Nat.beq h.1 50 then some (hu50 s)
  else bif Nat.beq h.1 51 then some (hu51 25 s)
  else bif Nat.beq h.1 52 then (match f.st with
    | a :: _ => bif evk s a then some (hu52 24 25 26 a s) else some s
    | [] => some s)
  else some s
noncomputable def hxg_5 (h : Nat × (Nat × Nat)) (f : Fm) (s : Sy) : Option Sy :=
  bif Nat.beq h.1 54 then some (hu54 17 14 24 25 26 s)
  else bif Nat.beq h.1 55 then some (hu55 17 14 25 s)
  else bif Nat.beq h.1 56 then some (hu56 s)
  else bif Nat.beq h.1 57 then some (hu57 s)
  else bif Nat.beq h.1 58 then some (hu58 17 14 15 0 25 s)
  else bif Nat.beq h.1 59 then hu59 17 15 s
  else bif Nat.beq h.1 60 then some (hsAllL PL9 (hsAll PE9 s))
  else some s
noncomputable def hxg_6 (h : Nat × (Nat × Nat)) (f : Fm) (s : Sy) : Option Sy :=
  bif Nat.beq h.1 61 then (match f.st[h.2.2]? with
    | some a => bif evk s a then some (h61 h.2.1 a s) else some s
    | none => some s)
  else bif Nat.beq h.1 62 then (match f.st[h.2.2]? with
    | some a => bif evk s a then some (hopL h.2.1 a PE9 s) else some s
    | none => some s)
  else bif Nat.beq h.1 63 then (bif Nat.beq h.2.1 0 then h63 11 0 (-4) s else h63 12 0 (-4) s)
  else bif Nat.beq h.1 64 then h64 110 26 20 s
  else bif Nat.beq h.1 70 then (match lget f.lv h.2.1 with
    | some a => bif evk s a then some (h70 a h.2.2 s) else some s
    | none => some s)
  else bif Nat.beq h.1 71 then (match lget f.lv h.2.1 with
    | some a => bif evk s a && leAV s (.c 0) a then some (h71 125 128 a s) else some s
    | none => some s)
  else bif Nat.beq h.1 72 then (match lget f.lv h.2.1 with
    | some a => bif evk s a && leAV s (.c 0) a then some (h72 125 128 a s) else some s
    | none => some s)
  else some s
noncomputable def hxg_7 (h : Nat × (Nat × Nat)) (f : Fm) (s : Sy) : Option Sy :=
  bif Nat.beq h.1 73 then (match lget f.lv h.2.1 with
    | some a => bif evk s a && leAV s (.c 0) a then h73 125 128 a s else some s
    | none => some s)
  else bif Nat.beq h.1 74 then h74 s
  else bif Nat.beq h.1 75 then some (h75 s)
  else bif Nat.beq h.1 76 then some (h76 s)
  else bif Nat.beq h.1 80 then (match f.st with
    | a :: _ => bif evk s a then some (h80 110 26 a s) else some s
    | [] => some s)
  else bif Nat.beq h.1 81 then h81 110 26 s
  else bif Nat.beq h.1 82 then h82 125 110 26 s
  else some s
noncomputable def hxg_8 (h : Nat × (Nat × Nat)) (f : Fm) (s : Sy) : Option Sy :=
  bif Nat.beq h.1 83 then (match f.st with
    | a :: _ => bif evk s a then some (h83 a s) else some s
    | [] => some s)
  else bif Nat.beq h.1 84 then (match f.st with
    | a :: _ => bif evk s a then some (h84 125 a s) else some s
    | [] => some s)
  else bif Nat.beq h.1 85 then some (h85 s)
  else bif Nat.beq h.1 86 then some (h86 s)
  else bif Nat.beq h.1 87 then (match f.st with
    | a :: _ => bif evk s a then some (h87 125 a s) else some s
    | [] => some s)
  else bif Nat.beq h.1 88 then (match f.st with
    | a :: _ => bif evk s a then some (h88 125 a s) else some s
    | [] => some s)
  else bif Nat.beq h.1 89 then h89 s
  else some s
noncomputable def hxg_9 (h : Nat × (Nat × Nat)) (f : Fm) (s : Sy) : Option Sy :=
  bif Nat.beq h.1 90 then h90 s
  else bif Nat.beq h.1 92 then some (h92 s)
  else bif Nat.beq h.1 150 then h150 126 110 26 s
  else bif Nat.ble 300 h.1 then (match RGT.get h.1 with
    | some R => ruA RWg R (f.lv, (f.st, (.c 0, .c 0))) s
    | none => some s)
  else some s
noncomputable def hxT (h : Nat × (Nat × Nat)) (f : Fm) (s : Sy) : Option Sy :=
  bif Nat.ble h.1 16 then hxg_0 h f s
  else bif Nat.ble h.1 25 then hxg_1 h f s
  else bif Nat.ble h.1 35 then hxg_2 h f s
  else bif Nat.ble h.1 42 then hxg_3 h f s
  else bif Nat.ble h.1 52 then hxg_4 h f s
  else bif Nat.ble h.1 60 then hxg_5 h f s
  else bif Nat.ble h.1 72 then hxg_6 h f s
  else bif Nat.ble h.1 82 then hxg_7 h f s
  else bif Nat.ble h.1 89 then hxg_8 h f s
  else hxg_9 h f s
noncomputable def trT (t k : Nat) : Bool := (Nat.beq t 310 && Nat.beq k 120) || ((Nat.beq t 311 && Nat.beq k 201) || ((Nat.beq t 320 && Nat.beq k 196) || (((Nat.ble 300 t && Nat.ble t 304) && Nat.beq k 125) || ((((Nat.ble 312 t && Nat.ble t 314) || (Nat.ble 321 t && Nat.ble t 328)) && (Nat.beq k 141 || (Nat.beq k 139 || (Nat.beq k 140 || Nat.beq k 148)))) || ((Nat.beq t 306 || Nat.beq t 307) && (Nat.beq k 24 || (Nat.beq k 25 || Nat.beq k 26)))))))
noncomputable def GG : Gl := mkG [] []
noncomputable def GX : Gx := mkX (TJ.P GG (cW CS)) hxT CTT trT
noncomputable abbrev JJ : Jt := Jf TJ GG (cS CS)
theorem row_in {k kd n : Nat} (h : GG.ka.get k = some (kd, n)) : ∀ j, InB GG k j → j < n := by
  intro j hj
  rcases hj with ⟨q, _⟩ | ⟨kd', z, q, hj⟩
  · rw [h] at q; cases q
  · rw [h] at q; cases Option.some.inj q; exact hj
theorem hR30 {σ : zS} (hb : Bd TJ GG σ) : ∀ q : Nat, q < 8 → Pp σ 131 q ≤ 30 := by
  intro q hq
  have hk : GG.ka.get 131 = some (100, 8) := by decide +kernel
  have hc : TJ.co.get 131 = none := by decide +kernel
  have := hb 131 q (Or.inr ⟨100, 8, hk, hq⟩)
  have e : TJ.bd GG 131 q = [(0, 30)] := by
    unfold Jx.bd
    rw [hk, hc]
    show (TJ.ai.get 131).getD T32 = _
    decide +kernel
  rw [e] at this
  exact (inD_one this).2
theorem bS12 {σ : zS} (hb : Bd TJ GG σ) : ∀ q : Nat, q < 1201 → inD (σ.1 25 q).toInt [(0, 1200)] := by
  intro q hq
  have hk : GG.ka.get 25 = some (100, 1201) := by decide +kernel
  have hc : TJ.co.get 25 = none := by decide +kernel
  have := hb 25 q (Or.inr ⟨100, 1201, hk, hq⟩)
  have e : TJ.bd GG 25 q = [(0, 1200)] := by
    unfold Jx.bd
    rw [hk, hc]
    show (TJ.ai.get 25).getD T32 = _
    decide +kernel
  rw [e] at this
  exact this
theorem CS_ok : ∀ c ∈ CS, CpOk TJ GG c := by
  intro c hc
  rcases List.mem_cons.mp hc with rfl | hc
  · exact cz_ok (by decide) (row_in (kd := 102) (by decide +kernel))
  rcases List.mem_cons.mp hc with rfl | hc
  · exact cz_ok (by decide) (row_in (kd := 102) (by decide +kernel))
  rcases List.mem_cons.mp hc with rfl | hc
  · exact cl_ok (by decide)
  rcases List.mem_cons.mp hc with rfl | hc
  · exact cf_ok (by decide) (by decide) (by decide) (by decide) (by decide) (by decide)
  rcases List.mem_cons.mp hc with rfl | hc
  · exact cg9_ok (by decide) (row_in (kd := 100) (by decide +kernel))
  rcases List.mem_cons.mp hc with rfl | hc
  · exact ctr_ok (by decide) (by decide) (row_in (kd := 100) (by decide +kernel))
  rcases List.mem_cons.mp hc with rfl | hc
  · exact cr_ok (by decide) (fun σ hb => hR30 hb)
  rcases List.mem_cons.mp hc with rfl | hc
  · exact cu_ok
  rcases List.mem_cons.mp hc with rfl | hc
  · exact ceq_ok (by decide) PE9_apt (by decide)
  rcases List.mem_cons.mp hc with rfl | hc
  · exact ceqL_ok (by decide) PL9_apt (by decide)
  rcases List.mem_cons.mp hc with rfl | hc
  · exact ck_ok
  rcases List.mem_cons.mp hc with rfl | hc
  · exact cn_ok (by decide)
  rcases List.mem_cons.mp hc with rfl | hc
  · exact cb_ok
  rcases List.mem_cons.mp hc with rfl | hc
  · exact co_ok
  rcases List.mem_cons.mp hc with rfl | hc
  · exact ck_ok
  rcases List.mem_cons.mp hc with rfl | hc
  · exact cv9_ok (by decide)
  rcases List.mem_cons.mp hc with rfl | hc
  · exact cR_ok (by decide) WG_ok
  rcases List.mem_cons.mp hc with rfl | hc
  · exact cJH_ok
  · cases hc
theorem tgC {t : Nat} (h : (ctr 125 110 20 26 : Cp).tg t = true) : t = 300 ∨ t = 301 ∨ t = 302 ∨ t = 303 ∨ t = 304 ∨ t = 340 := by
  have h : ((Nat.ble 300 t && Nat.ble t 304) || Nat.beq t 340) = true := h
  simp only [Bool.or_eq_true, Bool.and_eq_true] at h
  rcases h with ⟨h1, h2⟩ | h
  · have h1 := Nat.le_of_ble_eq_true h1
    have h2 := Nat.le_of_ble_eq_true h2
    omega
  · have := Nat.eq_of_beq_eq_true h
    omega
theorem tgQ {t : Nat} (h : qtg t = true) : t = 312 ∨ t = 313 ∨ t = 314 ∨ t = 321 ∨ t = 322 ∨ t = 323 ∨ t = 324 ∨ t = 325 ∨ t = 326 ∨ t = 327 ∨ t = 328 ∨ t = 341 := by
  have h : ((Nat.ble 312 t && Nat.ble t 314) || ((Nat.ble 321 t && Nat.ble t 328) || Nat.beq t 341)) = true := h
  simp only [Bool.or_eq_true, Bool.and_eq_true] at h
  rcases h with ⟨h1, h2⟩ | ⟨h1, h2⟩ | h
  · have h1 := Nat.le_of_ble_eq_true h1
    have h2 := Nat.le_of_ble_eq_true h2
    omega
  · have h1 := Nat.le_of_ble_eq_true h1
    have h2 := Nat.le_of_ble_eq_true h2
    omega
  · have := Nat.eq_of_beq_eq_true h
    omega
theorem tgU {t : Nat} (h : utg t = true) : t = 306 ∨ t = 307 := by
  have h : (Nat.beq t 306 || Nat.beq t 307) = true := h
  rw [Bool.or_eq_true] at h
  rcases h with h | h
  · exact Or.inl (Nat.eq_of_beq_eq_true h)
  · exact Or.inr (Nat.eq_of_beq_eq_true h)
theorem etg_rg {t : Nat} (h : (ceq PE9 : Cp).tg t = true) : 400 ≤ t ∧ t < 500 := by
  have h : (Nat.ble 400 t && Nat.blt t 500) = true := h
  rw [Bool.and_eq_true] at h
  have h1 := Nat.le_of_ble_eq_true h.1
  have h2 := Nat.le_of_ble_eq_true h.2
  omega
theorem etg_f {t : Nat} (h : t < 400 ∨ 500 ≤ t) : (ceq PE9 : Cp).tg t = false := by
  cases e : (ceq PE9 : Cp).tg t with
  | false => rfl
  | true =>
    have := etg_rg e
    omega
theorem ltg_rg {t : Nat} (h : (ceqL PL9 : Cp).tg t = true) : 600 ≤ t ∧ t < 800 := by
  have h : (Nat.ble 600 t && Nat.blt t 800) = true := h
  rw [Bool.and_eq_true] at h
  have h1 := Nat.le_of_ble_eq_true h.1
  have h2 := Nat.le_of_ble_eq_true h.2
  omega
theorem ltg_f {t : Nat} (h : t < 600 ∨ 800 ≤ t) : (ceqL PL9 : Cp).tg t = false := by
  cases e : (ceqL PL9 : Cp).tg t with
  | false => rfl
  | true =>
    have := ltg_rg e
    omega
theorem btg_rg {t : Nat} (h : (cb 125 128 : Cp).tg t = true) : 510 ≤ t ∧ t < 513 := by
  have h : (Nat.ble 510 t && Nat.ble t 512) = true := h
  rw [Bool.and_eq_true] at h
  have h1 := Nat.le_of_ble_eq_true h.1
  have h2 := Nat.le_of_ble_eq_true h.2
  omega
theorem btg_f {t : Nat} (h : t < 510 ∨ 513 ≤ t) : (cb 125 128 : Cp).tg t = false := by
  cases e : (cb 125 128 : Cp).tg t with
  | false => rfl
  | true =>
    have := btg_rg e
    omega
theorem otg_rg {t : Nat} (h : (co 125 : Cp).tg t = true) : 520 ≤ t ∧ t < 526 := by
  have h : (Nat.ble 520 t && Nat.ble t 525) = true := h
  rw [Bool.and_eq_true] at h
  have h1 := Nat.le_of_ble_eq_true h.1
  have h2 := Nat.le_of_ble_eq_true h.2
  omega
theorem otg_f {t : Nat} (h : t < 520 ∨ 526 ≤ t) : (co 125 : Cp).tg t = false := by
  cases e : (co 125 : Cp).tg t with
  | false => rfl
  | true =>
    have := otg_rg e
    omega
theorem vtg_rg {t : Nat} (h : (cv9 126 110 26 : Cp).tg t = true) : 595 ≤ t ∧ t < 596 := by
  have h : (Nat.ble 595 t && Nat.ble t 595) = true := h
  rw [Bool.and_eq_true] at h
  have h1 := Nat.le_of_ble_eq_true h.1
  have h2 := Nat.le_of_ble_eq_true h.2
  omega
theorem vtg_f {t : Nat} (h : t < 595 ∨ 596 ≤ t) : (cv9 126 110 26 : Cp).tg t = false := by
  cases e : (cv9 126 110 26 : Cp).tg t with
  | false => rfl
  | true =>
    have := vtg_rg e
    omega
theorem rtg_rg {t : Nat} (h : (cR 840 999 RWg SG WG : Cp).tg t = true) : 840 ≤ t ∧ t < 1000 := by
  have h : (Nat.ble 840 t && Nat.ble t 999) = true := h
  rw [Bool.and_eq_true] at h
  have h1 := Nat.le_of_ble_eq_true h.1
  have h2 := Nat.le_of_ble_eq_true h.2
  omega
theorem rtg_f {t : Nat} (h : t < 840 ∨ 1000 ≤ t) : (cR 840 999 RWg SG WG : Cp).tg t = false := by
  cases e : (cR 840 999 RWg SG WG : Cp).tg t with
  | false => rfl
  | true =>
    have := rtg_rg e
    omega
theorem apt_0 : ∀ c' ∈ ([cz 311 201 4, cl 320 196, cf 110 148 211 210 206, cg9 110 112 183 144, ctr 125 110 20 26, cr QQ, cu 24 25 26, ceq PE9, ceqL PL9, ck 11 0 (-4), cn 110 26 20, cb 125 128, co 125, ck 12 0 (-4), cv9 126 110 26, cR 840 999 RWg SG WG, cJH] : List Cp), ∀ t, (cz 310 120 16 : Cp).tg t = true → c'.tg t = false := by
  intro c' hc t ht
  have e : t = 310 := Nat.eq_of_beq_eq_true ht
  subst e
  rcases List.mem_cons.mp hc with rfl | hc
  · rfl
  rcases List.mem_cons.mp hc with rfl | hc
  · rfl
  rcases List.mem_cons.mp hc with rfl | hc
  · rfl
  rcases List.mem_cons.mp hc with rfl | hc
  · rfl
  rcases List.mem_cons.mp hc with rfl | hc
  · rfl
  rcases List.mem_cons.mp hc with rfl | hc
  · rfl
  rcases List.mem_cons.mp hc with rfl | hc
  · rfl
  rcases List.mem_cons.mp hc with rfl | hc
  · exact etg_f (by omega)
  rcases List.mem_cons.mp hc with rfl | hc
  · exact ltg_f (by omega)
  rcases List.mem_cons.mp hc with rfl | hc
  · rfl
  rcases List.mem_cons.mp hc with rfl | hc
  · rfl
  rcases List.mem_cons.mp hc with rfl | hc
  · exact btg_f (by omega)
  rcases List.mem_cons.mp hc with rfl | hc
  · exact otg_f (by omega)
  rcases List.mem_cons.mp hc with rfl | hc
  · rfl
  rcases List.mem_cons.mp hc with rfl | hc
  · exact vtg_f (by omega)
  rcases List.mem_cons.mp hc with rfl | hc
  · exact rtg_f (by omega)
  rcases List.mem_cons.mp hc with rfl | hc
  · rfl
  · cases hc
theorem apt_1 : ∀ c' ∈ ([cl 320 196, cf 110 148 211 210 206, cg9 110 112 183 144, ctr 125 110 20 26, cr QQ, cu 24 25 26, ceq PE9, ceqL PL9, ck 11 0 (-4), cn 110 26 20, cb 125 128, co 125, ck 12 0 (-4), cv9 126 110 26, cR 840 999 RWg SG WG, cJH] : List Cp), ∀ t, (cz 311 201 4 : Cp).tg t = true → c'.tg t = false := by
  intro c' hc t ht
  have e : t = 311 := Nat.eq_of_beq_eq_true ht
  subst e
  rcases List.mem_cons.mp hc with rfl | hc
  · rfl
  rcases List.mem_cons.mp hc with rfl | hc
  · rfl
  rcases List.mem_cons.mp hc with rfl | hc
  · rfl
  rcases List.mem_cons.mp hc with rfl | hc
  · rfl
  rcases List.mem_cons.mp hc with rfl | hc
  · rfl
  rcases List.mem_cons.mp hc with rfl | hc
  · rfl
  rcases List.mem_cons.mp hc with rfl | hc
  · exact etg_f (by omega)
  rcases List.mem_cons.mp hc with rfl | hc
  · exact ltg_f (by omega)
  rcases List.mem_cons.mp hc with rfl | hc
  · rfl
  rcases List.mem_cons.mp hc with rfl | hc
  · rfl
  rcases List.mem_cons.mp hc with rfl | hc
  · exact btg_f (by omega)
  rcases List.mem_cons.mp hc with rfl | hc
  · exact otg_f (by omega)
  rcases List.mem_cons.mp hc with rfl | hc
  · rfl
  rcases List.mem_cons.mp hc with rfl | hc
  · exact vtg_f (by omega)
  rcases List.mem_cons.mp hc with rfl | hc
  · exact rtg_f (by omega)
  rcases List.mem_cons.mp hc with rfl | hc
  · rfl
  · cases hc
theorem apt_2 : ∀ c' ∈ ([cf 110 148 211 210 206, cg9 110 112 183 144, ctr 125 110 20 26, cr QQ, cu 24 25 26, ceq PE9, ceqL PL9, ck 11 0 (-4), cn 110 26 20, cb 125 128, co 125, ck 12 0 (-4), cv9 126 110 26, cR 840 999 RWg SG WG, cJH] : List Cp), ∀ t, (cl 320 196 : Cp).tg t = true → c'.tg t = false := by
  intro c' hc t ht
  have e : t = 320 := Nat.eq_of_beq_eq_true ht
  subst e
  rcases List.mem_cons.mp hc with rfl | hc
  · rfl
  rcases List.mem_cons.mp hc with rfl | hc
  · rfl
  rcases List.mem_cons.mp hc with rfl | hc
  · rfl
  rcases List.mem_cons.mp hc with rfl | hc
  · rfl
  rcases List.mem_cons.mp hc with rfl | hc
  · rfl
  rcases List.mem_cons.mp hc with rfl | hc
  · exact etg_f (by omega)
  rcases List.mem_cons.mp hc with rfl | hc
  · exact ltg_f (by omega)
  rcases List.mem_cons.mp hc with rfl | hc
  · rfl
  rcases List.mem_cons.mp hc with rfl | hc
  · rfl
  rcases List.mem_cons.mp hc with rfl | hc
  · exact btg_f (by omega)
  rcases List.mem_cons.mp hc with rfl | hc
  · exact otg_f (by omega)
  rcases List.mem_cons.mp hc with rfl | hc
  · rfl
  rcases List.mem_cons.mp hc with rfl | hc
  · exact vtg_f (by omega)
  rcases List.mem_cons.mp hc with rfl | hc
  · exact rtg_f (by omega)
  rcases List.mem_cons.mp hc with rfl | hc
  · rfl
  · cases hc
theorem apt_4 : ∀ c' ∈ ([ctr 125 110 20 26, cr QQ, cu 24 25 26, ceq PE9, ceqL PL9, ck 11 0 (-4), cn 110 26 20, cb 125 128, co 125, ck 12 0 (-4), cv9 126 110 26, cR 840 999 RWg SG WG, cJH] : List Cp), ∀ t, (cg9 110 112 183 144 : Cp).tg t = true → c'.tg t = false := by
  intro c' hc t ht
  have ht : (Nat.beq t 330 || Nat.beq t 331) = true := ht
  rw [Bool.or_eq_true] at ht
  rcases List.mem_cons.mp hc with rfl | hc
  · rcases ht with ht | ht <;> rw [Nat.eq_of_beq_eq_true ht] <;> rfl
  rcases List.mem_cons.mp hc with rfl | hc
  · rcases ht with ht | ht <;> rw [Nat.eq_of_beq_eq_true ht] <;> rfl
  rcases List.mem_cons.mp hc with rfl | hc
  · rcases ht with ht | ht <;> rw [Nat.eq_of_beq_eq_true ht] <;> rfl
  rcases List.mem_cons.mp hc with rfl | hc
  · rcases ht with ht | ht <;> rw [Nat.eq_of_beq_eq_true ht] <;> exact etg_f (by omega)
  rcases List.mem_cons.mp hc with rfl | hc
  · rcases ht with ht | ht <;> rw [Nat.eq_of_beq_eq_true ht] <;> exact ltg_f (by omega)
  rcases List.mem_cons.mp hc with rfl | hc
  · rcases ht with ht | ht <;> rw [Nat.eq_of_beq_eq_true ht] <;> rfl
  rcases List.mem_cons.mp hc with rfl | hc
  · rcases ht with ht | ht <;> rw [Nat.eq_of_beq_eq_true ht] <;> rfl
  rcases List.mem_cons.mp hc with rfl | hc
  · rcases ht with ht | ht <;> rw [Nat.eq_of_beq_eq_true ht] <;> exact btg_f (by omega)
  rcases List.mem_cons.mp hc with rfl | hc
  · rcases ht with ht | ht <;> rw [Nat.eq_of_beq_eq_true ht] <;> exact otg_f (by omega)
  rcases List.mem_cons.mp hc with rfl | hc
  · rcases ht with ht | ht <;> rw [Nat.eq_of_beq_eq_true ht] <;> rfl
  rcases List.mem_cons.mp hc with rfl | hc
  · rcases ht with ht | ht <;> rw [Nat.eq_of_beq_eq_true ht] <;> exact vtg_f (by omega)
  rcases List.mem_cons.mp hc with rfl | hc
  · rcases ht with ht | ht <;> rw [Nat.eq_of_beq_eq_true ht] <;> exact rtg_f (by omega)
  rcases List.mem_cons.mp hc with rfl | hc
  · rcases ht with ht | ht <;> rw [Nat.eq_of_beq_eq_true ht] <;> rfl
  · cases hc
theorem apt_5 : ∀ c' ∈ ([cr QQ, cu 24 25 26, ceq PE9, ceqL PL9, ck 11 0 (-4), cn 110 26 20, cb 125 128, co 125, ck 12 0 (-4), cv9 126 110 26, cR 840 999 RWg SG WG, cJH] : List Cp), ∀ t, (ctr 125 110 20 26 : Cp).tg t = true → c'.tg t = false := by
  intro c' hc t ht
  have ht2 : t = 300 ∨ t = 301 ∨ t = 302 ∨ t = 303 ∨ t = 304 ∨ t = 340 := tgC ht
  rcases List.mem_cons.mp hc with rfl | hc
  · rcases ht2 with rfl | rfl | rfl | rfl | rfl | rfl <;> rfl
  rcases List.mem_cons.mp hc with rfl | hc
  · rcases ht2 with rfl | rfl | rfl | rfl | rfl | rfl <;> rfl
  rcases List.mem_cons.mp hc with rfl | hc
  · rcases ht2 with rfl | rfl | rfl | rfl | rfl | rfl <;> exact etg_f (by omega)
  rcases List.mem_cons.mp hc with rfl | hc
  · rcases ht2 with rfl | rfl | rfl | rfl | rfl | rfl <;> exact ltg_f (by omega)
  rcases List.mem_cons.mp hc with rfl | hc
  · rcases ht2 with rfl | rfl | rfl | rfl | rfl | rfl <;> rfl
  rcases List.mem_cons.mp hc with rfl | hc
  · rcases ht2 with rfl | rfl | rfl | rfl | rfl | rfl <;> rfl
  rcases List.mem_cons.mp hc with rfl | hc
  · rcases ht2 with rfl | rfl | rfl | rfl | rfl | rfl <;> exact btg_f (by omega)
  rcases List.mem_cons.mp hc with rfl | hc
  · rcases ht2 with rfl | rfl | rfl | rfl | rfl | rfl <;> exact otg_f (by omega)
  rcases List.mem_cons.mp hc with rfl | hc
  · rcases ht2 with rfl | rfl | rfl | rfl | rfl | rfl <;> rfl
  rcases List.mem_cons.mp hc with rfl | hc
  · rcases ht2 with rfl | rfl | rfl | rfl | rfl | rfl <;> exact vtg_f (by omega)
  rcases List.mem_cons.mp hc with rfl | hc
  · rcases ht2 with rfl | rfl | rfl | rfl | rfl | rfl <;> exact rtg_f (by omega)
  rcases List.mem_cons.mp hc with rfl | hc
  · rcases ht2 with rfl | rfl | rfl | rfl | rfl | rfl <;> rfl
  · cases hc
theorem apt_6 : ∀ c' ∈ ([cu 24 25 26, ceq PE9, ceqL PL9, ck 11 0 (-4), cn 110 26 20, cb 125 128, co 125, ck 12 0 (-4), cv9 126 110 26, cR 840 999 RWg SG WG, cJH] : List Cp), ∀ t, (cr QQ : Cp).tg t = true → c'.tg t = false := by
  intro c' hc t ht
  have ht2 : t = 312 ∨ t = 313 ∨ t = 314 ∨ t = 321 ∨ t = 322 ∨ t = 323 ∨ t = 324 ∨ t = 325 ∨ t = 326 ∨ t = 327 ∨ t = 328 ∨ t = 341 := tgQ ht
  rcases List.mem_cons.mp hc with rfl | hc
  · rcases ht2 with rfl | rfl | rfl | rfl | rfl | rfl | rfl | rfl | rfl | rfl | rfl | rfl <;> rfl
  rcases List.mem_cons.mp hc with rfl | hc
  · rcases ht2 with rfl | rfl | rfl | rfl | rfl | rfl | rfl | rfl | rfl | rfl | rfl | rfl <;> exact etg_f (by omega)
  rcases List.mem_cons.mp hc with rfl | hc
  · rcases ht2 with rfl | rfl | rfl | rfl | rfl | rfl | rfl | rfl | rfl | rfl | rfl | rfl <;> exact ltg_f (by omega)
  rcases List.mem_cons.mp hc with rfl | hc
  · rcases ht2 with rfl | rfl | rfl | rfl | rfl | rfl | rfl | rfl | rfl | rfl | rfl | rfl <;> rfl
  rcases List.mem_cons.mp hc with rfl | hc
  · rcases ht2 with rfl | rfl | rfl | rfl | rfl | rfl | rfl | rfl | rfl | rfl | rfl | rfl <;> rfl
  rcases List.mem_cons.mp hc with rfl | hc
  · rcases ht2 with rfl | rfl | rfl | rfl | rfl | rfl | rfl | rfl | rfl | rfl | rfl | rfl <;> exact btg_f (by omega)
  rcases List.mem_cons.mp hc with rfl | hc
  · rcases ht2 with rfl | rfl | rfl | rfl | rfl | rfl | rfl | rfl | rfl | rfl | rfl | rfl <;> exact otg_f (by omega)
  rcases List.mem_cons.mp hc with rfl | hc
  · rcases ht2 with rfl | rfl | rfl | rfl | rfl | rfl | rfl | rfl | rfl | rfl | rfl | rfl <;> rfl
  rcases List.mem_cons.mp hc with rfl | hc
  · rcases ht2 with rfl | rfl | rfl | rfl | rfl | rfl | rfl | rfl | rfl | rfl | rfl | rfl <;> exact vtg_f (by omega)
  rcases List.mem_cons.mp hc with rfl | hc
  · rcases ht2 with rfl | rfl | rfl | rfl | rfl | rfl | rfl | rfl | rfl | rfl | rfl | rfl <;> exact rtg_f (by omega)
  rcases List.mem_cons.mp hc with rfl | hc
  · rcases ht2 with rfl | rfl | rfl | rfl | rfl | rfl | rfl | rfl | rfl | rfl | rfl | rfl <;> rfl
  · cases hc
theorem apt_7 : ∀ c' ∈ ([ceq PE9, ceqL PL9, ck 11 0 (-4), cn 110 26 20, cb 125 128, co 125, ck 12 0 (-4), cv9 126 110 26, cR 840 999 RWg SG WG, cJH] : List Cp), ∀ t, (cu 24 25 26 : Cp).tg t = true → c'.tg t = false := by
  intro c' hc t ht
  have ht : (Nat.beq t 306 || Nat.beq t 307) = true := ht
  rw [Bool.or_eq_true] at ht
  rcases List.mem_cons.mp hc with rfl | hc
  · rcases ht with ht | ht <;> rw [Nat.eq_of_beq_eq_true ht] <;> exact etg_f (by omega)
  rcases List.mem_cons.mp hc with rfl | hc
  · rcases ht with ht | ht <;> rw [Nat.eq_of_beq_eq_true ht] <;> exact ltg_f (by omega)
  rcases List.mem_cons.mp hc with rfl | hc
  · rcases ht with ht | ht <;> rw [Nat.eq_of_beq_eq_true ht] <;> rfl
  rcases List.mem_cons.mp hc with rfl | hc
  · rcases ht with ht | ht <;> rw [Nat.eq_of_beq_eq_true ht] <;> rfl
  rcases List.mem_cons.mp hc with rfl | hc
  · rcases ht with ht | ht <;> rw [Nat.eq_of_beq_eq_true ht] <;> exact btg_f (by omega)
  rcases List.mem_cons.mp hc with rfl | hc
  · rcases ht with ht | ht <;> rw [Nat.eq_of_beq_eq_true ht] <;> exact otg_f (by omega)
  rcases List.mem_cons.mp hc with rfl | hc
  · rcases ht with ht | ht <;> rw [Nat.eq_of_beq_eq_true ht] <;> rfl
  rcases List.mem_cons.mp hc with rfl | hc
  · rcases ht with ht | ht <;> rw [Nat.eq_of_beq_eq_true ht] <;> exact vtg_f (by omega)
  rcases List.mem_cons.mp hc with rfl | hc
  · rcases ht with ht | ht <;> rw [Nat.eq_of_beq_eq_true ht] <;> exact rtg_f (by omega)
  rcases List.mem_cons.mp hc with rfl | hc
  · rcases ht with ht | ht <;> rw [Nat.eq_of_beq_eq_true ht] <;> rfl
  · cases hc
theorem apt_8 : ∀ c' ∈ ([ceqL PL9, ck 11 0 (-4), cn 110 26 20, cb 125 128, co 125, ck 12 0 (-4), cv9 126 110 26, cR 840 999 RWg SG WG, cJH] : List Cp), ∀ t, (ceq PE9 : Cp).tg t = true → c'.tg t = false := by
  intro c' hc t ht
  have r9 := etg_rg ht
  rcases List.mem_cons.mp hc with rfl | hc
  · exact ltg_f (by omega)
  rcases List.mem_cons.mp hc with rfl | hc
  · rfl
  rcases List.mem_cons.mp hc with rfl | hc
  · rfl
  rcases List.mem_cons.mp hc with rfl | hc
  · exact btg_f (by omega)
  rcases List.mem_cons.mp hc with rfl | hc
  · exact otg_f (by omega)
  rcases List.mem_cons.mp hc with rfl | hc
  · rfl
  rcases List.mem_cons.mp hc with rfl | hc
  · exact vtg_f (by omega)
  rcases List.mem_cons.mp hc with rfl | hc
  · exact rtg_f (by omega)
  rcases List.mem_cons.mp hc with rfl | hc
  · rfl
  · cases hc
theorem apt_9 : ∀ c' ∈ ([ck 11 0 (-4), cn 110 26 20, cb 125 128, co 125, ck 12 0 (-4), cv9 126 110 26, cR 840 999 RWg SG WG, cJH] : List Cp), ∀ t, (ceqL PL9 : Cp).tg t = true → c'.tg t = false := by
  intro c' hc t ht
  have r9 := ltg_rg ht
  rcases List.mem_cons.mp hc with rfl | hc
  · rfl
  rcases List.mem_cons.mp hc with rfl | hc
  · rfl
  rcases List.mem_cons.mp hc with rfl | hc
  · exact btg_f (by omega)
  rcases List.mem_cons.mp hc with rfl | hc
  · exact otg_f (by omega)
  rcases List.mem_cons.mp hc with rfl | hc
  · rfl
  rcases List.mem_cons.mp hc with rfl | hc
  · exact vtg_f (by omega)
  rcases List.mem_cons.mp hc with rfl | hc
  · exact rtg_f (by omega)
  rcases List.mem_cons.mp hc with rfl | hc
  · rfl
  · cases hc
theorem apt_12 : ∀ c' ∈ ([co 125, ck 12 0 (-4), cv9 126 110 26, cR 840 999 RWg SG WG, cJH] : List Cp), ∀ t, (cb 125 128 : Cp).tg t = true → c'.tg t = false := by
  intro c' hc t ht
  have r9 := btg_rg ht
  rcases List.mem_cons.mp hc with rfl | hc
  · exact otg_f (by omega)
  rcases List.mem_cons.mp hc with rfl | hc
  · rfl
  rcases List.mem_cons.mp hc with rfl | hc
  · exact vtg_f (by omega)
  rcases List.mem_cons.mp hc with rfl | hc
  · exact rtg_f (by omega)
  rcases List.mem_cons.mp hc with rfl | hc
  · rfl
  · cases hc
theorem apt_13 : ∀ c' ∈ ([ck 12 0 (-4), cv9 126 110 26, cR 840 999 RWg SG WG, cJH] : List Cp), ∀ t, (co 125 : Cp).tg t = true → c'.tg t = false := by
  intro c' hc t ht
  have r9 := otg_rg ht
  rcases List.mem_cons.mp hc with rfl | hc
  · rfl
  rcases List.mem_cons.mp hc with rfl | hc
  · exact vtg_f (by omega)
  rcases List.mem_cons.mp hc with rfl | hc
  · exact rtg_f (by omega)
  rcases List.mem_cons.mp hc with rfl | hc
  · rfl
  · cases hc
theorem apt_15 : ∀ c' ∈ ([cR 840 999 RWg SG WG, cJH] : List Cp), ∀ t, (cv9 126 110 26 : Cp).tg t = true → c'.tg t = false := by
  intro c' hc t ht
  have r9 := vtg_rg ht
  rcases List.mem_cons.mp hc with rfl | hc
  · exact rtg_f (by omega)
  rcases List.mem_cons.mp hc with rfl | hc
  · rfl
  · cases hc
theorem apt_16 : ∀ c' ∈ ([cJH] : List Cp), ∀ t, (cR 840 999 RWg SG WG : Cp).tg t = true → c'.tg t = false := by
  intro c' hc t ht
  have r9 := rtg_rg ht
  rcases List.mem_cons.mp hc with rfl | hc
  · rfl
  · cases hc
theorem CS_apt : Apt CS := ⟨apt_0, ⟨apt_1, ⟨apt_2, ⟨fun c _ t ht => (by cases ht), ⟨apt_4, ⟨apt_5, ⟨apt_6, ⟨apt_7, ⟨apt_8, ⟨apt_9, ⟨fun c _ t ht => (by cases ht), ⟨fun c _ t ht => (by cases ht), ⟨apt_12, ⟨apt_13, ⟨fun c _ t ht => (by cases ht), ⟨apt_15, ⟨apt_16, ⟨fun c _ t ht => (by cases ht), trivial⟩⟩⟩⟩⟩⟩⟩⟩⟩⟩⟩⟩⟩⟩⟩⟩⟩⟩
theorem u310 : ∀ c ∈ CS, c.tg 310 = true → c = cz 310 120 16 := by
  intro c hc h
  rcases List.mem_cons.mp hc with rfl | hc
  · rfl
  rcases List.mem_cons.mp hc with rfl | hc
  · cases h
  rcases List.mem_cons.mp hc with rfl | hc
  · cases h
  rcases List.mem_cons.mp hc with rfl | hc
  · cases h
  rcases List.mem_cons.mp hc with rfl | hc
  · cases h
  rcases List.mem_cons.mp hc with rfl | hc
  · cases h
  rcases List.mem_cons.mp hc with rfl | hc
  · exact absurd h (by decide)
  rcases List.mem_cons.mp hc with rfl | hc
  · exact absurd h (by decide)
  rcases List.mem_cons.mp hc with rfl | hc
  · rw [etg_f (by omega)] at h; cases h
  rcases List.mem_cons.mp hc with rfl | hc
  · rw [ltg_f (by omega)] at h; cases h
  rcases List.mem_cons.mp hc with rfl | hc
  · cases h
  rcases List.mem_cons.mp hc with rfl | hc
  · cases h
  rcases List.mem_cons.mp hc with rfl | hc
  · rw [btg_f (by omega)] at h; cases h
  rcases List.mem_cons.mp hc with rfl | hc
  · rw [otg_f (by omega)] at h; cases h
  rcases List.mem_cons.mp hc with rfl | hc
  · cases h
  rcases List.mem_cons.mp hc with rfl | hc
  · rw [vtg_f (by omega)] at h; cases h
  rcases List.mem_cons.mp hc with rfl | hc
  · rw [rtg_f (by omega)] at h; cases h
  rcases List.mem_cons.mp hc with rfl | hc
  · cases h
  · cases hc
theorem u311 : ∀ c ∈ CS, c.tg 311 = true → c = cz 311 201 4 := by
  intro c hc h
  rcases List.mem_cons.mp hc with rfl | hc
  · cases h
  rcases List.mem_cons.mp hc with rfl | hc
  · rfl
  rcases List.mem_cons.mp hc with rfl | hc
  · cases h
  rcases List.mem_cons.mp hc with rfl | hc
  · cases h
  rcases List.mem_cons.mp hc with rfl | hc
  · cases h
  rcases List.mem_cons.mp hc with rfl | hc
  · cases h
  rcases List.mem_cons.mp hc with rfl | hc
  · exact absurd h (by decide)
  rcases List.mem_cons.mp hc with rfl | hc
  · exact absurd h (by decide)
  rcases List.mem_cons.mp hc with rfl | hc
  · rw [etg_f (by omega)] at h; cases h
  rcases List.mem_cons.mp hc with rfl | hc
  · rw [ltg_f (by omega)] at h; cases h
  rcases List.mem_cons.mp hc with rfl | hc
  · cases h
  rcases List.mem_cons.mp hc with rfl | hc
  · cases h
  rcases List.mem_cons.mp hc with rfl | hc
  · rw [btg_f (by omega)] at h; cases h
  rcases List.mem_cons.mp hc with rfl | hc
  · rw [otg_f (by omega)] at h; cases h
  rcases List.mem_cons.mp hc with rfl | hc
  · cases h
  rcases List.mem_cons.mp hc with rfl | hc
  · rw [vtg_f (by omega)] at h; cases h
  rcases List.mem_cons.mp hc with rfl | hc
  · rw [rtg_f (by omega)] at h; cases h
  rcases List.mem_cons.mp hc with rfl | hc
  · cases h
  · cases hc
theorem u320 : ∀ c ∈ CS, c.tg 320 = true → c = cl 320 196 := by
  intro c hc h
  rcases List.mem_cons.mp hc with rfl | hc
  · cases h
  rcases List.mem_cons.mp hc with rfl | hc
  · cases h
  rcases List.mem_cons.mp hc with rfl | hc
  · rfl
  rcases List.mem_cons.mp hc with rfl | hc
  · cases h
  rcases List.mem_cons.mp hc with rfl | hc
  · cases h
  rcases List.mem_cons.mp hc with rfl | hc
  · cases h
  rcases List.mem_cons.mp hc with rfl | hc
  · exact absurd h (by decide)
  rcases List.mem_cons.mp hc with rfl | hc
  · exact absurd h (by decide)
  rcases List.mem_cons.mp hc with rfl | hc
  · rw [etg_f (by omega)] at h; cases h
  rcases List.mem_cons.mp hc with rfl | hc
  · rw [ltg_f (by omega)] at h; cases h
  rcases List.mem_cons.mp hc with rfl | hc
  · cases h
  rcases List.mem_cons.mp hc with rfl | hc
  · cases h
  rcases List.mem_cons.mp hc with rfl | hc
  · rw [btg_f (by omega)] at h; cases h
  rcases List.mem_cons.mp hc with rfl | hc
  · rw [otg_f (by omega)] at h; cases h
  rcases List.mem_cons.mp hc with rfl | hc
  · cases h
  rcases List.mem_cons.mp hc with rfl | hc
  · rw [vtg_f (by omega)] at h; cases h
  rcases List.mem_cons.mp hc with rfl | hc
  · rw [rtg_f (by omega)] at h; cases h
  rcases List.mem_cons.mp hc with rfl | hc
  · cases h
  · cases hc
theorem u331 : ∀ c ∈ CS, c.tg 331 = true → c = cg9 110 112 183 144 := by
  intro c hc h
  rcases List.mem_cons.mp hc with rfl | hc
  · cases h
  rcases List.mem_cons.mp hc with rfl | hc
  · cases h
  rcases List.mem_cons.mp hc with rfl | hc
  · cases h
  rcases List.mem_cons.mp hc with rfl | hc
  · cases h
  rcases List.mem_cons.mp hc with rfl | hc
  · rfl
  rcases List.mem_cons.mp hc with rfl | hc
  · cases h
  rcases List.mem_cons.mp hc with rfl | hc
  · exact absurd h (by decide)
  rcases List.mem_cons.mp hc with rfl | hc
  · exact absurd h (by decide)
  rcases List.mem_cons.mp hc with rfl | hc
  · rw [etg_f (by omega)] at h; cases h
  rcases List.mem_cons.mp hc with rfl | hc
  · rw [ltg_f (by omega)] at h; cases h
  rcases List.mem_cons.mp hc with rfl | hc
  · cases h
  rcases List.mem_cons.mp hc with rfl | hc
  · cases h
  rcases List.mem_cons.mp hc with rfl | hc
  · rw [btg_f (by omega)] at h; cases h
  rcases List.mem_cons.mp hc with rfl | hc
  · rw [otg_f (by omega)] at h; cases h
  rcases List.mem_cons.mp hc with rfl | hc
  · cases h
  rcases List.mem_cons.mp hc with rfl | hc
  · rw [vtg_f (by omega)] at h; cases h
  rcases List.mem_cons.mp hc with rfl | hc
  · rw [rtg_f (by omega)] at h; cases h
  rcases List.mem_cons.mp hc with rfl | hc
  · cases h
  · cases hc
theorem m310 : cz 310 120 16 ∈ CS := List.mem_cons_self ..
theorem m311 : cz 311 201 4 ∈ CS := List.mem_cons_of_mem _ (List.mem_cons_self ..)
theorem m320 : cl 320 196 ∈ CS := List.mem_cons_of_mem _ (List.mem_cons_of_mem _ (List.mem_cons_self ..))
theorem mcf : cf 110 148 211 210 206 ∈ CS := List.mem_cons_of_mem _ (List.mem_cons_of_mem _ (List.mem_cons_of_mem _ (List.mem_cons_self ..)))
theorem mcg : cg9 110 112 183 144 ∈ CS := List.mem_cons_of_mem _ (List.mem_cons_of_mem _ (List.mem_cons_of_mem _ (List.mem_cons_of_mem _ (List.mem_cons_self ..))))
theorem mct : ctr 125 110 20 26 ∈ CS := List.mem_cons_of_mem _ (List.mem_cons_of_mem _ (List.mem_cons_of_mem _ (List.mem_cons_of_mem _ (List.mem_cons_of_mem _ (List.mem_cons_self ..)))))
theorem mcr : cr QQ ∈ CS := List.mem_cons_of_mem _ (List.mem_cons_of_mem _ (List.mem_cons_of_mem _ (List.mem_cons_of_mem _ (List.mem_cons_of_mem _ (List.mem_cons_of_mem _ (List.mem_cons_self ..))))))
theorem mcu : cu 24 25 26 ∈ CS := List.mem_cons_of_mem _ (List.mem_cons_of_mem _ (List.mem_cons_of_mem _ (List.mem_cons_of_mem _ (List.mem_cons_of_mem _ (List.mem_cons_of_mem _ (List.mem_cons_of_mem _ (List.mem_cons_self ..)))))))
theorem mce : ceq PE9 ∈ CS := List.mem_cons_of_mem _ (List.mem_cons_of_mem _ (List.mem_cons_of_mem _ (List.mem_cons_of_mem _ (List.mem_cons_of_mem _ (List.mem_cons_of_mem _ (List.mem_cons_of_mem _ (List.mem_cons_of_mem _ (List.mem_cons_self ..))))))))
theorem mcl : ceqL PL9 ∈ CS := List.mem_cons_of_mem _ (List.mem_cons_of_mem _ (List.mem_cons_of_mem _ (List.mem_cons_of_mem _ (List.mem_cons_of_mem _ (List.mem_cons_of_mem _ (List.mem_cons_of_mem _ (List.mem_cons_of_mem _ (List.mem_cons_of_mem _ (List.mem_cons_self ..)))))))))
theorem mck : ck 11 0 (-4) ∈ CS := List.mem_cons_of_mem _ (List.mem_cons_of_mem _ (List.mem_cons_of_mem _ (List.mem_cons_of_mem _ (List.mem_cons_of_mem _ (List.mem_cons_of_mem _ (List.mem_cons_of_mem _ (List.mem_cons_of_mem _ (List.mem_cons_of_mem _ (List.mem_cons_of_mem _ (List.mem_cons_self ..))))))))))
theorem mcn : cn 110 26 20 ∈ CS := List.mem_cons_of_mem _ (List.mem_cons_of_mem _ (List.mem_cons_of_mem _ (List.mem_cons_of_mem _ (List.mem_cons_of_mem _ (List.mem_cons_of_mem _ (List.mem_cons_of_mem _ (List.mem_cons_of_mem _ (List.mem_cons_of_mem _ (List.mem_cons_of_mem _ (List.mem_cons_of_mem _ (List.mem_cons_self ..)))))))))))
theorem mcb : cb 125 128 ∈ CS := List.mem_cons_of_mem _ (List.mem_cons_of_mem _ (List.mem_cons_of_mem _ (List.mem_cons_of_mem _ (List.mem_cons_of_mem _ (List.mem_cons_of_mem _ (List.mem_cons_of_mem _ (List.mem_cons_of_mem _ (List.mem_cons_of_mem _ (List.mem_cons_of_mem _ (List.mem_cons_of_mem _ (List.mem_cons_of_mem _ (List.mem_cons_self ..))))))))))))
theorem mco : co 125 ∈ CS := List.mem_cons_of_mem _ (List.mem_cons_of_mem _ (List.mem_cons_of_mem _ (List.mem_cons_of_mem _ (List.mem_cons_of_mem _ (List.mem_cons_of_mem _ (List.mem_cons_of_mem _ (List.mem_cons_of_mem _ (List.mem_cons_of_mem _ (List.mem_cons_of_mem _ (List.mem_cons_of_mem _ (List.mem_cons_of_mem _ (List.mem_cons_of_mem _ (List.mem_cons_self ..)))))))))))))
theorem mck2 : ck 12 0 (-4) ∈ CS := List.mem_cons_of_mem _ (List.mem_cons_of_mem _ (List.mem_cons_of_mem _ (List.mem_cons_of_mem _ (List.mem_cons_of_mem _ (List.mem_cons_of_mem _ (List.mem_cons_of_mem _ (List.mem_cons_of_mem _ (List.mem_cons_of_mem _ (List.mem_cons_of_mem _ (List.mem_cons_of_mem _ (List.mem_cons_of_mem _ (List.mem_cons_of_mem _ (List.mem_cons_of_mem _ (List.mem_cons_self ..))))))))))))))
theorem mcv : cv9 126 110 26 ∈ CS := List.mem_cons_of_mem _ (List.mem_cons_of_mem _ (List.mem_cons_of_mem _ (List.mem_cons_of_mem _ (List.mem_cons_of_mem _ (List.mem_cons_of_mem _ (List.mem_cons_of_mem _ (List.mem_cons_of_mem _ (List.mem_cons_of_mem _ (List.mem_cons_of_mem _ (List.mem_cons_of_mem _ (List.mem_cons_of_mem _ (List.mem_cons_of_mem _ (List.mem_cons_of_mem _ (List.mem_cons_of_mem _ (List.mem_cons_self ..)))))))))))))))
theorem mcR : cR 840 999 RWg SG WG ∈ CS := List.mem_cons_of_mem _ (List.mem_cons_of_mem _ (List.mem_cons_of_mem _ (List.mem_cons_of_mem _ (List.mem_cons_of_mem _ (List.mem_cons_of_mem _ (List.mem_cons_of_mem _ (List.mem_cons_of_mem _ (List.mem_cons_of_mem _ (List.mem_cons_of_mem _ (List.mem_cons_of_mem _ (List.mem_cons_of_mem _ (List.mem_cons_of_mem _ (List.mem_cons_of_mem _ (List.mem_cons_of_mem _ (List.mem_cons_of_mem _ (List.mem_cons_self ..))))))))))))))))
theorem mcJ : cJH ∈ CS := List.mem_cons_of_mem _ (List.mem_cons_of_mem _ (List.mem_cons_of_mem _ (List.mem_cons_of_mem _ (List.mem_cons_of_mem _ (List.mem_cons_of_mem _ (List.mem_cons_of_mem _ (List.mem_cons_of_mem _ (List.mem_cons_of_mem _ (List.mem_cons_of_mem _ (List.mem_cons_of_mem _ (List.mem_cons_of_mem _ (List.mem_cons_of_mem _ (List.mem_cons_of_mem _ (List.mem_cons_of_mem _ (List.mem_cons_of_mem _ (List.mem_cons_of_mem _ (List.mem_cons_self ..)))))))))))))))))
theorem uQ : ∀ c ∈ CS, ∀ t : Nat, qtg t = true → c.tg t = true → c = cr QQ := by
  intro c hc t h0 h
  rcases List.mem_cons.mp hc with rfl | hc
  · rcases tgQ h0 with rfl | rfl | rfl | rfl | rfl | rfl | rfl | rfl | rfl | rfl | rfl | rfl <;> exact absurd h (by decide)
  rcases List.mem_cons.mp hc with rfl | hc
  · rcases tgQ h0 with rfl | rfl | rfl | rfl | rfl | rfl | rfl | rfl | rfl | rfl | rfl | rfl <;> exact absurd h (by decide)
  rcases List.mem_cons.mp hc with rfl | hc
  · rcases tgQ h0 with rfl | rfl | rfl | rfl | rfl | rfl | rfl | rfl | rfl | rfl | rfl | rfl <;> exact absurd h (by decide)
  rcases List.mem_cons.mp hc with rfl | hc
  · rcases tgQ h0 with rfl | rfl | rfl | rfl | rfl | rfl | rfl | rfl | rfl | rfl | rfl | rfl <;> exact absurd h (by decide)
  rcases List.mem_cons.mp hc with rfl | hc
  · rcases tgQ h0 with rfl | rfl | rfl | rfl | rfl | rfl | rfl | rfl | rfl | rfl | rfl | rfl <;> exact absurd h (by decide)
  rcases List.mem_cons.mp hc with rfl | hc
  · rcases tgQ h0 with rfl | rfl | rfl | rfl | rfl | rfl | rfl | rfl | rfl | rfl | rfl | rfl <;> exact absurd h (by decide)
  rcases List.mem_cons.mp hc with rfl | hc
  · rfl
  rcases List.mem_cons.mp hc with rfl | hc
  · rcases tgQ h0 with rfl | rfl | rfl | rfl | rfl | rfl | rfl | rfl | rfl | rfl | rfl | rfl <;> exact absurd h (by decide)
  rcases List.mem_cons.mp hc with rfl | hc
  · rcases tgQ h0 with rfl | rfl | rfl | rfl | rfl | rfl | rfl | rfl | rfl | rfl | rfl | rfl <;> (rw [etg_f (by omega)] at h; cases h)
  rcases List.mem_cons.mp hc with rfl | hc
  · rcases tgQ h0 with rfl | rfl | rfl | rfl | rfl | rfl | rfl | rfl | rfl | rfl | rfl | rfl <;> (rw [ltg_f (by omega)] at h; cases h)
  rcases List.mem_cons.mp hc with rfl | hc
  · cases h
  rcases List.mem_cons.mp hc with rfl | hc
  · cases h
  rcases List.mem_cons.mp hc with rfl | hc
  · rcases tgQ h0 with rfl | rfl | rfl | rfl | rfl | rfl | rfl | rfl | rfl | rfl | rfl | rfl <;> (rw [btg_f (by omega)] at h; cases h)
  rcases List.mem_cons.mp hc with rfl | hc
  · rcases tgQ h0 with rfl | rfl | rfl | rfl | rfl | rfl | rfl | rfl | rfl | rfl | rfl | rfl <;> (rw [otg_f (by omega)] at h; cases h)
  rcases List.mem_cons.mp hc with rfl | hc
  · cases h
  rcases List.mem_cons.mp hc with rfl | hc
  · rcases tgQ h0 with rfl | rfl | rfl | rfl | rfl | rfl | rfl | rfl | rfl | rfl | rfl | rfl <;> (rw [vtg_f (by omega)] at h; cases h)
  rcases List.mem_cons.mp hc with rfl | hc
  · rcases tgQ h0 with rfl | rfl | rfl | rfl | rfl | rfl | rfl | rfl | rfl | rfl | rfl | rfl <;> (rw [rtg_f (by omega)] at h; cases h)
  rcases List.mem_cons.mp hc with rfl | hc
  · cases h
  · cases hc
theorem uU : ∀ c ∈ CS, ∀ t : Nat, utg t = true → c.tg t = true → c = cu 24 25 26 := by
  intro c hc t h0 h
  rcases List.mem_cons.mp hc with rfl | hc
  · rcases tgU h0 with rfl | rfl <;> exact absurd h (by decide)
  rcases List.mem_cons.mp hc with rfl | hc
  · rcases tgU h0 with rfl | rfl <;> exact absurd h (by decide)
  rcases List.mem_cons.mp hc with rfl | hc
  · rcases tgU h0 with rfl | rfl <;> exact absurd h (by decide)
  rcases List.mem_cons.mp hc with rfl | hc
  · rcases tgU h0 with rfl | rfl <;> exact absurd h (by decide)
  rcases List.mem_cons.mp hc with rfl | hc
  · rcases tgU h0 with rfl | rfl <;> exact absurd h (by decide)
  rcases List.mem_cons.mp hc with rfl | hc
  · rcases tgU h0 with rfl | rfl <;> exact absurd h (by decide)
  rcases List.mem_cons.mp hc with rfl | hc
  · rcases tgU h0 with rfl | rfl <;> exact absurd h (by decide)
  rcases List.mem_cons.mp hc with rfl | hc
  · rfl
  rcases List.mem_cons.mp hc with rfl | hc
  · rcases tgU h0 with rfl | rfl <;> (rw [etg_f (by omega)] at h; cases h)
  rcases List.mem_cons.mp hc with rfl | hc
  · rcases tgU h0 with rfl | rfl <;> (rw [ltg_f (by omega)] at h; cases h)
  rcases List.mem_cons.mp hc with rfl | hc
  · cases h
  rcases List.mem_cons.mp hc with rfl | hc
  · cases h
  rcases List.mem_cons.mp hc with rfl | hc
  · rcases tgU h0 with rfl | rfl <;> (rw [btg_f (by omega)] at h; cases h)
  rcases List.mem_cons.mp hc with rfl | hc
  · rcases tgU h0 with rfl | rfl <;> (rw [otg_f (by omega)] at h; cases h)
  rcases List.mem_cons.mp hc with rfl | hc
  · cases h
  rcases List.mem_cons.mp hc with rfl | hc
  · rcases tgU h0 with rfl | rfl <;> (rw [vtg_f (by omega)] at h; cases h)
  rcases List.mem_cons.mp hc with rfl | hc
  · rcases tgU h0 with rfl | rfl <;> (rw [rtg_f (by omega)] at h; cases h)
  rcases List.mem_cons.mp hc with rfl | hc
  · cases h
  · cases hc
theorem qH : QH TJ GG CS QQ := ⟨TJ_wf, CS_ok, mcr, uQ⟩
theorem uH : UH TJ GG CS 24 25 26 := ⟨TJ_wf, CS_ok, mcu, uU⟩
theorem uT : ∀ c ∈ CS, ∀ t : Nat, 300 ≤ t → t ≤ 304 → c.tg t = true → c = ctr 125 110 20 26 := by
  intro c hc t h1 h2 h
  rcases List.mem_cons.mp hc with rfl | hc
  · have := Nat.eq_of_beq_eq_true h; omega
  rcases List.mem_cons.mp hc with rfl | hc
  · have := Nat.eq_of_beq_eq_true h; omega
  rcases List.mem_cons.mp hc with rfl | hc
  · have := Nat.eq_of_beq_eq_true h; omega
  rcases List.mem_cons.mp hc with rfl | hc
  · cases h
  rcases List.mem_cons.mp hc with rfl | hc
  · have h : (Nat.beq t 330 || Nat.beq t 331) = true := h
    rw [Bool.or_eq_true] at h
    rcases h with h | h <;> (have := Nat.eq_of_beq_eq_true h; omega)
  rcases List.mem_cons.mp hc with rfl | hc
  · rfl
  rcases List.mem_cons.mp hc with rfl | hc
  · have h9 : t = 300 ∨ t = 301 ∨ t = 302 ∨ t = 303 ∨ t = 304 := by omega
    rcases h9 with rfl | rfl | rfl | rfl | rfl <;> exact absurd h (by decide)
  rcases List.mem_cons.mp hc with rfl | hc
  · have h9 : t = 300 ∨ t = 301 ∨ t = 302 ∨ t = 303 ∨ t = 304 := by omega
    rcases h9 with rfl | rfl | rfl | rfl | rfl <;> exact absurd h (by decide)
  rcases List.mem_cons.mp hc with rfl | hc
  · have := etg_rg h; omega
  rcases List.mem_cons.mp hc with rfl | hc
  · have := ltg_rg h; omega
  rcases List.mem_cons.mp hc with rfl | hc
  · cases h
  rcases List.mem_cons.mp hc with rfl | hc
  · cases h
  rcases List.mem_cons.mp hc with rfl | hc
  · have := btg_rg h; omega
  rcases List.mem_cons.mp hc with rfl | hc
  · have := otg_rg h; omega
  rcases List.mem_cons.mp hc with rfl | hc
  · cases h
  rcases List.mem_cons.mp hc with rfl | hc
  · have := vtg_rg h; omega
  rcases List.mem_cons.mp hc with rfl | hc
  · have := rtg_rg h; omega
  rcases List.mem_cons.mp hc with rfl | hc
  · cases h
  · cases hc
theorem del_t {H : List (Nat × Int)} {σ : zS} {t : Nat} (h1 : t ≤ 304) (hS : (ctr 125 110 20 26).S H σ) : (ctr 125 110 20 26).S (hdel t H) σ := by
  obtain ⟨s1, s2, s3, s4, s5⟩ := (hS : tS 125 110 20 26 H σ)
  have w : ∀ u z, lk (hdel t H) u = some z → lk H u = some z := fun u z h => by
    rw [lk_hdel] at h
    split at h
    · cases h
    · exact h
  refine ⟨fun h0 => ?_, s2, fun h => s3 (by rw [lk_hdel, if_neg (by omega)] at h; exact h), s4, fun q t' x a b c => s5 q t' x (w _ _ a) (w _ _ b) (w _ _ c)⟩
  obtain ⟨r, a1, a2⟩ := s1 h0
  exact ⟨r, a1, fun x n a b => a2 x n (w _ _ a) (w _ _ b)⟩
theorem h40 {σ : zS} (hb : Bd TJ GG σ) : ∀ x, x < 40 → Pp σ 125 x < 40 := by
  intro x hx
  have hk : GG.ka.get 125 = some (100, 40) := by decide +kernel
  have hc : TJ.co.get 125 = none := by decide +kernel
  have := hb 125 x (Or.inr ⟨100, 40, hk, hx⟩)
  have e : TJ.bd GG 125 x = [(-4, -4), (0, 39)] := by
    unfold Jx.bd
    rw [hk, hc]
    show (TJ.ai.get 125).getD T32 = _
    decide +kernel
  rw [e] at this
  obtain ⟨p, hp, h1, h2⟩ := this
  rcases List.mem_cons.mp hp with rfl | hp
  · dsimp only at h2; show (σ.1 125 x).toInt < 40; omega
  rcases List.mem_cons.mp hp with rfl | hp
  · dsimp only at h2; show (σ.1 125 x).toInt < 40; omega
  · cases hp
theorem tlt_0 {t : Nat} (h : (cz 310 120 16 : Cp).tg t = true) : t < 400 := by
  have := Nat.eq_of_beq_eq_true h; omega
theorem tlt_1 {t : Nat} (h : (cz 311 201 4 : Cp).tg t = true) : t < 400 := by
  have := Nat.eq_of_beq_eq_true h; omega
theorem tlt_2 {t : Nat} (h : (cl 320 196 : Cp).tg t = true) : t < 400 := by
  have := Nat.eq_of_beq_eq_true h; omega
theorem tlt_3 {t : Nat} (h : (cf 110 148 211 210 206 : Cp).tg t = true) : t < 400 := by
  cases h
theorem tlt_4 {t : Nat} (h : (cg9 110 112 183 144 : Cp).tg t = true) : t < 400 := by
  have h : (Nat.beq t 330 || Nat.beq t 331) = true := h
  rw [Bool.or_eq_true] at h
  rcases h with h | h <;> (have := Nat.eq_of_beq_eq_true h; omega)
theorem tlt_5 {t : Nat} (h : (ctr 125 110 20 26 : Cp).tg t = true) : t < 400 := by
  have := tgC h; omega
theorem tlt_6 {t : Nat} (h : (cr QQ : Cp).tg t = true) : t < 400 := by
  have := tgQ h; omega
theorem tlt_7 {t : Nat} (h : (cu 24 25 26 : Cp).tg t = true) : t < 400 := by
  have := tgU h; omega
theorem pHb0 : ∀ c ∈ CS, c = cb 125 128 ∨ ∀ t, (cb 125 128 : Cp).tg t = true → c.tg t = false := by
  intro c hc
  rcases List.mem_cons.mp hc with rfl | hc
  · exact Or.inr (fun t ht => by
    have r9 := btg_rg ht
    cases e : (cz 310 120 16 : Cp).tg t with
    | false => rfl
    | true =>
      have := tlt_0 e
      omega)
  rcases List.mem_cons.mp hc with rfl | hc
  · exact Or.inr (fun t ht => by
    have r9 := btg_rg ht
    cases e : (cz 311 201 4 : Cp).tg t with
    | false => rfl
    | true =>
      have := tlt_1 e
      omega)
  rcases List.mem_cons.mp hc with rfl | hc
  · exact Or.inr (fun t ht => by
    have r9 := btg_rg ht
    cases e : (cl 320 196 : Cp).tg t with
    | false => rfl
    | true =>
      have := tlt_2 e
      omega)
  rcases List.mem_cons.mp hc with rfl | hc
  · exact Or.inr (fun t ht => by
    have r9 := btg_rg ht
    cases e : (cf 110 148 211 210 206 : Cp).tg t with
    | false => rfl
    | true =>
      have := tlt_3 e
      omega)
  rcases List.mem_cons.mp hc with rfl | hc
  · exact Or.inr (fun t ht => by
    have r9 := btg_rg ht
    cases e : (cg9 110 112 183 144 : Cp).tg t with
    | false => rfl
    | true =>
      have := tlt_4 e
      omega)
  rcases List.mem_cons.mp hc with rfl | hc
  · exact Or.inr (fun t ht => by
    have r9 := btg_rg ht
    cases e : (ctr 125 110 20 26 : Cp).tg t with
    | false => rfl
    | true =>
      have := tlt_5 e
      omega)
  rcases List.mem_cons.mp hc with rfl | hc
  · exact Or.inr (fun t ht => by
    have r9 := btg_rg ht
    cases e : (cr QQ : Cp).tg t with
    | false => rfl
    | true =>
      have := tlt_6 e
      omega)
  rcases List.mem_cons.mp hc with rfl | hc
  · exact Or.inr (fun t ht => by
    have r9 := btg_rg ht
    cases e : (cu 24 25 26 : Cp).tg t with
    | false => rfl
    | true =>
      have := tlt_7 e
      omega)
  rcases List.mem_cons.mp hc with rfl | hc
  · exact Or.inr (fun t ht => by
    have r9 := btg_rg ht
    exact etg_f (by omega))
  rcases List.mem_cons.mp hc with rfl | hc
  · exact Or.inr (fun t ht => by
    have r9 := btg_rg ht
    exact ltg_f (by omega))
  rcases List.mem_cons.mp hc with rfl | hc
  · exact Or.inr (fun t ht => rfl)
  rcases List.mem_cons.mp hc with rfl | hc
  · exact Or.inr (fun t ht => rfl)
  rcases List.mem_cons.mp hc with rfl | hc
  · exact Or.inl rfl
  rcases List.mem_cons.mp hc with rfl | hc
  · exact Or.inr (fun t ht => by
    have r9 := btg_rg ht
    exact otg_f (by omega))
  rcases List.mem_cons.mp hc with rfl | hc
  · exact Or.inr (fun t ht => rfl)
  rcases List.mem_cons.mp hc with rfl | hc
  · exact Or.inr (fun t ht => by
    have r9 := btg_rg ht
    exact vtg_f (by omega))
  rcases List.mem_cons.mp hc with rfl | hc
  · exact Or.inr (fun t ht => by
    have r9 := btg_rg ht
    exact rtg_f (by omega))
  rcases List.mem_cons.mp hc with rfl | hc
  · exact Or.inr (fun t ht => rfl)
  · cases hc
theorem pHb : PH TJ GG CS (cb 125 128) := ⟨TJ_wf, CS_ok, mcb, pHb0⟩
theorem pHo0 : ∀ c ∈ CS, c = co 125 ∨ ∀ t, (co 125 : Cp).tg t = true → c.tg t = false := by
  intro c hc
  rcases List.mem_cons.mp hc with rfl | hc
  · exact Or.inr (fun t ht => by
    have r9 := otg_rg ht
    cases e : (cz 310 120 16 : Cp).tg t with
    | false => rfl
    | true =>
      have := tlt_0 e
      omega)
  rcases List.mem_cons.mp hc with rfl | hc
  · exact Or.inr (fun t ht => by
    have r9 := otg_rg ht
    cases e : (cz 311 201 4 : Cp).tg t with
    | false => rfl
    | true =>
      have := tlt_1 e
      omega)
  rcases List.mem_cons.mp hc with rfl | hc
  · exact Or.inr (fun t ht => by
    have r9 := otg_rg ht
    cases e : (cl 320 196 : Cp).tg t with
    | false => rfl
    | true =>
      have := tlt_2 e
      omega)
  rcases List.mem_cons.mp hc with rfl | hc
  · exact Or.inr (fun t ht => by
    have r9 := otg_rg ht
    cases e : (cf 110 148 211 210 206 : Cp).tg t with
    | false => rfl
    | true =>
      have := tlt_3 e
      omega)
  rcases List.mem_cons.mp hc with rfl | hc
  · exact Or.inr (fun t ht => by
    have r9 := otg_rg ht
    cases e : (cg9 110 112 183 144 : Cp).tg t with
    | false => rfl
    | true =>
      have := tlt_4 e
      omega)
  rcases List.mem_cons.mp hc with rfl | hc
  · exact Or.inr (fun t ht => by
    have r9 := otg_rg ht
    cases e : (ctr 125 110 20 26 : Cp).tg t with
    | false => rfl
    | true =>
      have := tlt_5 e
      omega)
  rcases List.mem_cons.mp hc with rfl | hc
  · exact Or.inr (fun t ht => by
    have r9 := otg_rg ht
    cases e : (cr QQ : Cp).tg t with
    | false => rfl
    | true =>
      have := tlt_6 e
      omega)
  rcases List.mem_cons.mp hc with rfl | hc
  · exact Or.inr (fun t ht => by
    have r9 := otg_rg ht
    cases e : (cu 24 25 26 : Cp).tg t with
    | false => rfl
    | true =>
      have := tlt_7 e
      omega)
  rcases List.mem_cons.mp hc with rfl | hc
  · exact Or.inr (fun t ht => by
    have r9 := otg_rg ht
    exact etg_f (by omega))
  rcases List.mem_cons.mp hc with rfl | hc
  · exact Or.inr (fun t ht => by
    have r9 := otg_rg ht
    exact ltg_f (by omega))
  rcases List.mem_cons.mp hc with rfl | hc
  · exact Or.inr (fun t ht => rfl)
  rcases List.mem_cons.mp hc with rfl | hc
  · exact Or.inr (fun t ht => rfl)
  rcases List.mem_cons.mp hc with rfl | hc
  · exact Or.inr (fun t ht => by
    have r9 := otg_rg ht
    exact btg_f (by omega))
  rcases List.mem_cons.mp hc with rfl | hc
  · exact Or.inl rfl
  rcases List.mem_cons.mp hc with rfl | hc
  · exact Or.inr (fun t ht => rfl)
  rcases List.mem_cons.mp hc with rfl | hc
  · exact Or.inr (fun t ht => by
    have r9 := otg_rg ht
    exact vtg_f (by omega))
  rcases List.mem_cons.mp hc with rfl | hc
  · exact Or.inr (fun t ht => by
    have r9 := otg_rg ht
    exact rtg_f (by omega))
  rcases List.mem_cons.mp hc with rfl | hc
  · exact Or.inr (fun t ht => rfl)
  · cases hc
theorem pHo : PH TJ GG CS (co 125) := ⟨TJ_wf, CS_ok, mco, pHo0⟩
theorem pHR0 : ∀ c ∈ CS, c = cR 840 999 RWg SG WG ∨ ∀ t, (cR 840 999 RWg SG WG : Cp).tg t = true → c.tg t = false := by
  intro c hc
  rcases List.mem_cons.mp hc with rfl | hc
  · exact Or.inr (fun t ht => by
    have r9 := rtg_rg ht
    cases e : (cz 310 120 16 : Cp).tg t with
    | false => rfl
    | true =>
      have := tlt_0 e
      omega)
  rcases List.mem_cons.mp hc with rfl | hc
  · exact Or.inr (fun t ht => by
    have r9 := rtg_rg ht
    cases e : (cz 311 201 4 : Cp).tg t with
    | false => rfl
    | true =>
      have := tlt_1 e
      omega)
  rcases List.mem_cons.mp hc with rfl | hc
  · exact Or.inr (fun t ht => by
    have r9 := rtg_rg ht
    cases e : (cl 320 196 : Cp).tg t with
    | false => rfl
    | true =>
      have := tlt_2 e
      omega)
  rcases List.mem_cons.mp hc with rfl | hc
  · exact Or.inr (fun t ht => by
    have r9 := rtg_rg ht
    cases e : (cf 110 148 211 210 206 : Cp).tg t with
    | false => rfl
    | true =>
      have := tlt_3 e
      omega)
  rcases List.mem_cons.mp hc with rfl | hc
  · exact Or.inr (fun t ht => by
    have r9 := rtg_rg ht
    cases e : (cg9 110 112 183 144 : Cp).tg t with
    | false => rfl
    | true =>
      have := tlt_4 e
      omega)
  rcases List.mem_cons.mp hc with rfl | hc
  · exact Or.inr (fun t ht => by
    have r9 := rtg_rg ht
    cases e : (ctr 125 110 20 26 : Cp).tg t with
    | false => rfl
    | true =>
      have := tlt_5 e
      omega)
  rcases List.mem_cons.mp hc with rfl | hc
  · exact Or.inr (fun t ht => by
    have r9 := rtg_rg ht
    cases e : (cr QQ : Cp).tg t with
    | false => rfl
    | true =>
      have := tlt_6 e
      omega)
  rcases List.mem_cons.mp hc with rfl | hc
  · exact Or.inr (fun t ht => by
    have r9 := rtg_rg ht
    cases e : (cu 24 25 26 : Cp).tg t with
    | false => rfl
    | true =>
      have := tlt_7 e
      omega)
  rcases List.mem_cons.mp hc with rfl | hc
  · exact Or.inr (fun t ht => by
    have r9 := rtg_rg ht
    exact etg_f (by omega))
  rcases List.mem_cons.mp hc with rfl | hc
  · exact Or.inr (fun t ht => by
    have r9 := rtg_rg ht
    exact ltg_f (by omega))
  rcases List.mem_cons.mp hc with rfl | hc
  · exact Or.inr (fun t ht => rfl)
  rcases List.mem_cons.mp hc with rfl | hc
  · exact Or.inr (fun t ht => rfl)
  rcases List.mem_cons.mp hc with rfl | hc
  · exact Or.inr (fun t ht => by
    have r9 := rtg_rg ht
    exact btg_f (by omega))
  rcases List.mem_cons.mp hc with rfl | hc
  · exact Or.inr (fun t ht => by
    have r9 := rtg_rg ht
    exact otg_f (by omega))
  rcases List.mem_cons.mp hc with rfl | hc
  · exact Or.inr (fun t ht => rfl)
  rcases List.mem_cons.mp hc with rfl | hc
  · exact Or.inr (fun t ht => by
    have r9 := rtg_rg ht
    exact vtg_f (by omega))
  rcases List.mem_cons.mp hc with rfl | hc
  · exact Or.inl rfl
  rcases List.mem_cons.mp hc with rfl | hc
  · exact Or.inr (fun t ht => rfl)
  · cases hc
theorem pHR : PH TJ GG CS (cR 840 999 RWg SG WG) := ⟨TJ_wf, CS_ok, mcR, pHR0⟩
theorem hP0 {σ : zS} (hb : Bd TJ GG σ) (hn : Pp σ 125 0 < 0) : Pp σ 125 0 = -4 := by
  have hk : GG.ka.get 125 = some (100, 40) := by decide +kernel
  have hc : TJ.co.get 125 = none := by decide +kernel
  have := hb 125 0 (Or.inr ⟨100, 40, hk, by decide⟩)
  have e : TJ.bd GG 125 0 = [(-4, -4), (0, 39)] := by
    unfold Jx.bd
    rw [hk, hc]
    show (TJ.ai.get 125).getD T32 = _
    decide +kernel
  rw [e] at this
  have hn : (σ.1 125 0).toInt < 0 := hn
  show (σ.1 125 0).toInt = -4
  obtain ⟨p, hp, h1, h2⟩ := this
  rcases List.mem_cons.mp hp with rfl | hp
  · dsimp only at h1 h2; omega
  rcases List.mem_cons.mp hp with rfl | hp
  · dsimp only at h1 h2; omega
  · cases hp
theorem JJ_pb : PBt JJ := pbg_ok pHR
theorem GX_J : POk GX.g GX.P JJ := P_ok TJ_wf (cS_ok CS_ok CS_apt)
theorem del_z {t k n : Nat} {H : List (Nat × Int)} {σ : zS} : (cz t k n).S (hdel t H) σ := fun z hz => by rw [lk_hdel, if_pos rfl] at hz; cases hz
theorem del_l {t k : Nat} {H : List (Nat × Int)} {σ : zS} : (cl t k).S (hdel t H) σ := fun z hz => by rw [lk_hdel, if_pos rfl] at hz; cases hz
theorem hxg_0_ok {h : Nat × (Nat × Nat)} {f : Fm} {s : Sy} {ρ : List Int} {σ : zS} (ho : Ok JJ s ρ σ) : ∃ s' ρ', hxg_0 h f s = some s' ∧ Pre ρ ρ' ∧ Ok JJ s' ρ' σ := by
  have same : ∃ s' ρ', some s = some s' ∧ Pre ρ ρ' ∧ Ok JJ s' ρ' σ := ⟨s, ρ, rfl, Pre.rf, ho⟩
  unfold hxg_0
  cases Nat.beq h.1 1 with
  | true =>
    obtain ⟨s', e1, e2⟩ := tg_ok (f := f) (i := h.2.1) ho
    exact ⟨s', ρ, e1, Pre.rf, e2⟩
  | false =>
  cases Nat.beq h.1 10 with
  | true =>
    cases Nat.beq h.2.1 310 with
    | true =>
      obtain ⟨ρ', e1, e2⟩ := hz10_ok TJ_wf CS_ok (by decide) u310 ho
      exact ⟨_, ρ', rfl, e1, e2⟩
    | false =>
    cases Nat.beq h.2.1 311 with
    | true =>
      obtain ⟨ρ', e1, e2⟩ := hz10_ok TJ_wf CS_ok (by decide) u311 ho
      exact ⟨_, ρ', rfl, e1, e2⟩
    | false => exact same
  | false =>
  cases Nat.beq h.1 11 with
  | true =>
    cases Nat.beq h.2.1 310 with
    | true => exact ⟨_, ρ, rfl, Pre.rf, h11_ok TJ_wf CS_ok (by decide) (fun c q e H σ _ => by rw [u310 c q e]; exact del_z) ho⟩
    | false =>
    cases Nat.beq h.2.1 311 with
    | true => exact ⟨_, ρ, rfl, Pre.rf, h11_ok TJ_wf CS_ok (by decide) (fun c q e H σ _ => by rw [u311 c q e]; exact del_z) ho⟩
    | false =>
    cases Nat.beq h.2.1 320 with
    | true => exact ⟨_, ρ, rfl, Pre.rf, h11_ok TJ_wf CS_ok (by decide) (fun c q e H σ _ => by rw [u320 c q e]; exact del_l) ho⟩
    | false =>
    cases hT : Nat.ble 300 h.2.1 && Nat.ble h.2.1 304 with
    | true =>
      rw [Bool.and_eq_true] at hT
      have t1 := Nat.le_of_ble_eq_true hT.1
      have t2 := Nat.le_of_ble_eq_true hT.2
      exact ⟨_, ρ, rfl, Pre.rf, h11_ok TJ_wf CS_ok (by omega) (fun c q e H σ hs => by have ec := uT c q _ t1 t2 e; subst ec; exact del_t t2 hs) ho⟩
    | false => exact same
  | false =>
  cases Nat.beq h.1 13 with
  | true => exact ⟨_, ρ, rfl, Pre.rf, hl13_ok TJ_wf CS_ok (by decide) u320 m320 ho⟩
  | false =>
  cases Nat.beq h.1 14 with
  | true => exact ⟨_, ρ, rfl, Pre.rf, hl14_ok TJ_wf CS_ok (by decide) u320 ho⟩
  | false =>
  cases Nat.beq h.1 15 with
  | true =>
    simp only [cond_true, cond_false]
    split
    · rename_i a ha
      obtain ⟨H, i1, i2⟩ := ho.inv
      rcases i1.lkp (t := 320) with ⟨q1, q2⟩ | ⟨a', z, q1, q2, q3⟩
      · rw [ha] at q1; cases q1
      · rw [ha] at q1
        cases Option.some.inj q1
        exact ⟨_, ρ, rfl, Pre.rf, hl15_ok q3 (fun j hj => i2.2.2 _ m320 z q2 j hj) ho ho.me⟩
    · exact same
  | false =>
  cases Nat.beq h.1 16 with
  | true =>
    simp only [cond_true, cond_false]
    cases Nat.beq h.2.1 310 with
    | true =>
      simp only [cond_true]
      split
      · rename_i a ha
        obtain ⟨H, i1, i2⟩ := ho.inv
        rcases i1.lkp (t := 310) with ⟨q1, q2⟩ | ⟨a', z, q1, q2, q3⟩
        · rw [ha] at q1; cases q1
        · rw [ha] at q1
          cases Option.some.inj q1
          have e := i2.2.2 _ m310 z q2
          obtain ⟨s', e1, e2⟩ := hz16_ok (by rw [← e]; exact q3) ho ho.me
          exact ⟨s', ρ, e1, Pre.rf, e2⟩
      · exact same
    | false =>
      simp only [cond_false]
      split
      · rename_i a ha
        obtain ⟨H, i1, i2⟩ := ho.inv
        rcases i1.lkp (t := 311) with ⟨q1, q2⟩ | ⟨a', z, q1, q2, q3⟩
        · rw [ha] at q1; cases q1
        · rw [ha] at q1
          cases Option.some.inj q1
          have e := i2.2.2 _ m311 z q2
          obtain ⟨s', e1, e2⟩ := hz16_ok (by rw [← e]; exact q3) ho ho.me
          exact ⟨s', ρ, e1, Pre.rf, e2⟩
      · exact same
  | false =>
  exact same
theorem hxg_1_ok {h : Nat × (Nat × Nat)} {f : Fm} {s : Sy} {ρ : List Int} {σ : zS} (ho : Ok JJ s ρ σ) : ∃ s' ρ', hxg_1 h f s = some s' ∧ Pre ρ ρ' ∧ Ok JJ s' ρ' σ := by
  have same : ∃ s' ρ', some s = some s' ∧ Pre ρ ρ' ∧ Ok JJ s' ρ' σ := ⟨s, ρ, rfl, Pre.rf, ho⟩
  unfold hxg_1
  cases Nat.beq h.1 17 with
  | true => exact ⟨_, ρ, rfl, Pre.rf, hl17_ok TJ_wf CS_ok (by decide) u320 m320 ho⟩
  | false =>
  cases Nat.beq h.1 18 with
  | true =>
    obtain ⟨H, i1, i2⟩ := ho.inv
    exact ⟨_, ρ, rfl, Pre.rf, hf18_ok (i2.2.2 _ mcf) ho ho.me⟩
  | false =>
  cases Nat.beq h.1 20 with
  | true => exact ⟨_, ρ, rfl, Pre.rf, hg20_ok TJ_wf CS_ok u331 ho⟩
  | false =>
  cases Nat.beq h.1 21 with
  | true => exact ⟨_, ρ, rfl, Pre.rf, hg21_ok mcg ho⟩
  | false =>
  cases Nat.beq h.1 22 with
  | true =>
    simp only [cond_true, cond_false]
    split
    · rename_i a _ _
      cases hv : evk s a with
      | false => exact same
      | true =>
        obtain ⟨z, hz⟩ := evk_ok ho hv
        obtain ⟨ρ', e1, e2⟩ := ht22_ok TJ_wf CS_ok mct (fun c q t ht e => uT c q t (by omega) (by omega) e) hz ho
        exact ⟨_, ρ', rfl, e1, e2⟩
    · exact same
  | false =>
  cases Nat.beq h.1 23 with
  | true =>
    simp only [cond_true, cond_false]
    split
    · rename_i a _ _
      cases hv : evk s a with
      | false => exact same
      | true =>
        obtain ⟨z, hz⟩ := evk_ok ho hv
        obtain ⟨ρ', e1, e2⟩ := ht23_ok TJ_wf CS_ok mct (fun c q t ht e => uT c q t (by omega) (by omega) e) h40 hz ho
        exact ⟨_, ρ', rfl, e1, e2⟩
    · exact same
  | false =>
  cases Nat.beq h.1 25 with
  | true =>
    simp only [cond_true, cond_false]
    split
    · rename_i a _ b _ _
      cases hv : evk s a && evk s b with
      | false => exact same
      | true =>
        rw [Bool.and_eq_true] at hv
        obtain ⟨z, hz⟩ := evk_ok ho hv.1
        obtain ⟨y, hy⟩ := evk_ok ho hv.2
        exact ⟨_, ρ, rfl, Pre.rf, ht25_ok TJ_wf CS_ok mct (fun c q t ht e => uT c q t (by omega) (by omega) e) hz hy ho⟩
    · exact same
  | false =>
  exact same
theorem hxg_2_ok {h : Nat × (Nat × Nat)} {f : Fm} {s : Sy} {ρ : List Int} {σ : zS} (ho : Ok JJ s ρ σ) : ∃ s' ρ', hxg_2 h f s = some s' ∧ Pre ρ ρ' ∧ Ok JJ s' ρ' σ := by
  have same : ∃ s' ρ', some s = some s' ∧ Pre ρ ρ' ∧ Ok JJ s' ρ' σ := ⟨s, ρ, rfl, Pre.rf, ho⟩
  unfold hxg_2
  cases Nat.beq h.1 26 with
  | true =>
    simp only [cond_true, cond_false]
    split
    · rename_i a _ _
      cases hv : evk s a with
      | false => exact same
      | true =>
        obtain ⟨z, hz⟩ := evk_ok ho hv
        exact ⟨_, ρ, rfl, Pre.rf, ht26_ok TJ_wf CS_ok mct (fun c q e => uT c q 304 (by omega) (by omega) e) hz ho⟩
    · exact same
  | false =>
  cases Nat.beq h.1 30 with
  | true => exact ⟨_, ρ, rfl, Pre.rf, h30_ok ho ho.fa⟩
  | false =>
  cases Nat.beq h.1 31 with
  | true =>
    obtain ⟨s', e1, e2⟩ := hr31_ok qH ho
    exact ⟨s', ρ, e1, Pre.rf, e2⟩
  | false =>
  cases Nat.beq h.1 32 with
  | true => exact ⟨_, ρ, rfl, Pre.rf, hr32_ok qH ho⟩
  | false =>
  cases Nat.beq h.1 33 with
  | true => exact ⟨_, ρ, rfl, Pre.rf, hr33_ok qH ho⟩
  | false =>
  cases Nat.beq h.1 34 with
  | true => exact ⟨_, ρ, rfl, Pre.rf, hr34_ok qH ho⟩
  | false =>
  cases Nat.beq h.1 35 with
  | true => exact ⟨_, ρ, rfl, Pre.rf, hr35_ok qH ho⟩
  | false =>
  exact same
theorem hxg_3_ok {h : Nat × (Nat × Nat)} {f : Fm} {s : Sy} {ρ : List Int} {σ : zS} (ho : Ok JJ s ρ σ) : ∃ s' ρ', hxg_3 h f s = some s' ∧ Pre ρ ρ' ∧ Ok JJ s' ρ' σ := by
  have same : ∃ s' ρ', some s = some s' ∧ Pre ρ ρ' ∧ Ok JJ s' ρ' σ := ⟨s, ρ, rfl, Pre.rf, ho⟩
  unfold hxg_3
  cases Nat.beq h.1 36 with
  | true =>
    simp only [cond_true, cond_false]
    split
    · rename_i r _
      cases hv : evk s r with
      | false => exact same
      | true =>
        obtain ⟨z, hz⟩ := evk_ok ho hv
        exact ⟨_, ρ, rfl, Pre.rf, hr36_ok qH hz ho⟩
    · exact same
  | false =>
  cases Nat.beq h.1 37 with
  | true =>
    obtain ⟨ρ', e1, e2⟩ := hr37_ok qH ho
    exact ⟨_, ρ', rfl, e1, e2⟩
  | false =>
  cases Nat.beq h.1 38 with
  | true => exact ⟨_, ρ, rfl, Pre.rf, hr38_ok qH ho⟩
  | false =>
  cases Nat.beq h.1 39 with
  | true => exact ⟨_, ρ, rfl, Pre.rf, hr39_ok qH ho⟩
  | false =>
  cases Nat.beq h.1 40 with
  | true =>
    simp only [cond_true, cond_false]
    split
    · rename_i p r _ _
      cases hv : evk s p && evk s r with
      | false => exact same
      | true =>
        rw [Bool.and_eq_true] at hv
        obtain ⟨z, hz⟩ := evk_ok ho hv.1
        obtain ⟨y, hy⟩ := evk_ok ho hv.2
        exact ⟨_, ρ, rfl, Pre.rf, hr40_ok qH hz hy ho⟩
    · exact same
  | false =>
  cases Nat.beq h.1 41 with
  | true => exact ⟨_, ρ, rfl, Pre.rf, hr41_ok qH ho⟩
  | false =>
  cases Nat.beq h.1 42 with
  | true => exact ⟨_, ρ, rfl, Pre.rf, hr42_ok qH ho⟩
  | false =>
  exact same
theorem hxg_4_ok {h : Nat × (Nat × Nat)} {f : Fm} {s : Sy} {ρ : List Int} {σ : zS} (ho : Ok JJ s ρ σ) : ∃ s' ρ', hxg_4 h f s = some s' ∧ Pre ρ ρ' ∧ Ok JJ s' ρ' σ := by
  have same : ∃ s' ρ', some s = some s' ∧ Pre ρ ρ' ∧ Ok JJ s' ρ' σ := ⟨s, ρ, rfl, Pre.rf, ho⟩
  unfold hxg_4
  cases Nat.beq h.1 43 with
  | true => exact ⟨_, ρ, rfl, Pre.rf, hr43_ok qH ho⟩
  | false =>
  cases Nat.beq h.1 44 with
  | true => exact ⟨_, ρ, rfl, Pre.rf, hr44_ok ho⟩
  | false =>
  cases Nat.beq h.1 45 with
  | true => exact ⟨_, ρ, rfl, Pre.rf, h45a_ok ho.fa ho ho.fa⟩
  | false =>
  cases Nat.beq h.1 46 with
  | true => exact ⟨_, ρ, rfl, Pre.rf, hr44_ok ho⟩
  | false =>
  cases Nat.beq h.1 50 with
  | true => exact ⟨_, ρ, rfl, Pre.rf, hu50_ok uH ho⟩
  | false =>
  cases Nat.beq h.1 51 with
  | true => exact ⟨_, ρ, rfl, Pre.rf, hu51_ok uH ho⟩
  | false =>
  cases Nat.beq h.1 52 with
  | true =>
    simp only [cond_true, cond_false]
    split
    · rename_i a _ _
      cases hv : evk s a with
      | false => exact same
      | true =>
        obtain ⟨z, hz⟩ := evk_ok ho hv
        exact ⟨_, ρ, rfl, Pre.rf, hu52_ok uH hz ho⟩
    · exact same
  | false =>
  exact same
theorem hxg_5_ok {h : Nat × (Nat × Nat)} {f : Fm} {s : Sy} {ρ : List Int} {σ : zS} (ho : Ok JJ s ρ σ) : ∃ s' ρ', hxg_5 h f s = some s' ∧ Pre ρ ρ' ∧ Ok JJ s' ρ' σ := by
  have same : ∃ s' ρ', some s = some s' ∧ Pre ρ ρ' ∧ Ok JJ s' ρ' σ := ⟨s, ρ, rfl, Pre.rf, ho⟩
  unfold hxg_5
  cases Nat.beq h.1 54 with
  | true => exact ⟨_, ρ, rfl, Pre.rf, hu54_ok uH ho⟩
  | false =>
  cases Nat.beq h.1 55 with
  | true =>
    obtain ⟨H, i1, i2⟩ := ho.inv
    obtain ⟨ρ', e1, e2⟩ := hu55_ok (bS12 i2.1) ho
    exact ⟨_, ρ', rfl, e1, e2⟩
  | false =>
  cases Nat.beq h.1 56 with
  | true => exact ⟨_, ρ, rfl, Pre.rf, hu56_ok uH ho⟩
  | false =>
  cases Nat.beq h.1 57 with
  | true => exact ⟨_, ρ, rfl, Pre.rf, hu57_ok uH ho⟩
  | false =>
  cases Nat.beq h.1 58 with
  | true => exact ⟨_, ρ, rfl, Pre.rf, hu58_ok ho⟩
  | false =>
  cases Nat.beq h.1 59 with
  | true =>
    obtain ⟨s', e1, e2⟩ := hu59_ok ho
    exact ⟨s', ρ, e1, Pre.rf, e2⟩
  | false =>
  cases Nat.beq h.1 60 with
  | true =>
    obtain ⟨H, i1, i2⟩ := ho.inv
    obtain ⟨a1, a2⟩ := hsAll_ok (i2.2.2 _ mce) ho i1
    exact ⟨_, ρ, rfl, Pre.rf, (hsAllL_ok (i2.2.2 _ mcl) a1 (by rw [a2]; exact i1)).1⟩
  | false =>
  exact same
theorem hxg_6_ok {h : Nat × (Nat × Nat)} {f : Fm} {s : Sy} {ρ : List Int} {σ : zS} (ho : Ok JJ s ρ σ) : ∃ s' ρ', hxg_6 h f s = some s' ∧ Pre ρ ρ' ∧ Ok JJ s' ρ' σ := by
  have same : ∃ s' ρ', some s = some s' ∧ Pre ρ ρ' ∧ Ok JJ s' ρ' σ := ⟨s, ρ, rfl, Pre.rf, ho⟩
  unfold hxg_6
  cases Nat.beq h.1 61 with
  | true =>
    show ∃ s' ρ', (match f.st[h.2.2]? with
    | some a => bif evk s a then some (h61 h.2.1 a s) else some s
    | none => some s) = some s' ∧ Pre ρ ρ' ∧ Ok JJ s' ρ' σ
    split
    · rename_i a _
      cases hv : evk s a with
      | false => exact same
      | true =>
        obtain ⟨z, hz⟩ := evk_ok ho hv
        exact ⟨_, ρ, rfl, Pre.rf, h61_ok hz ho⟩
    · exact same
  | false =>
  cases Nat.beq h.1 62 with
  | true =>
    show ∃ s' ρ', (match f.st[h.2.2]? with
      | some a => bif evk s a then some (hopL h.2.1 a PE9 s) else some s
      | none => some s) = some s' ∧ Pre ρ ρ' ∧ Ok JJ s' ρ' σ
    split
    · rename_i a _
      cases hv : evk s a with
      | false => exact same
      | true =>
        obtain ⟨z, hz⟩ := evk_ok ho hv
        obtain ⟨H, i1, i2⟩ := ho.inv
        exact ⟨_, ρ, rfl, Pre.rf, hopL_ok hz (i2.2.2 _ mce) ho i1⟩
    · exact same
  | false =>
  cases Nat.beq h.1 63 with
  | true =>
    cases Nat.beq h.2.1 0 with
    | true =>
      obtain ⟨s', e1, e2⟩ := h63_ok mck ho
      exact ⟨s', ρ, e1, Pre.rf, e2⟩
    | false =>
      obtain ⟨s', e1, e2⟩ := h63_ok mck2 ho
      exact ⟨s', ρ, e1, Pre.rf, e2⟩
  | false =>
  cases Nat.beq h.1 64 with
  | true =>
    obtain ⟨s', e1, e2⟩ := h64_ok mcn ho
    exact ⟨s', ρ, e1, Pre.rf, e2⟩
  | false =>
  cases Nat.beq h.1 70 with
  | true =>
    show ∃ s' ρ', (match lget f.lv h.2.1 with
    | some a => bif evk s a then some (h70 a h.2.2 s) else some s
    | none => some s) = some s' ∧ Pre ρ ρ' ∧ Ok JJ s' ρ' σ
    split
    · rename_i a _
      cases hv : evk s a with
      | false => exact same
      | true =>
        obtain ⟨z, hz⟩ := evk_ok ho hv
        exact ⟨_, ρ, rfl, Pre.rf, h70_ok pHb hz ho⟩
    · exact same
  | false =>
  cases Nat.beq h.1 71 with
  | true =>
    show ∃ s' ρ', (match lget f.lv h.2.1 with
    | some a => bif evk s a && leAV s (.c 0) a then some (h71 125 128 a s) else some s
    | none => some s) = some s' ∧ Pre ρ ρ' ∧ Ok JJ s' ρ' σ
    split
    · rename_i a _
      cases hv : evk s a && leAV s (.c 0) a with
      | false => exact same
      | true =>
        rw [Bool.and_eq_true] at hv
        obtain ⟨z, hz0⟩ := evk_ok ho hv.1
        have g := leAV_ok ho hv.2 (x := 0) rfl hz0
        have hz : ev ρ a = some ((z.toNat : Nat) : Int) := hz0.trans (congrArg some (by omega))
        exact ⟨_, ρ, rfl, Pre.rf, h71_ok pHb hz ho⟩
    · exact same
  | false =>
  cases Nat.beq h.1 72 with
  | true =>
    show ∃ s' ρ', (match lget f.lv h.2.1 with
    | some a => bif evk s a && leAV s (.c 0) a then some (h72 125 128 a s) else some s
    | none => some s) = some s' ∧ Pre ρ ρ' ∧ Ok JJ s' ρ' σ
    split
    · rename_i a _
      cases hv : evk s a && leAV s (.c 0) a with
      | false => exact same
      | true =>
        rw [Bool.and_eq_true] at hv
        obtain ⟨z, hz0⟩ := evk_ok ho hv.1
        have g := leAV_ok ho hv.2 (x := 0) rfl hz0
        have hz : ev ρ a = some ((z.toNat : Nat) : Int) := hz0.trans (congrArg some (by omega))
        exact ⟨_, ρ, rfl, Pre.rf, h72_ok pHb hz ho⟩
    · exact same
  | false =>
  exact same
theorem hxg_7_ok {h : Nat × (Nat × Nat)} {f : Fm} {s : Sy} {ρ : List Int} {σ : zS} (ho : Ok JJ s ρ σ) : ∃ s' ρ', hxg_7 h f s = some s' ∧ Pre ρ ρ' ∧ Ok JJ s' ρ' σ := by
  have same : ∃ s' ρ', some s = some s' ∧ Pre ρ ρ' ∧ Ok JJ s' ρ' σ := ⟨s, ρ, rfl, Pre.rf, ho⟩
  unfold hxg_7
  cases Nat.beq h.1 73 with
  | true =>
    show ∃ s' ρ', (match lget f.lv h.2.1 with
    | some a => bif evk s a && leAV s (.c 0) a then h73 125 128 a s else some s
    | none => some s) = some s' ∧ Pre ρ ρ' ∧ Ok JJ s' ρ' σ
    split
    · rename_i a _
      cases hv : evk s a && leAV s (.c 0) a with
      | false => exact same
      | true =>
        rw [Bool.and_eq_true] at hv
        obtain ⟨z, hz0⟩ := evk_ok ho hv.1
        have g := leAV_ok ho hv.2 (x := 0) rfl hz0
        have hz : ev ρ a = some ((z.toNat : Nat) : Int) := hz0.trans (congrArg some (by omega))
        obtain ⟨s', e1, e2⟩ := h73_ok mcb hz ho
        exact ⟨s', ρ, e1, Pre.rf, e2⟩
    · exact same
  | false =>
  cases Nat.beq h.1 74 with
  | true =>
    obtain ⟨s', e1, e2⟩ := h74_ok mcb ho
    exact ⟨s', ρ, e1, Pre.rf, e2⟩
  | false =>
  cases Nat.beq h.1 75 with
  | true =>
    exact ⟨_, ρ, rfl, Pre.rf, h75_ok pHb ho⟩
  | false =>
  cases Nat.beq h.1 76 with
  | true =>
    exact ⟨_, ρ, rfl, Pre.rf, h76_ok pHb ho⟩
  | false =>
  cases Nat.beq h.1 80 with
  | true =>
    show ∃ s' ρ', (match f.st with
    | a :: _ => bif evk s a then some (h80 110 26 a s) else some s
    | [] => some s) = some s' ∧ Pre ρ ρ' ∧ Ok JJ s' ρ' σ
    split
    · rename_i a _ _
      cases hv : evk s a with
      | false => exact same
      | true =>
        obtain ⟨z, hz⟩ := evk_ok ho hv
        obtain ⟨ρ', e1, e2⟩ := h80_ok TJ_wf CS_ok mct (fun c q t ht e => uT c q t (by omega) (by omega) e) hz ho
        exact ⟨_, ρ', rfl, e1, e2⟩
    · exact same
  | false =>
  cases Nat.beq h.1 81 with
  | true =>
    obtain ⟨s', e1, e2⟩ := h81_ok mct ho
    exact ⟨s', ρ, e1, Pre.rf, e2⟩
  | false =>
  cases Nat.beq h.1 82 with
  | true =>
    obtain ⟨s', e1, e2⟩ := h82_ok mct (fun hb hn => hP0 hb hn) ho
    exact ⟨s', ρ, e1, Pre.rf, e2⟩
  | false =>
  exact same
theorem hxg_8_ok {h : Nat × (Nat × Nat)} {f : Fm} {s : Sy} {ρ : List Int} {σ : zS} (ho : Ok JJ s ρ σ) : ∃ s' ρ', hxg_8 h f s = some s' ∧ Pre ρ ρ' ∧ Ok JJ s' ρ' σ := by
  have same : ∃ s' ρ', some s = some s' ∧ Pre ρ ρ' ∧ Ok JJ s' ρ' σ := ⟨s, ρ, rfl, Pre.rf, ho⟩
  unfold hxg_8
  cases Nat.beq h.1 83 with
  | true =>
    show ∃ s' ρ', (match f.st with
    | a :: _ => bif evk s a then some (h83 a s) else some s
    | [] => some s) = some s' ∧ Pre ρ ρ' ∧ Ok JJ s' ρ' σ
    split
    · rename_i a _ _
      cases hv : evk s a with
      | false => exact same
      | true =>
        obtain ⟨z, hz⟩ := evk_ok ho hv
        exact ⟨_, ρ, rfl, Pre.rf, h83_ok pHo hz ho⟩
    · exact same
  | false =>
  cases Nat.beq h.1 84 with
  | true =>
    show ∃ s' ρ', (match f.st with
    | a :: _ => bif evk s a then some (h84 125 a s) else some s
    | [] => some s) = some s' ∧ Pre ρ ρ' ∧ Ok JJ s' ρ' σ
    split
    · rename_i a _ _
      cases hv : evk s a with
      | false => exact same
      | true =>
        obtain ⟨z, hz⟩ := evk_ok ho hv
        exact ⟨_, ρ, rfl, Pre.rf, h84_ok pHo hz ho⟩
    · exact same
  | false =>
  cases Nat.beq h.1 85 with
  | true =>
    exact ⟨_, ρ, rfl, Pre.rf, h85_ok pHo ho⟩
  | false =>
  cases Nat.beq h.1 86 with
  | true =>
    exact ⟨_, ρ, rfl, Pre.rf, h86_ok pHo mct ho⟩
  | false =>
  cases Nat.beq h.1 87 with
  | true =>
    show ∃ s' ρ', (match f.st with
    | a :: _ => bif evk s a then some (h87 125 a s) else some s
    | [] => some s) = some s' ∧ Pre ρ ρ' ∧ Ok JJ s' ρ' σ
    split
    · rename_i a _ _
      cases hv : evk s a with
      | false => exact same
      | true =>
        obtain ⟨z, hz⟩ := evk_ok ho hv
        exact ⟨_, ρ, rfl, Pre.rf, h87_ok pHo hz ho⟩
    · exact same
  | false =>
  cases Nat.beq h.1 88 with
  | true =>
    show ∃ s' ρ', (match f.st with
    | a :: _ => bif evk s a then some (h88 125 a s) else some s
    | [] => some s) = some s' ∧ Pre ρ ρ' ∧ Ok JJ s' ρ' σ
    split
    · rename_i a _ _
      cases hv : evk s a with
      | false => exact same
      | true =>
        obtain ⟨z, hz⟩ := evk_ok ho hv
        exact ⟨_, ρ, rfl, Pre.rf, h88_ok pHo hz ho⟩
    · exact same
  | false =>
  cases Nat.beq h.1 89 with
  | true =>
    obtain ⟨s', e1, e2⟩ := h89_ok mco ho
    exact ⟨s', ρ, e1, Pre.rf, e2⟩
  | false =>
  exact same
theorem hxg_9_ok {h : Nat × (Nat × Nat)} {f : Fm} {s : Sy} {ρ : List Int} {σ : zS} (ho : Ok JJ s ρ σ) : ∃ s' ρ', hxg_9 h f s = some s' ∧ Pre ρ ρ' ∧ Ok JJ s' ρ' σ := by
  have same : ∃ s' ρ', some s = some s' ∧ Pre ρ ρ' ∧ Ok JJ s' ρ' σ := ⟨s, ρ, rfl, Pre.rf, ho⟩
  unfold hxg_9
  cases Nat.beq h.1 90 with
  | true =>
    obtain ⟨s', e1, e2⟩ := h90_ok mco ho
    exact ⟨s', ρ, e1, Pre.rf, e2⟩
  | false =>
  cases Nat.beq h.1 92 with
  | true =>
    exact ⟨_, ρ, rfl, Pre.rf, h92_ok pHo ho⟩
  | false =>
  cases Nat.beq h.1 150 with
  | true =>
    obtain ⟨s', e1, e2⟩ := h150_ok mcv ho
    exact ⟨s', ρ, e1, Pre.rf, e2⟩
  | false =>
  cases Nat.ble 300 h.1 with
  | true =>
    show ∃ s' ρ', (match RGT.get h.1 with
      | some R => ruA RWg R (f.lv, (f.st, (.c 0, .c 0))) s
      | none => some s) = some s' ∧ Pre ρ ρ' ∧ Ok JJ s' ρ' σ
    split
    · rename_i R hR
      obtain ⟨q1, q2⟩ := RGT_ok.at hR
      exact ruA_ok pHR q1 q2 rfl ho
    · exact same
  | false =>
  exact same
theorem GX_H : HOk GX JJ := by
  intro h f s ρ σ ho
  show ∃ s' ρ', hxT h f s = some s' ∧ Pre ρ ρ' ∧ Ok JJ s' ρ' σ
  unfold hxT
  cases Nat.ble h.1 16 with
  | true => rw [cond_true]; exact hxg_0_ok ho
  | false =>
  rw [cond_false]
  cases Nat.ble h.1 25 with
  | true => rw [cond_true]; exact hxg_1_ok ho
  | false =>
  rw [cond_false]
  cases Nat.ble h.1 35 with
  | true => rw [cond_true]; exact hxg_2_ok ho
  | false =>
  rw [cond_false]
  cases Nat.ble h.1 42 with
  | true => rw [cond_true]; exact hxg_3_ok ho
  | false =>
  rw [cond_false]
  cases Nat.ble h.1 52 with
  | true => rw [cond_true]; exact hxg_4_ok ho
  | false =>
  rw [cond_false]
  cases Nat.ble h.1 60 with
  | true => rw [cond_true]; exact hxg_5_ok ho
  | false =>
  rw [cond_false]
  cases Nat.ble h.1 72 with
  | true => rw [cond_true]; exact hxg_6_ok ho
  | false =>
  rw [cond_false]
  cases Nat.ble h.1 82 with
  | true => rw [cond_true]; exact hxg_7_ok ho
  | false =>
  rw [cond_false]
  cases Nat.ble h.1 89 with
  | true => rw [cond_true]; exact hxg_8_ok ho
  | false =>
  rw [cond_false]
  exact hxg_9_ok ho
theorem low_nil {H : List (Nat × Int)} (hb : ∀ e ∈ H, 100 ≤ e.1 ∧ e.1 < 330) {r : Nat} (hr : r < 100 ∨ 330 ≤ r) : lk H r = none := by
  cases h : lk H r with
  | none => rfl
  | some x => have := hb _ (lk_mem h); dsimp only at this; omega
theorem nil_S {H : List (Nat × Int)} {σ : zS} (hb : ∀ e ∈ H, 100 ≤ e.1 ∧ e.1 < 330) : ∀ c ∈ CS, c.S H σ → c.S [] σ := by
  intro c hc hS
  rcases List.mem_cons.mp hc with rfl | hc
  · intro z hz; cases hz
  rcases List.mem_cons.mp hc with rfl | hc
  · intro z hz; cases hz
  rcases List.mem_cons.mp hc with rfl | hc
  · intro z hz; cases hz
  rcases List.mem_cons.mp hc with rfl | hc
  · exact hS
  rcases List.mem_cons.mp hc with rfl | hc
  · exact (CS_ok _ mcg).dep H [] σ σ (fun u hu => by
    have hu : (Nat.beq u 330 || Nat.beq u 331) = true := hu
    rw [Bool.or_eq_true] at hu
    rcases hu with hu | hu <;> rw [Nat.eq_of_beq_eq_true hu, low_nil hb (by decide)] <;> rfl) (fun _ _ => rfl) hS
  rcases List.mem_cons.mp hc with rfl | hc
  · obtain ⟨s1, s2, s3, s4, s5⟩ := (hS : tS 125 110 20 26 H σ)
    exact ⟨fun h0 => (by obtain ⟨r, a1, _⟩ := s1 h0; exact ⟨r, a1, fun x n a => (by cases a)⟩), s2, fun _ => s3 (low_nil hb (by decide)), s4, fun q t x a => (by cases a)⟩
  rcases List.mem_cons.mp hc with rfl | hc
  · obtain ⟨s0, sz, s8, s7, s5, s6⟩ := (hS : qS QQ H σ)
    exact ⟨s0, fun _ => sz (low_nil hb (by decide)), fun P q => (by cases q), fun f e h w B N P q => (by cases q), fun r q => (by cases q), fun k t h q => (by cases q)⟩
  rcases List.mem_cons.mp hc with rfl | hc
  · exact ⟨fun T q => (by cases q), fun T z q => (by cases q)⟩
  rcases List.mem_cons.mp hc with rfl | hc
  · exact (CS_ok _ mce).dep H [] σ σ (fun u hu => by
    have hu := etg_rg hu
    rw [low_nil hb (Or.inr (by omega))]
    rfl) (fun _ _ => rfl) hS
  rcases List.mem_cons.mp hc with rfl | hc
  · exact (CS_ok _ mcl).dep H [] σ σ (fun u hu => by
    have hu := ltg_rg hu
    rw [low_nil hb (Or.inr (by omega))]
    rfl) (fun _ _ => rfl) hS
  rcases List.mem_cons.mp hc with rfl | hc
  · exact hS
  rcases List.mem_cons.mp hc with rfl | hc
  · exact hS
  rcases List.mem_cons.mp hc with rfl | hc
  · exact (CS_ok _ mcb).dep H [] σ σ (fun u hu => by
    have hu := btg_rg hu
    rw [low_nil hb (Or.inr (by omega))]
    rfl) (fun _ _ => rfl) hS
  rcases List.mem_cons.mp hc with rfl | hc
  · exact (CS_ok _ mco).dep H [] σ σ (fun u hu => by
    have hu := otg_rg hu
    rw [low_nil hb (Or.inr (by omega))]
    rfl) (fun _ _ => rfl) hS
  rcases List.mem_cons.mp hc with rfl | hc
  · exact hS
  rcases List.mem_cons.mp hc with rfl | hc
  · exact (CS_ok _ mcv).dep H [] σ σ (fun u hu => by
    have hu := vtg_rg hu
    rw [low_nil hb (Or.inr (by omega))]
    rfl) (fun _ _ => rfl) hS
  rcases List.mem_cons.mp hc with rfl | hc
  · exact (CS_ok _ mcR).dep H [] σ σ (fun u hu => by
    have hu := rtg_rg hu
    rw [low_nil hb (Or.inr (by omega))]
    rfl) (fun _ _ => rfl) hS
  rcases List.mem_cons.mp hc with rfl | hc
  · exact hS
  · cases hc
theorem ctF {H : List (Nat × Int)} {σ σ' : zS} (hb : ∀ e ∈ H, 100 ≤ e.1 ∧ e.1 < 330) (hJ : JJ H σ) (hJ' : JJ [] σ') (hr : ∀ e ∈ H, ∀ k, trT e.1 k = true → σ'.1 k = σ.1 k ∧ σ'.2 k = σ.2 k) : (ctr 125 110 20 26).S H σ' := by
  by_cases h : ∀ t, 300 ≤ t → t ≤ 304 → lk H t = none
  · refine (CS_ok _ mct).dep [] H σ' σ' (fun u hu => ?_) (fun _ _ => rfl) (hJ'.2.2 _ mct)
    have hu : ((Nat.ble 300 u && Nat.ble u 304) || Nat.beq u 340) = true := hu
    rw [Bool.or_eq_true, Bool.and_eq_true] at hu
    rcases hu with ⟨u1, u2⟩ | u1
    · rw [h u (Nat.le_of_ble_eq_true u1) (Nat.le_of_ble_eq_true u2)]; rfl
    · rw [Nat.eq_of_beq_eq_true u1, low_nil hb (by decide)]; rfl
  · have hx : ∃ t z, 300 ≤ t ∧ t ≤ 304 ∧ lk H t = some z := Classical.byContradiction fun hn => h fun t h1 h2 => by
      cases hl : lk H t with
      | none => rfl
      | some z => exact absurd ⟨t, z, h1, h2, hl⟩ hn
    obtain ⟨t, z, h1, h2, hl⟩ := hx
    have rk9 := hr _ (lk_mem hl) 125 (by
      show trT t 125 = true
      unfold trT
      rw [Nat.ble_eq_true_of_le h1, Nat.ble_eq_true_of_le h2]
      simp)
    replace rk9 := rk9.1
    have rp : Pp σ' 125 = Pp σ 125 := by funext y; show (σ'.1 125 y).toInt = _; rw [rk9]
    obtain ⟨s1, s2, s3, s4, s5⟩ := (hJ.2.2 _ mct : tS 125 110 20 26 H σ)
    obtain ⟨t1, t2, t3, t4, t5⟩ := (hJ'.2.2 _ mct : tS 125 110 20 26 [] σ')
    exact ⟨by rw [rp]; exact s1, t2, fun _ => t3 rfl, t4, by rw [rp]; exact s5⟩
theorem Pp_eq {σ σ' : zS} {k : Nat} (h : σ'.1 k = σ.1 k) : Pp σ' k = Pp σ k := by
  funext y
  show (σ'.1 k y).toInt = _
  rw [h]
theorem crF {H : List (Nat × Int)} {σ σ' : zS} (hb : ∀ e ∈ H, 100 ≤ e.1 ∧ e.1 < 330) (hJ : JJ H σ) (hJ' : JJ [] σ') (hr : ∀ e ∈ H, ∀ k, trT e.1 k = true → σ'.1 k = σ.1 k ∧ σ'.2 k = σ.2 k) : (cr QQ).S H σ' := by
  obtain ⟨s0, sz, s8, s7, s5, s6⟩ := (hJ.2.2 _ mcr : qS QQ H σ)
  obtain ⟨t0, tz, _, _, _, _⟩ := (hJ'.2.2 _ mcr : qS QQ [] σ')
  refine ⟨t0, fun _ => tz rfl, fun P q => ?_, fun f e h w B N P q1 q2 q3 q4 q5 q6 q7 => ?_, fun r q => ?_, fun k t h q1 q2 q3 => ?_⟩
  · rw [low_nil hb (by decide)] at q
    cases q
  · have m := lk_mem q1
    rw [Pp_eq (k := QQ.c) (hr _ m _ rfl).1, Pp_eq (k := QQ.s) (hr _ m _ rfl).1, Pp_eq (k := QQ.e) (hr _ m _ rfl).1, Pp_eq (k := QQ.w) (hr _ m _ rfl).1]
    exact s7 f e h w B N P q1 q2 q3 q4 q5 q6 q7
  · have m := lk_mem q
    rw [Pp_eq (k := QQ.c) (hr _ m _ rfl).1, Pp_eq (k := QQ.s) (hr _ m _ rfl).1, Pp_eq (k := QQ.e) (hr _ m _ rfl).1]
    exact s5 r q
  · have m := lk_mem q1
    rw [Pp_eq (k := QQ.c) (hr _ m _ rfl).1]
    exact s6 k t h q1 q2 q3
theorem cuF {H : List (Nat × Int)} {σ σ' : zS} (hJ : JJ H σ) (hr : ∀ e ∈ H, ∀ k, trT e.1 k = true → σ'.1 k = σ.1 k ∧ σ'.2 k = σ.2 k) : (cu 24 25 26).S H σ' := by
  obtain ⟨s1, s2⟩ := (hJ.2.2 _ mcu : uS 24 25 26 H σ)
  refine ⟨fun T q i hi => ?_, fun T z q hz i hi => ?_⟩
  · have m := lk_mem q
    have := s1 T q i hi
    unfold uN at this ⊢
    rw [(hr _ m 25 rfl).1, (hr _ m 24 rfl).1, (hr _ m 26 rfl).2]
    exact this
  · have m := lk_mem q
    have := s2 T z q hz i hi
    unfold uN at this ⊢
    rw [(hr _ m 25 rfl).1, (hr _ m 24 rfl).1, (hr _ m 26 rfl).2]
    exact this
theorem GX_F : JFr GX JJ := by
  refine ⟨fun H σ hb hJ => ⟨hJ.1, fun r R hr j hj _ => hJ.2.1 r R hr j hj (by rw [low_nil hb (Or.inl (wf_row TJ_wf hr).1)]; intro q; cases q), fun c q => nil_S hb c q (hJ.2.2 c q)⟩, fun H σ σ' hb hJ hJ' hr => ⟨hJ'.1, fun r R hr j hj _ => hJ'.2.1 r R hr j hj (by intro q; cases q), ?_⟩, ?_⟩
  · have one : ∀ c ∈ CS, ∀ t k : Nat, (∀ u, c.tg u = Nat.beq u t) → (∀ u, c.rw u = Nat.beq u k) → (∀ u, c.lr u = false) → trT t k = true → c.S H σ' := by
      intro c q t k h1 h2 h4 h3
      cases hl : lk H t with
      | none => exact (CS_ok c q).dep [] H σ' σ' (fun u hu => by rw [h1] at hu; rw [Nat.eq_of_beq_eq_true hu, hl]; rfl) (fun _ _ => rfl) (hJ'.2.2 c q)
      | some x => exact (CS_ok c q).dep H H σ σ' (fun _ _ => rfl) (fun u hu => by rw [h2] at hu; rw [Nat.eq_of_beq_eq_true hu]; exact (hr _ (lk_mem hl) k h3).1) (hJ.2.2 c q) (fun u hu => by rw [h4] at hu; cases hu)
    intro c hc0
    have hc := hc0
    rcases List.mem_cons.mp hc with rfl | hc
    · exact one _ hc0 310 120 (fun _ => rfl) (fun _ => rfl) (fun _ => rfl) rfl
    rcases List.mem_cons.mp hc with rfl | hc
    · exact one _ hc0 311 201 (fun _ => rfl) (fun _ => rfl) (fun _ => rfl) rfl
    rcases List.mem_cons.mp hc with rfl | hc
    · exact one _ hc0 320 196 (fun _ => rfl) (fun _ => rfl) (fun _ => rfl) rfl
    rcases List.mem_cons.mp hc with rfl | hc
    · exact hJ'.2.2 _ mcf
    rcases List.mem_cons.mp hc with rfl | hc
    · exact (CS_ok _ mcg).dep [] H σ' σ' (fun u hu => by
        have hu : (Nat.beq u 330 || Nat.beq u 331) = true := hu
        rw [Bool.or_eq_true] at hu
        rcases hu with hu | hu <;> rw [Nat.eq_of_beq_eq_true hu, low_nil hb (by decide)] <;> rfl) (fun _ _ => rfl) (hJ'.2.2 _ mcg)
    rcases List.mem_cons.mp hc with rfl | hc
    · exact ctF hb hJ hJ' hr
    rcases List.mem_cons.mp hc with rfl | hc
    · exact crF hb hJ hJ' hr
    rcases List.mem_cons.mp hc with rfl | hc
    · exact cuF hJ hr
    rcases List.mem_cons.mp hc with rfl | hc
    · exact (CS_ok _ mce).dep [] H σ' σ' (fun u hu => by
        have hu := etg_rg hu
        rw [low_nil hb (Or.inr (by omega))]
        rfl) (fun _ _ => rfl) (hJ'.2.2 _ mce)
    rcases List.mem_cons.mp hc with rfl | hc
    · exact (CS_ok _ mcl).dep [] H σ' σ' (fun u hu => by
        have hu := ltg_rg hu
        rw [low_nil hb (Or.inr (by omega))]
        rfl) (fun _ _ => rfl) (hJ'.2.2 _ mcl)
    rcases List.mem_cons.mp hc with rfl | hc
    · exact hJ'.2.2 _ mck
    rcases List.mem_cons.mp hc with rfl | hc
    · exact hJ'.2.2 _ mcn
    rcases List.mem_cons.mp hc with rfl | hc
    · exact (CS_ok _ mcb).dep [] H σ' σ' (fun u hu => by
        have hu := btg_rg hu
        rw [low_nil hb (Or.inr (by omega))]
        rfl) (fun _ _ => rfl) (hJ'.2.2 _ mcb)
    rcases List.mem_cons.mp hc with rfl | hc
    · exact (CS_ok _ mco).dep [] H σ' σ' (fun u hu => by
        have hu := otg_rg hu
        rw [low_nil hb (Or.inr (by omega))]
        rfl) (fun _ _ => rfl) (hJ'.2.2 _ mco)
    rcases List.mem_cons.mp hc with rfl | hc
    · exact hJ'.2.2 _ mck2
    rcases List.mem_cons.mp hc with rfl | hc
    · exact (CS_ok _ mcv).dep [] H σ' σ' (fun u hu => by
        have hu := vtg_rg hu
        rw [low_nil hb (Or.inr (by omega))]
        rfl) (fun _ _ => rfl) (hJ'.2.2 _ mcv)
    rcases List.mem_cons.mp hc with rfl | hc
    · exact (CS_ok _ mcR).dep [] H σ' σ' (fun u hu => by
        have hu := rtg_rg hu
        rw [low_nil hb (Or.inr (by omega))]
        rfl) (fun _ _ => rfl) (hJ'.2.2 _ mcR)
    rcases List.mem_cons.mp hc with rfl | hc
    · exact hJ'.2.2 _ mcJ
    · cases hc
  · intro t k h
    have h : trT t k = true := h
    unfold trT at h
    simp only [Bool.or_eq_true, Bool.and_eq_true] at h
    rcases h with ⟨_, h⟩ | ⟨_, h⟩ | ⟨_, h⟩ | ⟨_, h⟩ | ⟨_, h⟩ | ⟨_, h⟩
    · rw [Nat.eq_of_beq_eq_true h]; decide +kernel
    · rw [Nat.eq_of_beq_eq_true h]; decide +kernel
    · rw [Nat.eq_of_beq_eq_true h]; decide +kernel
    · rw [Nat.eq_of_beq_eq_true h]; decide +kernel
    · rcases h with h | h | h | h <;> rw [Nat.eq_of_beq_eq_true h] <;> decide +kernel
    · rcases h with h | h | h <;> rw [Nat.eq_of_beq_eq_true h] <;> decide +kernel
theorem GX_G : GxOk Yf GX := G_ok _ _ _ _
end
