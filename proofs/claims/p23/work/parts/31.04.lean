theorem ke_H_statement : chkE GX 3000 224 ct_H_statement = true := by decide +kernel
theorem kk_H_statement : Chk GX 3000 224 ct_H_statement := ⟨ke_H_statement, fun pc as h => (show BT.AllP (fun pc as => ∀ a ∈ as, chkA GX 3000 224 ct_H_statement pc a = true) ct_H_statement.cut from trivial).at h⟩
theorem ke_H_erase : chkE GX 3000 225 ct_H_erase = true := by decide +kernel
theorem kk_H_erase : Chk GX 3000 225 ct_H_erase := ⟨ke_H_erase, fun pc as h => (show BT.AllP (fun pc as => ∀ a ∈ as, chkA GX 3000 225 ct_H_erase pc a = true) ct_H_erase.cut from trivial).at h⟩
theorem ke_Fl_isTight : chkE GX 3000 227 ct_Fl_isTight = true := by decide +kernel
theorem ka_Fl_isTight_6_0 : chkA GX 3000 227 ct_Fl_isTight 6 ca_Fl_isTight_6_0 = true := by decide +kernel
theorem kk_Fl_isTight : Chk GX 3000 227 ct_Fl_isTight := ⟨ke_Fl_isTight, fun pc as h => (show BT.AllP (fun pc as => ∀ a ∈ as, chkA GX 3000 227 ct_Fl_isTight pc a = true) ct_Fl_isTight.cut from ⟨⟨List.forall_mem_cons.mpr ⟨ka_Fl_isTight_6_0, fun a ha => by cases ha⟩, trivial⟩, trivial⟩).at h⟩
theorem ke_Fl_firstLoose : chkE GX 3000 228 ct_Fl_firstLoose = true := by decide +kernel
theorem ka_Fl_firstLoose_2_0 : chkA GX 3000 228 ct_Fl_firstLoose 2 ca_Fl_firstLoose_2_0 = true := by decide +kernel
theorem kk_Fl_firstLoose : Chk GX 3000 228 ct_Fl_firstLoose := ⟨ke_Fl_firstLoose, fun pc as h => (show BT.AllP (fun pc as => ∀ a ∈ as, chkA GX 3000 228 ct_Fl_firstLoose pc a = true) ct_Fl_firstLoose.cut from ⟨⟨List.forall_mem_cons.mpr ⟨ka_Fl_firstLoose_2_0, fun a ha => by cases ha⟩, trivial⟩, trivial⟩).at h⟩
theorem ke_H_tight : chkE GX 3000 229 ct_H_tight = true := by decide +kernel
theorem kk_H_tight : Chk GX 3000 229 ct_H_tight := ⟨ke_H_tight, fun pc as h => (show BT.AllP (fun pc as => ∀ a ∈ as, chkA GX 3000 229 ct_H_tight pc a = true) ct_H_tight.cut from trivial).at h⟩
theorem ke_Fl_countLowers : chkE GX 3000 230 ct_Fl_countLowers = true := by decide +kernel
theorem ka_Fl_countLowers_4_0 : chkA GX 3000 230 ct_Fl_countLowers 4 ca_Fl_countLowers_4_0 = true := by decide +kernel
theorem kk_Fl_countLowers : Chk GX 3000 230 ct_Fl_countLowers := ⟨ke_Fl_countLowers, fun pc as h => (show BT.AllP (fun pc as => ∀ a ∈ as, chkA GX 3000 230 ct_Fl_countLowers pc a = true) ct_Fl_countLowers.cut from ⟨⟨List.forall_mem_cons.mpr ⟨ka_Fl_countLowers_4_0, fun a ha => by cases ha⟩, trivial⟩, trivial⟩).at h⟩
theorem ke_H_lowered : chkE GX 3000 231 ct_H_lowered = true := by decide +kernel
theorem kk_H_lowered : Chk GX 3000 231 ct_H_lowered := ⟨ke_H_lowered, fun pc as h => (show BT.AllP (fun pc as => ∀ a ∈ as, chkA GX 3000 231 ct_H_lowered pc a = true) ct_H_lowered.cut from trivial).at h⟩
theorem ke_H_given : chkE GX 3000 232 ct_H_given = true := by decide +kernel
theorem kk_H_given : Chk GX 3000 232 ct_H_given := ⟨ke_H_given, fun pc as h => (show BT.AllP (fun pc as => ∀ a ∈ as, chkA GX 3000 232 ct_H_given pc a = true) ct_H_given.cut from trivial).at h⟩
theorem ke_Fl_runOne : chkE GX 3000 236 ct_Fl_runOne = true := by decide +kernel
theorem kk_Fl_runOne : Chk GX 3000 236 ct_Fl_runOne := ⟨ke_Fl_runOne, fun pc as h => (show BT.AllP (fun pc as => ∀ a ∈ as, chkA GX 3000 236 ct_Fl_runOne pc a = true) ct_Fl_runOne.cut from trivial).at h⟩
theorem ke_Fl_run : chkE GX 3000 237 ct_Fl_run = true := by decide +kernel
theorem ka_Fl_run_2_0 : chkA GX 3000 237 ct_Fl_run 2 ca_Fl_run_2_0 = true := by decide +kernel
theorem ka_Fl_run_28_0 : chkA GX 3000 237 ct_Fl_run 28 ca_Fl_run_28_0 = true := by decide +kernel
theorem ka_Fl_run_55_0 : chkA GX 3000 237 ct_Fl_run 55 ca_Fl_run_55_0 = true := by decide +kernel
theorem kk_Fl_run : Chk GX 3000 237 ct_Fl_run := ⟨ke_Fl_run, fun pc as h => (show BT.AllP (fun pc as => ∀ a ∈ as, chkA GX 3000 237 ct_Fl_run pc a = true) ct_Fl_run.cut from ⟨⟨List.forall_mem_cons.mpr ⟨ka_Fl_run_2_0, fun a ha => by cases ha⟩, trivial⟩, ⟨List.forall_mem_cons.mpr ⟨ka_Fl_run_28_0, fun a ha => by cases ha⟩, trivial⟩, ⟨List.forall_mem_cons.mpr ⟨ka_Fl_run_55_0, fun a ha => by cases ha⟩, trivial⟩, trivial⟩).at h⟩
theorem ke_H_flow : chkE GX 3000 238 ct_H_flow = true := by decide +kernel
theorem kk_H_flow : Chk GX 3000 238 ct_H_flow := ⟨ke_H_flow, fun pc as h => (show BT.AllP (fun pc as => ∀ a ∈ as, chkA GX 3000 238 ct_H_flow pc a = true) ct_H_flow.cut from trivial).at h⟩
theorem ke_H_said : chkE GX 3000 239 ct_H_said = true := by decide +kernel
theorem kk_H_said : Chk GX 3000 239 ct_H_said := ⟨ke_H_said, fun pc as h => (show BT.AllP (fun pc as => ∀ a ∈ as, chkA GX 3000 239 ct_H_said pc a = true) ct_H_said.cut from trivial).at h⟩
theorem ke_H_variable : chkE GX 3000 240 ct_H_variable = true := by decide +kernel
theorem kk_H_variable : Chk GX 3000 240 ct_H_variable := ⟨ke_H_variable, fun pc as h => (show BT.AllP (fun pc as => ∀ a ∈ as, chkA GX 3000 240 ct_H_variable pc a = true) ct_H_variable.cut from trivial).at h⟩
theorem ke_H_guarded : chkE GX 3000 242 ct_H_guarded = true := by decide +kernel
theorem kk_H_guarded : Chk GX 3000 242 ct_H_guarded := ⟨ke_H_guarded, fun pc as h => (show BT.AllP (fun pc as => ∀ a ∈ as, chkA GX 3000 242 ct_H_guarded pc a = true) ct_H_guarded.cut from trivial).at h⟩
theorem ke_Gu_wasTold : chkE GX 3000 243 ct_Gu_wasTold = true := by decide +kernel
theorem ka_Gu_wasTold_2_0 : chkA GX 3000 243 ct_Gu_wasTold 2 ca_Gu_wasTold_2_0 = true := by decide +kernel
theorem kk_Gu_wasTold : Chk GX 3000 243 ct_Gu_wasTold := ⟨ke_Gu_wasTold, fun pc as h => (show BT.AllP (fun pc as => ∀ a ∈ as, chkA GX 3000 243 ct_Gu_wasTold pc a = true) ct_Gu_wasTold.cut from ⟨⟨List.forall_mem_cons.mpr ⟨ka_Gu_wasTold_2_0, fun a ha => by cases ha⟩, trivial⟩, trivial⟩).at h⟩
theorem ke_Gu_total : chkE GX 3000 244 ct_Gu_total = true := by decide +kernel
theorem ka_Gu_total_5_0 : chkA GX 3000 244 ct_Gu_total 5 ca_Gu_total_5_0 = true := by decide +kernel
theorem kk_Gu_total : Chk GX 3000 244 ct_Gu_total := ⟨ke_Gu_total, fun pc as h => (show BT.AllP (fun pc as => ∀ a ∈ as, chkA GX 3000 244 ct_Gu_total pc a = true) ct_Gu_total.cut from ⟨⟨List.forall_mem_cons.mpr ⟨ka_Gu_total_5_0, fun a ha => by cases ha⟩, trivial⟩, trivial⟩).at h⟩
theorem ke_Gu_reduce : chkE GX 3000 245 ct_Gu_reduce = true := by decide +kernel
theorem ka_Gu_reduce_6_0 : chkA GX 3000 245 ct_Gu_reduce 6 ca_Gu_reduce_6_0 = true := by decide +kernel
theorem ka_Gu_reduce_26_0 : chkA GX 3000 245 ct_Gu_reduce 26 ca_Gu_reduce_26_0 = true := by decide +kernel
theorem kk_Gu_reduce : Chk GX 3000 245 ct_Gu_reduce := ⟨ke_Gu_reduce, fun pc as h => (show BT.AllP (fun pc as => ∀ a ∈ as, chkA GX 3000 245 ct_Gu_reduce pc a = true) ct_Gu_reduce.cut from ⟨⟨List.forall_mem_cons.mpr ⟨ka_Gu_reduce_6_0, fun a ha => by cases ha⟩, trivial⟩, ⟨List.forall_mem_cons.mpr ⟨ka_Gu_reduce_26_0, fun a ha => by cases ha⟩, trivial⟩, trivial⟩).at h⟩
theorem ke_Gu_addRow : chkE GX 3000 246 ct_Gu_addRow = true := by decide +kernel
theorem ka_Gu_addRow_33_0 : chkA GX 3000 246 ct_Gu_addRow 33 ca_Gu_addRow_33_0 = true := by decide +kernel
theorem ka_Gu_addRow_54_0 : chkA GX 3000 246 ct_Gu_addRow 54 ca_Gu_addRow_54_0 = true := by decide +kernel
theorem ka_Gu_addRow_116_0 : chkA GX 3000 246 ct_Gu_addRow 116 ca_Gu_addRow_116_0 = true := by decide +kernel
theorem kk_Gu_addRow : Chk GX 3000 246 ct_Gu_addRow := ⟨ke_Gu_addRow, fun pc as h => (show BT.AllP (fun pc as => ∀ a ∈ as, chkA GX 3000 246 ct_Gu_addRow pc a = true) ct_Gu_addRow.cut from ⟨⟨List.forall_mem_cons.mpr ⟨ka_Gu_addRow_33_0, fun a ha => by cases ha⟩, trivial⟩, ⟨List.forall_mem_cons.mpr ⟨ka_Gu_addRow_54_0, fun a ha => by cases ha⟩, trivial⟩, ⟨List.forall_mem_cons.mpr ⟨ka_Gu_addRow_116_0, fun a ha => by cases ha⟩, trivial⟩, trivial⟩).at h⟩
theorem ke_Gu_rankOf : chkE GX 3000 247 ct_Gu_rankOf = true := by decide +kernel
theorem ka_Gu_rankOf_12_0 : chkA GX 3000 247 ct_Gu_rankOf 12 ca_Gu_rankOf_12_0 = true := by decide +kernel
theorem ka_Gu_rankOf_28_0 : chkA GX 3000 247 ct_Gu_rankOf 28 ca_Gu_rankOf_28_0 = true := by decide +kernel
theorem kk_Gu_rankOf : Chk GX 3000 247 ct_Gu_rankOf := ⟨ke_Gu_rankOf, fun pc as h => (show BT.AllP (fun pc as => ∀ a ∈ as, chkA GX 3000 247 ct_Gu_rankOf pc a = true) ct_Gu_rankOf.cut from ⟨⟨List.forall_mem_cons.mpr ⟨ka_Gu_rankOf_12_0, fun a ha => by cases ha⟩, trivial⟩, ⟨List.forall_mem_cons.mpr ⟨ka_Gu_rankOf_28_0, fun a ha => by cases ha⟩, trivial⟩, trivial⟩).at h⟩
theorem ke_Gu_wouldReveal : chkE GX 3000 248 ct_Gu_wouldReveal = true := by decide +kernel
theorem ka_Gu_wouldReveal_13_0 : chkA GX 3000 248 ct_Gu_wouldReveal 13 ca_Gu_wouldReveal_13_0 = true := by decide +kernel
theorem ka_Gu_wouldReveal_27_0 : chkA GX 3000 248 ct_Gu_wouldReveal 27 ca_Gu_wouldReveal_27_0 = true := by decide +kernel
theorem kk_Gu_wouldReveal : Chk GX 3000 248 ct_Gu_wouldReveal := ⟨ke_Gu_wouldReveal, fun pc as h => (show BT.AllP (fun pc as => ∀ a ∈ as, chkA GX 3000 248 ct_Gu_wouldReveal pc a = true) ct_Gu_wouldReveal.cut from ⟨⟨List.forall_mem_cons.mpr ⟨ka_Gu_wouldReveal_13_0, fun a ha => by cases ha⟩, trivial⟩, ⟨List.forall_mem_cons.mpr ⟨ka_Gu_wouldReveal_27_0, fun a ha => by cases ha⟩, trivial⟩, trivial⟩).at h⟩
theorem ke_H_sum : chkE GX 3000 250 ct_H_sum = true := by decide +kernel
theorem kk_H_sum : Chk GX 3000 250 ct_H_sum := ⟨ke_H_sum, fun pc as h => (show BT.AllP (fun pc as => ∀ a ∈ as, chkA GX 3000 250 ct_H_sum pc a = true) ct_H_sum.cut from trivial).at h⟩
theorem ke_Gu_join : chkE GX 3000 251 ct_Gu_join = true := by decide +kernel
theorem ka_Gu_join_2_0 : chkA GX 3000 251 ct_Gu_join 2 ca_Gu_join_2_0 = true := by decide +kernel
theorem kk_Gu_join : Chk GX 3000 251 ct_Gu_join := ⟨ke_Gu_join, fun pc as h => (show BT.AllP (fun pc as => ∀ a ∈ as, chkA GX 3000 251 ct_Gu_join pc a = true) ct_Gu_join.cut from ⟨⟨List.forall_mem_cons.mpr ⟨ka_Gu_join_2_0, fun a ha => by cases ha⟩, trivial⟩, trivial⟩).at h⟩
theorem ke_H_share : chkE GX 3000 252 ct_H_share = true := by decide +kernel
theorem kk_H_share : Chk GX 3000 252 ct_H_share := ⟨ke_H_share, fun pc as h => (show BT.AllP (fun pc as => ∀ a ∈ as, chkA GX 3000 252 ct_H_share pc a = true) ct_H_share.cut from trivial).at h⟩
theorem ke_Gu_wasToldToAny : chkE GX 3000 253 ct_Gu_wasToldToAny = true := by decide +kernel
theorem ka_Gu_wasToldToAny_2_0 : chkA GX 3000 253 ct_Gu_wasToldToAny 2 ca_Gu_wasToldToAny_2_0 = true := by decide +kernel
theorem kk_Gu_wasToldToAny : Chk GX 3000 253 ct_Gu_wasToldToAny := ⟨ke_Gu_wasToldToAny, fun pc as h => (show BT.AllP (fun pc as => ∀ a ∈ as, chkA GX 3000 253 ct_Gu_wasToldToAny pc a = true) ct_Gu_wasToldToAny.cut from ⟨⟨List.forall_mem_cons.mpr ⟨ka_Gu_wasToldToAny_2_0, fun a ha => by cases ha⟩, trivial⟩, trivial⟩).at h⟩
theorem ke_Gu_countSets : chkE GX 3000 254 ct_Gu_countSets = true := by decide +kernel
theorem ka_Gu_countSets_4_0 : chkA GX 3000 254 ct_Gu_countSets 4 ca_Gu_countSets_4_0 = true := by decide +kernel
theorem ka_Gu_countSets_23_0 : chkA GX 3000 254 ct_Gu_countSets 23 ca_Gu_countSets_23_0 = true := by decide +kernel
theorem kk_Gu_countSets : Chk GX 3000 254 ct_Gu_countSets := ⟨ke_Gu_countSets, fun pc as h => (show BT.AllP (fun pc as => ∀ a ∈ as, chkA GX 3000 254 ct_Gu_countSets pc a = true) ct_Gu_countSets.cut from ⟨⟨List.forall_mem_cons.mpr ⟨ka_Gu_countSets_4_0, fun a ha => by cases ha⟩, trivial⟩, ⟨List.forall_mem_cons.mpr ⟨ka_Gu_countSets_23_0, fun a ha => by cases ha⟩, trivial⟩, trivial⟩).at h⟩
theorem ke_H_knows : chkE GX 3000 255 ct_H_knows = true := by decide +kernel
theorem kk_H_knows : Chk GX 3000 255 ct_H_knows := ⟨ke_H_knows, fun pc as h => (show BT.AllP (fun pc as => ∀ a ∈ as, chkA GX 3000 255 ct_H_knows pc a = true) ct_H_knows.cut from trivial).at h⟩
theorem ke_H_room : chkE GX 3000 258 ct_H_room = true := by decide +kernel
theorem kk_H_room : Chk GX 3000 258 ct_H_room := ⟨ke_H_room, fun pc as h => (show BT.AllP (fun pc as => ∀ a ∈ as, chkA GX 3000 258 ct_H_room pc a = true) ct_H_room.cut from trivial).at h⟩
theorem ke_H_method : chkE GX 3000 260 ct_H_method = true := by decide +kernel
theorem kk_H_method : Chk GX 3000 260 ct_H_method := ⟨ke_H_method, fun pc as h => (show BT.AllP (fun pc as => ∀ a ∈ as, chkA GX 3000 260 ct_H_method pc a = true) ct_H_method.cut from trivial).at h⟩
theorem ke_H_op : chkE GX 3000 263 ct_H_op = true := by decide +kernel
theorem kk_H_op : Chk GX 3000 263 ct_H_op := ⟨ke_H_op, fun pc as h => (show BT.AllP (fun pc as => ∀ a ∈ as, chkA GX 3000 263 ct_H_op pc a = true) ct_H_op.cut from trivial).at h⟩
theorem ke_Ga_lackingOf : chkE GX 3000 266 ct_Ga_lackingOf = true := by decide +kernel
theorem ka_Ga_lackingOf_7_0 : chkA GX 3000 266 ct_Ga_lackingOf 7 ca_Ga_lackingOf_7_0 = true := by decide +kernel
theorem kk_Ga_lackingOf : Chk GX 3000 266 ct_Ga_lackingOf := ⟨ke_Ga_lackingOf, fun pc as h => (show BT.AllP (fun pc as => ∀ a ∈ as, chkA GX 3000 266 ct_Ga_lackingOf pc a = true) ct_Ga_lackingOf.cut from ⟨⟨List.forall_mem_cons.mpr ⟨ka_Ga_lackingOf_7_0, fun a ha => by cases ha⟩, trivial⟩, trivial⟩).at h⟩
theorem ke_Ga_throwOut : chkE GX 3000 267 ct_Ga_throwOut = true := by decide +kernel
theorem ka_Ga_throwOut_61_0 : chkA GX 3000 267 ct_Ga_throwOut 61 ca_Ga_throwOut_61_0 = true := by decide +kernel
theorem ka_Ga_throwOut_61_1 : chkA GX 3000 267 ct_Ga_throwOut 61 ca_Ga_throwOut_61_1 = true := by decide +kernel
theorem ka_Ga_throwOut_61_2 : chkA GX 3000 267 ct_Ga_throwOut 61 ca_Ga_throwOut_61_2 = true := by decide +kernel
theorem kk_Ga_throwOut : Chk GX 3000 267 ct_Ga_throwOut := ⟨ke_Ga_throwOut, fun pc as h => (show BT.AllP (fun pc as => ∀ a ∈ as, chkA GX 3000 267 ct_Ga_throwOut pc a = true) ct_Ga_throwOut.cut from ⟨⟨List.forall_mem_cons.mpr ⟨ka_Ga_throwOut_61_0, List.forall_mem_cons.mpr ⟨ka_Ga_throwOut_61_1, List.forall_mem_cons.mpr ⟨ka_Ga_throwOut_61_2, fun a ha => by cases ha⟩⟩⟩, trivial⟩, trivial⟩).at h⟩
theorem ke_Ga_goOn : chkE GX 3000 269 ct_Ga_goOn = true := by decide +kernel
theorem kk_Ga_goOn : Chk GX 3000 269 ct_Ga_goOn := ⟨ke_Ga_goOn, fun pc as h => (show BT.AllP (fun pc as => ∀ a ∈ as, chkA GX 3000 269 ct_Ga_goOn pc a = true) ct_Ga_goOn.cut from trivial).at h⟩
theorem ke_Ga_run : chkE GX 3000 270 ct_Ga_run = true := by decide +kernel
theorem ka_Ga_run_2_0 : chkA GX 3000 270 ct_Ga_run 2 ca_Ga_run_2_0 = true := by decide +kernel
theorem ka_Ga_run_57_0 : chkA GX 3000 270 ct_Ga_run 57 ca_Ga_run_57_0 = true := by decide +kernel
theorem kk_Ga_run : Chk GX 3000 270 ct_Ga_run := ⟨ke_Ga_run, fun pc as h => (show BT.AllP (fun pc as => ∀ a ∈ as, chkA GX 3000 270 ct_Ga_run pc a = true) ct_Ga_run.cut from ⟨⟨List.forall_mem_cons.mpr ⟨ka_Ga_run_2_0, fun a ha => by cases ha⟩, trivial⟩, ⟨List.forall_mem_cons.mpr ⟨ka_Ga_run_57_0, fun a ha => by cases ha⟩, trivial⟩, trivial⟩).at h⟩
theorem ke_H_enter : chkE GX 3000 271 ct_H_enter = true := by decide +kernel
theorem kk_H_enter : Chk GX 3000 271 ct_H_enter := ⟨ke_H_enter, fun pc as h => (show BT.AllP (fun pc as => ∀ a ∈ as, chkA GX 3000 271 ct_H_enter pc a = true) ct_H_enter.cut from trivial).at h⟩
theorem ke_H_entered : chkE GX 3000 272 ct_H_entered = true := by decide +kernel
theorem kk_H_entered : Chk GX 3000 272 ct_H_entered := ⟨ke_H_entered, fun pc as h => (show BT.AllP (fun pc as => ∀ a ∈ as, chkA GX 3000 272 ct_H_entered pc a = true) ct_H_entered.cut from trivial).at h⟩
theorem ke_H_logged : chkE GX 3000 279 ct_H_logged = true := by decide +kernel
theorem kk_H_logged : Chk GX 3000 279 ct_H_logged := ⟨ke_H_logged, fun pc as h => (show BT.AllP (fun pc as => ∀ a ∈ as, chkA GX 3000 279 ct_H_logged pc a = true) ct_H_logged.cut from trivial).at h⟩
theorem ke_H_forge : chkE GX 3000 280 ct_H_forge = true := by decide +kernel
theorem kk_H_forge : Chk GX 3000 280 ct_H_forge := ⟨ke_H_forge, fun pc as h => (show BT.AllP (fun pc as => ∀ a ∈ as, chkA GX 3000 280 ct_H_forge pc a = true) ct_H_forge.cut from trivial).at h⟩
theorem ke_H_wrong : chkE GX 3000 281 ct_H_wrong = true := by decide +kernel
theorem ka_H_wrong_2_0 : chkA GX 3000 281 ct_H_wrong 2 ca_H_wrong_2_0 = true := by decide +kernel
theorem kk_H_wrong : Chk GX 3000 281 ct_H_wrong := ⟨ke_H_wrong, fun pc as h => (show BT.AllP (fun pc as => ∀ a ∈ as, chkA GX 3000 281 ct_H_wrong pc a = true) ct_H_wrong.cut from ⟨⟨List.forall_mem_cons.mpr ⟨ka_H_wrong_2_0, fun a ha => by cases ha⟩, trivial⟩, trivial⟩).at h⟩
theorem ke_H_sealed : chkE GX 3000 282 ct_H_sealed = true := by decide +kernel
theorem ka_H_sealed_19_0 : chkA GX 3000 282 ct_H_sealed 19 ca_H_sealed_19_0 = true := by decide +kernel
theorem kk_H_sealed : Chk GX 3000 282 ct_H_sealed := ⟨ke_H_sealed, fun pc as h => (show BT.AllP (fun pc as => ∀ a ∈ as, chkA GX 3000 282 ct_H_sealed pc a = true) ct_H_sealed.cut from ⟨⟨List.forall_mem_cons.mpr ⟨ka_H_sealed_19_0, fun a ha => by cases ha⟩, trivial⟩, trivial⟩).at h⟩
theorem ke_H_could : chkE GX 3000 283 ct_H_could = true := by decide +kernel
theorem kk_H_could : Chk GX 3000 283 ct_H_could := ⟨ke_H_could, fun pc as h => (show BT.AllP (fun pc as => ∀ a ∈ as, chkA GX 3000 283 ct_H_could pc a = true) ct_H_could.cut from trivial).at h⟩
theorem ke_M_length : chkE GX 3000 291 ct_M_length = true := by decide +kernel
theorem ka_M_length_4_0 : chkA GX 3000 291 ct_M_length 4 ca_M_length_4_0 = true := by decide +kernel
theorem ka_M_length_4_1 : chkA GX 3000 291 ct_M_length 4 ca_M_length_4_1 = true := by decide +kernel
theorem ka_M_length_4_2 : chkA GX 3000 291 ct_M_length 4 ca_M_length_4_2 = true := by decide +kernel
theorem ka_M_length_4_3 : chkA GX 3000 291 ct_M_length 4 ca_M_length_4_3 = true := by decide +kernel
theorem ka_M_length_4_4 : chkA GX 3000 291 ct_M_length 4 ca_M_length_4_4 = true := by decide +kernel
theorem ka_M_length_4_5 : chkA GX 3000 291 ct_M_length 4 ca_M_length_4_5 = true := by decide +kernel
theorem ka_M_length_4_6 : chkA GX 3000 291 ct_M_length 4 ca_M_length_4_6 = true := by decide +kernel
theorem ka_M_length_4_7 : chkA GX 3000 291 ct_M_length 4 ca_M_length_4_7 = true := by decide +kernel
theorem ka_M_length_4_8 : chkA GX 3000 291 ct_M_length 4 ca_M_length_4_8 = true := by decide +kernel
theorem ka_M_length_4_9 : chkA GX 3000 291 ct_M_length 4 ca_M_length_4_9 = true := by decide +kernel
theorem ka_M_length_4_10 : chkA GX 3000 291 ct_M_length 4 ca_M_length_4_10 = true := by decide +kernel
theorem ka_M_length_4_11 : chkA GX 3000 291 ct_M_length 4 ca_M_length_4_11 = true := by decide +kernel
theorem ka_M_length_4_12 : chkA GX 3000 291 ct_M_length 4 ca_M_length_4_12 = true := by decide +kernel
theorem ka_M_length_4_13 : chkA GX 3000 291 ct_M_length 4 ca_M_length_4_13 = true := by decide +kernel
theorem ka_M_length_4_14 : chkA GX 3000 291 ct_M_length 4 ca_M_length_4_14 = true := by decide +kernel
theorem ka_M_length_4_15 : chkA GX 3000 291 ct_M_length 4 ca_M_length_4_15 = true := by decide +kernel
theorem ka_M_length_4_16 : chkA GX 3000 291 ct_M_length 4 ca_M_length_4_16 = true := by decide +kernel
theorem ka_M_length_4_17 : chkA GX 3000 291 ct_M_length 4 ca_M_length_4_17 = true := by decide +kernel
theorem ka_M_length_4_18 : chkA GX 3000 291 ct_M_length 4 ca_M_length_4_18 = true := by decide +kernel
theorem ka_M_length_4_19 : chkA GX 3000 291 ct_M_length 4 ca_M_length_4_19 = true := by decide +kernel
theorem ka_M_length_4_20 : chkA GX 3000 291 ct_M_length 4 ca_M_length_4_20 = true := by decide +kernel
theorem ka_M_length_4_21 : chkA GX 3000 291 ct_M_length 4 ca_M_length_4_21 = true := by decide +kernel
theorem ka_M_length_4_22 : chkA GX 3000 291 ct_M_length 4 ca_M_length_4_22 = true := by decide +kernel
theorem ka_M_length_4_23 : chkA GX 3000 291 ct_M_length 4 ca_M_length_4_23 = true := by decide +kernel
theorem ka_M_length_4_24 : chkA GX 3000 291 ct_M_length 4 ca_M_length_4_24 = true := by decide +kernel
theorem ka_M_length_4_25 : chkA GX 3000 291 ct_M_length 4 ca_M_length_4_25 = true := by decide +kernel
theorem ka_M_length_4_26 : chkA GX 3000 291 ct_M_length 4 ca_M_length_4_26 = true := by decide +kernel
theorem ka_M_length_4_27 : chkA GX 3000 291 ct_M_length 4 ca_M_length_4_27 = true := by decide +kernel
theorem ka_M_length_4_28 : chkA GX 3000 291 ct_M_length 4 ca_M_length_4_28 = true := by decide +kernel
theorem ka_M_length_4_29 : chkA GX 3000 291 ct_M_length 4 ca_M_length_4_29 = true := by decide +kernel
theorem ka_M_length_4_30 : chkA GX 3000 291 ct_M_length 4 ca_M_length_4_30 = true := by decide +kernel
theorem ka_M_length_4_31 : chkA GX 3000 291 ct_M_length 4 ca_M_length_4_31 = true := by decide +kernel
theorem ka_M_length_4_32 : chkA GX 3000 291 ct_M_length 4 ca_M_length_4_32 = true := by decide +kernel
theorem ka_M_length_4_33 : chkA GX 3000 291 ct_M_length 4 ca_M_length_4_33 = true := by decide +kernel
theorem ka_M_length_4_34 : chkA GX 3000 291 ct_M_length 4 ca_M_length_4_34 = true := by decide +kernel
theorem ka_M_length_4_35 : chkA GX 3000 291 ct_M_length 4 ca_M_length_4_35 = true := by decide +kernel
theorem ka_M_length_4_36 : chkA GX 3000 291 ct_M_length 4 ca_M_length_4_36 = true := by decide +kernel
theorem ka_M_length_4_37 : chkA GX 3000 291 ct_M_length 4 ca_M_length_4_37 = true := by decide +kernel
theorem ka_M_length_4_38 : chkA GX 3000 291 ct_M_length 4 ca_M_length_4_38 = true := by decide +kernel
theorem ka_M_length_4_39 : chkA GX 3000 291 ct_M_length 4 ca_M_length_4_39 = true := by decide +kernel
theorem ka_M_length_4_40 : chkA GX 3000 291 ct_M_length 4 ca_M_length_4_40 = true := by decide +kernel
theorem ka_M_length_4_41 : chkA GX 3000 291 ct_M_length 4 ca_M_length_4_41 = true := by decide +kernel
theorem ka_M_length_4_42 : chkA GX 3000 291 ct_M_length 4 ca_M_length_4_42 = true := by decide +kernel
theorem ka_M_length_4_43 : chkA GX 3000 291 ct_M_length 4 ca_M_length_4_43 = true := by decide +kernel
theorem ka_M_length_4_44 : chkA GX 3000 291 ct_M_length 4 ca_M_length_4_44 = true := by decide +kernel
theorem ka_M_length_4_45 : chkA GX 3000 291 ct_M_length 4 ca_M_length_4_45 = true := by decide +kernel
theorem ka_M_length_4_46 : chkA GX 3000 291 ct_M_length 4 ca_M_length_4_46 = true := by decide +kernel
theorem ka_M_length_4_47 : chkA GX 3000 291 ct_M_length 4 ca_M_length_4_47 = true := by decide +kernel
theorem ka_M_length_4_48 : chkA GX 3000 291 ct_M_length 4 ca_M_length_4_48 = true := by decide +kernel
theorem ka_M_length_4_49 : chkA GX 3000 291 ct_M_length 4 ca_M_length_4_49 = true := by decide +kernel
theorem ka_M_length_4_50 : chkA GX 3000 291 ct_M_length 4 ca_M_length_4_50 = true := by decide +kernel
theorem ka_M_length_4_51 : chkA GX 3000 291 ct_M_length 4 ca_M_length_4_51 = true := by decide +kernel
theorem ka_M_length_4_52 : chkA GX 3000 291 ct_M_length 4 ca_M_length_4_52 = true := by decide +kernel
theorem ka_M_length_4_53 : chkA GX 3000 291 ct_M_length 4 ca_M_length_4_53 = true := by decide +kernel
theorem ka_M_length_4_54 : chkA GX 3000 291 ct_M_length 4 ca_M_length_4_54 = true := by decide +kernel
theorem ka_M_length_4_55 : chkA GX 3000 291 ct_M_length 4 ca_M_length_4_55 = true := by decide +kernel
theorem ka_M_length_4_56 : chkA GX 3000 291 ct_M_length 4 ca_M_length_4_56 = true := by decide +kernel
theorem ka_M_length_4_57 : chkA GX 3000 291 ct_M_length 4 ca_M_length_4_57 = true := by decide +kernel
theorem ka_M_length_4_58 : chkA GX 3000 291 ct_M_length 4 ca_M_length_4_58 = true := by decide +kernel
theorem ka_M_length_4_59 : chkA GX 3000 291 ct_M_length 4 ca_M_length_4_59 = true := by decide +kernel
theorem ka_M_length_4_60 : chkA GX 3000 291 ct_M_length 4 ca_M_length_4_60 = true := by decide +kernel
theorem ka_M_length_4_61 : chkA GX 3000 291 ct_M_length 4 ca_M_length_4_61 = true := by decide +kernel
theorem ka_M_length_4_62 : chkA GX 3000 291 ct_M_length 4 ca_M_length_4_62 = true := by decide +kernel
theorem ka_M_length_4_63 : chkA GX 3000 291 ct_M_length 4 ca_M_length_4_63 = true := by decide +kernel
theorem ka_M_length_4_64 : chkA GX 3000 291 ct_M_length 4 ca_M_length_4_64 = true := by decide +kernel
theorem ka_M_length_4_65 : chkA GX 3000 291 ct_M_length 4 ca_M_length_4_65 = true := by decide +kernel
theorem kk_M_length : Chk GX 3000 291 ct_M_length := ⟨ke_M_length, fun pc as h => (show BT.AllP (fun pc as => ∀ a ∈ as, chkA GX 3000 291 ct_M_length pc a = true) ct_M_length.cut from ⟨⟨List.forall_mem_cons.mpr ⟨ka_M_length_4_0, List.forall_mem_cons.mpr ⟨ka_M_length_4_1, List.forall_mem_cons.mpr ⟨ka_M_length_4_2, List.forall_mem_cons.mpr ⟨ka_M_length_4_3, List.forall_mem_cons.mpr ⟨ka_M_length_4_4, List.forall_mem_cons.mpr ⟨ka_M_length_4_5, List.forall_mem_cons.mpr ⟨ka_M_length_4_6, List.forall_mem_cons.mpr ⟨ka_M_length_4_7, List.forall_mem_cons.mpr ⟨ka_M_length_4_8, List.forall_mem_cons.mpr ⟨ka_M_length_4_9, List.forall_mem_cons.mpr ⟨ka_M_length_4_10, List.forall_mem_cons.mpr ⟨ka_M_length_4_11, List.forall_mem_cons.mpr ⟨ka_M_length_4_12, List.forall_mem_cons.mpr ⟨ka_M_length_4_13, List.forall_mem_cons.mpr ⟨ka_M_length_4_14, List.forall_mem_cons.mpr ⟨ka_M_length_4_15, List.forall_mem_cons.mpr ⟨ka_M_length_4_16, List.forall_mem_cons.mpr ⟨ka_M_length_4_17, List.forall_mem_cons.mpr ⟨ka_M_length_4_18, List.forall_mem_cons.mpr ⟨ka_M_length_4_19, List.forall_mem_cons.mpr ⟨ka_M_length_4_20, List.forall_mem_cons.mpr ⟨ka_M_length_4_21, List.forall_mem_cons.mpr ⟨ka_M_length_4_22, List.forall_mem_cons.mpr ⟨ka_M_length_4_23, List.forall_mem_cons.mpr ⟨ka_M_length_4_24, List.forall_mem_cons.mpr ⟨ka_M_length_4_25, List.forall_mem_cons.mpr ⟨ka_M_length_4_26, List.forall_mem_cons.mpr ⟨ka_M_length_4_27, List.forall_mem_cons.mpr ⟨ka_M_length_4_28, List.forall_mem_cons.mpr ⟨ka_M_length_4_29, List.forall_mem_cons.mpr ⟨ka_M_length_4_30, List.forall_mem_cons.mpr ⟨ka_M_length_4_31, List.forall_mem_cons.mpr ⟨ka_M_length_4_32, List.forall_mem_cons.mpr ⟨ka_M_length_4_33, List.forall_mem_cons.mpr ⟨ka_M_length_4_34, List.forall_mem_cons.mpr ⟨ka_M_length_4_35, List.forall_mem_cons.mpr ⟨ka_M_length_4_36, List.forall_mem_cons.mpr ⟨ka_M_length_4_37, List.forall_mem_cons.mpr ⟨ka_M_length_4_38, List.forall_mem_cons.mpr ⟨ka_M_length_4_39, List.forall_mem_cons.mpr ⟨ka_M_length_4_40, List.forall_mem_cons.mpr ⟨ka_M_length_4_41, List.forall_mem_cons.mpr ⟨ka_M_length_4_42, List.forall_mem_cons.mpr ⟨ka_M_length_4_43, List.forall_mem_cons.mpr ⟨ka_M_length_4_44, List.forall_mem_cons.mpr ⟨ka_M_length_4_45, List.forall_mem_cons.mpr ⟨ka_M_length_4_46, List.forall_mem_cons.mpr ⟨ka_M_length_4_47, List.forall_mem_cons.mpr ⟨ka_M_length_4_48, List.forall_mem_cons.mpr ⟨ka_M_length_4_49, List.forall_mem_cons.mpr ⟨ka_M_length_4_50, List.forall_mem_cons.mpr ⟨ka_M_length_4_51, List.forall_mem_cons.mpr ⟨ka_M_length_4_52, List.forall_mem_cons.mpr ⟨ka_M_length_4_53, List.forall_mem_cons.mpr ⟨ka_M_length_4_54, List.forall_mem_cons.mpr ⟨ka_M_length_4_55, List.forall_mem_cons.mpr ⟨ka_M_length_4_56, List.forall_mem_cons.mpr ⟨ka_M_length_4_57, List.forall_mem_cons.mpr ⟨ka_M_length_4_58, List.forall_mem_cons.mpr ⟨ka_M_length_4_59, List.forall_mem_cons.mpr ⟨ka_M_length_4_60, List.forall_mem_cons.mpr ⟨ka_M_length_4_61, List.forall_mem_cons.mpr ⟨ka_M_length_4_62, List.forall_mem_cons.mpr ⟨ka_M_length_4_63, List.forall_mem_cons.mpr ⟨ka_M_length_4_64, List.forall_mem_cons.mpr ⟨ka_M_length_4_65, fun a ha => by cases ha⟩⟩⟩⟩⟩⟩⟩⟩⟩⟩⟩⟩⟩⟩⟩⟩⟩⟩⟩⟩⟩⟩⟩⟩⟩⟩⟩⟩⟩⟩⟩⟩⟩⟩⟩⟩⟩⟩⟩⟩⟩⟩⟩⟩⟩⟩⟩⟩⟩⟩⟩⟩⟩⟩⟩⟩⟩⟩⟩⟩⟩⟩⟩⟩⟩⟩, trivial⟩, trivial⟩).at h⟩
theorem ke_M_pack : chkE GX 3000 293 ct_M_pack = true := by decide +kernel
theorem ka_M_pack_18_0 : chkA GX 3000 293 ct_M_pack 18 ca_M_pack_18_0 = true := by decide +kernel
theorem kk_M_pack : Chk GX 3000 293 ct_M_pack := ⟨ke_M_pack, fun pc as h => (show BT.AllP (fun pc as => ∀ a ∈ as, chkA GX 3000 293 ct_M_pack pc a = true) ct_M_pack.cut from ⟨⟨List.forall_mem_cons.mpr ⟨ka_M_pack_18_0, fun a ha => by cases ha⟩, trivial⟩, trivial⟩).at h⟩
theorem ke_M_fit : chkE GX 3000 294 ct_M_fit = true := by decide +kernel
