theorem ka_Le_keepChain_33_0 : chkA GX 3000 201 ct_Le_keepChain 33 ca_Le_keepChain_33_0 = true := by decide +kernel
theorem kk_Le_keepChain : Chk GX 3000 201 ct_Le_keepChain := ⟨ke_Le_keepChain, fun pc as h => (show BT.AllP (fun pc as => ∀ a ∈ as, chkA GX 3000 201 ct_Le_keepChain pc a = true) ct_Le_keepChain.cut from ⟨⟨List.forall_mem_cons.mpr ⟨ka_Le_keepChain_33_0, fun a ha => by cases ha⟩, trivial⟩, trivial⟩).at h⟩
theorem ke_H_stands : chkE GX 3000 202 ct_H_stands = true := by decide +kernel
theorem kk_H_stands : Chk GX 3000 202 ct_H_stands := ⟨ke_H_stands, fun pc as h => (show BT.AllP (fun pc as => ∀ a ∈ as, chkA GX 3000 202 ct_H_stands pc a = true) ct_H_stands.cut from trivial).at h⟩
theorem ke_H_chain : chkE GX 3000 203 ct_H_chain = true := by decide +kernel
theorem kk_H_chain : Chk GX 3000 203 ct_H_chain := ⟨ke_H_chain, fun pc as h => (show BT.AllP (fun pc as => ∀ a ∈ as, chkA GX 3000 203 ct_H_chain pc a = true) ct_H_chain.cut from trivial).at h⟩
theorem ke_Le_spendChain : chkE GX 3000 204 ct_Le_spendChain = true := by decide +kernel
theorem ka_Le_spendChain_2_0 : chkA GX 3000 204 ct_Le_spendChain 2 ca_Le_spendChain_2_0 = true := by decide +kernel
theorem kk_Le_spendChain : Chk GX 3000 204 ct_Le_spendChain := ⟨ke_Le_spendChain, fun pc as h => (show BT.AllP (fun pc as => ∀ a ∈ as, chkA GX 3000 204 ct_Le_spendChain pc a = true) ct_Le_spendChain.cut from ⟨⟨List.forall_mem_cons.mpr ⟨ka_Le_spendChain_2_0, fun a ha => by cases ha⟩, trivial⟩, trivial⟩).at h⟩
theorem ke_H_useRight : chkE GX 3000 205 ct_H_useRight = true := by decide +kernel
theorem kk_H_useRight : Chk GX 3000 205 ct_H_useRight := ⟨ke_H_useRight, fun pc as h => (show BT.AllP (fun pc as => ∀ a ∈ as, chkA GX 3000 205 ct_H_useRight pc a = true) ct_H_useRight.cut from trivial).at h⟩
theorem ke_H_lendOf : chkE GX 3000 206 ct_H_lendOf = true := by decide +kernel
theorem kk_H_lendOf : Chk GX 3000 206 ct_H_lendOf := ⟨ke_H_lendOf, fun pc as h => (show BT.AllP (fun pc as => ∀ a ∈ as, chkA GX 3000 206 ct_H_lendOf pc a = true) ct_H_lendOf.cut from trivial).at h⟩
theorem ke_H_key : chkE GX 3000 209 ct_H_key = true := by decide +kernel
theorem kk_H_key : Chk GX 3000 209 ct_H_key := ⟨ke_H_key, fun pc as h => (show BT.AllP (fun pc as => ∀ a ∈ as, chkA GX 3000 209 ct_H_key pc a = true) ct_H_key.cut from trivial).at h⟩
theorem ke_Le_pass : chkE GX 3000 210 ct_Le_pass = true := by decide +kernel
theorem kk_Le_pass : Chk GX 3000 210 ct_Le_pass := ⟨ke_Le_pass, fun pc as h => (show BT.AllP (fun pc as => ∀ a ∈ as, chkA GX 3000 210 ct_Le_pass pc a = true) ct_Le_pass.cut from trivial).at h⟩
theorem ke_Le_goRound : chkE GX 3000 211 ct_Le_goRound = true := by decide +kernel
theorem ka_Le_goRound_2_0 : chkA GX 3000 211 ct_Le_goRound 2 ca_Le_goRound_2_0 = true := by decide +kernel
theorem ka_Le_goRound_10_0 : chkA GX 3000 211 ct_Le_goRound 10 ca_Le_goRound_10_0 = true := by decide +kernel
theorem ka_Le_goRound_18_0 : chkA GX 3000 211 ct_Le_goRound 18 ca_Le_goRound_18_0 = true := by decide +kernel
theorem kk_Le_goRound : Chk GX 3000 211 ct_Le_goRound := ⟨ke_Le_goRound, fun pc as h => (show BT.AllP (fun pc as => ∀ a ∈ as, chkA GX 3000 211 ct_Le_goRound pc a = true) ct_Le_goRound.cut from ⟨⟨List.forall_mem_cons.mpr ⟨ka_Le_goRound_2_0, fun a ha => by cases ha⟩, trivial⟩, ⟨List.forall_mem_cons.mpr ⟨ka_Le_goRound_10_0, fun a ha => by cases ha⟩, trivial⟩, ⟨List.forall_mem_cons.mpr ⟨ka_Le_goRound_18_0, fun a ha => by cases ha⟩, trivial⟩, trivial⟩).at h⟩
theorem ke_Le_countGains : chkE GX 3000 212 ct_Le_countGains = true := by decide +kernel
theorem ka_Le_countGains_24_0 : chkA GX 3000 212 ct_Le_countGains 24 ca_Le_countGains_24_0 = true := by decide +kernel
theorem ka_Le_countGains_51_0 : chkA GX 3000 212 ct_Le_countGains 51 ca_Le_countGains_51_0 = true := by decide +kernel
theorem kk_Le_countGains : Chk GX 3000 212 ct_Le_countGains := ⟨ke_Le_countGains, fun pc as h => (show BT.AllP (fun pc as => ∀ a ∈ as, chkA GX 3000 212 ct_Le_countGains pc a = true) ct_Le_countGains.cut from ⟨⟨List.forall_mem_cons.mpr ⟨ka_Le_countGains_24_0, fun a ha => by cases ha⟩, trivial⟩, ⟨List.forall_mem_cons.mpr ⟨ka_Le_countGains_51_0, fun a ha => by cases ha⟩, trivial⟩, trivial⟩).at h⟩
theorem ke_Le_gainsUntil : chkE GX 3000 213 ct_Le_gainsUntil = true := by decide +kernel
theorem ka_Le_gainsUntil_33_0 : chkA GX 3000 213 ct_Le_gainsUntil 33 ca_Le_gainsUntil_33_0 = true := by decide +kernel
theorem kk_Le_gainsUntil : Chk GX 3000 213 ct_Le_gainsUntil := ⟨ke_Le_gainsUntil, fun pc as h => (show BT.AllP (fun pc as => ∀ a ∈ as, chkA GX 3000 213 ct_Le_gainsUntil pc a = true) ct_Le_gainsUntil.cut from ⟨⟨List.forall_mem_cons.mpr ⟨ka_Le_gainsUntil_33_0, fun a ha => by cases ha⟩, trivial⟩, trivial⟩).at h⟩
theorem ke_H_ever : chkE GX 3000 214 ct_H_ever = true := by decide +kernel
theorem kk_H_ever : Chk GX 3000 214 ct_H_ever := ⟨ke_H_ever, fun pc as h => (show BT.AllP (fun pc as => ∀ a ∈ as, chkA GX 3000 214 ct_H_ever pc a = true) ct_H_ever.cut from trivial).at h⟩
theorem ke_H_gain : chkE GX 3000 215 ct_H_gain = true := by decide +kernel
theorem kk_H_gain : Chk GX 3000 215 ct_H_gain := ⟨ke_H_gain, fun pc as h => (show BT.AllP (fun pc as => ∀ a ∈ as, chkA GX 3000 215 ct_H_gain pc a = true) ct_H_gain.cut from trivial).at h⟩
theorem ke_H_label : chkE GX 3000 216 ct_H_label = true := by decide +kernel
theorem kk_H_label : Chk GX 3000 216 ct_H_label := ⟨ke_H_label, fun pc as h => (show BT.AllP (fun pc as => ∀ a ∈ as, chkA GX 3000 216 ct_H_label pc a = true) ct_H_label.cut from trivial).at h⟩
theorem ke_Fl_reachesOut : chkE GX 3000 221 ct_Fl_reachesOut = true := by decide +kernel
theorem ka_Fl_reachesOut_8_0 : chkA GX 3000 221 ct_Fl_reachesOut 8 ca_Fl_reachesOut_8_0 = true := by decide +kernel
theorem kk_Fl_reachesOut : Chk GX 3000 221 ct_Fl_reachesOut := ⟨ke_Fl_reachesOut, fun pc as h => (show BT.AllP (fun pc as => ∀ a ∈ as, chkA GX 3000 221 ct_Fl_reachesOut pc a = true) ct_Fl_reachesOut.cut from ⟨⟨List.forall_mem_cons.mpr ⟨ka_Fl_reachesOut_8_0, fun a ha => by cases ha⟩, trivial⟩, trivial⟩).at h⟩
theorem ke_H_statement : chkE GX 3000 223 ct_H_statement = true := by decide +kernel
theorem kk_H_statement : Chk GX 3000 223 ct_H_statement := ⟨ke_H_statement, fun pc as h => (show BT.AllP (fun pc as => ∀ a ∈ as, chkA GX 3000 223 ct_H_statement pc a = true) ct_H_statement.cut from trivial).at h⟩
theorem ke_H_erase : chkE GX 3000 224 ct_H_erase = true := by decide +kernel
theorem kk_H_erase : Chk GX 3000 224 ct_H_erase := ⟨ke_H_erase, fun pc as h => (show BT.AllP (fun pc as => ∀ a ∈ as, chkA GX 3000 224 ct_H_erase pc a = true) ct_H_erase.cut from trivial).at h⟩
theorem ke_Fl_isTight : chkE GX 3000 226 ct_Fl_isTight = true := by decide +kernel
theorem ka_Fl_isTight_6_0 : chkA GX 3000 226 ct_Fl_isTight 6 ca_Fl_isTight_6_0 = true := by decide +kernel
theorem kk_Fl_isTight : Chk GX 3000 226 ct_Fl_isTight := ⟨ke_Fl_isTight, fun pc as h => (show BT.AllP (fun pc as => ∀ a ∈ as, chkA GX 3000 226 ct_Fl_isTight pc a = true) ct_Fl_isTight.cut from ⟨⟨List.forall_mem_cons.mpr ⟨ka_Fl_isTight_6_0, fun a ha => by cases ha⟩, trivial⟩, trivial⟩).at h⟩
theorem ke_Fl_firstLoose : chkE GX 3000 227 ct_Fl_firstLoose = true := by decide +kernel
theorem ka_Fl_firstLoose_2_0 : chkA GX 3000 227 ct_Fl_firstLoose 2 ca_Fl_firstLoose_2_0 = true := by decide +kernel
theorem kk_Fl_firstLoose : Chk GX 3000 227 ct_Fl_firstLoose := ⟨ke_Fl_firstLoose, fun pc as h => (show BT.AllP (fun pc as => ∀ a ∈ as, chkA GX 3000 227 ct_Fl_firstLoose pc a = true) ct_Fl_firstLoose.cut from ⟨⟨List.forall_mem_cons.mpr ⟨ka_Fl_firstLoose_2_0, fun a ha => by cases ha⟩, trivial⟩, trivial⟩).at h⟩
theorem ke_H_tight : chkE GX 3000 228 ct_H_tight = true := by decide +kernel
theorem kk_H_tight : Chk GX 3000 228 ct_H_tight := ⟨ke_H_tight, fun pc as h => (show BT.AllP (fun pc as => ∀ a ∈ as, chkA GX 3000 228 ct_H_tight pc a = true) ct_H_tight.cut from trivial).at h⟩
theorem ke_Fl_countLowers : chkE GX 3000 229 ct_Fl_countLowers = true := by decide +kernel
theorem ka_Fl_countLowers_4_0 : chkA GX 3000 229 ct_Fl_countLowers 4 ca_Fl_countLowers_4_0 = true := by decide +kernel
theorem kk_Fl_countLowers : Chk GX 3000 229 ct_Fl_countLowers := ⟨ke_Fl_countLowers, fun pc as h => (show BT.AllP (fun pc as => ∀ a ∈ as, chkA GX 3000 229 ct_Fl_countLowers pc a = true) ct_Fl_countLowers.cut from ⟨⟨List.forall_mem_cons.mpr ⟨ka_Fl_countLowers_4_0, fun a ha => by cases ha⟩, trivial⟩, trivial⟩).at h⟩
theorem ke_H_lowered : chkE GX 3000 230 ct_H_lowered = true := by decide +kernel
theorem kk_H_lowered : Chk GX 3000 230 ct_H_lowered := ⟨ke_H_lowered, fun pc as h => (show BT.AllP (fun pc as => ∀ a ∈ as, chkA GX 3000 230 ct_H_lowered pc a = true) ct_H_lowered.cut from trivial).at h⟩
theorem ke_H_given : chkE GX 3000 231 ct_H_given = true := by decide +kernel
theorem kk_H_given : Chk GX 3000 231 ct_H_given := ⟨ke_H_given, fun pc as h => (show BT.AllP (fun pc as => ∀ a ∈ as, chkA GX 3000 231 ct_H_given pc a = true) ct_H_given.cut from trivial).at h⟩
theorem ke_Fl_runOne : chkE GX 3000 235 ct_Fl_runOne = true := by decide +kernel
theorem kk_Fl_runOne : Chk GX 3000 235 ct_Fl_runOne := ⟨ke_Fl_runOne, fun pc as h => (show BT.AllP (fun pc as => ∀ a ∈ as, chkA GX 3000 235 ct_Fl_runOne pc a = true) ct_Fl_runOne.cut from trivial).at h⟩
theorem ke_Fl_run : chkE GX 3000 236 ct_Fl_run = true := by decide +kernel
theorem ka_Fl_run_2_0 : chkA GX 3000 236 ct_Fl_run 2 ca_Fl_run_2_0 = true := by decide +kernel
theorem ka_Fl_run_28_0 : chkA GX 3000 236 ct_Fl_run 28 ca_Fl_run_28_0 = true := by decide +kernel
theorem ka_Fl_run_55_0 : chkA GX 3000 236 ct_Fl_run 55 ca_Fl_run_55_0 = true := by decide +kernel
theorem kk_Fl_run : Chk GX 3000 236 ct_Fl_run := ⟨ke_Fl_run, fun pc as h => (show BT.AllP (fun pc as => ∀ a ∈ as, chkA GX 3000 236 ct_Fl_run pc a = true) ct_Fl_run.cut from ⟨⟨List.forall_mem_cons.mpr ⟨ka_Fl_run_2_0, fun a ha => by cases ha⟩, trivial⟩, ⟨List.forall_mem_cons.mpr ⟨ka_Fl_run_28_0, fun a ha => by cases ha⟩, trivial⟩, ⟨List.forall_mem_cons.mpr ⟨ka_Fl_run_55_0, fun a ha => by cases ha⟩, trivial⟩, trivial⟩).at h⟩
theorem ke_H_flow : chkE GX 3000 237 ct_H_flow = true := by decide +kernel
theorem kk_H_flow : Chk GX 3000 237 ct_H_flow := ⟨ke_H_flow, fun pc as h => (show BT.AllP (fun pc as => ∀ a ∈ as, chkA GX 3000 237 ct_H_flow pc a = true) ct_H_flow.cut from trivial).at h⟩
theorem ke_H_said : chkE GX 3000 238 ct_H_said = true := by decide +kernel
theorem kk_H_said : Chk GX 3000 238 ct_H_said := ⟨ke_H_said, fun pc as h => (show BT.AllP (fun pc as => ∀ a ∈ as, chkA GX 3000 238 ct_H_said pc a = true) ct_H_said.cut from trivial).at h⟩
theorem ke_H_variable : chkE GX 3000 239 ct_H_variable = true := by decide +kernel
theorem kk_H_variable : Chk GX 3000 239 ct_H_variable := ⟨ke_H_variable, fun pc as h => (show BT.AllP (fun pc as => ∀ a ∈ as, chkA GX 3000 239 ct_H_variable pc a = true) ct_H_variable.cut from trivial).at h⟩
theorem ke_H_guarded : chkE GX 3000 241 ct_H_guarded = true := by decide +kernel
theorem kk_H_guarded : Chk GX 3000 241 ct_H_guarded := ⟨ke_H_guarded, fun pc as h => (show BT.AllP (fun pc as => ∀ a ∈ as, chkA GX 3000 241 ct_H_guarded pc a = true) ct_H_guarded.cut from trivial).at h⟩
theorem ke_Gu_wasTold : chkE GX 3000 242 ct_Gu_wasTold = true := by decide +kernel
theorem ka_Gu_wasTold_2_0 : chkA GX 3000 242 ct_Gu_wasTold 2 ca_Gu_wasTold_2_0 = true := by decide +kernel
theorem kk_Gu_wasTold : Chk GX 3000 242 ct_Gu_wasTold := ⟨ke_Gu_wasTold, fun pc as h => (show BT.AllP (fun pc as => ∀ a ∈ as, chkA GX 3000 242 ct_Gu_wasTold pc a = true) ct_Gu_wasTold.cut from ⟨⟨List.forall_mem_cons.mpr ⟨ka_Gu_wasTold_2_0, fun a ha => by cases ha⟩, trivial⟩, trivial⟩).at h⟩
theorem ke_Gu_total : chkE GX 3000 243 ct_Gu_total = true := by decide +kernel
theorem ka_Gu_total_5_0 : chkA GX 3000 243 ct_Gu_total 5 ca_Gu_total_5_0 = true := by decide +kernel
theorem kk_Gu_total : Chk GX 3000 243 ct_Gu_total := ⟨ke_Gu_total, fun pc as h => (show BT.AllP (fun pc as => ∀ a ∈ as, chkA GX 3000 243 ct_Gu_total pc a = true) ct_Gu_total.cut from ⟨⟨List.forall_mem_cons.mpr ⟨ka_Gu_total_5_0, fun a ha => by cases ha⟩, trivial⟩, trivial⟩).at h⟩
theorem ke_Gu_reduce : chkE GX 3000 244 ct_Gu_reduce = true := by decide +kernel
theorem ka_Gu_reduce_6_0 : chkA GX 3000 244 ct_Gu_reduce 6 ca_Gu_reduce_6_0 = true := by decide +kernel
theorem ka_Gu_reduce_26_0 : chkA GX 3000 244 ct_Gu_reduce 26 ca_Gu_reduce_26_0 = true := by decide +kernel
theorem kk_Gu_reduce : Chk GX 3000 244 ct_Gu_reduce := ⟨ke_Gu_reduce, fun pc as h => (show BT.AllP (fun pc as => ∀ a ∈ as, chkA GX 3000 244 ct_Gu_reduce pc a = true) ct_Gu_reduce.cut from ⟨⟨List.forall_mem_cons.mpr ⟨ka_Gu_reduce_6_0, fun a ha => by cases ha⟩, trivial⟩, ⟨List.forall_mem_cons.mpr ⟨ka_Gu_reduce_26_0, fun a ha => by cases ha⟩, trivial⟩, trivial⟩).at h⟩
theorem ke_Gu_addRow : chkE GX 3000 245 ct_Gu_addRow = true := by decide +kernel
theorem ka_Gu_addRow_33_0 : chkA GX 3000 245 ct_Gu_addRow 33 ca_Gu_addRow_33_0 = true := by decide +kernel
theorem ka_Gu_addRow_54_0 : chkA GX 3000 245 ct_Gu_addRow 54 ca_Gu_addRow_54_0 = true := by decide +kernel
theorem ka_Gu_addRow_116_0 : chkA GX 3000 245 ct_Gu_addRow 116 ca_Gu_addRow_116_0 = true := by decide +kernel
theorem kk_Gu_addRow : Chk GX 3000 245 ct_Gu_addRow := ⟨ke_Gu_addRow, fun pc as h => (show BT.AllP (fun pc as => ∀ a ∈ as, chkA GX 3000 245 ct_Gu_addRow pc a = true) ct_Gu_addRow.cut from ⟨⟨List.forall_mem_cons.mpr ⟨ka_Gu_addRow_33_0, fun a ha => by cases ha⟩, trivial⟩, ⟨List.forall_mem_cons.mpr ⟨ka_Gu_addRow_54_0, fun a ha => by cases ha⟩, trivial⟩, ⟨List.forall_mem_cons.mpr ⟨ka_Gu_addRow_116_0, fun a ha => by cases ha⟩, trivial⟩, trivial⟩).at h⟩
theorem ke_Gu_rankOf : chkE GX 3000 246 ct_Gu_rankOf = true := by decide +kernel
