noncomputable def LC_0 (E : xV) (σ : zS) (J : zS → Prop) : Prop := ∀ (x0 : Int32) (x1 : Int64), Cz E Y_H_feed [.ref 0, .int x0, .long x1] σ (fun v σ1 => ∃ r : Int32, v = some (.int r) ∧ Cz E Y_M_feed [.ref 110, .int x0, .long x1] σ1 (fun v' σ2 => (∃ r2 : Int32, v' = some (.int r2)) ∧ J σ2))
noncomputable def LC_1 (E : xV) (σ : zS) (J : zS → Prop) : Prop := ∀ (x0 : Int32), Cz E Y_H_cut [.ref 0, .int x0] σ (fun v σ1 => ∃ r : Int32, v = some (.int r) ∧ Cz E Y_M_cut [.ref 110, .int x0] σ1 (fun v' σ2 => (∃ r2 : Int32, v' = some (.int r2)) ∧ J σ2))
noncomputable def LC_2 (E : xV) (σ : zS) (J : zS → Prop) : Prop := ∀ (x0 : Int32), Cz E Y_H_tick [.ref 0, .int x0] σ (fun v σ1 => ∃ r : Int32, v = some (.int r) ∧ Cz E Y_M_tick [.ref 110, .int x0] σ1 (fun v' σ2 => (∃ r2 : Int32, v' = some (.int r2)) ∧ J σ2))
noncomputable def LC_3 (E : xV) (σ : zS) (J : zS → Prop) : Prop := Cz E Y_H_person [.ref 0] σ (fun v σ1 => ∃ r : Int32, v = some (.int r) ∧ Cz E Y_M_person [.ref 110] σ1 (fun v' σ2 => (∃ r2 : Int32, v' = some (.int r2)) ∧ J σ2))
noncomputable def LC_4 (E : xV) (σ : zS) (J : zS → Prop) : Prop := Cz E Y_H_group [.ref 0] σ (fun v σ1 => ∃ r : Int32, v = some (.int r) ∧ Cz E Y_M_group [.ref 110] σ1 (fun v' σ2 => (∃ r2 : Int32, v' = some (.int r2)) ∧ J σ2))
noncomputable def LC_5 (E : xV) (σ : zS) (J : zS → Prop) : Prop := ∀ (x0 : Int32) (x1 : Int32) (x2 : Int32) (x3 : Int32), Cz E Y_H_put [.ref 0, .int x0, .int x1, .int x2, .int x3] σ (fun v σ1 => ∃ r : Int32, v = some (.int r) ∧ Cz E Y_M_put [.ref 110, .int x0, .int x1, .int x2, .int x3] σ1 (fun v' σ2 => (∃ r2 : Int32, v' = some (.int r2)) ∧ J σ2))
noncomputable def LC_6 (E : xV) (σ : zS) (J : zS → Prop) : Prop := ∀ (x0 : Int32), Cz E Y_H_back [.ref 0, .int x0] σ (fun v σ1 => ∃ r : Int32, v = some (.int r) ∧ Cz E Y_M_back [.ref 110, .int x0] σ1 (fun v' σ2 => (∃ r2 : Int32, v' = some (.int r2)) ∧ J σ2))
noncomputable def LC_7 (E : xV) (σ : zS) (J : zS → Prop) : Prop := ∀ (x0 : Int32) (x1 : Int32) (x2 : Int32) (x3 : Int32), Cz E Y_H_belongs [.ref 0, .int x0, .int x1, .int x2, .int x3] σ (fun v σ1 => ∃ r : Int32, v = some (.int r) ∧ Cz E Y_M_belongs [.ref 110, .int x0, .int x1, .int x2, .int x3] σ1 (fun v' σ2 => (∃ r2 : Int32, v' = some (.int r2)) ∧ J σ2))
noncomputable def LC_8 (E : xV) (σ : zS) (J : zS → Prop) : Prop := ∀ (x0 : Int32) (x1 : Int32), Cz E Y_H_rowOf [.ref 0, .int x0, .int x1] σ (fun v σ1 => ∃ r : Int32, v = some (.int r) ∧ Cz E Y_M_rowOf [.ref 110, .int x0, .int x1] σ1 (fun v' σ2 => (∃ r2 : Int32, v' = some (.int r2)) ∧ J σ2))
noncomputable def LC_9 (E : xV) (σ : zS) (J : zS → Prop) : Prop := ∀ (x0 : Int32) (x1 : Int32) (x2 : Int32) (x3 : Int32), Cz E Y_H_feature [.ref 0, .int x0, .int x1, .int x2, .int x3] σ (fun v σ1 => ∃ r : Int32, v = some (.int r) ∧ Cz E Y_M_feature [.ref 110, .int x0, .int x1, .int x2, .int x3] σ1 (fun v' σ2 => (∃ r2 : Int32, v' = some (.int r2)) ∧ J σ2))
noncomputable def LC_10 (E : xV) (σ : zS) (J : zS → Prop) : Prop := ∀ (x0 : Int32) (x1 : Int32) (x2 : Int32) (x3 : Int64), Cz E Y_H_item [.ref 0, .int x0, .int x1, .int x2, .long x3] σ (fun v σ1 => ∃ r : Int32, v = some (.int r) ∧ Cz E Y_M_item [.ref 110, .int x0, .int x1, .int x2, .long x3] σ1 (fun v' σ2 => (∃ r2 : Int32, v' = some (.int r2)) ∧ J σ2))
noncomputable def LC_11 (E : xV) (σ : zS) (J : zS → Prop) : Prop := ∀ (x0 : Int32) (x1 : Int32) (x2 : Int32) (x3 : Int32), Cz E Y_H_itemOf [.ref 0, .int x0, .int x1, .int x2, .int x3] σ (fun v σ1 => ∃ r : Int64, v = some (.long r) ∧ Cz E Y_M_itemOf [.ref 110, .int x0, .int x1, .int x2, .int x3] σ1 (fun v' σ2 => (∃ r2 : Int64, v' = some (.long r2)) ∧ J σ2))
noncomputable def LC_12 (E : xV) (σ : zS) (J : zS → Prop) : Prop := ∀ (x0 : Int32) (x1 : Int32) (x2 : Int32) (x3 : Int32) (x4 : Int32) (x5 : Int32) (x6 : Int32), Cz E Y_H_copy [.ref 0, .int x0, .int x1, .int x2, .int x3, .int x4, .int x5, .int x6] σ (fun v σ1 => ∃ r : Int32, v = some (.int r) ∧ Cz E Y_M_copy [.ref 110, .int x0, .int x1, .int x2, .int x3, .int x4, .int x5, .int x6] σ1 (fun v' σ2 => (∃ r2 : Int32, v' = some (.int r2)) ∧ J σ2))
noncomputable def LC_13 (E : xV) (σ : zS) (J : zS → Prop) : Prop := ∀ (x0 : Int32) (x1 : Int32), Cz E Y_H_thing [.ref 0, .int x0, .int x1] σ (fun v σ1 => ∃ r : Int32, v = some (.int r) ∧ Cz E Y_M_thing [.ref 110, .int x0, .int x1] σ1 (fun v' σ2 => (∃ r2 : Int32, v' = some (.int r2)) ∧ J σ2))
noncomputable def LC_14 (E : xV) (σ : zS) (J : zS → Prop) : Prop := ∀ (x0 : Int32) (x1 : Int32), Cz E Y_H_move [.ref 0, .int x0, .int x1] σ (fun v σ1 => ∃ r : Int32, v = some (.int r) ∧ Cz E Y_M_move [.ref 110, .int x0, .int x1] σ1 (fun v' σ2 => (∃ r2 : Int32, v' = some (.int r2)) ∧ J σ2))
noncomputable def LC_15 (E : xV) (σ : zS) (J : zS → Prop) : Prop := ∀ (x0 : Int32) (x1 : Int32), (x1 = 0 ∨ x1 = 1) → Cz E Y_H_cutOff [.ref 0, .int x0, .int x1] σ (fun v σ1 => ∃ r : Int32, v = some (.int r) ∧ Cz E Y_M_cutOff [.ref 110, .int x0, .int x1] σ1 (fun v' σ2 => (∃ r2 : Int32, v' = some (.int r2)) ∧ J σ2))
noncomputable def LC_16 (E : xV) (σ : zS) (J : zS → Prop) : Prop := ∀ (x0 : Int32), Cz E Y_H_drop [.ref 0, .int x0] σ (fun v σ1 => ∃ r : Int32, v = some (.int r) ∧ Cz E Y_M_drop [.ref 110, .int x0] σ1 (fun v' σ2 => (∃ r2 : Int32, v' = some (.int r2)) ∧ J σ2))
noncomputable def LC_17 (E : xV) (σ : zS) (J : zS → Prop) : Prop := ∀ (x0 : Int32) (x1 : Int32), Cz E Y_H_thingOf [.ref 0, .int x0, .int x1] σ (fun v σ1 => ∃ r : Int32, v = some (.int r) ∧ Cz E Y_M_thingOf [.ref 110, .int x0, .int x1] σ1 (fun v' σ2 => (∃ r2 : Int32, v' = some (.int r2)) ∧ J σ2))
noncomputable def LC_18 (E : xV) (σ : zS) (J : zS → Prop) : Prop := ∀ (x0 : Int32) (x1 : Int32), Cz E Y_H_under [.ref 0, .int x0, .int x1] σ (fun v σ1 => ∃ r : Int32, v = some (.int r) ∧ Cz E Y_M_under [.ref 110, .int x0, .int x1] σ1 (fun v' σ2 => (∃ r2 : Int32, v' = some (.int r2)) ∧ J σ2))
noncomputable def LC_19 (E : xV) (σ : zS) (J : zS → Prop) : Prop := ∀ (x0 : Int32) (x1 : Int32) (x2 : Int32), (x2 = 0 ∨ x2 = 1) → Cz E Y_H_holds [.ref 0, .int x0, .int x1, .int x2] σ (fun v σ1 => ∃ r : Int32, v = some (.int r) ∧ Cz E Y_M_holds [.ref 110, .int x0, .int x1, .int x2] σ1 (fun v' σ2 => (∃ r2 : Int32, v' = some (.int r2)) ∧ J σ2))
noncomputable def LC_20 (E : xV) (σ : zS) (J : zS → Prop) : Prop := ∀ (x0 : Int32) (x1 : Int32), Cz E Y_H_doesHold [.ref 0, .int x0, .int x1] σ (fun v σ1 => ∃ r : Int32, v = some (.int r) ∧ Cz E Y_M_doesHold [.ref 110, .int x0, .int x1] σ1 (fun v' σ2 => (∃ r2 : Int32, v' = some (.int r2)) ∧ J σ2))
noncomputable def LC_21 (E : xV) (σ : zS) (J : zS → Prop) : Prop := ∀ (x0 : Int32), Cz E Y_H_policy [.ref 0, .int x0] σ (fun v σ1 => ∃ r : Int32, v = some (.int r) ∧ Cz E Y_M_policy [.ref 110, .int x0] σ1 (fun v' σ2 => (∃ r2 : Int32, v' = some (.int r2)) ∧ J σ2))
noncomputable def LC_22 (E : xV) (σ : zS) (J : zS → Prop) : Prop := ∀ (x0 : Int32), Cz E Y_H_rules [.ref 0, .int x0] σ (fun v σ1 => ∃ r : Int32, v = some (.int r) ∧ Cz E Y_M_rules [.ref 110, .int x0] σ1 (fun v' σ2 => (∃ r2 : Int32, v' = some (.int r2)) ∧ J σ2))
noncomputable def LC_23 (E : xV) (σ : zS) (J : zS → Prop) : Prop := ∀ (x0 : Int32), Cz E Y_H_inForce [.ref 0, .int x0] σ (fun v σ1 => ∃ r : Int32, v = some (.int r) ∧ Cz E Y_M_inForce [.ref 110, .int x0] σ1 (fun v' σ2 => (∃ r2 : Int32, v' = some (.int r2)) ∧ J σ2))
noncomputable def LC_24 (E : xV) (σ : zS) (J : zS → Prop) : Prop := ∀ (x0 : Int32) (x1 : Int32) (x2 : Int32), Cz E Y_H_ask [.ref 0, .int x0, .int x1, .int x2] σ (fun v σ1 => ∃ r : Int32, v = some (.int r) ∧ Cz E Y_M_ask [.ref 110, .int x0, .int x1, .int x2] σ1 (fun v' σ2 => (∃ r2 : Int32, v' = some (.int r2)) ∧ J σ2))
noncomputable def LC_25 (E : xV) (σ : zS) (J : zS → Prop) : Prop := ∀ (x0 : Int32) (x1 : Int32) (x2 : Int32) (x3 : Int32) (x4 : Int32), Cz E Y_H_asked [.ref 0, .int x0, .int x1, .int x2, .int x3, .int x4] σ (fun v σ1 => ∃ r : Int32, v = some (.int r) ∧ Cz E Y_M_asked [.ref 110, .int x0, .int x1, .int x2, .int x3, .int x4] σ1 (fun v' σ2 => (∃ r2 : Int32, v' = some (.int r2)) ∧ J σ2))
noncomputable def LC_26 (E : xV) (σ : zS) (J : zS → Prop) : Prop := ∀ (x0 : Int32), Cz E Y_H_made [.ref 0, .int x0] σ (fun v σ1 => ∃ r : Int32, v = some (.int r) ∧ Cz E Y_M_made [.ref 110, .int x0] σ1 (fun v' σ2 => (∃ r2 : Int32, v' = some (.int r2)) ∧ J σ2))
noncomputable def LC_27 (E : xV) (σ : zS) (J : zS → Prop) : Prop := ∀ (x0 : Int32) (x1 : Int32) (x2 : Int32) (x3 : Int32), Cz E Y_H_may [.ref 0, .int x0, .int x1, .int x2, .int x3] σ (fun v σ1 => ∃ r : Int32, v = some (.int r) ∧ Cz E Y_M_may [.ref 110, .int x0, .int x1, .int x2, .int x3] σ1 (fun v' σ2 => (∃ r2 : Int32, v' = some (.int r2)) ∧ J σ2))
noncomputable def LC_28 (E : xV) (σ : zS) (J : zS → Prop) : Prop := ∀ (x0 : Int32) (x1 : Int32) (x2 : Int32) (x3 : Int32), Cz E Y_H_who [.ref 0, .int x0, .int x1, .int x2, .int x3] σ (fun v σ1 => ∃ r : Int32, v = some (.int r) ∧ Cz E Y_M_who [.ref 110, .int x0, .int x1, .int x2, .int x3] σ1 (fun v' σ2 => (∃ r2 : Int32, v' = some (.int r2)) ∧ J σ2))
noncomputable def LC_29 (E : xV) (σ : zS) (J : zS → Prop) : Prop := ∀ (x0 : Int32) (x1 : Int32), Cz E Y_H_compare [.ref 0, .int x0, .int x1] σ (fun v σ1 => ∃ r : Int32, v = some (.int r) ∧ Cz E Y_M_compare [.ref 110, .int x0, .int x1] σ1 (fun v' σ2 => (∃ r2 : Int32, v' = some (.int r2)) ∧ J σ2))
noncomputable def LC_30 (E : xV) (σ : zS) (J : zS → Prop) : Prop := ∀ (x0 : Int32), Cz E Y_H_compared [.ref 0, .int x0] σ (fun v σ1 => ∃ r : Int32, v = some (.int r) ∧ Cz E Y_M_compared [.ref 110, .int x0] σ1 (fun v' σ2 => (∃ r2 : Int32, v' = some (.int r2)) ∧ J σ2))
noncomputable def LC_31 (E : xV) (σ : zS) (J : zS → Prop) : Prop := ∀ (x0 : Int32) (x1 : Int32), Cz E Y_H_decides [.ref 0, .int x0, .int x1] σ (fun v σ1 => ∃ r : Int32, v = some (.int r) ∧ Cz E Y_M_decides [.ref 110, .int x0, .int x1] σ1 (fun v' σ2 => (∃ r2 : Int32, v' = some (.int r2)) ∧ J σ2))
noncomputable def LC_32 (E : xV) (σ : zS) (J : zS → Prop) : Prop := ∀ (x0 : Int32) (x1 : Int32) (x2 : Int32), Cz E Y_H_law [.ref 0, .int x0, .int x1, .int x2] σ (fun v σ1 => ∃ r : Int32, v = some (.int r) ∧ Cz E Y_M_law [.ref 110, .int x0, .int x1, .int x2] σ1 (fun v' σ2 => (∃ r2 : Int32, v' = some (.int r2)) ∧ J σ2))
noncomputable def LC_33 (E : xV) (σ : zS) (J : zS → Prop) : Prop := ∀ (x0 : Int32) (x1 : Int32) (x2 : Int32) (x3 : Int32), Cz E Y_H_give [.ref 0, .int x0, .int x1, .int x2, .int x3] σ (fun v σ1 => ∃ r : Int32, v = some (.int r) ∧ Cz E Y_M_give [.ref 110, .int x0, .int x1, .int x2, .int x3] σ1 (fun v' σ2 => (∃ r2 : Int32, v' = some (.int r2)) ∧ J σ2))
noncomputable def LC_34 (E : xV) (σ : zS) (J : zS → Prop) : Prop := ∀ (x0 : Int32) (x1 : Int32) (x2 : Int32), Cz E Y_H_take [.ref 0, .int x0, .int x1, .int x2] σ (fun v σ1 => ∃ r : Int32, v = some (.int r) ∧ Cz E Y_M_take [.ref 110, .int x0, .int x1, .int x2] σ1 (fun v' σ2 => (∃ r2 : Int32, v' = some (.int r2)) ∧ J σ2))
noncomputable def LC_35 (E : xV) (σ : zS) (J : zS → Prop) : Prop := Cz E Y_H_broken [.ref 0] σ (fun v σ1 => ∃ r : Int32, v = some (.int r) ∧ Cz E Y_M_broken [.ref 110] σ1 (fun v' σ2 => (∃ r2 : Int32, v' = some (.int r2)) ∧ J σ2))
noncomputable def LC_36 (E : xV) (σ : zS) (J : zS → Prop) : Prop := ∀ (x0 : Int32), Cz E Y_H_breach [.ref 0, .int x0] σ (fun v σ1 => ∃ r : Int32, v = some (.int r) ∧ Cz E Y_M_breach [.ref 110, .int x0] σ1 (fun v' σ2 => (∃ r2 : Int32, v' = some (.int r2)) ∧ J σ2))
noncomputable def LC_37 (E : xV) (σ : zS) (J : zS → Prop) : Prop := ∀ (x0 : Int32), Cz E Y_H_session [.ref 0, .int x0] σ (fun v σ1 => ∃ r : Int32, v = some (.int r) ∧ Cz E Y_M_session [.ref 110, .int x0] σ1 (fun v' σ2 => (∃ r2 : Int32, v' = some (.int r2)) ∧ J σ2))
noncomputable def LC_38 (E : xV) (σ : zS) (J : zS → Prop) : Prop := ∀ (x0 : Int32) (x1 : Int32), Cz E Y_H_switchOn [.ref 0, .int x0, .int x1] σ (fun v σ1 => ∃ r : Int32, v = some (.int r) ∧ Cz E Y_M_switchOn [.ref 110, .int x0, .int x1] σ1 (fun v' σ2 => (∃ r2 : Int32, v' = some (.int r2)) ∧ J σ2))
noncomputable def LC_39 (E : xV) (σ : zS) (J : zS → Prop) : Prop := ∀ (x0 : Int32) (x1 : Int32), Cz E Y_H_switchOff [.ref 0, .int x0, .int x1] σ (fun v σ1 => ∃ r : Int32, v = some (.int r) ∧ Cz E Y_M_switchOff [.ref 110, .int x0, .int x1] σ1 (fun v' σ2 => (∃ r2 : Int32, v' = some (.int r2)) ∧ J σ2))
noncomputable def LC_40 (E : xV) (σ : zS) (J : zS → Prop) : Prop := ∀ (x0 : Int32) (x1 : Int32) (x2 : Int32), Cz E Y_H_askIn [.ref 0, .int x0, .int x1, .int x2] σ (fun v σ1 => ∃ r : Int32, v = some (.int r) ∧ Cz E Y_M_askIn [.ref 110, .int x0, .int x1, .int x2] σ1 (fun v' σ2 => (∃ r2 : Int32, v' = some (.int r2)) ∧ J σ2))
noncomputable def LC_41 (E : xV) (σ : zS) (J : zS → Prop) : Prop := Cz E Y_H_work [.ref 0] σ (fun v σ1 => ∃ r : Int32, v = some (.int r) ∧ Cz E Y_M_work [.ref 110] σ1 (fun v' σ2 => (∃ r2 : Int32, v' = some (.int r2)) ∧ J σ2))
noncomputable def LC_42 (E : xV) (σ : zS) (J : zS → Prop) : Prop := ∀ (x0 : Int32) (x1 : Int32), Cz E Y_H_step [.ref 0, .int x0, .int x1] σ (fun v σ1 => ∃ r : Int32, v = some (.int r) ∧ Cz E Y_M_step [.ref 110, .int x0, .int x1] σ1 (fun v' σ2 => (∃ r2 : Int32, v' = some (.int r2)) ∧ J σ2))
noncomputable def LC_43 (E : xV) (σ : zS) (J : zS → Prop) : Prop := ∀ (x0 : Int32) (x1 : Int32) (x2 : Int32) (x3 : Int32), Cz E Y_H_tie [.ref 0, .int x0, .int x1, .int x2, .int x3] σ (fun v σ1 => ∃ r : Int32, v = some (.int r) ∧ Cz E Y_M_tie [.ref 110, .int x0, .int x1, .int x2, .int x3] σ1 (fun v' σ2 => (∃ r2 : Int32, v' = some (.int r2)) ∧ J σ2))
noncomputable def LC_44 (E : xV) (σ : zS) (J : zS → Prop) : Prop := ∀ (x0 : Int32) (x1 : Int32), Cz E Y_H_fill [.ref 0, .int x0, .int x1] σ (fun v σ1 => ∃ r : Int32, v = some (.int r) ∧ Cz E Y_M_fill [.ref 110, .int x0, .int x1] σ1 (fun v' σ2 => (∃ r2 : Int32, v' = some (.int r2)) ∧ J σ2))
noncomputable def LC_45 (E : xV) (σ : zS) (J : zS → Prop) : Prop := ∀ (x0 : Int32) (x1 : Int32), Cz E Y_H_filled [.ref 0, .int x0, .int x1] σ (fun v σ1 => ∃ r : Int32, v = some (.int r) ∧ Cz E Y_M_filled [.ref 110, .int x0, .int x1] σ1 (fun v' σ2 => (∃ r2 : Int32, v' = some (.int r2)) ∧ J σ2))
noncomputable def LC_46 (E : xV) (σ : zS) (J : zS → Prop) : Prop := ∀ (x0 : Int32) (x1 : Int32) (x2 : Int32) (x3 : Int32), Cz E Y_H_next [.ref 0, .int x0, .int x1, .int x2, .int x3] σ (fun v σ1 => ∃ r : Int32, v = some (.int r) ∧ Cz E Y_M_next [.ref 110, .int x0, .int x1, .int x2, .int x3] σ1 (fun v' σ2 => (∃ r2 : Int32, v' = some (.int r2)) ∧ J σ2))
noncomputable def LC_47 (E : xV) (σ : zS) (J : zS → Prop) : Prop := ∀ (x0 : Int32) (x1 : Int32) (x2 : Int32) (x3 : Int32), Cz E Y_H_perform [.ref 0, .int x0, .int x1, .int x2, .int x3] σ (fun v σ1 => ∃ r : Int32, v = some (.int r) ∧ Cz E Y_M_perform [.ref 110, .int x0, .int x1, .int x2, .int x3] σ1 (fun v' σ2 => (∃ r2 : Int32, v' = some (.int r2)) ∧ J σ2))
noncomputable def LC_48 (E : xV) (σ : zS) (J : zS → Prop) : Prop := ∀ (x0 : Int32) (x1 : Int32) (x2 : Int32), Cz E Y_H_needed [.ref 0, .int x0, .int x1, .int x2] σ (fun v σ1 => ∃ r : Int32, v = some (.int r) ∧ Cz E Y_M_needed [.ref 110, .int x0, .int x1, .int x2] σ1 (fun v' σ2 => (∃ r2 : Int32, v' = some (.int r2)) ∧ J σ2))
noncomputable def LC_49 (E : xV) (σ : zS) (J : zS → Prop) : Prop := Cz E Y_H_tries [.ref 0] σ (fun v σ1 => ∃ r : Int32, v = some (.int r) ∧ Cz E Y_M_tries [.ref 110] σ1 (fun v' σ2 => (∃ r2 : Int32, v' = some (.int r2)) ∧ J σ2))
noncomputable def LC_50 (E : xV) (σ : zS) (J : zS → Prop) : Prop := ∀ (x0 : Int32) (x1 : Int32) (x2 : Int32) (x3 : Int32) (x4 : Int32) (x5 : Int32) (x6 : Int32), Cz E Y_H_lend [.ref 0, .int x0, .int x1, .int x2, .int x3, .int x4, .int x5, .int x6] σ (fun v σ1 => ∃ r : Int32, v = some (.int r) ∧ Cz E Y_M_lend [.ref 110, .int x0, .int x1, .int x2, .int x3, .int x4, .int x5, .int x6] σ1 (fun v' σ2 => (∃ r2 : Int32, v' = some (.int r2)) ∧ J σ2))
noncomputable def LC_51 (E : xV) (σ : zS) (J : zS → Prop) : Prop := ∀ (x0 : Int32) (x1 : Int32), Cz E Y_H_endLend [.ref 0, .int x0, .int x1] σ (fun v σ1 => ∃ r : Int32, v = some (.int r) ∧ Cz E Y_M_endLend [.ref 110, .int x0, .int x1] σ1 (fun v' σ2 => (∃ r2 : Int32, v' = some (.int r2)) ∧ J σ2))
noncomputable def LC_52 (E : xV) (σ : zS) (J : zS → Prop) : Prop := ∀ (x0 : Int32) (x1 : Int32) (x2 : Int32) (x3 : Int32), Cz E Y_H_stands [.ref 0, .int x0, .int x1, .int x2, .int x3] σ (fun v σ1 => ∃ r : Int32, v = some (.int r) ∧ Cz E Y_M_stands [.ref 110, .int x0, .int x1, .int x2, .int x3] σ1 (fun v' σ2 => (∃ r2 : Int32, v' = some (.int r2)) ∧ J σ2))
noncomputable def LC_53 (E : xV) (σ : zS) (J : zS → Prop) : Prop := ∀ (x0 : Int32), Cz E Y_H_chain [.ref 0, .int x0] σ (fun v σ1 => ∃ r : Int32, v = some (.int r) ∧ Cz E Y_M_chain [.ref 110, .int x0] σ1 (fun v' σ2 => v' = some (.int r) ∧ J σ2))
noncomputable def LC_54 (E : xV) (σ : zS) (J : zS → Prop) : Prop := ∀ (x0 : Int32) (x1 : Int32) (x2 : Int32), Cz E Y_H_useRight [.ref 0, .int x0, .int x1, .int x2] σ (fun v σ1 => ∃ r : Int32, v = some (.int r) ∧ Cz E Y_M_useRight [.ref 110, .int x0, .int x1, .int x2] σ1 (fun v' σ2 => (∃ r2 : Int32, v' = some (.int r2)) ∧ J σ2))
noncomputable def LC_55 (E : xV) (σ : zS) (J : zS → Prop) : Prop := ∀ (x0 : Int32) (x1 : Int32), Cz E Y_H_lendOf [.ref 0, .int x0, .int x1] σ (fun v σ1 => ∃ r : Int32, v = some (.int r) ∧ Cz E Y_M_lendOf [.ref 110, .int x0, .int x1] σ1 (fun v' σ2 => (∃ r2 : Int32, v' = some (.int r2)) ∧ J σ2))
noncomputable def LC_56 (E : xV) (σ : zS) (J : zS → Prop) : Prop := ∀ (x0 : Int32) (x1 : Int32) (x2 : Int32), Cz E Y_H_key [.ref 0, .int x0, .int x1, .int x2] σ (fun v σ1 => ∃ r : Int32, v = some (.int r) ∧ Cz E Y_M_key [.ref 110, .int x0, .int x1, .int x2] σ1 (fun v' σ2 => (∃ r2 : Int32, v' = some (.int r2)) ∧ J σ2))
noncomputable def LC_57 (E : xV) (σ : zS) (J : zS → Prop) : Prop := ∀ (x0 : Int32) (x1 : Int32) (x2 : Int32), Cz E Y_H_ever [.ref 0, .int x0, .int x1, .int x2] σ (fun v σ1 => ∃ r : Int32, v = some (.int r) ∧ Cz E Y_M_ever [.ref 110, .int x0, .int x1, .int x2] σ1 (fun v' σ2 => (∃ r2 : Int32, v' = some (.int r2)) ∧ J σ2))
noncomputable def LC_58 (E : xV) (σ : zS) (J : zS → Prop) : Prop := ∀ (x0 : Int32) (x1 : Int32), Cz E Y_H_gain [.ref 0, .int x0, .int x1] σ (fun v σ1 => ∃ r : Int32, v = some (.int r) ∧ Cz E Y_M_gain [.ref 110, .int x0, .int x1] σ1 (fun v' σ2 => (∃ r2 : Int32, v' = some (.int r2)) ∧ J σ2))
noncomputable def LC_59 (E : xV) (σ : zS) (J : zS → Prop) : Prop := ∀ (x0 : Int32) (x1 : Int32), Cz E Y_H_label [.ref 0, .int x0, .int x1] σ (fun v σ1 => ∃ r : Int32, v = some (.int r) ∧ Cz E Y_M_label [.ref 110, .int x0, .int x1] σ1 (fun v' σ2 => (∃ r2 : Int32, v' = some (.int r2)) ∧ J σ2))
noncomputable def LC_60 (E : xV) (σ : zS) (J : zS → Prop) : Prop := ∀ (x0 : Int32) (x1 : Int32) (x2 : Int32) (x3 : Int32), Cz E Y_H_statement [.ref 0, .int x0, .int x1, .int x2, .int x3] σ (fun v σ1 => ∃ r : Int32, v = some (.int r) ∧ Cz E Y_M_statement [.ref 110, .int x0, .int x1, .int x2, .int x3] σ1 (fun v' σ2 => (∃ r2 : Int32, v' = some (.int r2)) ∧ J σ2))
noncomputable def LC_61 (E : xV) (σ : zS) (J : zS → Prop) : Prop := Cz E Y_H_erase [.ref 0] σ (fun v σ1 => ∃ r : Int32, v = some (.int r) ∧ Cz E Y_M_erase [.ref 110] σ1 (fun v' σ2 => (∃ r2 : Int32, v' = some (.int r2)) ∧ J σ2))
noncomputable def LC_62 (E : xV) (σ : zS) (J : zS → Prop) : Prop := Cz E Y_H_tight [.ref 0] σ (fun v σ1 => ∃ r : Int32, v = some (.int r) ∧ Cz E Y_M_tight [.ref 110] σ1 (fun v' σ2 => (∃ r2 : Int32, v' = some (.int r2)) ∧ J σ2))
noncomputable def LC_63 (E : xV) (σ : zS) (J : zS → Prop) : Prop := Cz E Y_H_lowered [.ref 0] σ (fun v σ1 => ∃ r : Int32, v = some (.int r) ∧ Cz E Y_M_lowered [.ref 110] σ1 (fun v' σ2 => (∃ r2 : Int32, v' = some (.int r2)) ∧ J σ2))
noncomputable def LC_64 (E : xV) (σ : zS) (J : zS → Prop) : Prop := ∀ (x0 : Int32) (x1 : Int32), Cz E Y_H_given [.ref 0, .int x0, .int x1] σ (fun v σ1 => ∃ r : Int32, v = some (.int r) ∧ Cz E Y_M_given [.ref 110, .int x0, .int x1] σ1 (fun v' σ2 => (∃ r2 : Int32, v' = some (.int r2)) ∧ J σ2))
noncomputable def LC_65 (E : xV) (σ : zS) (J : zS → Prop) : Prop := ∀ (x0 : Int32), Cz E Y_H_flow [.ref 0, .int x0] σ (fun v σ1 => ∃ r : Int32, v = some (.int r) ∧ Cz E Y_M_flow [.ref 110, .int x0] σ1 (fun v' σ2 => (∃ r2 : Int32, v' = some (.int r2)) ∧ J σ2))
noncomputable def LC_66 (E : xV) (σ : zS) (J : zS → Prop) : Prop := ∀ (x0 : Int32) (x1 : Int32), Cz E Y_H_said [.ref 0, .int x0, .int x1] σ (fun v σ1 => ∃ r : Int32, v = some (.int r) ∧ Cz E Y_M_said [.ref 110, .int x0, .int x1] σ1 (fun v' σ2 => (∃ r2 : Int32, v' = some (.int r2)) ∧ J σ2))
noncomputable def LC_67 (E : xV) (σ : zS) (J : zS → Prop) : Prop := ∀ (x0 : Int32), Cz E Y_H_variable [.ref 0, .int x0] σ (fun v σ1 => ∃ r : Int32, v = some (.int r) ∧ Cz E Y_M_variable [.ref 110, .int x0] σ1 (fun v' σ2 => (∃ r2 : Int32, v' = some (.int r2)) ∧ J σ2))
noncomputable def LC_68 (E : xV) (σ : zS) (J : zS → Prop) : Prop := ∀ (x0 : Int32) (x1 : Int64), Cz E Y_H_guarded [.ref 0, .int x0, .long x1] σ (fun v σ1 => ∃ r : Int64, v = some (.long r) ∧ Cz E Y_M_guarded [.ref 110, .int x0, .long x1] σ1 (fun v' σ2 => (∃ r2 : Int64, v' = some (.long r2)) ∧ J σ2))
noncomputable def LC_69 (E : xV) (σ : zS) (J : zS → Prop) : Prop := ∀ (x0 : Int32) (x1 : Int64), Cz E Y_H_sum [.ref 0, .int x0, .long x1] σ (fun v σ1 => ∃ r : Int64, v = some (.long r) ∧ Cz E Y_M_sum [.ref 110, .int x0, .long x1] σ1 (fun v' σ2 => (∃ r2 : Int64, v' = some (.long r2)) ∧ J σ2))
noncomputable def LC_70 (E : xV) (σ : zS) (J : zS → Prop) : Prop := ∀ (x0 : Int32) (x1 : Int32), Cz E Y_H_share [.ref 0, .int x0, .int x1] σ (fun v σ1 => ∃ r : Int32, v = some (.int r) ∧ Cz E Y_M_share [.ref 110, .int x0, .int x1] σ1 (fun v' σ2 => (∃ r2 : Int32, v' = some (.int r2)) ∧ J σ2))
noncomputable def LC_71 (E : xV) (σ : zS) (J : zS → Prop) : Prop := ∀ (x0 : Int32) (x1 : Int32), Cz E Y_H_knows [.ref 0, .int x0, .int x1] σ (fun v σ1 => ∃ r : Int32, v = some (.int r) ∧ Cz E Y_M_knows [.ref 110, .int x0, .int x1] σ1 (fun v' σ2 => (∃ r2 : Int32, v' = some (.int r2)) ∧ J σ2))
noncomputable def LC_72 (E : xV) (σ : zS) (J : zS → Prop) : Prop := ∀ (x0 : Int32), Cz E Y_H_room [.ref 0, .int x0] σ (fun v σ1 => ∃ r : Int32, v = some (.int r) ∧ Cz E Y_M_room [.ref 110, .int x0] σ1 (fun v' σ2 => (∃ r2 : Int32, v' = some (.int r2)) ∧ J σ2))
noncomputable def LC_73 (E : xV) (σ : zS) (J : zS → Prop) : Prop := ∀ (x0 : Int32), Cz E Y_H_method [.ref 0, .int x0] σ (fun v σ1 => ∃ r : Int32, v = some (.int r) ∧ Cz E Y_M_method [.ref 110, .int x0] σ1 (fun v' σ2 => (∃ r2 : Int32, v' = some (.int r2)) ∧ J σ2))
noncomputable def LC_74 (E : xV) (σ : zS) (J : zS → Prop) : Prop := ∀ (x0 : Int32) (x1 : Int32) (x2 : Int32) (x3 : Int32), Cz E Y_H_op [.ref 0, .int x0, .int x1, .int x2, .int x3] σ (fun v σ1 => ∃ r : Int32, v = some (.int r) ∧ Cz E Y_M_op [.ref 110, .int x0, .int x1, .int x2, .int x3] σ1 (fun v' σ2 => (∃ r2 : Int32, v' = some (.int r2)) ∧ J σ2))
noncomputable def LC_75 (E : xV) (σ : zS) (J : zS → Prop) : Prop := ∀ (x0 : Int32) (x1 : Int32), Cz E Y_H_enter [.ref 0, .int x0, .int x1] σ (fun v σ1 => ∃ r : Int32, v = some (.int r) ∧ Cz E Y_M_enter [.ref 110, .int x0, .int x1] σ1 (fun v' σ2 => (∃ r2 : Int32, v' = some (.int r2)) ∧ J σ2))
noncomputable def LC_76 (E : xV) (σ : zS) (J : zS → Prop) : Prop := ∀ (x0 : Int32), Cz E Y_H_entered [.ref 0, .int x0] σ (fun v σ1 => ∃ r : Int32, v = some (.int r) ∧ Cz E Y_M_entered [.ref 110, .int x0] σ1 (fun v' σ2 => (∃ r2 : Int32, v' = some (.int r2)) ∧ J σ2))
noncomputable def LC_77 (E : xV) (σ : zS) (J : zS → Prop) : Prop := ∀ (x0 : Int32) (x1 : Int32), Cz E Y_H_half [.ref 0, .int x0, .int x1] σ (fun v σ1 => ∃ r : Int32, v = some (.int r) ∧ Cz E Y_M_half [.ref 110, .int x0, .int x1] σ1 (fun v' σ2 => (∃ r2 : Int32, v' = some (.int r2)) ∧ J σ2))
noncomputable def LC_78 (E : xV) (σ : zS) (J : zS → Prop) : Prop := Cz E Y_H_joined [.ref 0] σ (fun v σ1 => ∃ r : Int32, v = some (.int r) ∧ Cz E Y_M_joined [.ref 110] σ1 (fun v' σ2 => (∃ r2 : Int32, v' = some (.int r2)) ∧ J σ2))
noncomputable def LC_79 (E : xV) (σ : zS) (J : zS → Prop) : Prop := ∀ (x0 : Int32) (x1 : Int32), Cz E Y_H_logged [.ref 0, .int x0, .int x1] σ (fun v σ1 => ∃ r : Int32, v = some (.int r) ∧ Cz E Y_M_logged [.ref 110, .int x0, .int x1] σ1 (fun v' σ2 => (∃ r2 : Int32, v' = some (.int r2)) ∧ J σ2))
noncomputable def LC_80 (E : xV) (σ : zS) (J : zS → Prop) : Prop := ∀ (x0 : Int32) (x1 : Int32) (x2 : Int32), Cz E Y_H_forge [.ref 0, .int x0, .int x1, .int x2] σ (fun v σ1 => ∃ r : Int32, v = some (.int r) ∧ Cz E Y_M_forge [.ref 110, .int x0, .int x1, .int x2] σ1 (fun v' σ2 => (∃ r2 : Int32, v' = some (.int r2)) ∧ J σ2))
noncomputable def LC_81 (E : xV) (σ : zS) (J : zS → Prop) : Prop := Cz E Y_H_wrong [.ref 0] σ (fun v σ1 => ∃ r : Int32, v = some (.int r) ∧ Cz E Y_M_wrong [.ref 110] σ1 (fun v' σ2 => (∃ r2 : Int32, v' = some (.int r2)) ∧ J σ2))
noncomputable def LC_82 (E : xV) (σ : zS) (J : zS → Prop) : Prop := ∀ (x0 : Int32) (x1 : Int32), Cz E Y_H_sealed [.ref 0, .int x0, .int x1] σ (fun v σ1 => ∃ r : Int32, v = some (.int r) ∧ Cz E Y_M_sealed [.ref 110, .int x0, .int x1] σ1 (fun v' σ2 => (∃ r2 : Int32, v' = some (.int r2)) ∧ J σ2))
noncomputable def LC_83 (E : xV) (σ : zS) (J : zS → Prop) : Prop := ∀ (x0 : Int32) (x1 : Int32) (x2 : Int32) (x3 : Int32), Cz E Y_H_could [.ref 0, .int x0, .int x1, .int x2, .int x3] σ (fun v σ1 => ∃ r : Int32, v = some (.int r) ∧ Cz E Y_M_could [.ref 110, .int x0, .int x1, .int x2, .int x3] σ1 (fun v' σ2 => (∃ r2 : Int32, v' = some (.int r2)) ∧ J σ2))
theorem sw_0 {E : xV} {bS L : Nat} {xs : Nat → Int32} {i : Int32} {σ : zS} {J : zS → Prop} (hv : ∀ j : Int32, 0 ≤ j → j ≤ 7 → vp_in (i + j) L) (h0 : LC_0 E σ J)
    (hJ : ∀ σ2, J σ2 → Wx E YL 3476 [(0, .ref 1021), (1, .ref 0), (2, .ref 110), (3, .int i)] [] 215 215 100784 (zx σ2) (QL E bS L xs)) (c0 : (xs i.toNatClampNeg &&& 127) = 0) : Wx E YL 33 [(0, .ref 1021), (1, .ref 0), (2, .ref 110), (3, .int i)] [.int (xs i.toNatClampNeg &&& 127)] 215 215 100784 (zx σ) (QL E bS L xs) := by
  refine x_tableIn (tgt := 384) d_L_33 (by rw [c0]; decide) (by rw [c0]; decide) (by rw [c0]; rfl) (by decide) ?_
  exact L_0 (hv 1 (by decide) (by decide)) (hv 2 (by decide) (by decide)) (hv 3 (by decide) (by decide)) (Cz.mono (h0 (xs (i + 1).toNatClampNeg) ((j_lshl (Int32.toInt64 (xs (i + 2).toNatClampNeg)) 32) ||| ((Int32.toInt64 (xs (i + 3).toNatClampNeg)) &&& 4294967295))) fun v σ1 ⟨r, e, q⟩ => ⟨r, e, Cz.mono q fun v2 σ2 ⟨e2, q2⟩ => ⟨e2, hJ σ2 q2⟩⟩)
theorem sw_1 {E : xV} {bS L : Nat} {xs : Nat → Int32} {i : Int32} {σ : zS} {J : zS → Prop} (hv : ∀ j : Int32, 0 ≤ j → j ≤ 7 → vp_in (i + j) L) (h1 : LC_1 E σ J)
    (hJ : ∀ σ2, J σ2 → Wx E YL 3476 [(0, .ref 1021), (1, .ref 0), (2, .ref 110), (3, .int i)] [] 215 215 100784 (zx σ2) (QL E bS L xs)) (c1 : (xs i.toNatClampNeg &&& 127) = 1) : Wx E YL 33 [(0, .ref 1021), (1, .ref 0), (2, .ref 110), (3, .int i)] [.int (xs i.toNatClampNeg &&& 127)] 215 215 100784 (zx σ) (QL E bS L xs) := by
  refine x_tableIn (tgt := 447) d_L_33 (by rw [c1]; decide) (by rw [c1]; decide) (by rw [c1]; rfl) (by decide) ?_
  exact L_1 (hv 1 (by decide) (by decide)) (Cz.mono (h1 (xs (i + 1).toNatClampNeg)) fun v σ1 ⟨r, e, q⟩ => ⟨r, e, Cz.mono q fun v2 σ2 ⟨e2, q2⟩ => ⟨e2, hJ σ2 q2⟩⟩)
theorem sw_2 {E : xV} {bS L : Nat} {xs : Nat → Int32} {i : Int32} {σ : zS} {J : zS → Prop} (hv : ∀ j : Int32, 0 ≤ j → j ≤ 7 → vp_in (i + j) L) (h2 : LC_2 E σ J)
    (hJ : ∀ σ2, J σ2 → Wx E YL 3476 [(0, .ref 1021), (1, .ref 0), (2, .ref 110), (3, .int i)] [] 215 215 100784 (zx σ2) (QL E bS L xs)) (c2 : (xs i.toNatClampNeg &&& 127) = 2) : Wx E YL 33 [(0, .ref 1021), (1, .ref 0), (2, .ref 110), (3, .int i)] [.int (xs i.toNatClampNeg &&& 127)] 215 215 100784 (zx σ) (QL E bS L xs) := by
  refine x_tableIn (tgt := 470) d_L_33 (by rw [c2]; decide) (by rw [c2]; decide) (by rw [c2]; rfl) (by decide) ?_
  exact L_2 (hv 1 (by decide) (by decide)) (Cz.mono (h2 (xs (i + 1).toNatClampNeg)) fun v σ1 ⟨r, e, q⟩ => ⟨r, e, Cz.mono q fun v2 σ2 ⟨e2, q2⟩ => ⟨e2, hJ σ2 q2⟩⟩)
theorem sw_3 {E : xV} {bS L : Nat} {xs : Nat → Int32} {i : Int32} {σ : zS} {J : zS → Prop} (hv : ∀ j : Int32, 0 ≤ j → j ≤ 7 → vp_in (i + j) L) (h3 : LC_3 E σ J)
    (hJ : ∀ σ2, J σ2 → Wx E YL 3476 [(0, .ref 1021), (1, .ref 0), (2, .ref 110), (3, .int i)] [] 215 215 100784 (zx σ2) (QL E bS L xs)) (c3 : (xs i.toNatClampNeg &&& 127) = 3) : Wx E YL 33 [(0, .ref 1021), (1, .ref 0), (2, .ref 110), (3, .int i)] [.int (xs i.toNatClampNeg &&& 127)] 215 215 100784 (zx σ) (QL E bS L xs) := by
  refine x_tableIn (tgt := 493) d_L_33 (by rw [c3]; decide) (by rw [c3]; decide) (by rw [c3]; rfl) (by decide) ?_
  exact L_3  (Cz.mono (h3 ) fun v σ1 ⟨r, e, q⟩ => ⟨r, e, Cz.mono q fun v2 σ2 ⟨e2, q2⟩ => ⟨e2, hJ σ2 q2⟩⟩)
theorem sw_4 {E : xV} {bS L : Nat} {xs : Nat → Int32} {i : Int32} {σ : zS} {J : zS → Prop} (hv : ∀ j : Int32, 0 ≤ j → j ≤ 7 → vp_in (i + j) L) (h4 : LC_4 E σ J)
    (hJ : ∀ σ2, J σ2 → Wx E YL 3476 [(0, .ref 1021), (1, .ref 0), (2, .ref 110), (3, .int i)] [] 215 215 100784 (zx σ2) (QL E bS L xs)) (c4 : (xs i.toNatClampNeg &&& 127) = 4) : Wx E YL 33 [(0, .ref 1021), (1, .ref 0), (2, .ref 110), (3, .int i)] [.int (xs i.toNatClampNeg &&& 127)] 215 215 100784 (zx σ) (QL E bS L xs) := by
  refine x_tableIn (tgt := 506) d_L_33 (by rw [c4]; decide) (by rw [c4]; decide) (by rw [c4]; rfl) (by decide) ?_
  exact L_4  (Cz.mono (h4 ) fun v σ1 ⟨r, e, q⟩ => ⟨r, e, Cz.mono q fun v2 σ2 ⟨e2, q2⟩ => ⟨e2, hJ σ2 q2⟩⟩)
theorem sw_5 {E : xV} {bS L : Nat} {xs : Nat → Int32} {i : Int32} {σ : zS} {J : zS → Prop} (hv : ∀ j : Int32, 0 ≤ j → j ≤ 7 → vp_in (i + j) L) (h5 : LC_5 E σ J)
    (hJ : ∀ σ2, J σ2 → Wx E YL 3476 [(0, .ref 1021), (1, .ref 0), (2, .ref 110), (3, .int i)] [] 215 215 100784 (zx σ2) (QL E bS L xs)) (c5 : (xs i.toNatClampNeg &&& 127) = 5) : Wx E YL 33 [(0, .ref 1021), (1, .ref 0), (2, .ref 110), (3, .int i)] [.int (xs i.toNatClampNeg &&& 127)] 215 215 100784 (zx σ) (QL E bS L xs) := by
  refine x_tableIn (tgt := 519) d_L_33 (by rw [c5]; decide) (by rw [c5]; decide) (by rw [c5]; rfl) (by decide) ?_
  exact L_5 (hv 1 (by decide) (by decide)) (hv 2 (by decide) (by decide)) (hv 3 (by decide) (by decide)) (hv 4 (by decide) (by decide)) (Cz.mono (h5 (xs (i + 1).toNatClampNeg) (xs (i + 2).toNatClampNeg) (xs (i + 3).toNatClampNeg) (xs (i + 4).toNatClampNeg)) fun v σ1 ⟨r, e, q⟩ => ⟨r, e, Cz.mono q fun v2 σ2 ⟨e2, q2⟩ => ⟨e2, hJ σ2 q2⟩⟩)
theorem sw_6 {E : xV} {bS L : Nat} {xs : Nat → Int32} {i : Int32} {σ : zS} {J : zS → Prop} (hv : ∀ j : Int32, 0 ≤ j → j ≤ 7 → vp_in (i + j) L) (h6 : LC_6 E σ J)
    (hJ : ∀ σ2, J σ2 → Wx E YL 3476 [(0, .ref 1021), (1, .ref 0), (2, .ref 110), (3, .int i)] [] 215 215 100784 (zx σ2) (QL E bS L xs)) (c6 : (xs i.toNatClampNeg &&& 127) = 6) : Wx E YL 33 [(0, .ref 1021), (1, .ref 0), (2, .ref 110), (3, .int i)] [.int (xs i.toNatClampNeg &&& 127)] 215 215 100784 (zx σ) (QL E bS L xs) := by
  refine x_tableIn (tgt := 572) d_L_33 (by rw [c6]; decide) (by rw [c6]; decide) (by rw [c6]; rfl) (by decide) ?_
  exact L_6 (hv 1 (by decide) (by decide)) (Cz.mono (h6 (xs (i + 1).toNatClampNeg)) fun v σ1 ⟨r, e, q⟩ => ⟨r, e, Cz.mono q fun v2 σ2 ⟨e2, q2⟩ => ⟨e2, hJ σ2 q2⟩⟩)
theorem sw_7 {E : xV} {bS L : Nat} {xs : Nat → Int32} {i : Int32} {σ : zS} {J : zS → Prop} (hv : ∀ j : Int32, 0 ≤ j → j ≤ 7 → vp_in (i + j) L) (h7 : LC_7 E σ J)
    (hJ : ∀ σ2, J σ2 → Wx E YL 3476 [(0, .ref 1021), (1, .ref 0), (2, .ref 110), (3, .int i)] [] 215 215 100784 (zx σ2) (QL E bS L xs)) (c7 : (xs i.toNatClampNeg &&& 127) = 7) : Wx E YL 33 [(0, .ref 1021), (1, .ref 0), (2, .ref 110), (3, .int i)] [.int (xs i.toNatClampNeg &&& 127)] 215 215 100784 (zx σ) (QL E bS L xs) := by
  refine x_tableIn (tgt := 595) d_L_33 (by rw [c7]; decide) (by rw [c7]; decide) (by rw [c7]; rfl) (by decide) ?_
  exact L_7 (hv 1 (by decide) (by decide)) (hv 2 (by decide) (by decide)) (hv 3 (by decide) (by decide)) (hv 4 (by decide) (by decide)) (Cz.mono (h7 (xs (i + 1).toNatClampNeg) (xs (i + 2).toNatClampNeg) (xs (i + 3).toNatClampNeg) (xs (i + 4).toNatClampNeg)) fun v σ1 ⟨r, e, q⟩ => ⟨r, e, Cz.mono q fun v2 σ2 ⟨e2, q2⟩ => ⟨e2, hJ σ2 q2⟩⟩)
theorem sw_8 {E : xV} {bS L : Nat} {xs : Nat → Int32} {i : Int32} {σ : zS} {J : zS → Prop} (hv : ∀ j : Int32, 0 ≤ j → j ≤ 7 → vp_in (i + j) L) (h8 : LC_8 E σ J)
    (hJ : ∀ σ2, J σ2 → Wx E YL 3476 [(0, .ref 1021), (1, .ref 0), (2, .ref 110), (3, .int i)] [] 215 215 100784 (zx σ2) (QL E bS L xs)) (c8 : (xs i.toNatClampNeg &&& 127) = 8) : Wx E YL 33 [(0, .ref 1021), (1, .ref 0), (2, .ref 110), (3, .int i)] [.int (xs i.toNatClampNeg &&& 127)] 215 215 100784 (zx σ) (QL E bS L xs) := by
  refine x_tableIn (tgt := 648) d_L_33 (by rw [c8]; decide) (by rw [c8]; decide) (by rw [c8]; rfl) (by decide) ?_
  exact L_8 (hv 1 (by decide) (by decide)) (hv 2 (by decide) (by decide)) (Cz.mono (h8 (xs (i + 1).toNatClampNeg) (xs (i + 2).toNatClampNeg)) fun v σ1 ⟨r, e, q⟩ => ⟨r, e, Cz.mono q fun v2 σ2 ⟨e2, q2⟩ => ⟨e2, hJ σ2 q2⟩⟩)
theorem sw_9 {E : xV} {bS L : Nat} {xs : Nat → Int32} {i : Int32} {σ : zS} {J : zS → Prop} (hv : ∀ j : Int32, 0 ≤ j → j ≤ 7 → vp_in (i + j) L) (h9 : LC_9 E σ J)
    (hJ : ∀ σ2, J σ2 → Wx E YL 3476 [(0, .ref 1021), (1, .ref 0), (2, .ref 110), (3, .int i)] [] 215 215 100784 (zx σ2) (QL E bS L xs)) (c9 : (xs i.toNatClampNeg &&& 127) = 9) : Wx E YL 33 [(0, .ref 1021), (1, .ref 0), (2, .ref 110), (3, .int i)] [.int (xs i.toNatClampNeg &&& 127)] 215 215 100784 (zx σ) (QL E bS L xs) := by
  refine x_tableIn (tgt := 681) d_L_33 (by rw [c9]; decide) (by rw [c9]; decide) (by rw [c9]; rfl) (by decide) ?_
  exact L_9 (hv 1 (by decide) (by decide)) (hv 2 (by decide) (by decide)) (hv 3 (by decide) (by decide)) (hv 4 (by decide) (by decide)) (Cz.mono (h9 (xs (i + 1).toNatClampNeg) (xs (i + 2).toNatClampNeg) (xs (i + 3).toNatClampNeg) (xs (i + 4).toNatClampNeg)) fun v σ1 ⟨r, e, q⟩ => ⟨r, e, Cz.mono q fun v2 σ2 ⟨e2, q2⟩ => ⟨e2, hJ σ2 q2⟩⟩)
theorem sw_10 {E : xV} {bS L : Nat} {xs : Nat → Int32} {i : Int32} {σ : zS} {J : zS → Prop} (hv : ∀ j : Int32, 0 ≤ j → j ≤ 7 → vp_in (i + j) L) (h10 : LC_10 E σ J)
    (hJ : ∀ σ2, J σ2 → Wx E YL 3476 [(0, .ref 1021), (1, .ref 0), (2, .ref 110), (3, .int i)] [] 215 215 100784 (zx σ2) (QL E bS L xs)) (c10 : (xs i.toNatClampNeg &&& 127) = 10) : Wx E YL 33 [(0, .ref 1021), (1, .ref 0), (2, .ref 110), (3, .int i)] [.int (xs i.toNatClampNeg &&& 127)] 215 215 100784 (zx σ) (QL E bS L xs) := by
  refine x_tableIn (tgt := 734) d_L_33 (by rw [c10]; decide) (by rw [c10]; decide) (by rw [c10]; rfl) (by decide) ?_
  exact L_10 (hv 1 (by decide) (by decide)) (hv 2 (by decide) (by decide)) (hv 3 (by decide) (by decide)) (hv 4 (by decide) (by decide)) (hv 5 (by decide) (by decide)) (Cz.mono (h10 (xs (i + 1).toNatClampNeg) (xs (i + 2).toNatClampNeg) (xs (i + 3).toNatClampNeg) ((j_lshl (Int32.toInt64 (xs (i + 4).toNatClampNeg)) 32) ||| ((Int32.toInt64 (xs (i + 5).toNatClampNeg)) &&& 4294967295))) fun v σ1 ⟨r, e, q⟩ => ⟨r, e, Cz.mono q fun v2 σ2 ⟨e2, q2⟩ => ⟨e2, hJ σ2 q2⟩⟩)
theorem sw_11 {E : xV} {bS L : Nat} {xs : Nat → Int32} {i : Int32} {σ : zS} {J : zS → Prop} (hv : ∀ j : Int32, 0 ≤ j → j ≤ 7 → vp_in (i + j) L) (h11 : LC_11 E σ J)
    (hJ : ∀ σ2, J σ2 → Wx E YL 3476 [(0, .ref 1021), (1, .ref 0), (2, .ref 110), (3, .int i)] [] 215 215 100784 (zx σ2) (QL E bS L xs)) (c11 : (xs i.toNatClampNeg &&& 127) = 11) : Wx E YL 33 [(0, .ref 1021), (1, .ref 0), (2, .ref 110), (3, .int i)] [.int (xs i.toNatClampNeg &&& 127)] 215 215 100784 (zx σ) (QL E bS L xs) := by
  refine x_tableIn (tgt := 817) d_L_33 (by rw [c11]; decide) (by rw [c11]; decide) (by rw [c11]; rfl) (by decide) ?_
  exact L_11 (hv 1 (by decide) (by decide)) (hv 2 (by decide) (by decide)) (hv 3 (by decide) (by decide)) (hv 4 (by decide) (by decide)) (Cz.mono (h11 (xs (i + 1).toNatClampNeg) (xs (i + 2).toNatClampNeg) (xs (i + 3).toNatClampNeg) (xs (i + 4).toNatClampNeg)) fun v σ1 ⟨r, e, q⟩ => ⟨r, e, Cz.mono q fun v2 σ2 ⟨e2, q2⟩ => ⟨e2, hJ σ2 q2⟩⟩)
theorem sw_12 {E : xV} {bS L : Nat} {xs : Nat → Int32} {i : Int32} {σ : zS} {J : zS → Prop} (hv : ∀ j : Int32, 0 ≤ j → j ≤ 7 → vp_in (i + j) L) (h12 : LC_12 E σ J)
    (hJ : ∀ σ2, J σ2 → Wx E YL 3476 [(0, .ref 1021), (1, .ref 0), (2, .ref 110), (3, .int i)] [] 215 215 100784 (zx σ2) (QL E bS L xs)) (c12 : (xs i.toNatClampNeg &&& 127) = 12) : Wx E YL 33 [(0, .ref 1021), (1, .ref 0), (2, .ref 110), (3, .int i)] [.int (xs i.toNatClampNeg &&& 127)] 215 215 100784 (zx σ) (QL E bS L xs) := by
  refine x_tableIn (tgt := 870) d_L_33 (by rw [c12]; decide) (by rw [c12]; decide) (by rw [c12]; rfl) (by decide) ?_
  exact L_12 (hv 1 (by decide) (by decide)) (hv 2 (by decide) (by decide)) (hv 3 (by decide) (by decide)) (hv 4 (by decide) (by decide)) (hv 5 (by decide) (by decide)) (hv 6 (by decide) (by decide)) (hv 7 (by decide) (by decide)) (Cz.mono (h12 (xs (i + 1).toNatClampNeg) (xs (i + 2).toNatClampNeg) (xs (i + 3).toNatClampNeg) (xs (i + 4).toNatClampNeg) (xs (i + 5).toNatClampNeg) (xs (i + 6).toNatClampNeg) (xs (i + 7).toNatClampNeg)) fun v σ1 ⟨r, e, q⟩ => ⟨r, e, Cz.mono q fun v2 σ2 ⟨e2, q2⟩ => ⟨e2, hJ σ2 q2⟩⟩)
theorem sw_13 {E : xV} {bS L : Nat} {xs : Nat → Int32} {i : Int32} {σ : zS} {J : zS → Prop} (hv : ∀ j : Int32, 0 ≤ j → j ≤ 7 → vp_in (i + j) L) (h13 : LC_13 E σ J)
    (hJ : ∀ σ2, J σ2 → Wx E YL 3476 [(0, .ref 1021), (1, .ref 0), (2, .ref 110), (3, .int i)] [] 215 215 100784 (zx σ2) (QL E bS L xs)) (c13 : (xs i.toNatClampNeg &&& 127) = 13) : Wx E YL 33 [(0, .ref 1021), (1, .ref 0), (2, .ref 110), (3, .int i)] [.int (xs i.toNatClampNeg &&& 127)] 215 215 100784 (zx σ) (QL E bS L xs) := by
  refine x_tableIn (tgt := 957) d_L_33 (by rw [c13]; decide) (by rw [c13]; decide) (by rw [c13]; rfl) (by decide) ?_
  exact L_13 (hv 1 (by decide) (by decide)) (hv 2 (by decide) (by decide)) (Cz.mono (h13 (xs (i + 1).toNatClampNeg) (xs (i + 2).toNatClampNeg)) fun v σ1 ⟨r, e, q⟩ => ⟨r, e, Cz.mono q fun v2 σ2 ⟨e2, q2⟩ => ⟨e2, hJ σ2 q2⟩⟩)
theorem sw_14 {E : xV} {bS L : Nat} {xs : Nat → Int32} {i : Int32} {σ : zS} {J : zS → Prop} (hv : ∀ j : Int32, 0 ≤ j → j ≤ 7 → vp_in (i + j) L) (h14 : LC_14 E σ J)
    (hJ : ∀ σ2, J σ2 → Wx E YL 3476 [(0, .ref 1021), (1, .ref 0), (2, .ref 110), (3, .int i)] [] 215 215 100784 (zx σ2) (QL E bS L xs)) (c14 : (xs i.toNatClampNeg &&& 127) = 14) : Wx E YL 33 [(0, .ref 1021), (1, .ref 0), (2, .ref 110), (3, .int i)] [.int (xs i.toNatClampNeg &&& 127)] 215 215 100784 (zx σ) (QL E bS L xs) := by
  refine x_tableIn (tgt := 990) d_L_33 (by rw [c14]; decide) (by rw [c14]; decide) (by rw [c14]; rfl) (by decide) ?_
  exact L_14 (hv 1 (by decide) (by decide)) (hv 2 (by decide) (by decide)) (Cz.mono (h14 (xs (i + 1).toNatClampNeg) (xs (i + 2).toNatClampNeg)) fun v σ1 ⟨r, e, q⟩ => ⟨r, e, Cz.mono q fun v2 σ2 ⟨e2, q2⟩ => ⟨e2, hJ σ2 q2⟩⟩)
theorem sw_15 {E : xV} {bS L : Nat} {xs : Nat → Int32} {i : Int32} {σ : zS} {J : zS → Prop} (hv : ∀ j : Int32, 0 ≤ j → j ≤ 7 → vp_in (i + j) L) (h15 : LC_15 E σ J)
    (hJ : ∀ σ2, J σ2 → Wx E YL 3476 [(0, .ref 1021), (1, .ref 0), (2, .ref 110), (3, .int i)] [] 215 215 100784 (zx σ2) (QL E bS L xs)) (c15 : (xs i.toNatClampNeg &&& 127) = 15) : Wx E YL 33 [(0, .ref 1021), (1, .ref 0), (2, .ref 110), (3, .int i)] [.int (xs i.toNatClampNeg &&& 127)] 215 215 100784 (zx σ) (QL E bS L xs) := by
  refine x_tableIn (tgt := 1023) d_L_33 (by rw [c15]; decide) (by rw [c15]; decide) (by rw [c15]; rfl) (by decide) ?_
  exact L_15 (hv 1 (by decide) (by decide)) (hv 2 (by decide) (by decide)) (Cz.mono (h15 (xs (i + 1).toNatClampNeg) (if (xs (i + 2).toNatClampNeg) = 0 then (0 : Int32) else 1) (j_ite _)) fun v σ1 ⟨r, e, q⟩ => ⟨r, e, Cz.mono q fun v2 σ2 ⟨e2, q2⟩ => ⟨e2, hJ σ2 q2⟩⟩)
theorem sw_16 {E : xV} {bS L : Nat} {xs : Nat → Int32} {i : Int32} {σ : zS} {J : zS → Prop} (hv : ∀ j : Int32, 0 ≤ j → j ≤ 7 → vp_in (i + j) L) (h16 : LC_16 E σ J)
    (hJ : ∀ σ2, J σ2 → Wx E YL 3476 [(0, .ref 1021), (1, .ref 0), (2, .ref 110), (3, .int i)] [] 215 215 100784 (zx σ2) (QL E bS L xs)) (c16 : (xs i.toNatClampNeg &&& 127) = 16) : Wx E YL 33 [(0, .ref 1021), (1, .ref 0), (2, .ref 110), (3, .int i)] [.int (xs i.toNatClampNeg &&& 127)] 215 215 100784 (zx σ) (QL E bS L xs) := by
  refine x_tableIn (tgt := 1072) d_L_33 (by rw [c16]; decide) (by rw [c16]; decide) (by rw [c16]; rfl) (by decide) ?_
  exact L_16 (hv 1 (by decide) (by decide)) (Cz.mono (h16 (xs (i + 1).toNatClampNeg)) fun v σ1 ⟨r, e, q⟩ => ⟨r, e, Cz.mono q fun v2 σ2 ⟨e2, q2⟩ => ⟨e2, hJ σ2 q2⟩⟩)
theorem sw_17 {E : xV} {bS L : Nat} {xs : Nat → Int32} {i : Int32} {σ : zS} {J : zS → Prop} (hv : ∀ j : Int32, 0 ≤ j → j ≤ 7 → vp_in (i + j) L) (h17 : LC_17 E σ J)
    (hJ : ∀ σ2, J σ2 → Wx E YL 3476 [(0, .ref 1021), (1, .ref 0), (2, .ref 110), (3, .int i)] [] 215 215 100784 (zx σ2) (QL E bS L xs)) (c17 : (xs i.toNatClampNeg &&& 127) = 17) : Wx E YL 33 [(0, .ref 1021), (1, .ref 0), (2, .ref 110), (3, .int i)] [.int (xs i.toNatClampNeg &&& 127)] 215 215 100784 (zx σ) (QL E bS L xs) := by
  refine x_tableIn (tgt := 1095) d_L_33 (by rw [c17]; decide) (by rw [c17]; decide) (by rw [c17]; rfl) (by decide) ?_
  exact L_17 (hv 1 (by decide) (by decide)) (hv 2 (by decide) (by decide)) (Cz.mono (h17 (xs (i + 1).toNatClampNeg) (xs (i + 2).toNatClampNeg)) fun v σ1 ⟨r, e, q⟩ => ⟨r, e, Cz.mono q fun v2 σ2 ⟨e2, q2⟩ => ⟨e2, hJ σ2 q2⟩⟩)
theorem sw_18 {E : xV} {bS L : Nat} {xs : Nat → Int32} {i : Int32} {σ : zS} {J : zS → Prop} (hv : ∀ j : Int32, 0 ≤ j → j ≤ 7 → vp_in (i + j) L) (h18 : LC_18 E σ J)
    (hJ : ∀ σ2, J σ2 → Wx E YL 3476 [(0, .ref 1021), (1, .ref 0), (2, .ref 110), (3, .int i)] [] 215 215 100784 (zx σ2) (QL E bS L xs)) (c18 : (xs i.toNatClampNeg &&& 127) = 18) : Wx E YL 33 [(0, .ref 1021), (1, .ref 0), (2, .ref 110), (3, .int i)] [.int (xs i.toNatClampNeg &&& 127)] 215 215 100784 (zx σ) (QL E bS L xs) := by
  refine x_tableIn (tgt := 1128) d_L_33 (by rw [c18]; decide) (by rw [c18]; decide) (by rw [c18]; rfl) (by decide) ?_
  exact L_18 (hv 1 (by decide) (by decide)) (hv 2 (by decide) (by decide)) (Cz.mono (h18 (xs (i + 1).toNatClampNeg) (xs (i + 2).toNatClampNeg)) fun v σ1 ⟨r, e, q⟩ => ⟨r, e, Cz.mono q fun v2 σ2 ⟨e2, q2⟩ => ⟨e2, hJ σ2 q2⟩⟩)
theorem sw_19 {E : xV} {bS L : Nat} {xs : Nat → Int32} {i : Int32} {σ : zS} {J : zS → Prop} (hv : ∀ j : Int32, 0 ≤ j → j ≤ 7 → vp_in (i + j) L) (h19 : LC_19 E σ J)
    (hJ : ∀ σ2, J σ2 → Wx E YL 3476 [(0, .ref 1021), (1, .ref 0), (2, .ref 110), (3, .int i)] [] 215 215 100784 (zx σ2) (QL E bS L xs)) (c19 : (xs i.toNatClampNeg &&& 127) = 19) : Wx E YL 33 [(0, .ref 1021), (1, .ref 0), (2, .ref 110), (3, .int i)] [.int (xs i.toNatClampNeg &&& 127)] 215 215 100784 (zx σ) (QL E bS L xs) := by
  refine x_tableIn (tgt := 1161) d_L_33 (by rw [c19]; decide) (by rw [c19]; decide) (by rw [c19]; rfl) (by decide) ?_
  exact L_19 (hv 1 (by decide) (by decide)) (hv 2 (by decide) (by decide)) (hv 3 (by decide) (by decide)) (Cz.mono (h19 (xs (i + 1).toNatClampNeg) (xs (i + 2).toNatClampNeg) (if (xs (i + 3).toNatClampNeg) = 0 then (0 : Int32) else 1) (j_ite _)) fun v σ1 ⟨r, e, q⟩ => ⟨r, e, Cz.mono q fun v2 σ2 ⟨e2, q2⟩ => ⟨e2, hJ σ2 q2⟩⟩)
theorem sw_20 {E : xV} {bS L : Nat} {xs : Nat → Int32} {i : Int32} {σ : zS} {J : zS → Prop} (hv : ∀ j : Int32, 0 ≤ j → j ≤ 7 → vp_in (i + j) L) (h20 : LC_20 E σ J)
    (hJ : ∀ σ2, J σ2 → Wx E YL 3476 [(0, .ref 1021), (1, .ref 0), (2, .ref 110), (3, .int i)] [] 215 215 100784 (zx σ2) (QL E bS L xs)) (c20 : (xs i.toNatClampNeg &&& 127) = 20) : Wx E YL 33 [(0, .ref 1021), (1, .ref 0), (2, .ref 110), (3, .int i)] [.int (xs i.toNatClampNeg &&& 127)] 215 215 100784 (zx σ) (QL E bS L xs) := by
  refine x_tableIn (tgt := 1220) d_L_33 (by rw [c20]; decide) (by rw [c20]; decide) (by rw [c20]; rfl) (by decide) ?_
  exact L_20 (hv 1 (by decide) (by decide)) (hv 2 (by decide) (by decide)) (Cz.mono (h20 (xs (i + 1).toNatClampNeg) (xs (i + 2).toNatClampNeg)) fun v σ1 ⟨r, e, q⟩ => ⟨r, e, Cz.mono q fun v2 σ2 ⟨e2, q2⟩ => ⟨e2, hJ σ2 q2⟩⟩)
theorem sw_21 {E : xV} {bS L : Nat} {xs : Nat → Int32} {i : Int32} {σ : zS} {J : zS → Prop} (hv : ∀ j : Int32, 0 ≤ j → j ≤ 7 → vp_in (i + j) L) (h21 : LC_21 E σ J)
    (hJ : ∀ σ2, J σ2 → Wx E YL 3476 [(0, .ref 1021), (1, .ref 0), (2, .ref 110), (3, .int i)] [] 215 215 100784 (zx σ2) (QL E bS L xs)) (c21 : (xs i.toNatClampNeg &&& 127) = 21) : Wx E YL 33 [(0, .ref 1021), (1, .ref 0), (2, .ref 110), (3, .int i)] [.int (xs i.toNatClampNeg &&& 127)] 215 215 100784 (zx σ) (QL E bS L xs) := by
  refine x_tableIn (tgt := 1253) d_L_33 (by rw [c21]; decide) (by rw [c21]; decide) (by rw [c21]; rfl) (by decide) ?_
  exact L_21 (hv 1 (by decide) (by decide)) (Cz.mono (h21 (xs (i + 1).toNatClampNeg)) fun v σ1 ⟨r, e, q⟩ => ⟨r, e, Cz.mono q fun v2 σ2 ⟨e2, q2⟩ => ⟨e2, hJ σ2 q2⟩⟩)
theorem sw_22 {E : xV} {bS L : Nat} {xs : Nat → Int32} {i : Int32} {σ : zS} {J : zS → Prop} (hv : ∀ j : Int32, 0 ≤ j → j ≤ 7 → vp_in (i + j) L) (h22 : LC_22 E σ J)
    (hJ : ∀ σ2, J σ2 → Wx E YL 3476 [(0, .ref 1021), (1, .ref 0), (2, .ref 110), (3, .int i)] [] 215 215 100784 (zx σ2) (QL E bS L xs)) (c22 : (xs i.toNatClampNeg &&& 127) = 22) : Wx E YL 33 [(0, .ref 1021), (1, .ref 0), (2, .ref 110), (3, .int i)] [.int (xs i.toNatClampNeg &&& 127)] 215 215 100784 (zx σ) (QL E bS L xs) := by
  refine x_tableIn (tgt := 1276) d_L_33 (by rw [c22]; decide) (by rw [c22]; decide) (by rw [c22]; rfl) (by decide) ?_
  exact L_22 (hv 1 (by decide) (by decide)) (Cz.mono (h22 (xs (i + 1).toNatClampNeg)) fun v σ1 ⟨r, e, q⟩ => ⟨r, e, Cz.mono q fun v2 σ2 ⟨e2, q2⟩ => ⟨e2, hJ σ2 q2⟩⟩)
theorem sw_23 {E : xV} {bS L : Nat} {xs : Nat → Int32} {i : Int32} {σ : zS} {J : zS → Prop} (hv : ∀ j : Int32, 0 ≤ j → j ≤ 7 → vp_in (i + j) L) (h23 : LC_23 E σ J)
    (hJ : ∀ σ2, J σ2 → Wx E YL 3476 [(0, .ref 1021), (1, .ref 0), (2, .ref 110), (3, .int i)] [] 215 215 100784 (zx σ2) (QL E bS L xs)) (c23 : (xs i.toNatClampNeg &&& 127) = 23) : Wx E YL 33 [(0, .ref 1021), (1, .ref 0), (2, .ref 110), (3, .int i)] [.int (xs i.toNatClampNeg &&& 127)] 215 215 100784 (zx σ) (QL E bS L xs) := by
  refine x_tableIn (tgt := 1299) d_L_33 (by rw [c23]; decide) (by rw [c23]; decide) (by rw [c23]; rfl) (by decide) ?_
  exact L_23 (hv 1 (by decide) (by decide)) (Cz.mono (h23 (xs (i + 1).toNatClampNeg)) fun v σ1 ⟨r, e, q⟩ => ⟨r, e, Cz.mono q fun v2 σ2 ⟨e2, q2⟩ => ⟨e2, hJ σ2 q2⟩⟩)
theorem sw_24 {E : xV} {bS L : Nat} {xs : Nat → Int32} {i : Int32} {σ : zS} {J : zS → Prop} (hv : ∀ j : Int32, 0 ≤ j → j ≤ 7 → vp_in (i + j) L) (h24 : LC_24 E σ J)
    (hJ : ∀ σ2, J σ2 → Wx E YL 3476 [(0, .ref 1021), (1, .ref 0), (2, .ref 110), (3, .int i)] [] 215 215 100784 (zx σ2) (QL E bS L xs)) (c24 : (xs i.toNatClampNeg &&& 127) = 24) : Wx E YL 33 [(0, .ref 1021), (1, .ref 0), (2, .ref 110), (3, .int i)] [.int (xs i.toNatClampNeg &&& 127)] 215 215 100784 (zx σ) (QL E bS L xs) := by
  refine x_tableIn (tgt := 1322) d_L_33 (by rw [c24]; decide) (by rw [c24]; decide) (by rw [c24]; rfl) (by decide) ?_
  exact L_24 (hv 1 (by decide) (by decide)) (hv 2 (by decide) (by decide)) (hv 3 (by decide) (by decide)) (Cz.mono (h24 (xs (i + 1).toNatClampNeg) (xs (i + 2).toNatClampNeg) (xs (i + 3).toNatClampNeg)) fun v σ1 ⟨r, e, q⟩ => ⟨r, e, Cz.mono q fun v2 σ2 ⟨e2, q2⟩ => ⟨e2, hJ σ2 q2⟩⟩)
theorem sw_25 {E : xV} {bS L : Nat} {xs : Nat → Int32} {i : Int32} {σ : zS} {J : zS → Prop} (hv : ∀ j : Int32, 0 ≤ j → j ≤ 7 → vp_in (i + j) L) (h25 : LC_25 E σ J)
    (hJ : ∀ σ2, J σ2 → Wx E YL 3476 [(0, .ref 1021), (1, .ref 0), (2, .ref 110), (3, .int i)] [] 215 215 100784 (zx σ2) (QL E bS L xs)) (c25 : (xs i.toNatClampNeg &&& 127) = 25) : Wx E YL 33 [(0, .ref 1021), (1, .ref 0), (2, .ref 110), (3, .int i)] [.int (xs i.toNatClampNeg &&& 127)] 215 215 100784 (zx σ) (QL E bS L xs) := by
  refine x_tableIn (tgt := 1365) d_L_33 (by rw [c25]; decide) (by rw [c25]; decide) (by rw [c25]; rfl) (by decide) ?_
  exact L_25 (hv 1 (by decide) (by decide)) (hv 2 (by decide) (by decide)) (hv 3 (by decide) (by decide)) (hv 4 (by decide) (by decide)) (hv 5 (by decide) (by decide)) (Cz.mono (h25 (xs (i + 1).toNatClampNeg) (xs (i + 2).toNatClampNeg) (xs (i + 3).toNatClampNeg) (xs (i + 4).toNatClampNeg) (xs (i + 5).toNatClampNeg)) fun v σ1 ⟨r, e, q⟩ => ⟨r, e, Cz.mono q fun v2 σ2 ⟨e2, q2⟩ => ⟨e2, hJ σ2 q2⟩⟩)
theorem sw_26 {E : xV} {bS L : Nat} {xs : Nat → Int32} {i : Int32} {σ : zS} {J : zS → Prop} (hv : ∀ j : Int32, 0 ≤ j → j ≤ 7 → vp_in (i + j) L) (h26 : LC_26 E σ J)
    (hJ : ∀ σ2, J σ2 → Wx E YL 3476 [(0, .ref 1021), (1, .ref 0), (2, .ref 110), (3, .int i)] [] 215 215 100784 (zx σ2) (QL E bS L xs)) (c26 : (xs i.toNatClampNeg &&& 127) = 26) : Wx E YL 33 [(0, .ref 1021), (1, .ref 0), (2, .ref 110), (3, .int i)] [.int (xs i.toNatClampNeg &&& 127)] 215 215 100784 (zx σ) (QL E bS L xs) := by
  refine x_tableIn (tgt := 1428) d_L_33 (by rw [c26]; decide) (by rw [c26]; decide) (by rw [c26]; rfl) (by decide) ?_
  exact L_26 (hv 1 (by decide) (by decide)) (Cz.mono (h26 (xs (i + 1).toNatClampNeg)) fun v σ1 ⟨r, e, q⟩ => ⟨r, e, Cz.mono q fun v2 σ2 ⟨e2, q2⟩ => ⟨e2, hJ σ2 q2⟩⟩)
theorem sw_27 {E : xV} {bS L : Nat} {xs : Nat → Int32} {i : Int32} {σ : zS} {J : zS → Prop} (hv : ∀ j : Int32, 0 ≤ j → j ≤ 7 → vp_in (i + j) L) (h27 : LC_27 E σ J)
    (hJ : ∀ σ2, J σ2 → Wx E YL 3476 [(0, .ref 1021), (1, .ref 0), (2, .ref 110), (3, .int i)] [] 215 215 100784 (zx σ2) (QL E bS L xs)) (c27 : (xs i.toNatClampNeg &&& 127) = 27) : Wx E YL 33 [(0, .ref 1021), (1, .ref 0), (2, .ref 110), (3, .int i)] [.int (xs i.toNatClampNeg &&& 127)] 215 215 100784 (zx σ) (QL E bS L xs) := by
  refine x_tableIn (tgt := 1451) d_L_33 (by rw [c27]; decide) (by rw [c27]; decide) (by rw [c27]; rfl) (by decide) ?_
  exact L_27 (hv 1 (by decide) (by decide)) (hv 2 (by decide) (by decide)) (hv 3 (by decide) (by decide)) (hv 4 (by decide) (by decide)) (Cz.mono (h27 (xs (i + 1).toNatClampNeg) (xs (i + 2).toNatClampNeg) (xs (i + 3).toNatClampNeg) (xs (i + 4).toNatClampNeg)) fun v σ1 ⟨r, e, q⟩ => ⟨r, e, Cz.mono q fun v2 σ2 ⟨e2, q2⟩ => ⟨e2, hJ σ2 q2⟩⟩)
theorem sw_28 {E : xV} {bS L : Nat} {xs : Nat → Int32} {i : Int32} {σ : zS} {J : zS → Prop} (hv : ∀ j : Int32, 0 ≤ j → j ≤ 7 → vp_in (i + j) L) (h28 : LC_28 E σ J)
    (hJ : ∀ σ2, J σ2 → Wx E YL 3476 [(0, .ref 1021), (1, .ref 0), (2, .ref 110), (3, .int i)] [] 215 215 100784 (zx σ2) (QL E bS L xs)) (c28 : (xs i.toNatClampNeg &&& 127) = 28) : Wx E YL 33 [(0, .ref 1021), (1, .ref 0), (2, .ref 110), (3, .int i)] [.int (xs i.toNatClampNeg &&& 127)] 215 215 100784 (zx σ) (QL E bS L xs) := by
  refine x_tableIn (tgt := 1504) d_L_33 (by rw [c28]; decide) (by rw [c28]; decide) (by rw [c28]; rfl) (by decide) ?_
  exact L_28 (hv 1 (by decide) (by decide)) (hv 2 (by decide) (by decide)) (hv 3 (by decide) (by decide)) (hv 4 (by decide) (by decide)) (Cz.mono (h28 (xs (i + 1).toNatClampNeg) (xs (i + 2).toNatClampNeg) (xs (i + 3).toNatClampNeg) (xs (i + 4).toNatClampNeg)) fun v σ1 ⟨r, e, q⟩ => ⟨r, e, Cz.mono q fun v2 σ2 ⟨e2, q2⟩ => ⟨e2, hJ σ2 q2⟩⟩)
theorem sw_29 {E : xV} {bS L : Nat} {xs : Nat → Int32} {i : Int32} {σ : zS} {J : zS → Prop} (hv : ∀ j : Int32, 0 ≤ j → j ≤ 7 → vp_in (i + j) L) (h29 : LC_29 E σ J)
    (hJ : ∀ σ2, J σ2 → Wx E YL 3476 [(0, .ref 1021), (1, .ref 0), (2, .ref 110), (3, .int i)] [] 215 215 100784 (zx σ2) (QL E bS L xs)) (c29 : (xs i.toNatClampNeg &&& 127) = 29) : Wx E YL 33 [(0, .ref 1021), (1, .ref 0), (2, .ref 110), (3, .int i)] [.int (xs i.toNatClampNeg &&& 127)] 215 215 100784 (zx σ) (QL E bS L xs) := by
  refine x_tableIn (tgt := 1557) d_L_33 (by rw [c29]; decide) (by rw [c29]; decide) (by rw [c29]; rfl) (by decide) ?_
  exact L_29 (hv 1 (by decide) (by decide)) (hv 2 (by decide) (by decide)) (Cz.mono (h29 (xs (i + 1).toNatClampNeg) (xs (i + 2).toNatClampNeg)) fun v σ1 ⟨r, e, q⟩ => ⟨r, e, Cz.mono q fun v2 σ2 ⟨e2, q2⟩ => ⟨e2, hJ σ2 q2⟩⟩)
theorem sw_30 {E : xV} {bS L : Nat} {xs : Nat → Int32} {i : Int32} {σ : zS} {J : zS → Prop} (hv : ∀ j : Int32, 0 ≤ j → j ≤ 7 → vp_in (i + j) L) (h30 : LC_30 E σ J)
    (hJ : ∀ σ2, J σ2 → Wx E YL 3476 [(0, .ref 1021), (1, .ref 0), (2, .ref 110), (3, .int i)] [] 215 215 100784 (zx σ2) (QL E bS L xs)) (c30 : (xs i.toNatClampNeg &&& 127) = 30) : Wx E YL 33 [(0, .ref 1021), (1, .ref 0), (2, .ref 110), (3, .int i)] [.int (xs i.toNatClampNeg &&& 127)] 215 215 100784 (zx σ) (QL E bS L xs) := by
  refine x_tableIn (tgt := 1590) d_L_33 (by rw [c30]; decide) (by rw [c30]; decide) (by rw [c30]; rfl) (by decide) ?_
  exact L_30 (hv 1 (by decide) (by decide)) (Cz.mono (h30 (xs (i + 1).toNatClampNeg)) fun v σ1 ⟨r, e, q⟩ => ⟨r, e, Cz.mono q fun v2 σ2 ⟨e2, q2⟩ => ⟨e2, hJ σ2 q2⟩⟩)
theorem sw_31 {E : xV} {bS L : Nat} {xs : Nat → Int32} {i : Int32} {σ : zS} {J : zS → Prop} (hv : ∀ j : Int32, 0 ≤ j → j ≤ 7 → vp_in (i + j) L) (h31 : LC_31 E σ J)
    (hJ : ∀ σ2, J σ2 → Wx E YL 3476 [(0, .ref 1021), (1, .ref 0), (2, .ref 110), (3, .int i)] [] 215 215 100784 (zx σ2) (QL E bS L xs)) (c31 : (xs i.toNatClampNeg &&& 127) = 31) : Wx E YL 33 [(0, .ref 1021), (1, .ref 0), (2, .ref 110), (3, .int i)] [.int (xs i.toNatClampNeg &&& 127)] 215 215 100784 (zx σ) (QL E bS L xs) := by
  refine x_tableIn (tgt := 1613) d_L_33 (by rw [c31]; decide) (by rw [c31]; decide) (by rw [c31]; rfl) (by decide) ?_
  exact L_31 (hv 1 (by decide) (by decide)) (hv 2 (by decide) (by decide)) (Cz.mono (h31 (xs (i + 1).toNatClampNeg) (xs (i + 2).toNatClampNeg)) fun v σ1 ⟨r, e, q⟩ => ⟨r, e, Cz.mono q fun v2 σ2 ⟨e2, q2⟩ => ⟨e2, hJ σ2 q2⟩⟩)
theorem sw_32 {E : xV} {bS L : Nat} {xs : Nat → Int32} {i : Int32} {σ : zS} {J : zS → Prop} (hv : ∀ j : Int32, 0 ≤ j → j ≤ 7 → vp_in (i + j) L) (h32 : LC_32 E σ J)
    (hJ : ∀ σ2, J σ2 → Wx E YL 3476 [(0, .ref 1021), (1, .ref 0), (2, .ref 110), (3, .int i)] [] 215 215 100784 (zx σ2) (QL E bS L xs)) (c32 : (xs i.toNatClampNeg &&& 127) = 32) : Wx E YL 33 [(0, .ref 1021), (1, .ref 0), (2, .ref 110), (3, .int i)] [.int (xs i.toNatClampNeg &&& 127)] 215 215 100784 (zx σ) (QL E bS L xs) := by
  refine x_tableIn (tgt := 1646) d_L_33 (by rw [c32]; decide) (by rw [c32]; decide) (by rw [c32]; rfl) (by decide) ?_
  exact L_32 (hv 1 (by decide) (by decide)) (hv 2 (by decide) (by decide)) (hv 3 (by decide) (by decide)) (Cz.mono (h32 (xs (i + 1).toNatClampNeg) (xs (i + 2).toNatClampNeg) (xs (i + 3).toNatClampNeg)) fun v σ1 ⟨r, e, q⟩ => ⟨r, e, Cz.mono q fun v2 σ2 ⟨e2, q2⟩ => ⟨e2, hJ σ2 q2⟩⟩)
theorem sw_33 {E : xV} {bS L : Nat} {xs : Nat → Int32} {i : Int32} {σ : zS} {J : zS → Prop} (hv : ∀ j : Int32, 0 ≤ j → j ≤ 7 → vp_in (i + j) L) (h33 : LC_33 E σ J)
    (hJ : ∀ σ2, J σ2 → Wx E YL 3476 [(0, .ref 1021), (1, .ref 0), (2, .ref 110), (3, .int i)] [] 215 215 100784 (zx σ2) (QL E bS L xs)) (c33 : (xs i.toNatClampNeg &&& 127) = 33) : Wx E YL 33 [(0, .ref 1021), (1, .ref 0), (2, .ref 110), (3, .int i)] [.int (xs i.toNatClampNeg &&& 127)] 215 215 100784 (zx σ) (QL E bS L xs) := by
  refine x_tableIn (tgt := 1689) d_L_33 (by rw [c33]; decide) (by rw [c33]; decide) (by rw [c33]; rfl) (by decide) ?_
  exact L_33 (hv 1 (by decide) (by decide)) (hv 2 (by decide) (by decide)) (hv 3 (by decide) (by decide)) (hv 4 (by decide) (by decide)) (Cz.mono (h33 (xs (i + 1).toNatClampNeg) (xs (i + 2).toNatClampNeg) (xs (i + 3).toNatClampNeg) (xs (i + 4).toNatClampNeg)) fun v σ1 ⟨r, e, q⟩ => ⟨r, e, Cz.mono q fun v2 σ2 ⟨e2, q2⟩ => ⟨e2, hJ σ2 q2⟩⟩)
theorem sw_34 {E : xV} {bS L : Nat} {xs : Nat → Int32} {i : Int32} {σ : zS} {J : zS → Prop} (hv : ∀ j : Int32, 0 ≤ j → j ≤ 7 → vp_in (i + j) L) (h34 : LC_34 E σ J)
    (hJ : ∀ σ2, J σ2 → Wx E YL 3476 [(0, .ref 1021), (1, .ref 0), (2, .ref 110), (3, .int i)] [] 215 215 100784 (zx σ2) (QL E bS L xs)) (c34 : (xs i.toNatClampNeg &&& 127) = 34) : Wx E YL 33 [(0, .ref 1021), (1, .ref 0), (2, .ref 110), (3, .int i)] [.int (xs i.toNatClampNeg &&& 127)] 215 215 100784 (zx σ) (QL E bS L xs) := by
  refine x_tableIn (tgt := 1742) d_L_33 (by rw [c34]; decide) (by rw [c34]; decide) (by rw [c34]; rfl) (by decide) ?_
  exact L_34 (hv 1 (by decide) (by decide)) (hv 2 (by decide) (by decide)) (hv 3 (by decide) (by decide)) (Cz.mono (h34 (xs (i + 1).toNatClampNeg) (xs (i + 2).toNatClampNeg) (xs (i + 3).toNatClampNeg)) fun v σ1 ⟨r, e, q⟩ => ⟨r, e, Cz.mono q fun v2 σ2 ⟨e2, q2⟩ => ⟨e2, hJ σ2 q2⟩⟩)
theorem sw_35 {E : xV} {bS L : Nat} {xs : Nat → Int32} {i : Int32} {σ : zS} {J : zS → Prop} (hv : ∀ j : Int32, 0 ≤ j → j ≤ 7 → vp_in (i + j) L) (h35 : LC_35 E σ J)
    (hJ : ∀ σ2, J σ2 → Wx E YL 3476 [(0, .ref 1021), (1, .ref 0), (2, .ref 110), (3, .int i)] [] 215 215 100784 (zx σ2) (QL E bS L xs)) (c35 : (xs i.toNatClampNeg &&& 127) = 35) : Wx E YL 33 [(0, .ref 1021), (1, .ref 0), (2, .ref 110), (3, .int i)] [.int (xs i.toNatClampNeg &&& 127)] 215 215 100784 (zx σ) (QL E bS L xs) := by
  refine x_tableIn (tgt := 1785) d_L_33 (by rw [c35]; decide) (by rw [c35]; decide) (by rw [c35]; rfl) (by decide) ?_
  exact L_35  (Cz.mono (h35 ) fun v σ1 ⟨r, e, q⟩ => ⟨r, e, Cz.mono q fun v2 σ2 ⟨e2, q2⟩ => ⟨e2, hJ σ2 q2⟩⟩)
theorem sw_36 {E : xV} {bS L : Nat} {xs : Nat → Int32} {i : Int32} {σ : zS} {J : zS → Prop} (hv : ∀ j : Int32, 0 ≤ j → j ≤ 7 → vp_in (i + j) L) (h36 : LC_36 E σ J)
    (hJ : ∀ σ2, J σ2 → Wx E YL 3476 [(0, .ref 1021), (1, .ref 0), (2, .ref 110), (3, .int i)] [] 215 215 100784 (zx σ2) (QL E bS L xs)) (c36 : (xs i.toNatClampNeg &&& 127) = 36) : Wx E YL 33 [(0, .ref 1021), (1, .ref 0), (2, .ref 110), (3, .int i)] [.int (xs i.toNatClampNeg &&& 127)] 215 215 100784 (zx σ) (QL E bS L xs) := by
  refine x_tableIn (tgt := 1798) d_L_33 (by rw [c36]; decide) (by rw [c36]; decide) (by rw [c36]; rfl) (by decide) ?_
  exact L_36 (hv 1 (by decide) (by decide)) (Cz.mono (h36 (xs (i + 1).toNatClampNeg)) fun v σ1 ⟨r, e, q⟩ => ⟨r, e, Cz.mono q fun v2 σ2 ⟨e2, q2⟩ => ⟨e2, hJ σ2 q2⟩⟩)
theorem sw_37 {E : xV} {bS L : Nat} {xs : Nat → Int32} {i : Int32} {σ : zS} {J : zS → Prop} (hv : ∀ j : Int32, 0 ≤ j → j ≤ 7 → vp_in (i + j) L) (h37 : LC_37 E σ J)
    (hJ : ∀ σ2, J σ2 → Wx E YL 3476 [(0, .ref 1021), (1, .ref 0), (2, .ref 110), (3, .int i)] [] 215 215 100784 (zx σ2) (QL E bS L xs)) (c37 : (xs i.toNatClampNeg &&& 127) = 37) : Wx E YL 33 [(0, .ref 1021), (1, .ref 0), (2, .ref 110), (3, .int i)] [.int (xs i.toNatClampNeg &&& 127)] 215 215 100784 (zx σ) (QL E bS L xs) := by
  refine x_tableIn (tgt := 1821) d_L_33 (by rw [c37]; decide) (by rw [c37]; decide) (by rw [c37]; rfl) (by decide) ?_
  exact L_37 (hv 1 (by decide) (by decide)) (Cz.mono (h37 (xs (i + 1).toNatClampNeg)) fun v σ1 ⟨r, e, q⟩ => ⟨r, e, Cz.mono q fun v2 σ2 ⟨e2, q2⟩ => ⟨e2, hJ σ2 q2⟩⟩)
theorem sw_38 {E : xV} {bS L : Nat} {xs : Nat → Int32} {i : Int32} {σ : zS} {J : zS → Prop} (hv : ∀ j : Int32, 0 ≤ j → j ≤ 7 → vp_in (i + j) L) (h38 : LC_38 E σ J)
    (hJ : ∀ σ2, J σ2 → Wx E YL 3476 [(0, .ref 1021), (1, .ref 0), (2, .ref 110), (3, .int i)] [] 215 215 100784 (zx σ2) (QL E bS L xs)) (c38 : (xs i.toNatClampNeg &&& 127) = 38) : Wx E YL 33 [(0, .ref 1021), (1, .ref 0), (2, .ref 110), (3, .int i)] [.int (xs i.toNatClampNeg &&& 127)] 215 215 100784 (zx σ) (QL E bS L xs) := by
  refine x_tableIn (tgt := 1844) d_L_33 (by rw [c38]; decide) (by rw [c38]; decide) (by rw [c38]; rfl) (by decide) ?_
  exact L_38 (hv 1 (by decide) (by decide)) (hv 2 (by decide) (by decide)) (Cz.mono (h38 (xs (i + 1).toNatClampNeg) (xs (i + 2).toNatClampNeg)) fun v σ1 ⟨r, e, q⟩ => ⟨r, e, Cz.mono q fun v2 σ2 ⟨e2, q2⟩ => ⟨e2, hJ σ2 q2⟩⟩)
theorem sw_39 {E : xV} {bS L : Nat} {xs : Nat → Int32} {i : Int32} {σ : zS} {J : zS → Prop} (hv : ∀ j : Int32, 0 ≤ j → j ≤ 7 → vp_in (i + j) L) (h39 : LC_39 E σ J)
    (hJ : ∀ σ2, J σ2 → Wx E YL 3476 [(0, .ref 1021), (1, .ref 0), (2, .ref 110), (3, .int i)] [] 215 215 100784 (zx σ2) (QL E bS L xs)) (c39 : (xs i.toNatClampNeg &&& 127) = 39) : Wx E YL 33 [(0, .ref 1021), (1, .ref 0), (2, .ref 110), (3, .int i)] [.int (xs i.toNatClampNeg &&& 127)] 215 215 100784 (zx σ) (QL E bS L xs) := by
  refine x_tableIn (tgt := 1877) d_L_33 (by rw [c39]; decide) (by rw [c39]; decide) (by rw [c39]; rfl) (by decide) ?_
  exact L_39 (hv 1 (by decide) (by decide)) (hv 2 (by decide) (by decide)) (Cz.mono (h39 (xs (i + 1).toNatClampNeg) (xs (i + 2).toNatClampNeg)) fun v σ1 ⟨r, e, q⟩ => ⟨r, e, Cz.mono q fun v2 σ2 ⟨e2, q2⟩ => ⟨e2, hJ σ2 q2⟩⟩)
theorem sw_40 {E : xV} {bS L : Nat} {xs : Nat → Int32} {i : Int32} {σ : zS} {J : zS → Prop} (hv : ∀ j : Int32, 0 ≤ j → j ≤ 7 → vp_in (i + j) L) (h40 : LC_40 E σ J)
    (hJ : ∀ σ2, J σ2 → Wx E YL 3476 [(0, .ref 1021), (1, .ref 0), (2, .ref 110), (3, .int i)] [] 215 215 100784 (zx σ2) (QL E bS L xs)) (c40 : (xs i.toNatClampNeg &&& 127) = 40) : Wx E YL 33 [(0, .ref 1021), (1, .ref 0), (2, .ref 110), (3, .int i)] [.int (xs i.toNatClampNeg &&& 127)] 215 215 100784 (zx σ) (QL E bS L xs) := by
  refine x_tableIn (tgt := 1910) d_L_33 (by rw [c40]; decide) (by rw [c40]; decide) (by rw [c40]; rfl) (by decide) ?_
  exact L_40 (hv 1 (by decide) (by decide)) (hv 2 (by decide) (by decide)) (hv 3 (by decide) (by decide)) (Cz.mono (h40 (xs (i + 1).toNatClampNeg) (xs (i + 2).toNatClampNeg) (xs (i + 3).toNatClampNeg)) fun v σ1 ⟨r, e, q⟩ => ⟨r, e, Cz.mono q fun v2 σ2 ⟨e2, q2⟩ => ⟨e2, hJ σ2 q2⟩⟩)
theorem sw_41 {E : xV} {bS L : Nat} {xs : Nat → Int32} {i : Int32} {σ : zS} {J : zS → Prop} (hv : ∀ j : Int32, 0 ≤ j → j ≤ 7 → vp_in (i + j) L) (h41 : LC_41 E σ J)
    (hJ : ∀ σ2, J σ2 → Wx E YL 3476 [(0, .ref 1021), (1, .ref 0), (2, .ref 110), (3, .int i)] [] 215 215 100784 (zx σ2) (QL E bS L xs)) (c41 : (xs i.toNatClampNeg &&& 127) = 41) : Wx E YL 33 [(0, .ref 1021), (1, .ref 0), (2, .ref 110), (3, .int i)] [.int (xs i.toNatClampNeg &&& 127)] 215 215 100784 (zx σ) (QL E bS L xs) := by
  refine x_tableIn (tgt := 1953) d_L_33 (by rw [c41]; decide) (by rw [c41]; decide) (by rw [c41]; rfl) (by decide) ?_
  exact L_41  (Cz.mono (h41 ) fun v σ1 ⟨r, e, q⟩ => ⟨r, e, Cz.mono q fun v2 σ2 ⟨e2, q2⟩ => ⟨e2, hJ σ2 q2⟩⟩)
theorem sw_42 {E : xV} {bS L : Nat} {xs : Nat → Int32} {i : Int32} {σ : zS} {J : zS → Prop} (hv : ∀ j : Int32, 0 ≤ j → j ≤ 7 → vp_in (i + j) L) (h42 : LC_42 E σ J)
    (hJ : ∀ σ2, J σ2 → Wx E YL 3476 [(0, .ref 1021), (1, .ref 0), (2, .ref 110), (3, .int i)] [] 215 215 100784 (zx σ2) (QL E bS L xs)) (c42 : (xs i.toNatClampNeg &&& 127) = 42) : Wx E YL 33 [(0, .ref 1021), (1, .ref 0), (2, .ref 110), (3, .int i)] [.int (xs i.toNatClampNeg &&& 127)] 215 215 100784 (zx σ) (QL E bS L xs) := by
  refine x_tableIn (tgt := 1966) d_L_33 (by rw [c42]; decide) (by rw [c42]; decide) (by rw [c42]; rfl) (by decide) ?_
  exact L_42 (hv 1 (by decide) (by decide)) (hv 2 (by decide) (by decide)) (Cz.mono (h42 (xs (i + 1).toNatClampNeg) (xs (i + 2).toNatClampNeg)) fun v σ1 ⟨r, e, q⟩ => ⟨r, e, Cz.mono q fun v2 σ2 ⟨e2, q2⟩ => ⟨e2, hJ σ2 q2⟩⟩)
theorem sw_43 {E : xV} {bS L : Nat} {xs : Nat → Int32} {i : Int32} {σ : zS} {J : zS → Prop} (hv : ∀ j : Int32, 0 ≤ j → j ≤ 7 → vp_in (i + j) L) (h43 : LC_43 E σ J)
    (hJ : ∀ σ2, J σ2 → Wx E YL 3476 [(0, .ref 1021), (1, .ref 0), (2, .ref 110), (3, .int i)] [] 215 215 100784 (zx σ2) (QL E bS L xs)) (c43 : (xs i.toNatClampNeg &&& 127) = 43) : Wx E YL 33 [(0, .ref 1021), (1, .ref 0), (2, .ref 110), (3, .int i)] [.int (xs i.toNatClampNeg &&& 127)] 215 215 100784 (zx σ) (QL E bS L xs) := by
  refine x_tableIn (tgt := 1999) d_L_33 (by rw [c43]; decide) (by rw [c43]; decide) (by rw [c43]; rfl) (by decide) ?_
  exact L_43 (hv 1 (by decide) (by decide)) (hv 2 (by decide) (by decide)) (hv 3 (by decide) (by decide)) (hv 4 (by decide) (by decide)) (Cz.mono (h43 (xs (i + 1).toNatClampNeg) (xs (i + 2).toNatClampNeg) (xs (i + 3).toNatClampNeg) (xs (i + 4).toNatClampNeg)) fun v σ1 ⟨r, e, q⟩ => ⟨r, e, Cz.mono q fun v2 σ2 ⟨e2, q2⟩ => ⟨e2, hJ σ2 q2⟩⟩)
theorem sw_44 {E : xV} {bS L : Nat} {xs : Nat → Int32} {i : Int32} {σ : zS} {J : zS → Prop} (hv : ∀ j : Int32, 0 ≤ j → j ≤ 7 → vp_in (i + j) L) (h44 : LC_44 E σ J)
    (hJ : ∀ σ2, J σ2 → Wx E YL 3476 [(0, .ref 1021), (1, .ref 0), (2, .ref 110), (3, .int i)] [] 215 215 100784 (zx σ2) (QL E bS L xs)) (c44 : (xs i.toNatClampNeg &&& 127) = 44) : Wx E YL 33 [(0, .ref 1021), (1, .ref 0), (2, .ref 110), (3, .int i)] [.int (xs i.toNatClampNeg &&& 127)] 215 215 100784 (zx σ) (QL E bS L xs) := by
  refine x_tableIn (tgt := 2052) d_L_33 (by rw [c44]; decide) (by rw [c44]; decide) (by rw [c44]; rfl) (by decide) ?_
  exact L_44 (hv 1 (by decide) (by decide)) (hv 2 (by decide) (by decide)) (Cz.mono (h44 (xs (i + 1).toNatClampNeg) (xs (i + 2).toNatClampNeg)) fun v σ1 ⟨r, e, q⟩ => ⟨r, e, Cz.mono q fun v2 σ2 ⟨e2, q2⟩ => ⟨e2, hJ σ2 q2⟩⟩)
theorem sw_45 {E : xV} {bS L : Nat} {xs : Nat → Int32} {i : Int32} {σ : zS} {J : zS → Prop} (hv : ∀ j : Int32, 0 ≤ j → j ≤ 7 → vp_in (i + j) L) (h45 : LC_45 E σ J)
    (hJ : ∀ σ2, J σ2 → Wx E YL 3476 [(0, .ref 1021), (1, .ref 0), (2, .ref 110), (3, .int i)] [] 215 215 100784 (zx σ2) (QL E bS L xs)) (c45 : (xs i.toNatClampNeg &&& 127) = 45) : Wx E YL 33 [(0, .ref 1021), (1, .ref 0), (2, .ref 110), (3, .int i)] [.int (xs i.toNatClampNeg &&& 127)] 215 215 100784 (zx σ) (QL E bS L xs) := by
  refine x_tableIn (tgt := 2085) d_L_33 (by rw [c45]; decide) (by rw [c45]; decide) (by rw [c45]; rfl) (by decide) ?_
  exact L_45 (hv 1 (by decide) (by decide)) (hv 2 (by decide) (by decide)) (Cz.mono (h45 (xs (i + 1).toNatClampNeg) (xs (i + 2).toNatClampNeg)) fun v σ1 ⟨r, e, q⟩ => ⟨r, e, Cz.mono q fun v2 σ2 ⟨e2, q2⟩ => ⟨e2, hJ σ2 q2⟩⟩)
theorem sw_46 {E : xV} {bS L : Nat} {xs : Nat → Int32} {i : Int32} {σ : zS} {J : zS → Prop} (hv : ∀ j : Int32, 0 ≤ j → j ≤ 7 → vp_in (i + j) L) (h46 : LC_46 E σ J)
    (hJ : ∀ σ2, J σ2 → Wx E YL 3476 [(0, .ref 1021), (1, .ref 0), (2, .ref 110), (3, .int i)] [] 215 215 100784 (zx σ2) (QL E bS L xs)) (c46 : (xs i.toNatClampNeg &&& 127) = 46) : Wx E YL 33 [(0, .ref 1021), (1, .ref 0), (2, .ref 110), (3, .int i)] [.int (xs i.toNatClampNeg &&& 127)] 215 215 100784 (zx σ) (QL E bS L xs) := by
  refine x_tableIn (tgt := 2118) d_L_33 (by rw [c46]; decide) (by rw [c46]; decide) (by rw [c46]; rfl) (by decide) ?_
  exact L_46 (hv 1 (by decide) (by decide)) (hv 2 (by decide) (by decide)) (hv 3 (by decide) (by decide)) (hv 4 (by decide) (by decide)) (Cz.mono (h46 (xs (i + 1).toNatClampNeg) (xs (i + 2).toNatClampNeg) (xs (i + 3).toNatClampNeg) (xs (i + 4).toNatClampNeg)) fun v σ1 ⟨r, e, q⟩ => ⟨r, e, Cz.mono q fun v2 σ2 ⟨e2, q2⟩ => ⟨e2, hJ σ2 q2⟩⟩)
theorem sw_47 {E : xV} {bS L : Nat} {xs : Nat → Int32} {i : Int32} {σ : zS} {J : zS → Prop} (hv : ∀ j : Int32, 0 ≤ j → j ≤ 7 → vp_in (i + j) L) (h47 : LC_47 E σ J)
    (hJ : ∀ σ2, J σ2 → Wx E YL 3476 [(0, .ref 1021), (1, .ref 0), (2, .ref 110), (3, .int i)] [] 215 215 100784 (zx σ2) (QL E bS L xs)) (c47 : (xs i.toNatClampNeg &&& 127) = 47) : Wx E YL 33 [(0, .ref 1021), (1, .ref 0), (2, .ref 110), (3, .int i)] [.int (xs i.toNatClampNeg &&& 127)] 215 215 100784 (zx σ) (QL E bS L xs) := by
  refine x_tableIn (tgt := 2171) d_L_33 (by rw [c47]; decide) (by rw [c47]; decide) (by rw [c47]; rfl) (by decide) ?_
  exact L_47 (hv 1 (by decide) (by decide)) (hv 2 (by decide) (by decide)) (hv 3 (by decide) (by decide)) (hv 4 (by decide) (by decide)) (Cz.mono (h47 (xs (i + 1).toNatClampNeg) (xs (i + 2).toNatClampNeg) (xs (i + 3).toNatClampNeg) (xs (i + 4).toNatClampNeg)) fun v σ1 ⟨r, e, q⟩ => ⟨r, e, Cz.mono q fun v2 σ2 ⟨e2, q2⟩ => ⟨e2, hJ σ2 q2⟩⟩)
theorem sw_48 {E : xV} {bS L : Nat} {xs : Nat → Int32} {i : Int32} {σ : zS} {J : zS → Prop} (hv : ∀ j : Int32, 0 ≤ j → j ≤ 7 → vp_in (i + j) L) (h48 : LC_48 E σ J)
    (hJ : ∀ σ2, J σ2 → Wx E YL 3476 [(0, .ref 1021), (1, .ref 0), (2, .ref 110), (3, .int i)] [] 215 215 100784 (zx σ2) (QL E bS L xs)) (c48 : (xs i.toNatClampNeg &&& 127) = 48) : Wx E YL 33 [(0, .ref 1021), (1, .ref 0), (2, .ref 110), (3, .int i)] [.int (xs i.toNatClampNeg &&& 127)] 215 215 100784 (zx σ) (QL E bS L xs) := by
  refine x_tableIn (tgt := 2224) d_L_33 (by rw [c48]; decide) (by rw [c48]; decide) (by rw [c48]; rfl) (by decide) ?_
  exact L_48 (hv 1 (by decide) (by decide)) (hv 2 (by decide) (by decide)) (hv 3 (by decide) (by decide)) (Cz.mono (h48 (xs (i + 1).toNatClampNeg) (xs (i + 2).toNatClampNeg) (xs (i + 3).toNatClampNeg)) fun v σ1 ⟨r, e, q⟩ => ⟨r, e, Cz.mono q fun v2 σ2 ⟨e2, q2⟩ => ⟨e2, hJ σ2 q2⟩⟩)
theorem sw_49 {E : xV} {bS L : Nat} {xs : Nat → Int32} {i : Int32} {σ : zS} {J : zS → Prop} (hv : ∀ j : Int32, 0 ≤ j → j ≤ 7 → vp_in (i + j) L) (h49 : LC_49 E σ J)
    (hJ : ∀ σ2, J σ2 → Wx E YL 3476 [(0, .ref 1021), (1, .ref 0), (2, .ref 110), (3, .int i)] [] 215 215 100784 (zx σ2) (QL E bS L xs)) (c49 : (xs i.toNatClampNeg &&& 127) = 49) : Wx E YL 33 [(0, .ref 1021), (1, .ref 0), (2, .ref 110), (3, .int i)] [.int (xs i.toNatClampNeg &&& 127)] 215 215 100784 (zx σ) (QL E bS L xs) := by
  refine x_tableIn (tgt := 2267) d_L_33 (by rw [c49]; decide) (by rw [c49]; decide) (by rw [c49]; rfl) (by decide) ?_
  exact L_49  (Cz.mono (h49 ) fun v σ1 ⟨r, e, q⟩ => ⟨r, e, Cz.mono q fun v2 σ2 ⟨e2, q2⟩ => ⟨e2, hJ σ2 q2⟩⟩)
theorem sw_50 {E : xV} {bS L : Nat} {xs : Nat → Int32} {i : Int32} {σ : zS} {J : zS → Prop} (hv : ∀ j : Int32, 0 ≤ j → j ≤ 7 → vp_in (i + j) L) (h50 : LC_50 E σ J)
    (hJ : ∀ σ2, J σ2 → Wx E YL 3476 [(0, .ref 1021), (1, .ref 0), (2, .ref 110), (3, .int i)] [] 215 215 100784 (zx σ2) (QL E bS L xs)) (c50 : (xs i.toNatClampNeg &&& 127) = 50) : Wx E YL 33 [(0, .ref 1021), (1, .ref 0), (2, .ref 110), (3, .int i)] [.int (xs i.toNatClampNeg &&& 127)] 215 215 100784 (zx σ) (QL E bS L xs) := by
  refine x_tableIn (tgt := 2280) d_L_33 (by rw [c50]; decide) (by rw [c50]; decide) (by rw [c50]; rfl) (by decide) ?_
  exact L_50 (hv 1 (by decide) (by decide)) (hv 2 (by decide) (by decide)) (hv 3 (by decide) (by decide)) (hv 4 (by decide) (by decide)) (hv 5 (by decide) (by decide)) (hv 6 (by decide) (by decide)) (hv 7 (by decide) (by decide)) (Cz.mono (h50 (xs (i + 1).toNatClampNeg) (xs (i + 2).toNatClampNeg) (xs (i + 3).toNatClampNeg) (xs (i + 4).toNatClampNeg) (xs (i + 5).toNatClampNeg) (xs (i + 6).toNatClampNeg) (xs (i + 7).toNatClampNeg)) fun v σ1 ⟨r, e, q⟩ => ⟨r, e, Cz.mono q fun v2 σ2 ⟨e2, q2⟩ => ⟨e2, hJ σ2 q2⟩⟩)
theorem sw_51 {E : xV} {bS L : Nat} {xs : Nat → Int32} {i : Int32} {σ : zS} {J : zS → Prop} (hv : ∀ j : Int32, 0 ≤ j → j ≤ 7 → vp_in (i + j) L) (h51 : LC_51 E σ J)
    (hJ : ∀ σ2, J σ2 → Wx E YL 3476 [(0, .ref 1021), (1, .ref 0), (2, .ref 110), (3, .int i)] [] 215 215 100784 (zx σ2) (QL E bS L xs)) (c51 : (xs i.toNatClampNeg &&& 127) = 51) : Wx E YL 33 [(0, .ref 1021), (1, .ref 0), (2, .ref 110), (3, .int i)] [.int (xs i.toNatClampNeg &&& 127)] 215 215 100784 (zx σ) (QL E bS L xs) := by
  refine x_tableIn (tgt := 2367) d_L_33 (by rw [c51]; decide) (by rw [c51]; decide) (by rw [c51]; rfl) (by decide) ?_
  exact L_51 (hv 1 (by decide) (by decide)) (hv 2 (by decide) (by decide)) (Cz.mono (h51 (xs (i + 1).toNatClampNeg) (xs (i + 2).toNatClampNeg)) fun v σ1 ⟨r, e, q⟩ => ⟨r, e, Cz.mono q fun v2 σ2 ⟨e2, q2⟩ => ⟨e2, hJ σ2 q2⟩⟩)
theorem sw_52 {E : xV} {bS L : Nat} {xs : Nat → Int32} {i : Int32} {σ : zS} {J : zS → Prop} (hv : ∀ j : Int32, 0 ≤ j → j ≤ 7 → vp_in (i + j) L) (h52 : LC_52 E σ J)
    (hJ : ∀ σ2, J σ2 → Wx E YL 3476 [(0, .ref 1021), (1, .ref 0), (2, .ref 110), (3, .int i)] [] 215 215 100784 (zx σ2) (QL E bS L xs)) (c52 : (xs i.toNatClampNeg &&& 127) = 52) : Wx E YL 33 [(0, .ref 1021), (1, .ref 0), (2, .ref 110), (3, .int i)] [.int (xs i.toNatClampNeg &&& 127)] 215 215 100784 (zx σ) (QL E bS L xs) := by
  refine x_tableIn (tgt := 2400) d_L_33 (by rw [c52]; decide) (by rw [c52]; decide) (by rw [c52]; rfl) (by decide) ?_
  exact L_52 (hv 1 (by decide) (by decide)) (hv 2 (by decide) (by decide)) (hv 3 (by decide) (by decide)) (hv 4 (by decide) (by decide)) (Cz.mono (h52 (xs (i + 1).toNatClampNeg) (xs (i + 2).toNatClampNeg) (xs (i + 3).toNatClampNeg) (xs (i + 4).toNatClampNeg)) fun v σ1 ⟨r, e, q⟩ => ⟨r, e, Cz.mono q fun v2 σ2 ⟨e2, q2⟩ => ⟨e2, hJ σ2 q2⟩⟩)
theorem sw_53 {E : xV} {bS L : Nat} {xs : Nat → Int32} {i : Int32} {σ : zS} {J : zS → Prop} (hv : ∀ j : Int32, 0 ≤ j → j ≤ 7 → vp_in (i + j) L) (h53 : LC_53 E σ J)
    (hJ : ∀ σ2, J σ2 → Wx E YL 3476 [(0, .ref 1021), (1, .ref 0), (2, .ref 110), (3, .int i)] [] 215 215 100784 (zx σ2) (QL E bS L xs)) (c53 : (xs i.toNatClampNeg &&& 127) = 53) : Wx E YL 33 [(0, .ref 1021), (1, .ref 0), (2, .ref 110), (3, .int i)] [.int (xs i.toNatClampNeg &&& 127)] 215 215 100784 (zx σ) (QL E bS L xs) := by
  refine x_tableIn (tgt := 2453) d_L_33 (by rw [c53]; decide) (by rw [c53]; decide) (by rw [c53]; rfl) (by decide) ?_
  exact L_53 (hv 1 (by decide) (by decide)) (Cz.mono (h53 (xs (i + 1).toNatClampNeg)) fun v σ1 ⟨r, e, q⟩ => ⟨r, e, Cz.mono q fun v2 σ2 ⟨e2, q2⟩ => ⟨e2, hJ σ2 q2⟩⟩)
theorem sw_54 {E : xV} {bS L : Nat} {xs : Nat → Int32} {i : Int32} {σ : zS} {J : zS → Prop} (hv : ∀ j : Int32, 0 ≤ j → j ≤ 7 → vp_in (i + j) L) (h54 : LC_54 E σ J)
    (hJ : ∀ σ2, J σ2 → Wx E YL 3476 [(0, .ref 1021), (1, .ref 0), (2, .ref 110), (3, .int i)] [] 215 215 100784 (zx σ2) (QL E bS L xs)) (c54 : (xs i.toNatClampNeg &&& 127) = 54) : Wx E YL 33 [(0, .ref 1021), (1, .ref 0), (2, .ref 110), (3, .int i)] [.int (xs i.toNatClampNeg &&& 127)] 215 215 100784 (zx σ) (QL E bS L xs) := by
  refine x_tableIn (tgt := 2476) d_L_33 (by rw [c54]; decide) (by rw [c54]; decide) (by rw [c54]; rfl) (by decide) ?_
  exact L_54 (hv 1 (by decide) (by decide)) (hv 2 (by decide) (by decide)) (hv 3 (by decide) (by decide)) (Cz.mono (h54 (xs (i + 1).toNatClampNeg) (xs (i + 2).toNatClampNeg) (xs (i + 3).toNatClampNeg)) fun v σ1 ⟨r, e, q⟩ => ⟨r, e, Cz.mono q fun v2 σ2 ⟨e2, q2⟩ => ⟨e2, hJ σ2 q2⟩⟩)
theorem sw_55 {E : xV} {bS L : Nat} {xs : Nat → Int32} {i : Int32} {σ : zS} {J : zS → Prop} (hv : ∀ j : Int32, 0 ≤ j → j ≤ 7 → vp_in (i + j) L) (h55 : LC_55 E σ J)
    (hJ : ∀ σ2, J σ2 → Wx E YL 3476 [(0, .ref 1021), (1, .ref 0), (2, .ref 110), (3, .int i)] [] 215 215 100784 (zx σ2) (QL E bS L xs)) (c55 : (xs i.toNatClampNeg &&& 127) = 55) : Wx E YL 33 [(0, .ref 1021), (1, .ref 0), (2, .ref 110), (3, .int i)] [.int (xs i.toNatClampNeg &&& 127)] 215 215 100784 (zx σ) (QL E bS L xs) := by
  refine x_tableIn (tgt := 2519) d_L_33 (by rw [c55]; decide) (by rw [c55]; decide) (by rw [c55]; rfl) (by decide) ?_
  exact L_55 (hv 1 (by decide) (by decide)) (hv 2 (by decide) (by decide)) (Cz.mono (h55 (xs (i + 1).toNatClampNeg) (xs (i + 2).toNatClampNeg)) fun v σ1 ⟨r, e, q⟩ => ⟨r, e, Cz.mono q fun v2 σ2 ⟨e2, q2⟩ => ⟨e2, hJ σ2 q2⟩⟩)
theorem sw_56 {E : xV} {bS L : Nat} {xs : Nat → Int32} {i : Int32} {σ : zS} {J : zS → Prop} (hv : ∀ j : Int32, 0 ≤ j → j ≤ 7 → vp_in (i + j) L) (h56 : LC_56 E σ J)
    (hJ : ∀ σ2, J σ2 → Wx E YL 3476 [(0, .ref 1021), (1, .ref 0), (2, .ref 110), (3, .int i)] [] 215 215 100784 (zx σ2) (QL E bS L xs)) (c56 : (xs i.toNatClampNeg &&& 127) = 56) : Wx E YL 33 [(0, .ref 1021), (1, .ref 0), (2, .ref 110), (3, .int i)] [.int (xs i.toNatClampNeg &&& 127)] 215 215 100784 (zx σ) (QL E bS L xs) := by
  refine x_tableIn (tgt := 2552) d_L_33 (by rw [c56]; decide) (by rw [c56]; decide) (by rw [c56]; rfl) (by decide) ?_
  exact L_56 (hv 1 (by decide) (by decide)) (hv 2 (by decide) (by decide)) (hv 3 (by decide) (by decide)) (Cz.mono (h56 (xs (i + 1).toNatClampNeg) (xs (i + 2).toNatClampNeg) (xs (i + 3).toNatClampNeg)) fun v σ1 ⟨r, e, q⟩ => ⟨r, e, Cz.mono q fun v2 σ2 ⟨e2, q2⟩ => ⟨e2, hJ σ2 q2⟩⟩)
theorem sw_57 {E : xV} {bS L : Nat} {xs : Nat → Int32} {i : Int32} {σ : zS} {J : zS → Prop} (hv : ∀ j : Int32, 0 ≤ j → j ≤ 7 → vp_in (i + j) L) (h57 : LC_57 E σ J)
    (hJ : ∀ σ2, J σ2 → Wx E YL 3476 [(0, .ref 1021), (1, .ref 0), (2, .ref 110), (3, .int i)] [] 215 215 100784 (zx σ2) (QL E bS L xs)) (c57 : (xs i.toNatClampNeg &&& 127) = 57) : Wx E YL 33 [(0, .ref 1021), (1, .ref 0), (2, .ref 110), (3, .int i)] [.int (xs i.toNatClampNeg &&& 127)] 215 215 100784 (zx σ) (QL E bS L xs) := by
  refine x_tableIn (tgt := 2595) d_L_33 (by rw [c57]; decide) (by rw [c57]; decide) (by rw [c57]; rfl) (by decide) ?_
  exact L_57 (hv 1 (by decide) (by decide)) (hv 2 (by decide) (by decide)) (hv 3 (by decide) (by decide)) (Cz.mono (h57 (xs (i + 1).toNatClampNeg) (xs (i + 2).toNatClampNeg) (xs (i + 3).toNatClampNeg)) fun v σ1 ⟨r, e, q⟩ => ⟨r, e, Cz.mono q fun v2 σ2 ⟨e2, q2⟩ => ⟨e2, hJ σ2 q2⟩⟩)
theorem sw_58 {E : xV} {bS L : Nat} {xs : Nat → Int32} {i : Int32} {σ : zS} {J : zS → Prop} (hv : ∀ j : Int32, 0 ≤ j → j ≤ 7 → vp_in (i + j) L) (h58 : LC_58 E σ J)
    (hJ : ∀ σ2, J σ2 → Wx E YL 3476 [(0, .ref 1021), (1, .ref 0), (2, .ref 110), (3, .int i)] [] 215 215 100784 (zx σ2) (QL E bS L xs)) (c58 : (xs i.toNatClampNeg &&& 127) = 58) : Wx E YL 33 [(0, .ref 1021), (1, .ref 0), (2, .ref 110), (3, .int i)] [.int (xs i.toNatClampNeg &&& 127)] 215 215 100784 (zx σ) (QL E bS L xs) := by
  refine x_tableIn (tgt := 2638) d_L_33 (by rw [c58]; decide) (by rw [c58]; decide) (by rw [c58]; rfl) (by decide) ?_
  exact L_58 (hv 1 (by decide) (by decide)) (hv 2 (by decide) (by decide)) (Cz.mono (h58 (xs (i + 1).toNatClampNeg) (xs (i + 2).toNatClampNeg)) fun v σ1 ⟨r, e, q⟩ => ⟨r, e, Cz.mono q fun v2 σ2 ⟨e2, q2⟩ => ⟨e2, hJ σ2 q2⟩⟩)
theorem sw_59 {E : xV} {bS L : Nat} {xs : Nat → Int32} {i : Int32} {σ : zS} {J : zS → Prop} (hv : ∀ j : Int32, 0 ≤ j → j ≤ 7 → vp_in (i + j) L) (h59 : LC_59 E σ J)
    (hJ : ∀ σ2, J σ2 → Wx E YL 3476 [(0, .ref 1021), (1, .ref 0), (2, .ref 110), (3, .int i)] [] 215 215 100784 (zx σ2) (QL E bS L xs)) (c59 : (xs i.toNatClampNeg &&& 127) = 59) : Wx E YL 33 [(0, .ref 1021), (1, .ref 0), (2, .ref 110), (3, .int i)] [.int (xs i.toNatClampNeg &&& 127)] 215 215 100784 (zx σ) (QL E bS L xs) := by
  refine x_tableIn (tgt := 2671) d_L_33 (by rw [c59]; decide) (by rw [c59]; decide) (by rw [c59]; rfl) (by decide) ?_
  exact L_59 (hv 1 (by decide) (by decide)) (hv 2 (by decide) (by decide)) (Cz.mono (h59 (xs (i + 1).toNatClampNeg) (xs (i + 2).toNatClampNeg)) fun v σ1 ⟨r, e, q⟩ => ⟨r, e, Cz.mono q fun v2 σ2 ⟨e2, q2⟩ => ⟨e2, hJ σ2 q2⟩⟩)
theorem sw_60 {E : xV} {bS L : Nat} {xs : Nat → Int32} {i : Int32} {σ : zS} {J : zS → Prop} (hv : ∀ j : Int32, 0 ≤ j → j ≤ 7 → vp_in (i + j) L) (h60 : LC_60 E σ J)
    (hJ : ∀ σ2, J σ2 → Wx E YL 3476 [(0, .ref 1021), (1, .ref 0), (2, .ref 110), (3, .int i)] [] 215 215 100784 (zx σ2) (QL E bS L xs)) (c60 : (xs i.toNatClampNeg &&& 127) = 60) : Wx E YL 33 [(0, .ref 1021), (1, .ref 0), (2, .ref 110), (3, .int i)] [.int (xs i.toNatClampNeg &&& 127)] 215 215 100784 (zx σ) (QL E bS L xs) := by
  refine x_tableIn (tgt := 2704) d_L_33 (by rw [c60]; decide) (by rw [c60]; decide) (by rw [c60]; rfl) (by decide) ?_
  exact L_60 (hv 1 (by decide) (by decide)) (hv 2 (by decide) (by decide)) (hv 3 (by decide) (by decide)) (hv 4 (by decide) (by decide)) (Cz.mono (h60 (xs (i + 1).toNatClampNeg) (xs (i + 2).toNatClampNeg) (xs (i + 3).toNatClampNeg) (xs (i + 4).toNatClampNeg)) fun v σ1 ⟨r, e, q⟩ => ⟨r, e, Cz.mono q fun v2 σ2 ⟨e2, q2⟩ => ⟨e2, hJ σ2 q2⟩⟩)
theorem sw_61 {E : xV} {bS L : Nat} {xs : Nat → Int32} {i : Int32} {σ : zS} {J : zS → Prop} (hv : ∀ j : Int32, 0 ≤ j → j ≤ 7 → vp_in (i + j) L) (h61 : LC_61 E σ J)
    (hJ : ∀ σ2, J σ2 → Wx E YL 3476 [(0, .ref 1021), (1, .ref 0), (2, .ref 110), (3, .int i)] [] 215 215 100784 (zx σ2) (QL E bS L xs)) (c61 : (xs i.toNatClampNeg &&& 127) = 61) : Wx E YL 33 [(0, .ref 1021), (1, .ref 0), (2, .ref 110), (3, .int i)] [.int (xs i.toNatClampNeg &&& 127)] 215 215 100784 (zx σ) (QL E bS L xs) := by
  refine x_tableIn (tgt := 2757) d_L_33 (by rw [c61]; decide) (by rw [c61]; decide) (by rw [c61]; rfl) (by decide) ?_
  exact L_61  (Cz.mono (h61 ) fun v σ1 ⟨r, e, q⟩ => ⟨r, e, Cz.mono q fun v2 σ2 ⟨e2, q2⟩ => ⟨e2, hJ σ2 q2⟩⟩)
theorem sw_62 {E : xV} {bS L : Nat} {xs : Nat → Int32} {i : Int32} {σ : zS} {J : zS → Prop} (hv : ∀ j : Int32, 0 ≤ j → j ≤ 7 → vp_in (i + j) L) (h62 : LC_62 E σ J)
    (hJ : ∀ σ2, J σ2 → Wx E YL 3476 [(0, .ref 1021), (1, .ref 0), (2, .ref 110), (3, .int i)] [] 215 215 100784 (zx σ2) (QL E bS L xs)) (c62 : (xs i.toNatClampNeg &&& 127) = 62) : Wx E YL 33 [(0, .ref 1021), (1, .ref 0), (2, .ref 110), (3, .int i)] [.int (xs i.toNatClampNeg &&& 127)] 215 215 100784 (zx σ) (QL E bS L xs) := by
  refine x_tableIn (tgt := 2770) d_L_33 (by rw [c62]; decide) (by rw [c62]; decide) (by rw [c62]; rfl) (by decide) ?_
  exact L_62  (Cz.mono (h62 ) fun v σ1 ⟨r, e, q⟩ => ⟨r, e, Cz.mono q fun v2 σ2 ⟨e2, q2⟩ => ⟨e2, hJ σ2 q2⟩⟩)
theorem sw_63 {E : xV} {bS L : Nat} {xs : Nat → Int32} {i : Int32} {σ : zS} {J : zS → Prop} (hv : ∀ j : Int32, 0 ≤ j → j ≤ 7 → vp_in (i + j) L) (h63 : LC_63 E σ J)
    (hJ : ∀ σ2, J σ2 → Wx E YL 3476 [(0, .ref 1021), (1, .ref 0), (2, .ref 110), (3, .int i)] [] 215 215 100784 (zx σ2) (QL E bS L xs)) (c63 : (xs i.toNatClampNeg &&& 127) = 63) : Wx E YL 33 [(0, .ref 1021), (1, .ref 0), (2, .ref 110), (3, .int i)] [.int (xs i.toNatClampNeg &&& 127)] 215 215 100784 (zx σ) (QL E bS L xs) := by
  refine x_tableIn (tgt := 2783) d_L_33 (by rw [c63]; decide) (by rw [c63]; decide) (by rw [c63]; rfl) (by decide) ?_
  exact L_63  (Cz.mono (h63 ) fun v σ1 ⟨r, e, q⟩ => ⟨r, e, Cz.mono q fun v2 σ2 ⟨e2, q2⟩ => ⟨e2, hJ σ2 q2⟩⟩)
theorem sw_64 {E : xV} {bS L : Nat} {xs : Nat → Int32} {i : Int32} {σ : zS} {J : zS → Prop} (hv : ∀ j : Int32, 0 ≤ j → j ≤ 7 → vp_in (i + j) L) (h64 : LC_64 E σ J)
    (hJ : ∀ σ2, J σ2 → Wx E YL 3476 [(0, .ref 1021), (1, .ref 0), (2, .ref 110), (3, .int i)] [] 215 215 100784 (zx σ2) (QL E bS L xs)) (c64 : (xs i.toNatClampNeg &&& 127) = 64) : Wx E YL 33 [(0, .ref 1021), (1, .ref 0), (2, .ref 110), (3, .int i)] [.int (xs i.toNatClampNeg &&& 127)] 215 215 100784 (zx σ) (QL E bS L xs) := by
  refine x_tableIn (tgt := 2796) d_L_33 (by rw [c64]; decide) (by rw [c64]; decide) (by rw [c64]; rfl) (by decide) ?_
  exact L_64 (hv 1 (by decide) (by decide)) (hv 2 (by decide) (by decide)) (Cz.mono (h64 (xs (i + 1).toNatClampNeg) (xs (i + 2).toNatClampNeg)) fun v σ1 ⟨r, e, q⟩ => ⟨r, e, Cz.mono q fun v2 σ2 ⟨e2, q2⟩ => ⟨e2, hJ σ2 q2⟩⟩)
theorem sw_65 {E : xV} {bS L : Nat} {xs : Nat → Int32} {i : Int32} {σ : zS} {J : zS → Prop} (hv : ∀ j : Int32, 0 ≤ j → j ≤ 7 → vp_in (i + j) L) (h65 : LC_65 E σ J)
    (hJ : ∀ σ2, J σ2 → Wx E YL 3476 [(0, .ref 1021), (1, .ref 0), (2, .ref 110), (3, .int i)] [] 215 215 100784 (zx σ2) (QL E bS L xs)) (c65 : (xs i.toNatClampNeg &&& 127) = 65) : Wx E YL 33 [(0, .ref 1021), (1, .ref 0), (2, .ref 110), (3, .int i)] [.int (xs i.toNatClampNeg &&& 127)] 215 215 100784 (zx σ) (QL E bS L xs) := by
  refine x_tableIn (tgt := 2829) d_L_33 (by rw [c65]; decide) (by rw [c65]; decide) (by rw [c65]; rfl) (by decide) ?_
  exact L_65 (hv 1 (by decide) (by decide)) (Cz.mono (h65 (xs (i + 1).toNatClampNeg)) fun v σ1 ⟨r, e, q⟩ => ⟨r, e, Cz.mono q fun v2 σ2 ⟨e2, q2⟩ => ⟨e2, hJ σ2 q2⟩⟩)
theorem sw_66 {E : xV} {bS L : Nat} {xs : Nat → Int32} {i : Int32} {σ : zS} {J : zS → Prop} (hv : ∀ j : Int32, 0 ≤ j → j ≤ 7 → vp_in (i + j) L) (h66 : LC_66 E σ J)
    (hJ : ∀ σ2, J σ2 → Wx E YL 3476 [(0, .ref 1021), (1, .ref 0), (2, .ref 110), (3, .int i)] [] 215 215 100784 (zx σ2) (QL E bS L xs)) (c66 : (xs i.toNatClampNeg &&& 127) = 66) : Wx E YL 33 [(0, .ref 1021), (1, .ref 0), (2, .ref 110), (3, .int i)] [.int (xs i.toNatClampNeg &&& 127)] 215 215 100784 (zx σ) (QL E bS L xs) := by
  refine x_tableIn (tgt := 2852) d_L_33 (by rw [c66]; decide) (by rw [c66]; decide) (by rw [c66]; rfl) (by decide) ?_
  exact L_66 (hv 1 (by decide) (by decide)) (hv 2 (by decide) (by decide)) (Cz.mono (h66 (xs (i + 1).toNatClampNeg) (xs (i + 2).toNatClampNeg)) fun v σ1 ⟨r, e, q⟩ => ⟨r, e, Cz.mono q fun v2 σ2 ⟨e2, q2⟩ => ⟨e2, hJ σ2 q2⟩⟩)
theorem sw_67 {E : xV} {bS L : Nat} {xs : Nat → Int32} {i : Int32} {σ : zS} {J : zS → Prop} (hv : ∀ j : Int32, 0 ≤ j → j ≤ 7 → vp_in (i + j) L) (h67 : LC_67 E σ J)
    (hJ : ∀ σ2, J σ2 → Wx E YL 3476 [(0, .ref 1021), (1, .ref 0), (2, .ref 110), (3, .int i)] [] 215 215 100784 (zx σ2) (QL E bS L xs)) (c67 : (xs i.toNatClampNeg &&& 127) = 67) : Wx E YL 33 [(0, .ref 1021), (1, .ref 0), (2, .ref 110), (3, .int i)] [.int (xs i.toNatClampNeg &&& 127)] 215 215 100784 (zx σ) (QL E bS L xs) := by
  refine x_tableIn (tgt := 2885) d_L_33 (by rw [c67]; decide) (by rw [c67]; decide) (by rw [c67]; rfl) (by decide) ?_
  exact L_67 (hv 1 (by decide) (by decide)) (Cz.mono (h67 (xs (i + 1).toNatClampNeg)) fun v σ1 ⟨r, e, q⟩ => ⟨r, e, Cz.mono q fun v2 σ2 ⟨e2, q2⟩ => ⟨e2, hJ σ2 q2⟩⟩)
theorem sw_68 {E : xV} {bS L : Nat} {xs : Nat → Int32} {i : Int32} {σ : zS} {J : zS → Prop} (hv : ∀ j : Int32, 0 ≤ j → j ≤ 7 → vp_in (i + j) L) (h68 : LC_68 E σ J)
    (hJ : ∀ σ2, J σ2 → Wx E YL 3476 [(0, .ref 1021), (1, .ref 0), (2, .ref 110), (3, .int i)] [] 215 215 100784 (zx σ2) (QL E bS L xs)) (c68 : (xs i.toNatClampNeg &&& 127) = 68) : Wx E YL 33 [(0, .ref 1021), (1, .ref 0), (2, .ref 110), (3, .int i)] [.int (xs i.toNatClampNeg &&& 127)] 215 215 100784 (zx σ) (QL E bS L xs) := by
  refine x_tableIn (tgt := 2908) d_L_33 (by rw [c68]; decide) (by rw [c68]; decide) (by rw [c68]; rfl) (by decide) ?_
  exact L_68 (hv 1 (by decide) (by decide)) (hv 2 (by decide) (by decide)) (hv 3 (by decide) (by decide)) (Cz.mono (h68 (xs (i + 1).toNatClampNeg) ((j_lshl (Int32.toInt64 (xs (i + 2).toNatClampNeg)) 32) ||| ((Int32.toInt64 (xs (i + 3).toNatClampNeg)) &&& 4294967295))) fun v σ1 ⟨r, e, q⟩ => ⟨r, e, Cz.mono q fun v2 σ2 ⟨e2, q2⟩ => ⟨e2, hJ σ2 q2⟩⟩)
theorem sw_69 {E : xV} {bS L : Nat} {xs : Nat → Int32} {i : Int32} {σ : zS} {J : zS → Prop} (hv : ∀ j : Int32, 0 ≤ j → j ≤ 7 → vp_in (i + j) L) (h69 : LC_69 E σ J)
    (hJ : ∀ σ2, J σ2 → Wx E YL 3476 [(0, .ref 1021), (1, .ref 0), (2, .ref 110), (3, .int i)] [] 215 215 100784 (zx σ2) (QL E bS L xs)) (c69 : (xs i.toNatClampNeg &&& 127) = 69) : Wx E YL 33 [(0, .ref 1021), (1, .ref 0), (2, .ref 110), (3, .int i)] [.int (xs i.toNatClampNeg &&& 127)] 215 215 100784 (zx σ) (QL E bS L xs) := by
  refine x_tableIn (tgt := 2971) d_L_33 (by rw [c69]; decide) (by rw [c69]; decide) (by rw [c69]; rfl) (by decide) ?_
  exact L_69 (hv 1 (by decide) (by decide)) (hv 2 (by decide) (by decide)) (hv 3 (by decide) (by decide)) (Cz.mono (h69 (xs (i + 1).toNatClampNeg) ((j_lshl (Int32.toInt64 (xs (i + 2).toNatClampNeg)) 32) ||| ((Int32.toInt64 (xs (i + 3).toNatClampNeg)) &&& 4294967295))) fun v σ1 ⟨r, e, q⟩ => ⟨r, e, Cz.mono q fun v2 σ2 ⟨e2, q2⟩ => ⟨e2, hJ σ2 q2⟩⟩)
theorem sw_70 {E : xV} {bS L : Nat} {xs : Nat → Int32} {i : Int32} {σ : zS} {J : zS → Prop} (hv : ∀ j : Int32, 0 ≤ j → j ≤ 7 → vp_in (i + j) L) (h70 : LC_70 E σ J)
    (hJ : ∀ σ2, J σ2 → Wx E YL 3476 [(0, .ref 1021), (1, .ref 0), (2, .ref 110), (3, .int i)] [] 215 215 100784 (zx σ2) (QL E bS L xs)) (c70 : (xs i.toNatClampNeg &&& 127) = 70) : Wx E YL 33 [(0, .ref 1021), (1, .ref 0), (2, .ref 110), (3, .int i)] [.int (xs i.toNatClampNeg &&& 127)] 215 215 100784 (zx σ) (QL E bS L xs) := by
  refine x_tableIn (tgt := 3034) d_L_33 (by rw [c70]; decide) (by rw [c70]; decide) (by rw [c70]; rfl) (by decide) ?_
  exact L_70 (hv 1 (by decide) (by decide)) (hv 2 (by decide) (by decide)) (Cz.mono (h70 (xs (i + 1).toNatClampNeg) (xs (i + 2).toNatClampNeg)) fun v σ1 ⟨r, e, q⟩ => ⟨r, e, Cz.mono q fun v2 σ2 ⟨e2, q2⟩ => ⟨e2, hJ σ2 q2⟩⟩)
theorem sw_71 {E : xV} {bS L : Nat} {xs : Nat → Int32} {i : Int32} {σ : zS} {J : zS → Prop} (hv : ∀ j : Int32, 0 ≤ j → j ≤ 7 → vp_in (i + j) L) (h71 : LC_71 E σ J)
    (hJ : ∀ σ2, J σ2 → Wx E YL 3476 [(0, .ref 1021), (1, .ref 0), (2, .ref 110), (3, .int i)] [] 215 215 100784 (zx σ2) (QL E bS L xs)) (c71 : (xs i.toNatClampNeg &&& 127) = 71) : Wx E YL 33 [(0, .ref 1021), (1, .ref 0), (2, .ref 110), (3, .int i)] [.int (xs i.toNatClampNeg &&& 127)] 215 215 100784 (zx σ) (QL E bS L xs) := by
  refine x_tableIn (tgt := 3067) d_L_33 (by rw [c71]; decide) (by rw [c71]; decide) (by rw [c71]; rfl) (by decide) ?_
  exact L_71 (hv 1 (by decide) (by decide)) (hv 2 (by decide) (by decide)) (Cz.mono (h71 (xs (i + 1).toNatClampNeg) (xs (i + 2).toNatClampNeg)) fun v σ1 ⟨r, e, q⟩ => ⟨r, e, Cz.mono q fun v2 σ2 ⟨e2, q2⟩ => ⟨e2, hJ σ2 q2⟩⟩)
theorem sw_72 {E : xV} {bS L : Nat} {xs : Nat → Int32} {i : Int32} {σ : zS} {J : zS → Prop} (hv : ∀ j : Int32, 0 ≤ j → j ≤ 7 → vp_in (i + j) L) (h72 : LC_72 E σ J)
    (hJ : ∀ σ2, J σ2 → Wx E YL 3476 [(0, .ref 1021), (1, .ref 0), (2, .ref 110), (3, .int i)] [] 215 215 100784 (zx σ2) (QL E bS L xs)) (c72 : (xs i.toNatClampNeg &&& 127) = 72) : Wx E YL 33 [(0, .ref 1021), (1, .ref 0), (2, .ref 110), (3, .int i)] [.int (xs i.toNatClampNeg &&& 127)] 215 215 100784 (zx σ) (QL E bS L xs) := by
  refine x_tableIn (tgt := 3100) d_L_33 (by rw [c72]; decide) (by rw [c72]; decide) (by rw [c72]; rfl) (by decide) ?_
  exact L_72 (hv 1 (by decide) (by decide)) (Cz.mono (h72 (xs (i + 1).toNatClampNeg)) fun v σ1 ⟨r, e, q⟩ => ⟨r, e, Cz.mono q fun v2 σ2 ⟨e2, q2⟩ => ⟨e2, hJ σ2 q2⟩⟩)
theorem sw_73 {E : xV} {bS L : Nat} {xs : Nat → Int32} {i : Int32} {σ : zS} {J : zS → Prop} (hv : ∀ j : Int32, 0 ≤ j → j ≤ 7 → vp_in (i + j) L) (h73 : LC_73 E σ J)
    (hJ : ∀ σ2, J σ2 → Wx E YL 3476 [(0, .ref 1021), (1, .ref 0), (2, .ref 110), (3, .int i)] [] 215 215 100784 (zx σ2) (QL E bS L xs)) (c73 : (xs i.toNatClampNeg &&& 127) = 73) : Wx E YL 33 [(0, .ref 1021), (1, .ref 0), (2, .ref 110), (3, .int i)] [.int (xs i.toNatClampNeg &&& 127)] 215 215 100784 (zx σ) (QL E bS L xs) := by
  refine x_tableIn (tgt := 3123) d_L_33 (by rw [c73]; decide) (by rw [c73]; decide) (by rw [c73]; rfl) (by decide) ?_
  exact L_73 (hv 1 (by decide) (by decide)) (Cz.mono (h73 (xs (i + 1).toNatClampNeg)) fun v σ1 ⟨r, e, q⟩ => ⟨r, e, Cz.mono q fun v2 σ2 ⟨e2, q2⟩ => ⟨e2, hJ σ2 q2⟩⟩)
theorem sw_74 {E : xV} {bS L : Nat} {xs : Nat → Int32} {i : Int32} {σ : zS} {J : zS → Prop} (hv : ∀ j : Int32, 0 ≤ j → j ≤ 7 → vp_in (i + j) L) (h74 : LC_74 E σ J)
    (hJ : ∀ σ2, J σ2 → Wx E YL 3476 [(0, .ref 1021), (1, .ref 0), (2, .ref 110), (3, .int i)] [] 215 215 100784 (zx σ2) (QL E bS L xs)) (c74 : (xs i.toNatClampNeg &&& 127) = 74) : Wx E YL 33 [(0, .ref 1021), (1, .ref 0), (2, .ref 110), (3, .int i)] [.int (xs i.toNatClampNeg &&& 127)] 215 215 100784 (zx σ) (QL E bS L xs) := by
  refine x_tableIn (tgt := 3146) d_L_33 (by rw [c74]; decide) (by rw [c74]; decide) (by rw [c74]; rfl) (by decide) ?_
  exact L_74 (hv 1 (by decide) (by decide)) (hv 2 (by decide) (by decide)) (hv 3 (by decide) (by decide)) (hv 4 (by decide) (by decide)) (Cz.mono (h74 (xs (i + 1).toNatClampNeg) (xs (i + 2).toNatClampNeg) (xs (i + 3).toNatClampNeg) (xs (i + 4).toNatClampNeg)) fun v σ1 ⟨r, e, q⟩ => ⟨r, e, Cz.mono q fun v2 σ2 ⟨e2, q2⟩ => ⟨e2, hJ σ2 q2⟩⟩)
theorem sw_75 {E : xV} {bS L : Nat} {xs : Nat → Int32} {i : Int32} {σ : zS} {J : zS → Prop} (hv : ∀ j : Int32, 0 ≤ j → j ≤ 7 → vp_in (i + j) L) (h75 : LC_75 E σ J)
    (hJ : ∀ σ2, J σ2 → Wx E YL 3476 [(0, .ref 1021), (1, .ref 0), (2, .ref 110), (3, .int i)] [] 215 215 100784 (zx σ2) (QL E bS L xs)) (c75 : (xs i.toNatClampNeg &&& 127) = 75) : Wx E YL 33 [(0, .ref 1021), (1, .ref 0), (2, .ref 110), (3, .int i)] [.int (xs i.toNatClampNeg &&& 127)] 215 215 100784 (zx σ) (QL E bS L xs) := by
  refine x_tableIn (tgt := 3199) d_L_33 (by rw [c75]; decide) (by rw [c75]; decide) (by rw [c75]; rfl) (by decide) ?_
  exact L_75 (hv 1 (by decide) (by decide)) (hv 2 (by decide) (by decide)) (Cz.mono (h75 (xs (i + 1).toNatClampNeg) (xs (i + 2).toNatClampNeg)) fun v σ1 ⟨r, e, q⟩ => ⟨r, e, Cz.mono q fun v2 σ2 ⟨e2, q2⟩ => ⟨e2, hJ σ2 q2⟩⟩)
theorem sw_76 {E : xV} {bS L : Nat} {xs : Nat → Int32} {i : Int32} {σ : zS} {J : zS → Prop} (hv : ∀ j : Int32, 0 ≤ j → j ≤ 7 → vp_in (i + j) L) (h76 : LC_76 E σ J)
    (hJ : ∀ σ2, J σ2 → Wx E YL 3476 [(0, .ref 1021), (1, .ref 0), (2, .ref 110), (3, .int i)] [] 215 215 100784 (zx σ2) (QL E bS L xs)) (c76 : (xs i.toNatClampNeg &&& 127) = 76) : Wx E YL 33 [(0, .ref 1021), (1, .ref 0), (2, .ref 110), (3, .int i)] [.int (xs i.toNatClampNeg &&& 127)] 215 215 100784 (zx σ) (QL E bS L xs) := by
  refine x_tableIn (tgt := 3232) d_L_33 (by rw [c76]; decide) (by rw [c76]; decide) (by rw [c76]; rfl) (by decide) ?_
  exact L_76 (hv 1 (by decide) (by decide)) (Cz.mono (h76 (xs (i + 1).toNatClampNeg)) fun v σ1 ⟨r, e, q⟩ => ⟨r, e, Cz.mono q fun v2 σ2 ⟨e2, q2⟩ => ⟨e2, hJ σ2 q2⟩⟩)
theorem sw_77 {E : xV} {bS L : Nat} {xs : Nat → Int32} {i : Int32} {σ : zS} {J : zS → Prop} (hv : ∀ j : Int32, 0 ≤ j → j ≤ 7 → vp_in (i + j) L) (h77 : LC_77 E σ J)
    (hJ : ∀ σ2, J σ2 → Wx E YL 3476 [(0, .ref 1021), (1, .ref 0), (2, .ref 110), (3, .int i)] [] 215 215 100784 (zx σ2) (QL E bS L xs)) (c77 : (xs i.toNatClampNeg &&& 127) = 77) : Wx E YL 33 [(0, .ref 1021), (1, .ref 0), (2, .ref 110), (3, .int i)] [.int (xs i.toNatClampNeg &&& 127)] 215 215 100784 (zx σ) (QL E bS L xs) := by
  refine x_tableIn (tgt := 3255) d_L_33 (by rw [c77]; decide) (by rw [c77]; decide) (by rw [c77]; rfl) (by decide) ?_
  exact L_77 (hv 1 (by decide) (by decide)) (hv 2 (by decide) (by decide)) (Cz.mono (h77 (xs (i + 1).toNatClampNeg) (xs (i + 2).toNatClampNeg)) fun v σ1 ⟨r, e, q⟩ => ⟨r, e, Cz.mono q fun v2 σ2 ⟨e2, q2⟩ => ⟨e2, hJ σ2 q2⟩⟩)
theorem sw_78 {E : xV} {bS L : Nat} {xs : Nat → Int32} {i : Int32} {σ : zS} {J : zS → Prop} (hv : ∀ j : Int32, 0 ≤ j → j ≤ 7 → vp_in (i + j) L) (h78 : LC_78 E σ J)
    (hJ : ∀ σ2, J σ2 → Wx E YL 3476 [(0, .ref 1021), (1, .ref 0), (2, .ref 110), (3, .int i)] [] 215 215 100784 (zx σ2) (QL E bS L xs)) (c78 : (xs i.toNatClampNeg &&& 127) = 78) : Wx E YL 33 [(0, .ref 1021), (1, .ref 0), (2, .ref 110), (3, .int i)] [.int (xs i.toNatClampNeg &&& 127)] 215 215 100784 (zx σ) (QL E bS L xs) := by
  refine x_tableIn (tgt := 3288) d_L_33 (by rw [c78]; decide) (by rw [c78]; decide) (by rw [c78]; rfl) (by decide) ?_
  exact L_78  (Cz.mono (h78 ) fun v σ1 ⟨r, e, q⟩ => ⟨r, e, Cz.mono q fun v2 σ2 ⟨e2, q2⟩ => ⟨e2, hJ σ2 q2⟩⟩)
theorem sw_79 {E : xV} {bS L : Nat} {xs : Nat → Int32} {i : Int32} {σ : zS} {J : zS → Prop} (hv : ∀ j : Int32, 0 ≤ j → j ≤ 7 → vp_in (i + j) L) (h79 : LC_79 E σ J)
    (hJ : ∀ σ2, J σ2 → Wx E YL 3476 [(0, .ref 1021), (1, .ref 0), (2, .ref 110), (3, .int i)] [] 215 215 100784 (zx σ2) (QL E bS L xs)) (c79 : (xs i.toNatClampNeg &&& 127) = 79) : Wx E YL 33 [(0, .ref 1021), (1, .ref 0), (2, .ref 110), (3, .int i)] [.int (xs i.toNatClampNeg &&& 127)] 215 215 100784 (zx σ) (QL E bS L xs) := by
  refine x_tableIn (tgt := 3301) d_L_33 (by rw [c79]; decide) (by rw [c79]; decide) (by rw [c79]; rfl) (by decide) ?_
  exact L_79 (hv 1 (by decide) (by decide)) (hv 2 (by decide) (by decide)) (Cz.mono (h79 (xs (i + 1).toNatClampNeg) (xs (i + 2).toNatClampNeg)) fun v σ1 ⟨r, e, q⟩ => ⟨r, e, Cz.mono q fun v2 σ2 ⟨e2, q2⟩ => ⟨e2, hJ σ2 q2⟩⟩)
theorem sw_80 {E : xV} {bS L : Nat} {xs : Nat → Int32} {i : Int32} {σ : zS} {J : zS → Prop} (hv : ∀ j : Int32, 0 ≤ j → j ≤ 7 → vp_in (i + j) L) (h80 : LC_80 E σ J)
    (hJ : ∀ σ2, J σ2 → Wx E YL 3476 [(0, .ref 1021), (1, .ref 0), (2, .ref 110), (3, .int i)] [] 215 215 100784 (zx σ2) (QL E bS L xs)) (c80 : (xs i.toNatClampNeg &&& 127) = 80) : Wx E YL 33 [(0, .ref 1021), (1, .ref 0), (2, .ref 110), (3, .int i)] [.int (xs i.toNatClampNeg &&& 127)] 215 215 100784 (zx σ) (QL E bS L xs) := by
  refine x_tableIn (tgt := 3334) d_L_33 (by rw [c80]; decide) (by rw [c80]; decide) (by rw [c80]; rfl) (by decide) ?_
  exact L_80 (hv 1 (by decide) (by decide)) (hv 2 (by decide) (by decide)) (hv 3 (by decide) (by decide)) (Cz.mono (h80 (xs (i + 1).toNatClampNeg) (xs (i + 2).toNatClampNeg) (xs (i + 3).toNatClampNeg)) fun v σ1 ⟨r, e, q⟩ => ⟨r, e, Cz.mono q fun v2 σ2 ⟨e2, q2⟩ => ⟨e2, hJ σ2 q2⟩⟩)
theorem sw_81 {E : xV} {bS L : Nat} {xs : Nat → Int32} {i : Int32} {σ : zS} {J : zS → Prop} (hv : ∀ j : Int32, 0 ≤ j → j ≤ 7 → vp_in (i + j) L) (h81 : LC_81 E σ J)
    (hJ : ∀ σ2, J σ2 → Wx E YL 3476 [(0, .ref 1021), (1, .ref 0), (2, .ref 110), (3, .int i)] [] 215 215 100784 (zx σ2) (QL E bS L xs)) (c81 : (xs i.toNatClampNeg &&& 127) = 81) : Wx E YL 33 [(0, .ref 1021), (1, .ref 0), (2, .ref 110), (3, .int i)] [.int (xs i.toNatClampNeg &&& 127)] 215 215 100784 (zx σ) (QL E bS L xs) := by
  refine x_tableIn (tgt := 3377) d_L_33 (by rw [c81]; decide) (by rw [c81]; decide) (by rw [c81]; rfl) (by decide) ?_
  exact L_81  (Cz.mono (h81 ) fun v σ1 ⟨r, e, q⟩ => ⟨r, e, Cz.mono q fun v2 σ2 ⟨e2, q2⟩ => ⟨e2, hJ σ2 q2⟩⟩)
theorem sw_82 {E : xV} {bS L : Nat} {xs : Nat → Int32} {i : Int32} {σ : zS} {J : zS → Prop} (hv : ∀ j : Int32, 0 ≤ j → j ≤ 7 → vp_in (i + j) L) (h82 : LC_82 E σ J)
    (hJ : ∀ σ2, J σ2 → Wx E YL 3476 [(0, .ref 1021), (1, .ref 0), (2, .ref 110), (3, .int i)] [] 215 215 100784 (zx σ2) (QL E bS L xs)) (c82 : (xs i.toNatClampNeg &&& 127) = 82) : Wx E YL 33 [(0, .ref 1021), (1, .ref 0), (2, .ref 110), (3, .int i)] [.int (xs i.toNatClampNeg &&& 127)] 215 215 100784 (zx σ) (QL E bS L xs) := by
  refine x_tableIn (tgt := 3390) d_L_33 (by rw [c82]; decide) (by rw [c82]; decide) (by rw [c82]; rfl) (by decide) ?_
  exact L_82 (hv 1 (by decide) (by decide)) (hv 2 (by decide) (by decide)) (Cz.mono (h82 (xs (i + 1).toNatClampNeg) (xs (i + 2).toNatClampNeg)) fun v σ1 ⟨r, e, q⟩ => ⟨r, e, Cz.mono q fun v2 σ2 ⟨e2, q2⟩ => ⟨e2, hJ σ2 q2⟩⟩)
theorem sw_83 {E : xV} {bS L : Nat} {xs : Nat → Int32} {i : Int32} {σ : zS} {J : zS → Prop} (hv : ∀ j : Int32, 0 ≤ j → j ≤ 7 → vp_in (i + j) L) (h83 : LC_83 E σ J)
    (hJ : ∀ σ2, J σ2 → Wx E YL 3476 [(0, .ref 1021), (1, .ref 0), (2, .ref 110), (3, .int i)] [] 215 215 100784 (zx σ2) (QL E bS L xs)) (c83 : (xs i.toNatClampNeg &&& 127) = 83) : Wx E YL 33 [(0, .ref 1021), (1, .ref 0), (2, .ref 110), (3, .int i)] [.int (xs i.toNatClampNeg &&& 127)] 215 215 100784 (zx σ) (QL E bS L xs) := by
  refine x_tableIn (tgt := 3423) d_L_33 (by rw [c83]; decide) (by rw [c83]; decide) (by rw [c83]; rfl) (by decide) ?_
  exact L_83 (hv 1 (by decide) (by decide)) (hv 2 (by decide) (by decide)) (hv 3 (by decide) (by decide)) (hv 4 (by decide) (by decide)) (Cz.mono (h83 (xs (i + 1).toNatClampNeg) (xs (i + 2).toNatClampNeg) (xs (i + 3).toNatClampNeg) (xs (i + 4).toNatClampNeg)) fun v σ1 ⟨r, e, q⟩ => ⟨r, e, Cz.mono q fun v2 σ2 ⟨e2, q2⟩ => ⟨e2, hJ σ2 q2⟩⟩)
theorem sw_out {x : Int32} (c0 : ¬ x = 0) (c1 : ¬ x = 1) (c2 : ¬ x = 2) (c3 : ¬ x = 3) (c4 : ¬ x = 4) (c5 : ¬ x = 5) (c6 : ¬ x = 6) (c7 : ¬ x = 7) (c8 : ¬ x = 8) (c9 : ¬ x = 9) (c10 : ¬ x = 10) (c11 : ¬ x = 11) (c12 : ¬ x = 12) (c13 : ¬ x = 13) (c14 : ¬ x = 14) (c15 : ¬ x = 15) (c16 : ¬ x = 16) (c17 : ¬ x = 17) (c18 : ¬ x = 18) (c19 : ¬ x = 19) (c20 : ¬ x = 20) (c21 : ¬ x = 21) (c22 : ¬ x = 22) (c23 : ¬ x = 23) (c24 : ¬ x = 24) (c25 : ¬ x = 25) (c26 : ¬ x = 26) (c27 : ¬ x = 27) (c28 : ¬ x = 28) (c29 : ¬ x = 29) (c30 : ¬ x = 30) (c31 : ¬ x = 31) (c32 : ¬ x = 32) (c33 : ¬ x = 33) (c34 : ¬ x = 34) (c35 : ¬ x = 35) (c36 : ¬ x = 36) (c37 : ¬ x = 37) (c38 : ¬ x = 38) (c39 : ¬ x = 39) (c40 : ¬ x = 40) (c41 : ¬ x = 41) (c42 : ¬ x = 42) (c43 : ¬ x = 43) (c44 : ¬ x = 44) (c45 : ¬ x = 45) (c46 : ¬ x = 46) (c47 : ¬ x = 47) (c48 : ¬ x = 48) (c49 : ¬ x = 49) (c50 : ¬ x = 50) (c51 : ¬ x = 51) (c52 : ¬ x = 52) (c53 : ¬ x = 53) (c54 : ¬ x = 54) (c55 : ¬ x = 55) (c56 : ¬ x = 56) (c57 : ¬ x = 57) (c58 : ¬ x = 58) (c59 : ¬ x = 59) (c60 : ¬ x = 60) (c61 : ¬ x = 61) (c62 : ¬ x = 62) (c63 : ¬ x = 63) (c64 : ¬ x = 64) (c65 : ¬ x = 65) (c66 : ¬ x = 66) (c67 : ¬ x = 67) (c68 : ¬ x = 68) (c69 : ¬ x = 69) (c70 : ¬ x = 70) (c71 : ¬ x = 71) (c72 : ¬ x = 72) (c73 : ¬ x = 73) (c74 : ¬ x = 74) (c75 : ¬ x = 75) (c76 : ¬ x = 76) (c77 : ¬ x = 77) (c78 : ¬ x = 78) (c79 : ¬ x = 79) (c80 : ¬ x = 80) (c81 : ¬ x = 81) (c82 : ¬ x = 82) (c83 : ¬ x = 83) {k : Int} (h1 : 0 ≤ k) (h2 : k ≤ 83) (hx : x.toInt = k) : False := by
  have h : ∀ v ∈ ([0, 1, 2, 3, 4, 5, 6, 7, 8, 9, 10, 11, 12, 13, 14, 15, 16, 17, 18, 19, 20, 21, 22, 23, 24, 25, 26, 27, 28, 29, 30, 31, 32, 33, 34, 35, 36, 37, 38, 39, 40, 41, 42, 43, 44, 45, 46, 47, 48, 49, 50, 51, 52, 53, 54, 55, 56, 57, 58, 59, 60, 61, 62, 63, 64, 65, 66, 67, 68, 69, 70, 71, 72, 73, 74, 75, 76, 77, 78, 79, 80, 81, 82, 83] : List Int32), ¬ x = v := List.forall_mem_cons.mpr ⟨c0, List.forall_mem_cons.mpr ⟨c1, List.forall_mem_cons.mpr ⟨c2, List.forall_mem_cons.mpr ⟨c3, List.forall_mem_cons.mpr ⟨c4, List.forall_mem_cons.mpr ⟨c5, List.forall_mem_cons.mpr ⟨c6, List.forall_mem_cons.mpr ⟨c7, List.forall_mem_cons.mpr ⟨c8, List.forall_mem_cons.mpr ⟨c9, List.forall_mem_cons.mpr ⟨c10, List.forall_mem_cons.mpr ⟨c11, List.forall_mem_cons.mpr ⟨c12, List.forall_mem_cons.mpr ⟨c13, List.forall_mem_cons.mpr ⟨c14, List.forall_mem_cons.mpr ⟨c15, List.forall_mem_cons.mpr ⟨c16, List.forall_mem_cons.mpr ⟨c17, List.forall_mem_cons.mpr ⟨c18, List.forall_mem_cons.mpr ⟨c19, List.forall_mem_cons.mpr ⟨c20, List.forall_mem_cons.mpr ⟨c21, List.forall_mem_cons.mpr ⟨c22, List.forall_mem_cons.mpr ⟨c23, List.forall_mem_cons.mpr ⟨c24, List.forall_mem_cons.mpr ⟨c25, List.forall_mem_cons.mpr ⟨c26, List.forall_mem_cons.mpr ⟨c27, List.forall_mem_cons.mpr ⟨c28, List.forall_mem_cons.mpr ⟨c29, List.forall_mem_cons.mpr ⟨c30, List.forall_mem_cons.mpr ⟨c31, List.forall_mem_cons.mpr ⟨c32, List.forall_mem_cons.mpr ⟨c33, List.forall_mem_cons.mpr ⟨c34, List.forall_mem_cons.mpr ⟨c35, List.forall_mem_cons.mpr ⟨c36, List.forall_mem_cons.mpr ⟨c37, List.forall_mem_cons.mpr ⟨c38, List.forall_mem_cons.mpr ⟨c39, List.forall_mem_cons.mpr ⟨c40, List.forall_mem_cons.mpr ⟨c41, List.forall_mem_cons.mpr ⟨c42, List.forall_mem_cons.mpr ⟨c43, List.forall_mem_cons.mpr ⟨c44, List.forall_mem_cons.mpr ⟨c45, List.forall_mem_cons.mpr ⟨c46, List.forall_mem_cons.mpr ⟨c47, List.forall_mem_cons.mpr ⟨c48, List.forall_mem_cons.mpr ⟨c49, List.forall_mem_cons.mpr ⟨c50, List.forall_mem_cons.mpr ⟨c51, List.forall_mem_cons.mpr ⟨c52, List.forall_mem_cons.mpr ⟨c53, List.forall_mem_cons.mpr ⟨c54, List.forall_mem_cons.mpr ⟨c55, List.forall_mem_cons.mpr ⟨c56, List.forall_mem_cons.mpr ⟨c57, List.forall_mem_cons.mpr ⟨c58, List.forall_mem_cons.mpr ⟨c59, List.forall_mem_cons.mpr ⟨c60, List.forall_mem_cons.mpr ⟨c61, List.forall_mem_cons.mpr ⟨c62, List.forall_mem_cons.mpr ⟨c63, List.forall_mem_cons.mpr ⟨c64, List.forall_mem_cons.mpr ⟨c65, List.forall_mem_cons.mpr ⟨c66, List.forall_mem_cons.mpr ⟨c67, List.forall_mem_cons.mpr ⟨c68, List.forall_mem_cons.mpr ⟨c69, List.forall_mem_cons.mpr ⟨c70, List.forall_mem_cons.mpr ⟨c71, List.forall_mem_cons.mpr ⟨c72, List.forall_mem_cons.mpr ⟨c73, List.forall_mem_cons.mpr ⟨c74, List.forall_mem_cons.mpr ⟨c75, List.forall_mem_cons.mpr ⟨c76, List.forall_mem_cons.mpr ⟨c77, List.forall_mem_cons.mpr ⟨c78, List.forall_mem_cons.mpr ⟨c79, List.forall_mem_cons.mpr ⟨c80, List.forall_mem_cons.mpr ⟨c81, List.forall_mem_cons.mpr ⟨c82, List.forall_mem_cons.mpr ⟨c83, fun _ h => by cases h⟩⟩⟩⟩⟩⟩⟩⟩⟩⟩⟩⟩⟩⟩⟩⟩⟩⟩⟩⟩⟩⟩⟩⟩⟩⟩⟩⟩⟩⟩⟩⟩⟩⟩⟩⟩⟩⟩⟩⟩⟩⟩⟩⟩⟩⟩⟩⟩⟩⟩⟩⟩⟩⟩⟩⟩⟩⟩⟩⟩⟩⟩⟩⟩⟩⟩⟩⟩⟩⟩⟩⟩⟩⟩⟩⟩⟩⟩⟩⟩⟩⟩⟩⟩
  have hm : ∀ n, n < 84 → Int32.ofNat n ∈ ([0, 1, 2, 3, 4, 5, 6, 7, 8, 9, 10, 11, 12, 13, 14, 15, 16, 17, 18, 19, 20, 21, 22, 23, 24, 25, 26, 27, 28, 29, 30, 31, 32, 33, 34, 35, 36, 37, 38, 39, 40, 41, 42, 43, 44, 45, 46, 47, 48, 49, 50, 51, 52, 53, 54, 55, 56, 57, 58, 59, 60, 61, 62, 63, 64, 65, 66, 67, 68, 69, 70, 71, 72, 73, 74, 75, 76, 77, 78, 79, 80, 81, 82, 83] : List Int32) ∧ (Int32.ofNat n).toInt = (n : Int) := by decide +kernel
  obtain ⟨n, hn⟩ : ∃ n : Nat, k = (n : Int) := ⟨k.toNat, by omega⟩
  have q := hm n (by omega)
  exact h _ q.1 (j_eq (by rw [hx, hn, q.2]))
theorem law_switch {E : xV} {bS L : Nat} {xs : Nat → Int32} {i : Int32} {σ : zS} {J : zS → Prop} (hv : ∀ j : Int32, 0 ≤ j → j ≤ 7 → vp_in (i + j) L) (hv0 : vp_in i L) (hJ0 : J σ) (h0 : LC_0 E σ J) (h1 : LC_1 E σ J) (h2 : LC_2 E σ J) (h3 : LC_3 E σ J) (h4 : LC_4 E σ J) (h5 : LC_5 E σ J) (h6 : LC_6 E σ J) (h7 : LC_7 E σ J) (h8 : LC_8 E σ J) (h9 : LC_9 E σ J) (h10 : LC_10 E σ J) (h11 : LC_11 E σ J) (h12 : LC_12 E σ J) (h13 : LC_13 E σ J) (h14 : LC_14 E σ J) (h15 : LC_15 E σ J) (h16 : LC_16 E σ J) (h17 : LC_17 E σ J) (h18 : LC_18 E σ J) (h19 : LC_19 E σ J) (h20 : LC_20 E σ J) (h21 : LC_21 E σ J) (h22 : LC_22 E σ J) (h23 : LC_23 E σ J) (h24 : LC_24 E σ J) (h25 : LC_25 E σ J) (h26 : LC_26 E σ J) (h27 : LC_27 E σ J) (h28 : LC_28 E σ J) (h29 : LC_29 E σ J) (h30 : LC_30 E σ J) (h31 : LC_31 E σ J) (h32 : LC_32 E σ J) (h33 : LC_33 E σ J) (h34 : LC_34 E σ J) (h35 : LC_35 E σ J) (h36 : LC_36 E σ J) (h37 : LC_37 E σ J) (h38 : LC_38 E σ J) (h39 : LC_39 E σ J) (h40 : LC_40 E σ J) (h41 : LC_41 E σ J) (h42 : LC_42 E σ J) (h43 : LC_43 E σ J) (h44 : LC_44 E σ J) (h45 : LC_45 E σ J) (h46 : LC_46 E σ J) (h47 : LC_47 E σ J) (h48 : LC_48 E σ J) (h49 : LC_49 E σ J) (h50 : LC_50 E σ J) (h51 : LC_51 E σ J) (h52 : LC_52 E σ J) (h53 : LC_53 E σ J) (h54 : LC_54 E σ J) (h55 : LC_55 E σ J) (h56 : LC_56 E σ J) (h57 : LC_57 E σ J) (h58 : LC_58 E σ J) (h59 : LC_59 E σ J) (h60 : LC_60 E σ J) (h61 : LC_61 E σ J) (h62 : LC_62 E σ J) (h63 : LC_63 E σ J) (h64 : LC_64 E σ J) (h65 : LC_65 E σ J) (h66 : LC_66 E σ J) (h67 : LC_67 E σ J) (h68 : LC_68 E σ J) (h69 : LC_69 E σ J) (h70 : LC_70 E σ J) (h71 : LC_71 E σ J) (h72 : LC_72 E σ J) (h73 : LC_73 E σ J) (h74 : LC_74 E σ J) (h75 : LC_75 E σ J) (h76 : LC_76 E σ J) (h77 : LC_77 E σ J) (h78 : LC_78 E σ J) (h79 : LC_79 E σ J) (h80 : LC_80 E σ J) (h81 : LC_81 E σ J) (h82 : LC_82 E σ J) (h83 : LC_83 E σ J)
    (hJ : ∀ σ2, J σ2 → Wx E YL 3476 [(0, .ref 1021), (1, .ref 0), (2, .ref 110), (3, .int i)] [] 215 215 100784 (zx σ2) (QL E bS L xs)) : Wx E YL 27 [(0, .ref 1021), (1, .ref 0), (2, .ref 110), (3, .int i)] [] 215 215 100784 (zx σ) (QL E bS L xs) := by
  refine y_aload_n (q := 0) d_L_27 rfl rfl ?_
  refine y_iload_n (q := 3) d_L_28 rfl rfl ?_
  refine l_ld hv0 d_L_29 ?_
  refine y_bipush (v := 127) d_L_30 (by decide) ?_
  refine y_iand d_L_32 ?_
  by_cases c0 : (xs i.toNatClampNeg &&& 127) = 0
  · exact sw_0 hv h0 hJ c0
  by_cases c1 : (xs i.toNatClampNeg &&& 127) = 1
  · exact sw_1 hv h1 hJ c1
  by_cases c2 : (xs i.toNatClampNeg &&& 127) = 2
  · exact sw_2 hv h2 hJ c2
  by_cases c3 : (xs i.toNatClampNeg &&& 127) = 3
  · exact sw_3 hv h3 hJ c3
  by_cases c4 : (xs i.toNatClampNeg &&& 127) = 4
  · exact sw_4 hv h4 hJ c4
  by_cases c5 : (xs i.toNatClampNeg &&& 127) = 5
  · exact sw_5 hv h5 hJ c5
  by_cases c6 : (xs i.toNatClampNeg &&& 127) = 6
  · exact sw_6 hv h6 hJ c6
  by_cases c7 : (xs i.toNatClampNeg &&& 127) = 7
  · exact sw_7 hv h7 hJ c7
  by_cases c8 : (xs i.toNatClampNeg &&& 127) = 8
  · exact sw_8 hv h8 hJ c8
  by_cases c9 : (xs i.toNatClampNeg &&& 127) = 9
  · exact sw_9 hv h9 hJ c9
  by_cases c10 : (xs i.toNatClampNeg &&& 127) = 10
  · exact sw_10 hv h10 hJ c10
  by_cases c11 : (xs i.toNatClampNeg &&& 127) = 11
  · exact sw_11 hv h11 hJ c11
  by_cases c12 : (xs i.toNatClampNeg &&& 127) = 12
  · exact sw_12 hv h12 hJ c12
  by_cases c13 : (xs i.toNatClampNeg &&& 127) = 13
  · exact sw_13 hv h13 hJ c13
  by_cases c14 : (xs i.toNatClampNeg &&& 127) = 14
  · exact sw_14 hv h14 hJ c14
  by_cases c15 : (xs i.toNatClampNeg &&& 127) = 15
  · exact sw_15 hv h15 hJ c15
  by_cases c16 : (xs i.toNatClampNeg &&& 127) = 16
  · exact sw_16 hv h16 hJ c16
  by_cases c17 : (xs i.toNatClampNeg &&& 127) = 17
  · exact sw_17 hv h17 hJ c17
  by_cases c18 : (xs i.toNatClampNeg &&& 127) = 18
  · exact sw_18 hv h18 hJ c18
  by_cases c19 : (xs i.toNatClampNeg &&& 127) = 19
  · exact sw_19 hv h19 hJ c19
  by_cases c20 : (xs i.toNatClampNeg &&& 127) = 20
  · exact sw_20 hv h20 hJ c20
  by_cases c21 : (xs i.toNatClampNeg &&& 127) = 21
  · exact sw_21 hv h21 hJ c21
  by_cases c22 : (xs i.toNatClampNeg &&& 127) = 22
  · exact sw_22 hv h22 hJ c22
  by_cases c23 : (xs i.toNatClampNeg &&& 127) = 23
  · exact sw_23 hv h23 hJ c23
  by_cases c24 : (xs i.toNatClampNeg &&& 127) = 24
  · exact sw_24 hv h24 hJ c24
  by_cases c25 : (xs i.toNatClampNeg &&& 127) = 25
  · exact sw_25 hv h25 hJ c25
  by_cases c26 : (xs i.toNatClampNeg &&& 127) = 26
  · exact sw_26 hv h26 hJ c26
  by_cases c27 : (xs i.toNatClampNeg &&& 127) = 27
  · exact sw_27 hv h27 hJ c27
  by_cases c28 : (xs i.toNatClampNeg &&& 127) = 28
  · exact sw_28 hv h28 hJ c28
  by_cases c29 : (xs i.toNatClampNeg &&& 127) = 29
  · exact sw_29 hv h29 hJ c29
  by_cases c30 : (xs i.toNatClampNeg &&& 127) = 30
  · exact sw_30 hv h30 hJ c30
  by_cases c31 : (xs i.toNatClampNeg &&& 127) = 31
  · exact sw_31 hv h31 hJ c31
  by_cases c32 : (xs i.toNatClampNeg &&& 127) = 32
  · exact sw_32 hv h32 hJ c32
  by_cases c33 : (xs i.toNatClampNeg &&& 127) = 33
  · exact sw_33 hv h33 hJ c33
  by_cases c34 : (xs i.toNatClampNeg &&& 127) = 34
  · exact sw_34 hv h34 hJ c34
  by_cases c35 : (xs i.toNatClampNeg &&& 127) = 35
  · exact sw_35 hv h35 hJ c35
  by_cases c36 : (xs i.toNatClampNeg &&& 127) = 36
  · exact sw_36 hv h36 hJ c36
  by_cases c37 : (xs i.toNatClampNeg &&& 127) = 37
  · exact sw_37 hv h37 hJ c37
  by_cases c38 : (xs i.toNatClampNeg &&& 127) = 38
  · exact sw_38 hv h38 hJ c38
  by_cases c39 : (xs i.toNatClampNeg &&& 127) = 39
  · exact sw_39 hv h39 hJ c39
  by_cases c40 : (xs i.toNatClampNeg &&& 127) = 40
  · exact sw_40 hv h40 hJ c40
  by_cases c41 : (xs i.toNatClampNeg &&& 127) = 41
  · exact sw_41 hv h41 hJ c41
  by_cases c42 : (xs i.toNatClampNeg &&& 127) = 42
  · exact sw_42 hv h42 hJ c42
  by_cases c43 : (xs i.toNatClampNeg &&& 127) = 43
  · exact sw_43 hv h43 hJ c43
  by_cases c44 : (xs i.toNatClampNeg &&& 127) = 44
  · exact sw_44 hv h44 hJ c44
  by_cases c45 : (xs i.toNatClampNeg &&& 127) = 45
  · exact sw_45 hv h45 hJ c45
  by_cases c46 : (xs i.toNatClampNeg &&& 127) = 46
  · exact sw_46 hv h46 hJ c46
  by_cases c47 : (xs i.toNatClampNeg &&& 127) = 47
  · exact sw_47 hv h47 hJ c47
  by_cases c48 : (xs i.toNatClampNeg &&& 127) = 48
  · exact sw_48 hv h48 hJ c48
  by_cases c49 : (xs i.toNatClampNeg &&& 127) = 49
  · exact sw_49 hv h49 hJ c49
  by_cases c50 : (xs i.toNatClampNeg &&& 127) = 50
  · exact sw_50 hv h50 hJ c50
  by_cases c51 : (xs i.toNatClampNeg &&& 127) = 51
  · exact sw_51 hv h51 hJ c51
  by_cases c52 : (xs i.toNatClampNeg &&& 127) = 52
  · exact sw_52 hv h52 hJ c52
  by_cases c53 : (xs i.toNatClampNeg &&& 127) = 53
  · exact sw_53 hv h53 hJ c53
  by_cases c54 : (xs i.toNatClampNeg &&& 127) = 54
  · exact sw_54 hv h54 hJ c54
  by_cases c55 : (xs i.toNatClampNeg &&& 127) = 55
  · exact sw_55 hv h55 hJ c55
  by_cases c56 : (xs i.toNatClampNeg &&& 127) = 56
  · exact sw_56 hv h56 hJ c56
  by_cases c57 : (xs i.toNatClampNeg &&& 127) = 57
  · exact sw_57 hv h57 hJ c57
  by_cases c58 : (xs i.toNatClampNeg &&& 127) = 58
  · exact sw_58 hv h58 hJ c58
  by_cases c59 : (xs i.toNatClampNeg &&& 127) = 59
  · exact sw_59 hv h59 hJ c59
  by_cases c60 : (xs i.toNatClampNeg &&& 127) = 60
  · exact sw_60 hv h60 hJ c60
  by_cases c61 : (xs i.toNatClampNeg &&& 127) = 61
  · exact sw_61 hv h61 hJ c61
  by_cases c62 : (xs i.toNatClampNeg &&& 127) = 62
  · exact sw_62 hv h62 hJ c62
  by_cases c63 : (xs i.toNatClampNeg &&& 127) = 63
  · exact sw_63 hv h63 hJ c63
  by_cases c64 : (xs i.toNatClampNeg &&& 127) = 64
  · exact sw_64 hv h64 hJ c64
  by_cases c65 : (xs i.toNatClampNeg &&& 127) = 65
  · exact sw_65 hv h65 hJ c65
  by_cases c66 : (xs i.toNatClampNeg &&& 127) = 66
  · exact sw_66 hv h66 hJ c66
  by_cases c67 : (xs i.toNatClampNeg &&& 127) = 67
  · exact sw_67 hv h67 hJ c67
  by_cases c68 : (xs i.toNatClampNeg &&& 127) = 68
  · exact sw_68 hv h68 hJ c68
  by_cases c69 : (xs i.toNatClampNeg &&& 127) = 69
  · exact sw_69 hv h69 hJ c69
  by_cases c70 : (xs i.toNatClampNeg &&& 127) = 70
  · exact sw_70 hv h70 hJ c70
  by_cases c71 : (xs i.toNatClampNeg &&& 127) = 71
  · exact sw_71 hv h71 hJ c71
  by_cases c72 : (xs i.toNatClampNeg &&& 127) = 72
  · exact sw_72 hv h72 hJ c72
  by_cases c73 : (xs i.toNatClampNeg &&& 127) = 73
  · exact sw_73 hv h73 hJ c73
  by_cases c74 : (xs i.toNatClampNeg &&& 127) = 74
  · exact sw_74 hv h74 hJ c74
  by_cases c75 : (xs i.toNatClampNeg &&& 127) = 75
  · exact sw_75 hv h75 hJ c75
  by_cases c76 : (xs i.toNatClampNeg &&& 127) = 76
  · exact sw_76 hv h76 hJ c76
  by_cases c77 : (xs i.toNatClampNeg &&& 127) = 77
  · exact sw_77 hv h77 hJ c77
  by_cases c78 : (xs i.toNatClampNeg &&& 127) = 78
  · exact sw_78 hv h78 hJ c78
  by_cases c79 : (xs i.toNatClampNeg &&& 127) = 79
  · exact sw_79 hv h79 hJ c79
  by_cases c80 : (xs i.toNatClampNeg &&& 127) = 80
  · exact sw_80 hv h80 hJ c80
  by_cases c81 : (xs i.toNatClampNeg &&& 127) = 81
  · exact sw_81 hv h81 hJ c81
  by_cases c82 : (xs i.toNatClampNeg &&& 127) = 82
  · exact sw_82 hv h82 hJ c82
  by_cases c83 : (xs i.toNatClampNeg &&& 127) = 83
  · exact sw_83 hv h83 hJ c83
  exact x_tableOut (tgt := 3476) d_L_33 (j_out fun k hk1 hk2 hx => sw_out c0 c1 c2 c3 c4 c5 c6 c7 c8 c9 c10 c11 c12 c13 c14 c15 c16 c17 c18 c19 c20 c21 c22 c23 c24 c25 c26 c27 c28 c29 c30 c31 c32 c33 c34 c35 c36 c37 c38 c39 c40 c41 c42 c43 c44 c45 c46 c47 c48 c49 c50 c51 c52 c53 c54 c55 c56 c57 c58 c59 c60 c61 c62 c63 c64 c65 c66 c67 c68 c69 c70 c71 c72 c73 c74 c75 c76 c77 c78 c79 c80 c81 c82 c83 hk1 hk2 hx) (by decide) (hJ σ hJ0)
