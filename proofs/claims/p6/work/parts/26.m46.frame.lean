def LC_0 (E : xV) (σ : zS) (J : zS → Prop) : Prop := ∀ (x0 : Int32) (x1 : Int64), Cz E Y_H_feed [.ref 0, .int x0, .long x1] σ (fun v σ1 => ∃ r : Int32, v = some (.int r) ∧ Cz E Y_M_feed [.ref 110, .int x0, .long x1] σ1 (fun v' σ2 => (∃ r2 : Int32, v' = some (.int r2)) ∧ J σ2))
def LC_1 (E : xV) (σ : zS) (J : zS → Prop) : Prop := ∀ (x0 : Int32), Cz E Y_H_cut [.ref 0, .int x0] σ (fun v σ1 => ∃ r : Int32, v = some (.int r) ∧ Cz E Y_M_cut [.ref 110, .int x0] σ1 (fun v' σ2 => (∃ r2 : Int32, v' = some (.int r2)) ∧ J σ2))
def LC_2 (E : xV) (σ : zS) (J : zS → Prop) : Prop := ∀ (x0 : Int32), Cz E Y_H_tick [.ref 0, .int x0] σ (fun v σ1 => ∃ r : Int32, v = some (.int r) ∧ Cz E Y_M_tick [.ref 110, .int x0] σ1 (fun v' σ2 => (∃ r2 : Int32, v' = some (.int r2)) ∧ J σ2))
def LC_3 (E : xV) (σ : zS) (J : zS → Prop) : Prop := Cz E Y_H_person [.ref 0] σ (fun v σ1 => ∃ r : Int32, v = some (.int r) ∧ Cz E Y_M_person [.ref 110] σ1 (fun v' σ2 => (∃ r2 : Int32, v' = some (.int r2)) ∧ J σ2))
def LC_4 (E : xV) (σ : zS) (J : zS → Prop) : Prop := Cz E Y_H_group [.ref 0] σ (fun v σ1 => ∃ r : Int32, v = some (.int r) ∧ Cz E Y_M_group [.ref 110] σ1 (fun v' σ2 => v' = some (.int r) ∧ J σ2))
def LC_5 (E : xV) (σ : zS) (J : zS → Prop) : Prop := ∀ (x0 : Int32) (x1 : Int32) (x2 : Int32) (x3 : Int32), Cz E Y_H_put [.ref 0, .int x0, .int x1, .int x2, .int x3] σ (fun v σ1 => ∃ r : Int32, v = some (.int r) ∧ Cz E Y_M_put [.ref 110, .int x0, .int x1, .int x2, .int x3] σ1 (fun v' σ2 => (∃ r2 : Int32, v' = some (.int r2)) ∧ J σ2))
def LC_6 (E : xV) (σ : zS) (J : zS → Prop) : Prop := ∀ (x0 : Int32), Cz E Y_H_back [.ref 0, .int x0] σ (fun v σ1 => ∃ r : Int32, v = some (.int r) ∧ Cz E Y_M_back [.ref 110, .int x0] σ1 (fun v' σ2 => (∃ r2 : Int32, v' = some (.int r2)) ∧ J σ2))
def LC_7 (E : xV) (σ : zS) (J : zS → Prop) : Prop := ∀ (x0 : Int32) (x1 : Int32) (x2 : Int32) (x3 : Int32), Cz E Y_H_belongs [.ref 0, .int x0, .int x1, .int x2, .int x3] σ (fun v σ1 => ∃ r : Int32, v = some (.int r) ∧ Cz E Y_M_belongs [.ref 110, .int x0, .int x1, .int x2, .int x3] σ1 (fun v' σ2 => (∃ r2 : Int32, v' = some (.int r2)) ∧ J σ2))
def LC_8 (E : xV) (σ : zS) (J : zS → Prop) : Prop := ∀ (x0 : Int32) (x1 : Int32), Cz E Y_H_rowOf [.ref 0, .int x0, .int x1] σ (fun v σ1 => ∃ r : Int32, v = some (.int r) ∧ Cz E Y_M_rowOf [.ref 110, .int x0, .int x1] σ1 (fun v' σ2 => (∃ r2 : Int32, v' = some (.int r2)) ∧ J σ2))
def LC_9 (E : xV) (σ : zS) (J : zS → Prop) : Prop := ∀ (x0 : Int32) (x1 : Int32) (x2 : Int32) (x3 : Int32), Cz E Y_H_feature [.ref 0, .int x0, .int x1, .int x2, .int x3] σ (fun v σ1 => ∃ r : Int32, v = some (.int r) ∧ Cz E Y_M_feature [.ref 110, .int x0, .int x1, .int x2, .int x3] σ1 (fun v' σ2 => (∃ r2 : Int32, v' = some (.int r2)) ∧ J σ2))
def LC_10 (E : xV) (σ : zS) (J : zS → Prop) : Prop := ∀ (x0 : Int32) (x1 : Int32) (x2 : Int32) (x3 : Int64), Cz E Y_H_item [.ref 0, .int x0, .int x1, .int x2, .long x3] σ (fun v σ1 => ∃ r : Int32, v = some (.int r) ∧ Cz E Y_M_item [.ref 110, .int x0, .int x1, .int x2, .long x3] σ1 (fun v' σ2 => (∃ r2 : Int32, v' = some (.int r2)) ∧ J σ2))
def LC_11 (E : xV) (σ : zS) (J : zS → Prop) : Prop := ∀ (x0 : Int32) (x1 : Int32) (x2 : Int32) (x3 : Int32), Cz E Y_H_itemOf [.ref 0, .int x0, .int x1, .int x2, .int x3] σ (fun v σ1 => ∃ r : Int64, v = some (.long r) ∧ Cz E Y_M_itemOf [.ref 110, .int x0, .int x1, .int x2, .int x3] σ1 (fun v' σ2 => (∃ r2 : Int64, v' = some (.long r2)) ∧ J σ2))
def LC_12 (E : xV) (σ : zS) (J : zS → Prop) : Prop := ∀ (x0 : Int32) (x1 : Int32) (x2 : Int32) (x3 : Int32) (x4 : Int32) (x5 : Int32) (x6 : Int32), Cz E Y_H_copy [.ref 0, .int x0, .int x1, .int x2, .int x3, .int x4, .int x5, .int x6] σ (fun v σ1 => ∃ r : Int32, v = some (.int r) ∧ Cz E Y_M_copy [.ref 110, .int x0, .int x1, .int x2, .int x3, .int x4, .int x5, .int x6] σ1 (fun v' σ2 => (∃ r2 : Int32, v' = some (.int r2)) ∧ J σ2))
def LC_13 (E : xV) (σ : zS) (J : zS → Prop) : Prop := ∀ (x0 : Int32) (x1 : Int32), Cz E Y_H_thing [.ref 0, .int x0, .int x1] σ (fun v σ1 => ∃ r : Int32, v = some (.int r) ∧ Cz E Y_M_thing [.ref 110, .int x0, .int x1] σ1 (fun v' σ2 => (∃ r2 : Int32, v' = some (.int r2)) ∧ J σ2))
def LC_14 (E : xV) (σ : zS) (J : zS → Prop) : Prop := ∀ (x0 : Int32) (x1 : Int32), Cz E Y_H_move [.ref 0, .int x0, .int x1] σ (fun v σ1 => ∃ r : Int32, v = some (.int r) ∧ Cz E Y_M_move [.ref 110, .int x0, .int x1] σ1 (fun v' σ2 => (∃ r2 : Int32, v' = some (.int r2)) ∧ J σ2))
def LC_15 (E : xV) (σ : zS) (J : zS → Prop) : Prop := ∀ (x0 : Int32) (x1 : Int32), (x1 = 0 ∨ x1 = 1) → Cz E Y_H_cutOff [.ref 0, .int x0, .int x1] σ (fun v σ1 => ∃ r : Int32, v = some (.int r) ∧ Cz E Y_M_cutOff [.ref 110, .int x0, .int x1] σ1 (fun v' σ2 => (∃ r2 : Int32, v' = some (.int r2)) ∧ J σ2))
def LC_16 (E : xV) (σ : zS) (J : zS → Prop) : Prop := ∀ (x0 : Int32), Cz E Y_H_drop [.ref 0, .int x0] σ (fun v σ1 => ∃ r : Int32, v = some (.int r) ∧ Cz E Y_M_drop [.ref 110, .int x0] σ1 (fun v' σ2 => (∃ r2 : Int32, v' = some (.int r2)) ∧ J σ2))
def LC_17 (E : xV) (σ : zS) (J : zS → Prop) : Prop := ∀ (x0 : Int32) (x1 : Int32), Cz E Y_H_thingOf [.ref 0, .int x0, .int x1] σ (fun v σ1 => ∃ r : Int32, v = some (.int r) ∧ Cz E Y_M_thingOf [.ref 110, .int x0, .int x1] σ1 (fun v' σ2 => (∃ r2 : Int32, v' = some (.int r2)) ∧ J σ2))
def LC_18 (E : xV) (σ : zS) (J : zS → Prop) : Prop := ∀ (x0 : Int32) (x1 : Int32), Cz E Y_H_under [.ref 0, .int x0, .int x1] σ (fun v σ1 => ∃ r : Int32, v = some (.int r) ∧ Cz E Y_M_under [.ref 110, .int x0, .int x1] σ1 (fun v' σ2 => (∃ r2 : Int32, v' = some (.int r2)) ∧ J σ2))
def LC_19 (E : xV) (σ : zS) (J : zS → Prop) : Prop := ∀ (x0 : Int32) (x1 : Int32) (x2 : Int32), (x2 = 0 ∨ x2 = 1) → Cz E Y_H_holds [.ref 0, .int x0, .int x1, .int x2] σ (fun v σ1 => ∃ r : Int32, v = some (.int r) ∧ Cz E Y_M_holds [.ref 110, .int x0, .int x1, .int x2] σ1 (fun v' σ2 => (∃ r2 : Int32, v' = some (.int r2)) ∧ J σ2))
def LC_20 (E : xV) (σ : zS) (J : zS → Prop) : Prop := ∀ (x0 : Int32) (x1 : Int32), Cz E Y_H_doesHold [.ref 0, .int x0, .int x1] σ (fun v σ1 => ∃ r : Int32, v = some (.int r) ∧ Cz E Y_M_doesHold [.ref 110, .int x0, .int x1] σ1 (fun v' σ2 => (∃ r2 : Int32, v' = some (.int r2)) ∧ J σ2))
def LC_21 (E : xV) (σ : zS) (J : zS → Prop) : Prop := ∀ (x0 : Int32), Cz E Y_H_policy [.ref 0, .int x0] σ (fun v σ1 => ∃ r : Int32, v = some (.int r) ∧ Cz E Y_M_policy [.ref 110, .int x0] σ1 (fun v' σ2 => (∃ r2 : Int32, v' = some (.int r2)) ∧ J σ2))
def LC_22 (E : xV) (σ : zS) (J : zS → Prop) : Prop := ∀ (x0 : Int32), Cz E Y_H_rules [.ref 0, .int x0] σ (fun v σ1 => ∃ r : Int32, v = some (.int r) ∧ Cz E Y_M_rules [.ref 110, .int x0] σ1 (fun v' σ2 => (∃ r2 : Int32, v' = some (.int r2)) ∧ J σ2))
def LC_23 (E : xV) (σ : zS) (J : zS → Prop) : Prop := ∀ (x0 : Int32), Cz E Y_H_inForce [.ref 0, .int x0] σ (fun v σ1 => ∃ r : Int32, v = some (.int r) ∧ Cz E Y_M_inForce [.ref 110, .int x0] σ1 (fun v' σ2 => (∃ r2 : Int32, v' = some (.int r2)) ∧ J σ2))
def LC_24 (E : xV) (σ : zS) (J : zS → Prop) : Prop := ∀ (x0 : Int32) (x1 : Int32) (x2 : Int32), Cz E Y_H_ask [.ref 0, .int x0, .int x1, .int x2] σ (fun v σ1 => ∃ r : Int32, v = some (.int r) ∧ Cz E Y_M_ask [.ref 110, .int x0, .int x1, .int x2] σ1 (fun v' σ2 => (∃ r2 : Int32, v' = some (.int r2)) ∧ J σ2))
def LC_25 (E : xV) (σ : zS) (J : zS → Prop) : Prop := ∀ (x0 : Int32) (x1 : Int32) (x2 : Int32) (x3 : Int32) (x4 : Int32), Cz E Y_H_asked [.ref 0, .int x0, .int x1, .int x2, .int x3, .int x4] σ (fun v σ1 => ∃ r : Int32, v = some (.int r) ∧ Cz E Y_M_asked [.ref 110, .int x0, .int x1, .int x2, .int x3, .int x4] σ1 (fun v' σ2 => (∃ r2 : Int32, v' = some (.int r2)) ∧ J σ2))
def LC_26 (E : xV) (σ : zS) (J : zS → Prop) : Prop := ∀ (x0 : Int32), Cz E Y_H_made [.ref 0, .int x0] σ (fun v σ1 => ∃ r : Int32, v = some (.int r) ∧ Cz E Y_M_made [.ref 110, .int x0] σ1 (fun v' σ2 => (∃ r2 : Int32, v' = some (.int r2)) ∧ J σ2))
def LC_27 (E : xV) (σ : zS) (J : zS → Prop) : Prop := ∀ (x0 : Int32) (x1 : Int32) (x2 : Int32) (x3 : Int32), Cz E Y_H_may [.ref 0, .int x0, .int x1, .int x2, .int x3] σ (fun v σ1 => ∃ r : Int32, v = some (.int r) ∧ Cz E Y_M_may [.ref 110, .int x0, .int x1, .int x2, .int x3] σ1 (fun v' σ2 => (∃ r2 : Int32, v' = some (.int r2)) ∧ J σ2))
def LC_28 (E : xV) (σ : zS) (J : zS → Prop) : Prop := ∀ (x0 : Int32) (x1 : Int32) (x2 : Int32) (x3 : Int32), Cz E Y_H_who [.ref 0, .int x0, .int x1, .int x2, .int x3] σ (fun v σ1 => ∃ r : Int32, v = some (.int r) ∧ Cz E Y_M_who [.ref 110, .int x0, .int x1, .int x2, .int x3] σ1 (fun v' σ2 => (∃ r2 : Int32, v' = some (.int r2)) ∧ J σ2))
def LC_29 (E : xV) (σ : zS) (J : zS → Prop) : Prop := ∀ (x0 : Int32) (x1 : Int32), Cz E Y_H_compare [.ref 0, .int x0, .int x1] σ (fun v σ1 => ∃ r : Int32, v = some (.int r) ∧ Cz E Y_M_compare [.ref 110, .int x0, .int x1] σ1 (fun v' σ2 => (∃ r2 : Int32, v' = some (.int r2)) ∧ J σ2))
def LC_30 (E : xV) (σ : zS) (J : zS → Prop) : Prop := ∀ (x0 : Int32), Cz E Y_H_compared [.ref 0, .int x0] σ (fun v σ1 => ∃ r : Int32, v = some (.int r) ∧ Cz E Y_M_compared [.ref 110, .int x0] σ1 (fun v' σ2 => (∃ r2 : Int32, v' = some (.int r2)) ∧ J σ2))
def LC_31 (E : xV) (σ : zS) (J : zS → Prop) : Prop := ∀ (x0 : Int32) (x1 : Int32), Cz E Y_H_decides [.ref 0, .int x0, .int x1] σ (fun v σ1 => ∃ r : Int32, v = some (.int r) ∧ Cz E Y_M_decides [.ref 110, .int x0, .int x1] σ1 (fun v' σ2 => (∃ r2 : Int32, v' = some (.int r2)) ∧ J σ2))
def LC_32 (E : xV) (σ : zS) (J : zS → Prop) : Prop := ∀ (x0 : Int32) (x1 : Int32) (x2 : Int32), Cz E Y_H_law [.ref 0, .int x0, .int x1, .int x2] σ (fun v σ1 => ∃ r : Int32, v = some (.int r) ∧ Cz E Y_M_law [.ref 110, .int x0, .int x1, .int x2] σ1 (fun v' σ2 => (∃ r2 : Int32, v' = some (.int r2)) ∧ J σ2))
def LC_33 (E : xV) (σ : zS) (J : zS → Prop) : Prop := ∀ (x0 : Int32) (x1 : Int32) (x2 : Int32) (x3 : Int32), Cz E Y_H_give [.ref 0, .int x0, .int x1, .int x2, .int x3] σ (fun v σ1 => ∃ r : Int32, v = some (.int r) ∧ Cz E Y_M_give [.ref 110, .int x0, .int x1, .int x2, .int x3] σ1 (fun v' σ2 => (∃ r2 : Int32, v' = some (.int r2)) ∧ J σ2))
def LC_34 (E : xV) (σ : zS) (J : zS → Prop) : Prop := ∀ (x0 : Int32) (x1 : Int32) (x2 : Int32), Cz E Y_H_take [.ref 0, .int x0, .int x1, .int x2] σ (fun v σ1 => ∃ r : Int32, v = some (.int r) ∧ Cz E Y_M_take [.ref 110, .int x0, .int x1, .int x2] σ1 (fun v' σ2 => (∃ r2 : Int32, v' = some (.int r2)) ∧ J σ2))
def LC_35 (E : xV) (σ : zS) (J : zS → Prop) : Prop := Cz E Y_H_broken [.ref 0] σ (fun v σ1 => ∃ r : Int32, v = some (.int r) ∧ Cz E Y_M_broken [.ref 110] σ1 (fun v' σ2 => (∃ r2 : Int32, v' = some (.int r2)) ∧ J σ2))
def LC_36 (E : xV) (σ : zS) (J : zS → Prop) : Prop := ∀ (x0 : Int32), Cz E Y_H_breach [.ref 0, .int x0] σ (fun v σ1 => ∃ r : Int32, v = some (.int r) ∧ Cz E Y_M_breach [.ref 110, .int x0] σ1 (fun v' σ2 => (∃ r2 : Int32, v' = some (.int r2)) ∧ J σ2))
def LC_37 (E : xV) (σ : zS) (J : zS → Prop) : Prop := ∀ (x0 : Int32), Cz E Y_H_session [.ref 0, .int x0] σ (fun v σ1 => ∃ r : Int32, v = some (.int r) ∧ Cz E Y_M_session [.ref 110, .int x0] σ1 (fun v' σ2 => (∃ r2 : Int32, v' = some (.int r2)) ∧ J σ2))
def LC_38 (E : xV) (σ : zS) (J : zS → Prop) : Prop := ∀ (x0 : Int32) (x1 : Int32), Cz E Y_H_switchOn [.ref 0, .int x0, .int x1] σ (fun v σ1 => ∃ r : Int32, v = some (.int r) ∧ Cz E Y_M_switchOn [.ref 110, .int x0, .int x1] σ1 (fun v' σ2 => (∃ r2 : Int32, v' = some (.int r2)) ∧ J σ2))
def LC_39 (E : xV) (σ : zS) (J : zS → Prop) : Prop := ∀ (x0 : Int32) (x1 : Int32), Cz E Y_H_switchOff [.ref 0, .int x0, .int x1] σ (fun v σ1 => ∃ r : Int32, v = some (.int r) ∧ Cz E Y_M_switchOff [.ref 110, .int x0, .int x1] σ1 (fun v' σ2 => (∃ r2 : Int32, v' = some (.int r2)) ∧ J σ2))
def LC_40 (E : xV) (σ : zS) (J : zS → Prop) : Prop := ∀ (x0 : Int32) (x1 : Int32) (x2 : Int32), Cz E Y_H_askIn [.ref 0, .int x0, .int x1, .int x2] σ (fun v σ1 => ∃ r : Int32, v = some (.int r) ∧ Cz E Y_M_askIn [.ref 110, .int x0, .int x1, .int x2] σ1 (fun v' σ2 => (∃ r2 : Int32, v' = some (.int r2)) ∧ J σ2))
def LC_41 (E : xV) (σ : zS) (J : zS → Prop) : Prop := Cz E Y_H_work [.ref 0] σ (fun v σ1 => ∃ r : Int32, v = some (.int r) ∧ Cz E Y_M_work [.ref 110] σ1 (fun v' σ2 => (∃ r2 : Int32, v' = some (.int r2)) ∧ J σ2))
def LC_42 (E : xV) (σ : zS) (J : zS → Prop) : Prop := ∀ (x0 : Int32) (x1 : Int32), Cz E Y_H_step [.ref 0, .int x0, .int x1] σ (fun v σ1 => ∃ r : Int32, v = some (.int r) ∧ Cz E Y_M_step [.ref 110, .int x0, .int x1] σ1 (fun v' σ2 => (∃ r2 : Int32, v' = some (.int r2)) ∧ J σ2))
def LC_43 (E : xV) (σ : zS) (J : zS → Prop) : Prop := ∀ (x0 : Int32) (x1 : Int32) (x2 : Int32) (x3 : Int32), Cz E Y_H_tie [.ref 0, .int x0, .int x1, .int x2, .int x3] σ (fun v σ1 => ∃ r : Int32, v = some (.int r) ∧ Cz E Y_M_tie [.ref 110, .int x0, .int x1, .int x2, .int x3] σ1 (fun v' σ2 => (∃ r2 : Int32, v' = some (.int r2)) ∧ J σ2))
def LC_44 (E : xV) (σ : zS) (J : zS → Prop) : Prop := ∀ (x0 : Int32) (x1 : Int32), Cz E Y_H_fill [.ref 0, .int x0, .int x1] σ (fun v σ1 => ∃ r : Int32, v = some (.int r) ∧ Cz E Y_M_fill [.ref 110, .int x0, .int x1] σ1 (fun v' σ2 => (∃ r2 : Int32, v' = some (.int r2)) ∧ J σ2))
def LC_45 (E : xV) (σ : zS) (J : zS → Prop) : Prop := ∀ (x0 : Int32) (x1 : Int32), Cz E Y_H_filled [.ref 0, .int x0, .int x1] σ (fun v σ1 => ∃ r : Int32, v = some (.int r) ∧ Cz E Y_M_filled [.ref 110, .int x0, .int x1] σ1 (fun v' σ2 => (∃ r2 : Int32, v' = some (.int r2)) ∧ J σ2))
def LC_46 (E : xV) (σ : zS) (J : zS → Prop) : Prop := ∀ (x0 : Int32) (x1 : Int32) (x2 : Int32) (x3 : Int32), Cz E Y_H_next [.ref 0, .int x0, .int x1, .int x2, .int x3] σ (fun v σ1 => ∃ r : Int32, v = some (.int r) ∧ Cz E Y_M_next [.ref 110, .int x0, .int x1, .int x2, .int x3] σ1 (fun v' σ2 => (∃ r2 : Int32, v' = some (.int r2)) ∧ J σ2))
def LC_47 (E : xV) (σ : zS) (J : zS → Prop) : Prop := ∀ (x0 : Int32) (x1 : Int32) (x2 : Int32) (x3 : Int32), Cz E Y_H_perform [.ref 0, .int x0, .int x1, .int x2, .int x3] σ (fun v σ1 => ∃ r : Int32, v = some (.int r) ∧ Cz E Y_M_perform [.ref 110, .int x0, .int x1, .int x2, .int x3] σ1 (fun v' σ2 => (∃ r2 : Int32, v' = some (.int r2)) ∧ J σ2))
def LC_48 (E : xV) (σ : zS) (J : zS → Prop) : Prop := ∀ (x0 : Int32) (x1 : Int32) (x2 : Int32), Cz E Y_H_needed [.ref 0, .int x0, .int x1, .int x2] σ (fun v σ1 => ∃ r : Int32, v = some (.int r) ∧ Cz E Y_M_needed [.ref 110, .int x0, .int x1, .int x2] σ1 (fun v' σ2 => (∃ r2 : Int32, v' = some (.int r2)) ∧ J σ2))
def LC_49 (E : xV) (σ : zS) (J : zS → Prop) : Prop := Cz E Y_H_tries [.ref 0] σ (fun v σ1 => ∃ r : Int32, v = some (.int r) ∧ Cz E Y_M_tries [.ref 110] σ1 (fun v' σ2 => (∃ r2 : Int32, v' = some (.int r2)) ∧ J σ2))
def LC_50 (E : xV) (σ : zS) (J : zS → Prop) : Prop := ∀ (x0 : Int32) (x1 : Int32) (x2 : Int32) (x3 : Int32) (x4 : Int32) (x5 : Int32) (x6 : Int32), Cz E Y_H_lend [.ref 0, .int x0, .int x1, .int x2, .int x3, .int x4, .int x5, .int x6] σ (fun v σ1 => ∃ r : Int32, v = some (.int r) ∧ Cz E Y_M_lend [.ref 110, .int x0, .int x1, .int x2, .int x3, .int x4, .int x5, .int x6] σ1 (fun v' σ2 => (∃ r2 : Int32, v' = some (.int r2)) ∧ J σ2))
def LC_51 (E : xV) (σ : zS) (J : zS → Prop) : Prop := ∀ (x0 : Int32) (x1 : Int32), Cz E Y_H_endLend [.ref 0, .int x0, .int x1] σ (fun v σ1 => ∃ r : Int32, v = some (.int r) ∧ Cz E Y_M_endLend [.ref 110, .int x0, .int x1] σ1 (fun v' σ2 => (∃ r2 : Int32, v' = some (.int r2)) ∧ J σ2))
def LC_52 (E : xV) (σ : zS) (J : zS → Prop) : Prop := ∀ (x0 : Int32) (x1 : Int32) (x2 : Int32) (x3 : Int32), Cz E Y_H_stands [.ref 0, .int x0, .int x1, .int x2, .int x3] σ (fun v σ1 => ∃ r : Int32, v = some (.int r) ∧ Cz E Y_M_stands [.ref 110, .int x0, .int x1, .int x2, .int x3] σ1 (fun v' σ2 => (∃ r2 : Int32, v' = some (.int r2)) ∧ J σ2))
def LC_53 (E : xV) (σ : zS) (J : zS → Prop) : Prop := ∀ (x0 : Int32), Cz E Y_H_chain [.ref 0, .int x0] σ (fun v σ1 => ∃ r : Int32, v = some (.int r) ∧ Cz E Y_M_chain [.ref 110, .int x0] σ1 (fun v' σ2 => (∃ r2 : Int32, v' = some (.int r2)) ∧ J σ2))
def LC_54 (E : xV) (σ : zS) (J : zS → Prop) : Prop := ∀ (x0 : Int32) (x1 : Int32) (x2 : Int32), Cz E Y_H_useRight [.ref 0, .int x0, .int x1, .int x2] σ (fun v σ1 => ∃ r : Int32, v = some (.int r) ∧ Cz E Y_M_useRight [.ref 110, .int x0, .int x1, .int x2] σ1 (fun v' σ2 => (∃ r2 : Int32, v' = some (.int r2)) ∧ J σ2))
def LC_55 (E : xV) (σ : zS) (J : zS → Prop) : Prop := ∀ (x0 : Int32) (x1 : Int32), Cz E Y_H_lendOf [.ref 0, .int x0, .int x1] σ (fun v σ1 => ∃ r : Int32, v = some (.int r) ∧ Cz E Y_M_lendOf [.ref 110, .int x0, .int x1] σ1 (fun v' σ2 => (∃ r2 : Int32, v' = some (.int r2)) ∧ J σ2))
def LC_56 (E : xV) (σ : zS) (J : zS → Prop) : Prop := ∀ (x0 : Int32) (x1 : Int32) (x2 : Int32), Cz E Y_H_key [.ref 0, .int x0, .int x1, .int x2] σ (fun v σ1 => ∃ r : Int32, v = some (.int r) ∧ Cz E Y_M_key [.ref 110, .int x0, .int x1, .int x2] σ1 (fun v' σ2 => (∃ r2 : Int32, v' = some (.int r2)) ∧ J σ2))
def LC_57 (E : xV) (σ : zS) (J : zS → Prop) : Prop := ∀ (x0 : Int32) (x1 : Int32) (x2 : Int32), Cz E Y_H_ever [.ref 0, .int x0, .int x1, .int x2] σ (fun v σ1 => ∃ r : Int32, v = some (.int r) ∧ Cz E Y_M_ever [.ref 110, .int x0, .int x1, .int x2] σ1 (fun v' σ2 => (∃ r2 : Int32, v' = some (.int r2)) ∧ J σ2))
def LC_58 (E : xV) (σ : zS) (J : zS → Prop) : Prop := ∀ (x0 : Int32) (x1 : Int32), Cz E Y_H_gain [.ref 0, .int x0, .int x1] σ (fun v σ1 => ∃ r : Int32, v = some (.int r) ∧ Cz E Y_M_gain [.ref 110, .int x0, .int x1] σ1 (fun v' σ2 => (∃ r2 : Int32, v' = some (.int r2)) ∧ J σ2))
def LC_59 (E : xV) (σ : zS) (J : zS → Prop) : Prop := ∀ (x0 : Int32) (x1 : Int32), Cz E Y_H_label [.ref 0, .int x0, .int x1] σ (fun v σ1 => ∃ r : Int32, v = some (.int r) ∧ Cz E Y_M_label [.ref 110, .int x0, .int x1] σ1 (fun v' σ2 => (∃ r2 : Int32, v' = some (.int r2)) ∧ J σ2))
def LC_60 (E : xV) (σ : zS) (J : zS → Prop) : Prop := ∀ (x0 : Int32) (x1 : Int32) (x2 : Int32) (x3 : Int32), Cz E Y_H_statement [.ref 0, .int x0, .int x1, .int x2, .int x3] σ (fun v σ1 => ∃ r : Int32, v = some (.int r) ∧ Cz E Y_M_statement [.ref 110, .int x0, .int x1, .int x2, .int x3] σ1 (fun v' σ2 => (∃ r2 : Int32, v' = some (.int r2)) ∧ J σ2))
def LC_61 (E : xV) (σ : zS) (J : zS → Prop) : Prop := Cz E Y_H_erase [.ref 0] σ (fun v σ1 => ∃ r : Int32, v = some (.int r) ∧ Cz E Y_M_erase [.ref 110] σ1 (fun v' σ2 => (∃ r2 : Int32, v' = some (.int r2)) ∧ J σ2))
def LC_62 (E : xV) (σ : zS) (J : zS → Prop) : Prop := Cz E Y_H_tight [.ref 0] σ (fun v σ1 => ∃ r : Int32, v = some (.int r) ∧ Cz E Y_M_tight [.ref 110] σ1 (fun v' σ2 => (∃ r2 : Int32, v' = some (.int r2)) ∧ J σ2))
def LC_63 (E : xV) (σ : zS) (J : zS → Prop) : Prop := Cz E Y_H_lowered [.ref 0] σ (fun v σ1 => ∃ r : Int32, v = some (.int r) ∧ Cz E Y_M_lowered [.ref 110] σ1 (fun v' σ2 => (∃ r2 : Int32, v' = some (.int r2)) ∧ J σ2))
def LC_64 (E : xV) (σ : zS) (J : zS → Prop) : Prop := ∀ (x0 : Int32) (x1 : Int32), Cz E Y_H_given [.ref 0, .int x0, .int x1] σ (fun v σ1 => ∃ r : Int32, v = some (.int r) ∧ Cz E Y_M_given [.ref 110, .int x0, .int x1] σ1 (fun v' σ2 => (∃ r2 : Int32, v' = some (.int r2)) ∧ J σ2))
def LC_65 (E : xV) (σ : zS) (J : zS → Prop) : Prop := ∀ (x0 : Int32), Cz E Y_H_flow [.ref 0, .int x0] σ (fun v σ1 => ∃ r : Int32, v = some (.int r) ∧ Cz E Y_M_flow [.ref 110, .int x0] σ1 (fun v' σ2 => (∃ r2 : Int32, v' = some (.int r2)) ∧ J σ2))
def LC_66 (E : xV) (σ : zS) (J : zS → Prop) : Prop := ∀ (x0 : Int32) (x1 : Int32), Cz E Y_H_said [.ref 0, .int x0, .int x1] σ (fun v σ1 => ∃ r : Int32, v = some (.int r) ∧ Cz E Y_M_said [.ref 110, .int x0, .int x1] σ1 (fun v' σ2 => (∃ r2 : Int32, v' = some (.int r2)) ∧ J σ2))
def LC_67 (E : xV) (σ : zS) (J : zS → Prop) : Prop := ∀ (x0 : Int32), Cz E Y_H_variable [.ref 0, .int x0] σ (fun v σ1 => ∃ r : Int32, v = some (.int r) ∧ Cz E Y_M_variable [.ref 110, .int x0] σ1 (fun v' σ2 => (∃ r2 : Int32, v' = some (.int r2)) ∧ J σ2))
def LC_68 (E : xV) (σ : zS) (J : zS → Prop) : Prop := ∀ (x0 : Int32) (x1 : Int64), Cz E Y_H_guarded [.ref 0, .int x0, .long x1] σ (fun v σ1 => ∃ r : Int64, v = some (.long r) ∧ Cz E Y_M_guarded [.ref 110, .int x0, .long x1] σ1 (fun v' σ2 => (∃ r2 : Int64, v' = some (.long r2)) ∧ J σ2))
def LC_69 (E : xV) (σ : zS) (J : zS → Prop) : Prop := ∀ (x0 : Int32) (x1 : Int64), Cz E Y_H_sum [.ref 0, .int x0, .long x1] σ (fun v σ1 => ∃ r : Int64, v = some (.long r) ∧ Cz E Y_M_sum [.ref 110, .int x0, .long x1] σ1 (fun v' σ2 => (∃ r2 : Int64, v' = some (.long r2)) ∧ J σ2))
def LC_70 (E : xV) (σ : zS) (J : zS → Prop) : Prop := ∀ (x0 : Int32) (x1 : Int32), Cz E Y_H_share [.ref 0, .int x0, .int x1] σ (fun v σ1 => ∃ r : Int32, v = some (.int r) ∧ Cz E Y_M_share [.ref 110, .int x0, .int x1] σ1 (fun v' σ2 => (∃ r2 : Int32, v' = some (.int r2)) ∧ J σ2))
def LC_71 (E : xV) (σ : zS) (J : zS → Prop) : Prop := ∀ (x0 : Int32) (x1 : Int32), Cz E Y_H_knows [.ref 0, .int x0, .int x1] σ (fun v σ1 => ∃ r : Int32, v = some (.int r) ∧ Cz E Y_M_knows [.ref 110, .int x0, .int x1] σ1 (fun v' σ2 => (∃ r2 : Int32, v' = some (.int r2)) ∧ J σ2))
def LC_72 (E : xV) (σ : zS) (J : zS → Prop) : Prop := ∀ (x0 : Int32), Cz E Y_H_room [.ref 0, .int x0] σ (fun v σ1 => ∃ r : Int32, v = some (.int r) ∧ Cz E Y_M_room [.ref 110, .int x0] σ1 (fun v' σ2 => (∃ r2 : Int32, v' = some (.int r2)) ∧ J σ2))
def LC_73 (E : xV) (σ : zS) (J : zS → Prop) : Prop := ∀ (x0 : Int32), Cz E Y_H_method [.ref 0, .int x0] σ (fun v σ1 => ∃ r : Int32, v = some (.int r) ∧ Cz E Y_M_method [.ref 110, .int x0] σ1 (fun v' σ2 => (∃ r2 : Int32, v' = some (.int r2)) ∧ J σ2))
def LC_74 (E : xV) (σ : zS) (J : zS → Prop) : Prop := ∀ (x0 : Int32) (x1 : Int32) (x2 : Int32) (x3 : Int32), Cz E Y_H_op [.ref 0, .int x0, .int x1, .int x2, .int x3] σ (fun v σ1 => ∃ r : Int32, v = some (.int r) ∧ Cz E Y_M_op [.ref 110, .int x0, .int x1, .int x2, .int x3] σ1 (fun v' σ2 => (∃ r2 : Int32, v' = some (.int r2)) ∧ J σ2))
def LC_75 (E : xV) (σ : zS) (J : zS → Prop) : Prop := ∀ (x0 : Int32) (x1 : Int32), Cz E Y_H_enter [.ref 0, .int x0, .int x1] σ (fun v σ1 => ∃ r : Int32, v = some (.int r) ∧ Cz E Y_M_enter [.ref 110, .int x0, .int x1] σ1 (fun v' σ2 => (∃ r2 : Int32, v' = some (.int r2)) ∧ J σ2))
def LC_76 (E : xV) (σ : zS) (J : zS → Prop) : Prop := ∀ (x0 : Int32), Cz E Y_H_entered [.ref 0, .int x0] σ (fun v σ1 => ∃ r : Int32, v = some (.int r) ∧ Cz E Y_M_entered [.ref 110, .int x0] σ1 (fun v' σ2 => (∃ r2 : Int32, v' = some (.int r2)) ∧ J σ2))
def LC_77 (E : xV) (σ : zS) (J : zS → Prop) : Prop := ∀ (x0 : Int32) (x1 : Int32), Cz E Y_H_half [.ref 0, .int x0, .int x1] σ (fun v σ1 => ∃ r : Int32, v = some (.int r) ∧ Cz E Y_M_half [.ref 110, .int x0, .int x1] σ1 (fun v' σ2 => (∃ r2 : Int32, v' = some (.int r2)) ∧ J σ2))
def LC_78 (E : xV) (σ : zS) (J : zS → Prop) : Prop := Cz E Y_H_joined [.ref 0] σ (fun v σ1 => ∃ r : Int32, v = some (.int r) ∧ Cz E Y_M_joined [.ref 110] σ1 (fun v' σ2 => (∃ r2 : Int32, v' = some (.int r2)) ∧ J σ2))
def LC_79 (E : xV) (σ : zS) (J : zS → Prop) : Prop := ∀ (x0 : Int32) (x1 : Int32), Cz E Y_H_logged [.ref 0, .int x0, .int x1] σ (fun v σ1 => ∃ r : Int32, v = some (.int r) ∧ Cz E Y_M_logged [.ref 110, .int x0, .int x1] σ1 (fun v' σ2 => (∃ r2 : Int32, v' = some (.int r2)) ∧ J σ2))
def LC_80 (E : xV) (σ : zS) (J : zS → Prop) : Prop := ∀ (x0 : Int32) (x1 : Int32) (x2 : Int32), Cz E Y_H_forge [.ref 0, .int x0, .int x1, .int x2] σ (fun v σ1 => ∃ r : Int32, v = some (.int r) ∧ Cz E Y_M_forge [.ref 110, .int x0, .int x1, .int x2] σ1 (fun v' σ2 => (∃ r2 : Int32, v' = some (.int r2)) ∧ J σ2))
def LC_81 (E : xV) (σ : zS) (J : zS → Prop) : Prop := Cz E Y_H_wrong [.ref 0] σ (fun v σ1 => ∃ r : Int32, v = some (.int r) ∧ Cz E Y_M_wrong [.ref 110] σ1 (fun v' σ2 => (∃ r2 : Int32, v' = some (.int r2)) ∧ J σ2))
def LC_82 (E : xV) (σ : zS) (J : zS → Prop) : Prop := ∀ (x0 : Int32) (x1 : Int32), Cz E Y_H_sealed [.ref 0, .int x0, .int x1] σ (fun v σ1 => ∃ r : Int32, v = some (.int r) ∧ Cz E Y_M_sealed [.ref 110, .int x0, .int x1] σ1 (fun v' σ2 => (∃ r2 : Int32, v' = some (.int r2)) ∧ J σ2))
def LC_83 (E : xV) (σ : zS) (J : zS → Prop) : Prop := ∀ (x0 : Int32) (x1 : Int32) (x2 : Int32) (x3 : Int32), Cz E Y_H_could [.ref 0, .int x0, .int x1, .int x2, .int x3] σ (fun v σ1 => ∃ r : Int32, v = some (.int r) ∧ Cz E Y_M_could [.ref 110, .int x0, .int x1, .int x2, .int x3] σ1 (fun v' σ2 => (∃ r2 : Int32, v' = some (.int r2)) ∧ J σ2))
theorem law_switch {E : xV} {bS L : Nat} {xs : Nat → Int32} {i : Int32} {σ : zS} {J : zS → Prop} (hv : ∀ j : Int32, 0 ≤ j → j ≤ 7 → vp_in (i + j) L) (hv0 : vp_in i L) (hJ0 : J σ) (h0 : LC_0 E σ J) (h1 : LC_1 E σ J) (h2 : LC_2 E σ J) (h3 : LC_3 E σ J) (h4 : LC_4 E σ J) (h5 : LC_5 E σ J) (h6 : LC_6 E σ J) (h7 : LC_7 E σ J) (h8 : LC_8 E σ J) (h9 : LC_9 E σ J) (h10 : LC_10 E σ J) (h11 : LC_11 E σ J) (h12 : LC_12 E σ J) (h13 : LC_13 E σ J) (h14 : LC_14 E σ J) (h15 : LC_15 E σ J) (h16 : LC_16 E σ J) (h17 : LC_17 E σ J) (h18 : LC_18 E σ J) (h19 : LC_19 E σ J) (h20 : LC_20 E σ J) (h21 : LC_21 E σ J) (h22 : LC_22 E σ J) (h23 : LC_23 E σ J) (h24 : LC_24 E σ J) (h25 : LC_25 E σ J) (h26 : LC_26 E σ J) (h27 : LC_27 E σ J) (h28 : LC_28 E σ J) (h29 : LC_29 E σ J) (h30 : LC_30 E σ J) (h31 : LC_31 E σ J) (h32 : LC_32 E σ J) (h33 : LC_33 E σ J) (h34 : LC_34 E σ J) (h35 : LC_35 E σ J) (h36 : LC_36 E σ J) (h37 : LC_37 E σ J) (h38 : LC_38 E σ J) (h39 : LC_39 E σ J) (h40 : LC_40 E σ J) (h41 : LC_41 E σ J) (h42 : LC_42 E σ J) (h43 : LC_43 E σ J) (h44 : LC_44 E σ J) (h45 : LC_45 E σ J) (h46 : LC_46 E σ J) (h47 : LC_47 E σ J) (h48 : LC_48 E σ J) (h49 : LC_49 E σ J) (h50 : LC_50 E σ J) (h51 : LC_51 E σ J) (h52 : LC_52 E σ J) (h53 : LC_53 E σ J) (h54 : LC_54 E σ J) (h55 : LC_55 E σ J) (h56 : LC_56 E σ J) (h57 : LC_57 E σ J) (h58 : LC_58 E σ J) (h59 : LC_59 E σ J) (h60 : LC_60 E σ J) (h61 : LC_61 E σ J) (h62 : LC_62 E σ J) (h63 : LC_63 E σ J) (h64 : LC_64 E σ J) (h65 : LC_65 E σ J) (h66 : LC_66 E σ J) (h67 : LC_67 E σ J) (h68 : LC_68 E σ J) (h69 : LC_69 E σ J) (h70 : LC_70 E σ J) (h71 : LC_71 E σ J) (h72 : LC_72 E σ J) (h73 : LC_73 E σ J) (h74 : LC_74 E σ J) (h75 : LC_75 E σ J) (h76 : LC_76 E σ J) (h77 : LC_77 E σ J) (h78 : LC_78 E σ J) (h79 : LC_79 E σ J) (h80 : LC_80 E σ J) (h81 : LC_81 E σ J) (h82 : LC_82 E σ J) (h83 : LC_83 E σ J)
    (hJ : ∀ σ2, J σ2 → Wx E YL 3476 [(0, .ref 1021), (1, .ref 0), (2, .ref 110), (3, .int i)] [] 215 215 100784 (zx σ2) (QL E bS L xs)) : Wx E YL 27 [(0, .ref 1021), (1, .ref 0), (2, .ref 110), (3, .int i)] [] 215 215 100784 (zx σ) (QL E bS L xs) := by
  refine y_aload_n (q := 0) d_L_27 rfl rfl ?_
  refine y_iload_n (q := 3) d_L_28 rfl rfl ?_
  refine l_ld hv0 d_L_29 ?_
  refine y_bipush (v := 127) d_L_30 (by decide) ?_
  refine y_iand d_L_32 ?_
  by_cases c0 : (xs i.toNatClampNeg &&& 127) = 0
  · refine x_tableIn (tgt := 384) d_L_33 (by rw [c0]; decide) (by rw [c0]; decide) (by rw [c0]; rfl) (by decide) ?_
    exact L_0 (hv 1 (by decide) (by decide)) (hv 2 (by decide) (by decide)) (hv 3 (by decide) (by decide)) (Cz.mono (h0 (xs (i + 1).toNatClampNeg) ((j_lshl (Int32.toInt64 (xs (i + 2).toNatClampNeg)) 32) ||| ((Int32.toInt64 (xs (i + 3).toNatClampNeg)) &&& 4294967295))) fun v σ1 ⟨r, e, q⟩ => ⟨r, e, Cz.mono q fun v2 σ2 ⟨e2, q2⟩ => ⟨e2, hJ σ2 q2⟩⟩)
  by_cases c1 : (xs i.toNatClampNeg &&& 127) = 1
  · refine x_tableIn (tgt := 447) d_L_33 (by rw [c1]; decide) (by rw [c1]; decide) (by rw [c1]; rfl) (by decide) ?_
    exact L_1 (hv 1 (by decide) (by decide)) (Cz.mono (h1 (xs (i + 1).toNatClampNeg)) fun v σ1 ⟨r, e, q⟩ => ⟨r, e, Cz.mono q fun v2 σ2 ⟨e2, q2⟩ => ⟨e2, hJ σ2 q2⟩⟩)
  by_cases c2 : (xs i.toNatClampNeg &&& 127) = 2
  · refine x_tableIn (tgt := 470) d_L_33 (by rw [c2]; decide) (by rw [c2]; decide) (by rw [c2]; rfl) (by decide) ?_
    exact L_2 (hv 1 (by decide) (by decide)) (Cz.mono (h2 (xs (i + 1).toNatClampNeg)) fun v σ1 ⟨r, e, q⟩ => ⟨r, e, Cz.mono q fun v2 σ2 ⟨e2, q2⟩ => ⟨e2, hJ σ2 q2⟩⟩)
  by_cases c3 : (xs i.toNatClampNeg &&& 127) = 3
  · refine x_tableIn (tgt := 493) d_L_33 (by rw [c3]; decide) (by rw [c3]; decide) (by rw [c3]; rfl) (by decide) ?_
    exact L_3  (Cz.mono (h3 ) fun v σ1 ⟨r, e, q⟩ => ⟨r, e, Cz.mono q fun v2 σ2 ⟨e2, q2⟩ => ⟨e2, hJ σ2 q2⟩⟩)
  by_cases c4 : (xs i.toNatClampNeg &&& 127) = 4
  · refine x_tableIn (tgt := 506) d_L_33 (by rw [c4]; decide) (by rw [c4]; decide) (by rw [c4]; rfl) (by decide) ?_
    exact L_4  (Cz.mono (h4 ) fun v σ1 ⟨r, e, q⟩ => ⟨r, e, Cz.mono q fun v2 σ2 ⟨e2, q2⟩ => ⟨e2, hJ σ2 q2⟩⟩)
  by_cases c5 : (xs i.toNatClampNeg &&& 127) = 5
  · refine x_tableIn (tgt := 519) d_L_33 (by rw [c5]; decide) (by rw [c5]; decide) (by rw [c5]; rfl) (by decide) ?_
    exact L_5 (hv 1 (by decide) (by decide)) (hv 2 (by decide) (by decide)) (hv 3 (by decide) (by decide)) (hv 4 (by decide) (by decide)) (Cz.mono (h5 (xs (i + 1).toNatClampNeg) (xs (i + 2).toNatClampNeg) (xs (i + 3).toNatClampNeg) (xs (i + 4).toNatClampNeg)) fun v σ1 ⟨r, e, q⟩ => ⟨r, e, Cz.mono q fun v2 σ2 ⟨e2, q2⟩ => ⟨e2, hJ σ2 q2⟩⟩)
  by_cases c6 : (xs i.toNatClampNeg &&& 127) = 6
  · refine x_tableIn (tgt := 572) d_L_33 (by rw [c6]; decide) (by rw [c6]; decide) (by rw [c6]; rfl) (by decide) ?_
    exact L_6 (hv 1 (by decide) (by decide)) (Cz.mono (h6 (xs (i + 1).toNatClampNeg)) fun v σ1 ⟨r, e, q⟩ => ⟨r, e, Cz.mono q fun v2 σ2 ⟨e2, q2⟩ => ⟨e2, hJ σ2 q2⟩⟩)
  by_cases c7 : (xs i.toNatClampNeg &&& 127) = 7
  · refine x_tableIn (tgt := 595) d_L_33 (by rw [c7]; decide) (by rw [c7]; decide) (by rw [c7]; rfl) (by decide) ?_
    exact L_7 (hv 1 (by decide) (by decide)) (hv 2 (by decide) (by decide)) (hv 3 (by decide) (by decide)) (hv 4 (by decide) (by decide)) (Cz.mono (h7 (xs (i + 1).toNatClampNeg) (xs (i + 2).toNatClampNeg) (xs (i + 3).toNatClampNeg) (xs (i + 4).toNatClampNeg)) fun v σ1 ⟨r, e, q⟩ => ⟨r, e, Cz.mono q fun v2 σ2 ⟨e2, q2⟩ => ⟨e2, hJ σ2 q2⟩⟩)
  by_cases c8 : (xs i.toNatClampNeg &&& 127) = 8
  · refine x_tableIn (tgt := 648) d_L_33 (by rw [c8]; decide) (by rw [c8]; decide) (by rw [c8]; rfl) (by decide) ?_
    exact L_8 (hv 1 (by decide) (by decide)) (hv 2 (by decide) (by decide)) (Cz.mono (h8 (xs (i + 1).toNatClampNeg) (xs (i + 2).toNatClampNeg)) fun v σ1 ⟨r, e, q⟩ => ⟨r, e, Cz.mono q fun v2 σ2 ⟨e2, q2⟩ => ⟨e2, hJ σ2 q2⟩⟩)
  by_cases c9 : (xs i.toNatClampNeg &&& 127) = 9
  · refine x_tableIn (tgt := 681) d_L_33 (by rw [c9]; decide) (by rw [c9]; decide) (by rw [c9]; rfl) (by decide) ?_
    exact L_9 (hv 1 (by decide) (by decide)) (hv 2 (by decide) (by decide)) (hv 3 (by decide) (by decide)) (hv 4 (by decide) (by decide)) (Cz.mono (h9 (xs (i + 1).toNatClampNeg) (xs (i + 2).toNatClampNeg) (xs (i + 3).toNatClampNeg) (xs (i + 4).toNatClampNeg)) fun v σ1 ⟨r, e, q⟩ => ⟨r, e, Cz.mono q fun v2 σ2 ⟨e2, q2⟩ => ⟨e2, hJ σ2 q2⟩⟩)
  by_cases c10 : (xs i.toNatClampNeg &&& 127) = 10
  · refine x_tableIn (tgt := 734) d_L_33 (by rw [c10]; decide) (by rw [c10]; decide) (by rw [c10]; rfl) (by decide) ?_
    exact L_10 (hv 1 (by decide) (by decide)) (hv 2 (by decide) (by decide)) (hv 3 (by decide) (by decide)) (hv 4 (by decide) (by decide)) (hv 5 (by decide) (by decide)) (Cz.mono (h10 (xs (i + 1).toNatClampNeg) (xs (i + 2).toNatClampNeg) (xs (i + 3).toNatClampNeg) ((j_lshl (Int32.toInt64 (xs (i + 4).toNatClampNeg)) 32) ||| ((Int32.toInt64 (xs (i + 5).toNatClampNeg)) &&& 4294967295))) fun v σ1 ⟨r, e, q⟩ => ⟨r, e, Cz.mono q fun v2 σ2 ⟨e2, q2⟩ => ⟨e2, hJ σ2 q2⟩⟩)
  by_cases c11 : (xs i.toNatClampNeg &&& 127) = 11
  · refine x_tableIn (tgt := 817) d_L_33 (by rw [c11]; decide) (by rw [c11]; decide) (by rw [c11]; rfl) (by decide) ?_
    exact L_11 (hv 1 (by decide) (by decide)) (hv 2 (by decide) (by decide)) (hv 3 (by decide) (by decide)) (hv 4 (by decide) (by decide)) (Cz.mono (h11 (xs (i + 1).toNatClampNeg) (xs (i + 2).toNatClampNeg) (xs (i + 3).toNatClampNeg) (xs (i + 4).toNatClampNeg)) fun v σ1 ⟨r, e, q⟩ => ⟨r, e, Cz.mono q fun v2 σ2 ⟨e2, q2⟩ => ⟨e2, hJ σ2 q2⟩⟩)
  by_cases c12 : (xs i.toNatClampNeg &&& 127) = 12
  · refine x_tableIn (tgt := 870) d_L_33 (by rw [c12]; decide) (by rw [c12]; decide) (by rw [c12]; rfl) (by decide) ?_
    exact L_12 (hv 1 (by decide) (by decide)) (hv 2 (by decide) (by decide)) (hv 3 (by decide) (by decide)) (hv 4 (by decide) (by decide)) (hv 5 (by decide) (by decide)) (hv 6 (by decide) (by decide)) (hv 7 (by decide) (by decide)) (Cz.mono (h12 (xs (i + 1).toNatClampNeg) (xs (i + 2).toNatClampNeg) (xs (i + 3).toNatClampNeg) (xs (i + 4).toNatClampNeg) (xs (i + 5).toNatClampNeg) (xs (i + 6).toNatClampNeg) (xs (i + 7).toNatClampNeg)) fun v σ1 ⟨r, e, q⟩ => ⟨r, e, Cz.mono q fun v2 σ2 ⟨e2, q2⟩ => ⟨e2, hJ σ2 q2⟩⟩)
  by_cases c13 : (xs i.toNatClampNeg &&& 127) = 13
  · refine x_tableIn (tgt := 957) d_L_33 (by rw [c13]; decide) (by rw [c13]; decide) (by rw [c13]; rfl) (by decide) ?_
    exact L_13 (hv 1 (by decide) (by decide)) (hv 2 (by decide) (by decide)) (Cz.mono (h13 (xs (i + 1).toNatClampNeg) (xs (i + 2).toNatClampNeg)) fun v σ1 ⟨r, e, q⟩ => ⟨r, e, Cz.mono q fun v2 σ2 ⟨e2, q2⟩ => ⟨e2, hJ σ2 q2⟩⟩)
  by_cases c14 : (xs i.toNatClampNeg &&& 127) = 14
  · refine x_tableIn (tgt := 990) d_L_33 (by rw [c14]; decide) (by rw [c14]; decide) (by rw [c14]; rfl) (by decide) ?_
    exact L_14 (hv 1 (by decide) (by decide)) (hv 2 (by decide) (by decide)) (Cz.mono (h14 (xs (i + 1).toNatClampNeg) (xs (i + 2).toNatClampNeg)) fun v σ1 ⟨r, e, q⟩ => ⟨r, e, Cz.mono q fun v2 σ2 ⟨e2, q2⟩ => ⟨e2, hJ σ2 q2⟩⟩)
  by_cases c15 : (xs i.toNatClampNeg &&& 127) = 15
  · refine x_tableIn (tgt := 1023) d_L_33 (by rw [c15]; decide) (by rw [c15]; decide) (by rw [c15]; rfl) (by decide) ?_
    exact L_15 (hv 1 (by decide) (by decide)) (hv 2 (by decide) (by decide)) (Cz.mono (h15 (xs (i + 1).toNatClampNeg) (if (xs (i + 2).toNatClampNeg) = 0 then (0 : Int32) else 1) (j_ite _)) fun v σ1 ⟨r, e, q⟩ => ⟨r, e, Cz.mono q fun v2 σ2 ⟨e2, q2⟩ => ⟨e2, hJ σ2 q2⟩⟩)
  by_cases c16 : (xs i.toNatClampNeg &&& 127) = 16
  · refine x_tableIn (tgt := 1072) d_L_33 (by rw [c16]; decide) (by rw [c16]; decide) (by rw [c16]; rfl) (by decide) ?_
    exact L_16 (hv 1 (by decide) (by decide)) (Cz.mono (h16 (xs (i + 1).toNatClampNeg)) fun v σ1 ⟨r, e, q⟩ => ⟨r, e, Cz.mono q fun v2 σ2 ⟨e2, q2⟩ => ⟨e2, hJ σ2 q2⟩⟩)
  by_cases c17 : (xs i.toNatClampNeg &&& 127) = 17
  · refine x_tableIn (tgt := 1095) d_L_33 (by rw [c17]; decide) (by rw [c17]; decide) (by rw [c17]; rfl) (by decide) ?_
    exact L_17 (hv 1 (by decide) (by decide)) (hv 2 (by decide) (by decide)) (Cz.mono (h17 (xs (i + 1).toNatClampNeg) (xs (i + 2).toNatClampNeg)) fun v σ1 ⟨r, e, q⟩ => ⟨r, e, Cz.mono q fun v2 σ2 ⟨e2, q2⟩ => ⟨e2, hJ σ2 q2⟩⟩)
  by_cases c18 : (xs i.toNatClampNeg &&& 127) = 18
  · refine x_tableIn (tgt := 1128) d_L_33 (by rw [c18]; decide) (by rw [c18]; decide) (by rw [c18]; rfl) (by decide) ?_
    exact L_18 (hv 1 (by decide) (by decide)) (hv 2 (by decide) (by decide)) (Cz.mono (h18 (xs (i + 1).toNatClampNeg) (xs (i + 2).toNatClampNeg)) fun v σ1 ⟨r, e, q⟩ => ⟨r, e, Cz.mono q fun v2 σ2 ⟨e2, q2⟩ => ⟨e2, hJ σ2 q2⟩⟩)
  by_cases c19 : (xs i.toNatClampNeg &&& 127) = 19
  · refine x_tableIn (tgt := 1161) d_L_33 (by rw [c19]; decide) (by rw [c19]; decide) (by rw [c19]; rfl) (by decide) ?_
    exact L_19 (hv 1 (by decide) (by decide)) (hv 2 (by decide) (by decide)) (hv 3 (by decide) (by decide)) (Cz.mono (h19 (xs (i + 1).toNatClampNeg) (xs (i + 2).toNatClampNeg) (if (xs (i + 3).toNatClampNeg) = 0 then (0 : Int32) else 1) (j_ite _)) fun v σ1 ⟨r, e, q⟩ => ⟨r, e, Cz.mono q fun v2 σ2 ⟨e2, q2⟩ => ⟨e2, hJ σ2 q2⟩⟩)
  by_cases c20 : (xs i.toNatClampNeg &&& 127) = 20
  · refine x_tableIn (tgt := 1220) d_L_33 (by rw [c20]; decide) (by rw [c20]; decide) (by rw [c20]; rfl) (by decide) ?_
    exact L_20 (hv 1 (by decide) (by decide)) (hv 2 (by decide) (by decide)) (Cz.mono (h20 (xs (i + 1).toNatClampNeg) (xs (i + 2).toNatClampNeg)) fun v σ1 ⟨r, e, q⟩ => ⟨r, e, Cz.mono q fun v2 σ2 ⟨e2, q2⟩ => ⟨e2, hJ σ2 q2⟩⟩)
  by_cases c21 : (xs i.toNatClampNeg &&& 127) = 21
  · refine x_tableIn (tgt := 1253) d_L_33 (by rw [c21]; decide) (by rw [c21]; decide) (by rw [c21]; rfl) (by decide) ?_
    exact L_21 (hv 1 (by decide) (by decide)) (Cz.mono (h21 (xs (i + 1).toNatClampNeg)) fun v σ1 ⟨r, e, q⟩ => ⟨r, e, Cz.mono q fun v2 σ2 ⟨e2, q2⟩ => ⟨e2, hJ σ2 q2⟩⟩)
  by_cases c22 : (xs i.toNatClampNeg &&& 127) = 22
  · refine x_tableIn (tgt := 1276) d_L_33 (by rw [c22]; decide) (by rw [c22]; decide) (by rw [c22]; rfl) (by decide) ?_
    exact L_22 (hv 1 (by decide) (by decide)) (Cz.mono (h22 (xs (i + 1).toNatClampNeg)) fun v σ1 ⟨r, e, q⟩ => ⟨r, e, Cz.mono q fun v2 σ2 ⟨e2, q2⟩ => ⟨e2, hJ σ2 q2⟩⟩)
  by_cases c23 : (xs i.toNatClampNeg &&& 127) = 23
  · refine x_tableIn (tgt := 1299) d_L_33 (by rw [c23]; decide) (by rw [c23]; decide) (by rw [c23]; rfl) (by decide) ?_
    exact L_23 (hv 1 (by decide) (by decide)) (Cz.mono (h23 (xs (i + 1).toNatClampNeg)) fun v σ1 ⟨r, e, q⟩ => ⟨r, e, Cz.mono q fun v2 σ2 ⟨e2, q2⟩ => ⟨e2, hJ σ2 q2⟩⟩)
  by_cases c24 : (xs i.toNatClampNeg &&& 127) = 24
  · refine x_tableIn (tgt := 1322) d_L_33 (by rw [c24]; decide) (by rw [c24]; decide) (by rw [c24]; rfl) (by decide) ?_
    exact L_24 (hv 1 (by decide) (by decide)) (hv 2 (by decide) (by decide)) (hv 3 (by decide) (by decide)) (Cz.mono (h24 (xs (i + 1).toNatClampNeg) (xs (i + 2).toNatClampNeg) (xs (i + 3).toNatClampNeg)) fun v σ1 ⟨r, e, q⟩ => ⟨r, e, Cz.mono q fun v2 σ2 ⟨e2, q2⟩ => ⟨e2, hJ σ2 q2⟩⟩)
  by_cases c25 : (xs i.toNatClampNeg &&& 127) = 25
  · refine x_tableIn (tgt := 1365) d_L_33 (by rw [c25]; decide) (by rw [c25]; decide) (by rw [c25]; rfl) (by decide) ?_
    exact L_25 (hv 1 (by decide) (by decide)) (hv 2 (by decide) (by decide)) (hv 3 (by decide) (by decide)) (hv 4 (by decide) (by decide)) (hv 5 (by decide) (by decide)) (Cz.mono (h25 (xs (i + 1).toNatClampNeg) (xs (i + 2).toNatClampNeg) (xs (i + 3).toNatClampNeg) (xs (i + 4).toNatClampNeg) (xs (i + 5).toNatClampNeg)) fun v σ1 ⟨r, e, q⟩ => ⟨r, e, Cz.mono q fun v2 σ2 ⟨e2, q2⟩ => ⟨e2, hJ σ2 q2⟩⟩)
  by_cases c26 : (xs i.toNatClampNeg &&& 127) = 26
  · refine x_tableIn (tgt := 1428) d_L_33 (by rw [c26]; decide) (by rw [c26]; decide) (by rw [c26]; rfl) (by decide) ?_
    exact L_26 (hv 1 (by decide) (by decide)) (Cz.mono (h26 (xs (i + 1).toNatClampNeg)) fun v σ1 ⟨r, e, q⟩ => ⟨r, e, Cz.mono q fun v2 σ2 ⟨e2, q2⟩ => ⟨e2, hJ σ2 q2⟩⟩)
  by_cases c27 : (xs i.toNatClampNeg &&& 127) = 27
  · refine x_tableIn (tgt := 1451) d_L_33 (by rw [c27]; decide) (by rw [c27]; decide) (by rw [c27]; rfl) (by decide) ?_
    exact L_27 (hv 1 (by decide) (by decide)) (hv 2 (by decide) (by decide)) (hv 3 (by decide) (by decide)) (hv 4 (by decide) (by decide)) (Cz.mono (h27 (xs (i + 1).toNatClampNeg) (xs (i + 2).toNatClampNeg) (xs (i + 3).toNatClampNeg) (xs (i + 4).toNatClampNeg)) fun v σ1 ⟨r, e, q⟩ => ⟨r, e, Cz.mono q fun v2 σ2 ⟨e2, q2⟩ => ⟨e2, hJ σ2 q2⟩⟩)
  by_cases c28 : (xs i.toNatClampNeg &&& 127) = 28
  · refine x_tableIn (tgt := 1504) d_L_33 (by rw [c28]; decide) (by rw [c28]; decide) (by rw [c28]; rfl) (by decide) ?_
    exact L_28 (hv 1 (by decide) (by decide)) (hv 2 (by decide) (by decide)) (hv 3 (by decide) (by decide)) (hv 4 (by decide) (by decide)) (Cz.mono (h28 (xs (i + 1).toNatClampNeg) (xs (i + 2).toNatClampNeg) (xs (i + 3).toNatClampNeg) (xs (i + 4).toNatClampNeg)) fun v σ1 ⟨r, e, q⟩ => ⟨r, e, Cz.mono q fun v2 σ2 ⟨e2, q2⟩ => ⟨e2, hJ σ2 q2⟩⟩)
  by_cases c29 : (xs i.toNatClampNeg &&& 127) = 29
  · refine x_tableIn (tgt := 1557) d_L_33 (by rw [c29]; decide) (by rw [c29]; decide) (by rw [c29]; rfl) (by decide) ?_
    exact L_29 (hv 1 (by decide) (by decide)) (hv 2 (by decide) (by decide)) (Cz.mono (h29 (xs (i + 1).toNatClampNeg) (xs (i + 2).toNatClampNeg)) fun v σ1 ⟨r, e, q⟩ => ⟨r, e, Cz.mono q fun v2 σ2 ⟨e2, q2⟩ => ⟨e2, hJ σ2 q2⟩⟩)
  by_cases c30 : (xs i.toNatClampNeg &&& 127) = 30
  · refine x_tableIn (tgt := 1590) d_L_33 (by rw [c30]; decide) (by rw [c30]; decide) (by rw [c30]; rfl) (by decide) ?_
    exact L_30 (hv 1 (by decide) (by decide)) (Cz.mono (h30 (xs (i + 1).toNatClampNeg)) fun v σ1 ⟨r, e, q⟩ => ⟨r, e, Cz.mono q fun v2 σ2 ⟨e2, q2⟩ => ⟨e2, hJ σ2 q2⟩⟩)
  by_cases c31 : (xs i.toNatClampNeg &&& 127) = 31
  · refine x_tableIn (tgt := 1613) d_L_33 (by rw [c31]; decide) (by rw [c31]; decide) (by rw [c31]; rfl) (by decide) ?_
    exact L_31 (hv 1 (by decide) (by decide)) (hv 2 (by decide) (by decide)) (Cz.mono (h31 (xs (i + 1).toNatClampNeg) (xs (i + 2).toNatClampNeg)) fun v σ1 ⟨r, e, q⟩ => ⟨r, e, Cz.mono q fun v2 σ2 ⟨e2, q2⟩ => ⟨e2, hJ σ2 q2⟩⟩)
  by_cases c32 : (xs i.toNatClampNeg &&& 127) = 32
  · refine x_tableIn (tgt := 1646) d_L_33 (by rw [c32]; decide) (by rw [c32]; decide) (by rw [c32]; rfl) (by decide) ?_
    exact L_32 (hv 1 (by decide) (by decide)) (hv 2 (by decide) (by decide)) (hv 3 (by decide) (by decide)) (Cz.mono (h32 (xs (i + 1).toNatClampNeg) (xs (i + 2).toNatClampNeg) (xs (i + 3).toNatClampNeg)) fun v σ1 ⟨r, e, q⟩ => ⟨r, e, Cz.mono q fun v2 σ2 ⟨e2, q2⟩ => ⟨e2, hJ σ2 q2⟩⟩)
  by_cases c33 : (xs i.toNatClampNeg &&& 127) = 33
  · refine x_tableIn (tgt := 1689) d_L_33 (by rw [c33]; decide) (by rw [c33]; decide) (by rw [c33]; rfl) (by decide) ?_
    exact L_33 (hv 1 (by decide) (by decide)) (hv 2 (by decide) (by decide)) (hv 3 (by decide) (by decide)) (hv 4 (by decide) (by decide)) (Cz.mono (h33 (xs (i + 1).toNatClampNeg) (xs (i + 2).toNatClampNeg) (xs (i + 3).toNatClampNeg) (xs (i + 4).toNatClampNeg)) fun v σ1 ⟨r, e, q⟩ => ⟨r, e, Cz.mono q fun v2 σ2 ⟨e2, q2⟩ => ⟨e2, hJ σ2 q2⟩⟩)
  by_cases c34 : (xs i.toNatClampNeg &&& 127) = 34
  · refine x_tableIn (tgt := 1742) d_L_33 (by rw [c34]; decide) (by rw [c34]; decide) (by rw [c34]; rfl) (by decide) ?_
    exact L_34 (hv 1 (by decide) (by decide)) (hv 2 (by decide) (by decide)) (hv 3 (by decide) (by decide)) (Cz.mono (h34 (xs (i + 1).toNatClampNeg) (xs (i + 2).toNatClampNeg) (xs (i + 3).toNatClampNeg)) fun v σ1 ⟨r, e, q⟩ => ⟨r, e, Cz.mono q fun v2 σ2 ⟨e2, q2⟩ => ⟨e2, hJ σ2 q2⟩⟩)
  by_cases c35 : (xs i.toNatClampNeg &&& 127) = 35
  · refine x_tableIn (tgt := 1785) d_L_33 (by rw [c35]; decide) (by rw [c35]; decide) (by rw [c35]; rfl) (by decide) ?_
    exact L_35  (Cz.mono (h35 ) fun v σ1 ⟨r, e, q⟩ => ⟨r, e, Cz.mono q fun v2 σ2 ⟨e2, q2⟩ => ⟨e2, hJ σ2 q2⟩⟩)
  by_cases c36 : (xs i.toNatClampNeg &&& 127) = 36
  · refine x_tableIn (tgt := 1798) d_L_33 (by rw [c36]; decide) (by rw [c36]; decide) (by rw [c36]; rfl) (by decide) ?_
    exact L_36 (hv 1 (by decide) (by decide)) (Cz.mono (h36 (xs (i + 1).toNatClampNeg)) fun v σ1 ⟨r, e, q⟩ => ⟨r, e, Cz.mono q fun v2 σ2 ⟨e2, q2⟩ => ⟨e2, hJ σ2 q2⟩⟩)
  by_cases c37 : (xs i.toNatClampNeg &&& 127) = 37
  · refine x_tableIn (tgt := 1821) d_L_33 (by rw [c37]; decide) (by rw [c37]; decide) (by rw [c37]; rfl) (by decide) ?_
    exact L_37 (hv 1 (by decide) (by decide)) (Cz.mono (h37 (xs (i + 1).toNatClampNeg)) fun v σ1 ⟨r, e, q⟩ => ⟨r, e, Cz.mono q fun v2 σ2 ⟨e2, q2⟩ => ⟨e2, hJ σ2 q2⟩⟩)
  by_cases c38 : (xs i.toNatClampNeg &&& 127) = 38
  · refine x_tableIn (tgt := 1844) d_L_33 (by rw [c38]; decide) (by rw [c38]; decide) (by rw [c38]; rfl) (by decide) ?_
    exact L_38 (hv 1 (by decide) (by decide)) (hv 2 (by decide) (by decide)) (Cz.mono (h38 (xs (i + 1).toNatClampNeg) (xs (i + 2).toNatClampNeg)) fun v σ1 ⟨r, e, q⟩ => ⟨r, e, Cz.mono q fun v2 σ2 ⟨e2, q2⟩ => ⟨e2, hJ σ2 q2⟩⟩)
  by_cases c39 : (xs i.toNatClampNeg &&& 127) = 39
  · refine x_tableIn (tgt := 1877) d_L_33 (by rw [c39]; decide) (by rw [c39]; decide) (by rw [c39]; rfl) (by decide) ?_
    exact L_39 (hv 1 (by decide) (by decide)) (hv 2 (by decide) (by decide)) (Cz.mono (h39 (xs (i + 1).toNatClampNeg) (xs (i + 2).toNatClampNeg)) fun v σ1 ⟨r, e, q⟩ => ⟨r, e, Cz.mono q fun v2 σ2 ⟨e2, q2⟩ => ⟨e2, hJ σ2 q2⟩⟩)
  by_cases c40 : (xs i.toNatClampNeg &&& 127) = 40
  · refine x_tableIn (tgt := 1910) d_L_33 (by rw [c40]; decide) (by rw [c40]; decide) (by rw [c40]; rfl) (by decide) ?_
    exact L_40 (hv 1 (by decide) (by decide)) (hv 2 (by decide) (by decide)) (hv 3 (by decide) (by decide)) (Cz.mono (h40 (xs (i + 1).toNatClampNeg) (xs (i + 2).toNatClampNeg) (xs (i + 3).toNatClampNeg)) fun v σ1 ⟨r, e, q⟩ => ⟨r, e, Cz.mono q fun v2 σ2 ⟨e2, q2⟩ => ⟨e2, hJ σ2 q2⟩⟩)
  by_cases c41 : (xs i.toNatClampNeg &&& 127) = 41
  · refine x_tableIn (tgt := 1953) d_L_33 (by rw [c41]; decide) (by rw [c41]; decide) (by rw [c41]; rfl) (by decide) ?_
    exact L_41  (Cz.mono (h41 ) fun v σ1 ⟨r, e, q⟩ => ⟨r, e, Cz.mono q fun v2 σ2 ⟨e2, q2⟩ => ⟨e2, hJ σ2 q2⟩⟩)
  by_cases c42 : (xs i.toNatClampNeg &&& 127) = 42
  · refine x_tableIn (tgt := 1966) d_L_33 (by rw [c42]; decide) (by rw [c42]; decide) (by rw [c42]; rfl) (by decide) ?_
    exact L_42 (hv 1 (by decide) (by decide)) (hv 2 (by decide) (by decide)) (Cz.mono (h42 (xs (i + 1).toNatClampNeg) (xs (i + 2).toNatClampNeg)) fun v σ1 ⟨r, e, q⟩ => ⟨r, e, Cz.mono q fun v2 σ2 ⟨e2, q2⟩ => ⟨e2, hJ σ2 q2⟩⟩)
  by_cases c43 : (xs i.toNatClampNeg &&& 127) = 43
  · refine x_tableIn (tgt := 1999) d_L_33 (by rw [c43]; decide) (by rw [c43]; decide) (by rw [c43]; rfl) (by decide) ?_
    exact L_43 (hv 1 (by decide) (by decide)) (hv 2 (by decide) (by decide)) (hv 3 (by decide) (by decide)) (hv 4 (by decide) (by decide)) (Cz.mono (h43 (xs (i + 1).toNatClampNeg) (xs (i + 2).toNatClampNeg) (xs (i + 3).toNatClampNeg) (xs (i + 4).toNatClampNeg)) fun v σ1 ⟨r, e, q⟩ => ⟨r, e, Cz.mono q fun v2 σ2 ⟨e2, q2⟩ => ⟨e2, hJ σ2 q2⟩⟩)
  by_cases c44 : (xs i.toNatClampNeg &&& 127) = 44
  · refine x_tableIn (tgt := 2052) d_L_33 (by rw [c44]; decide) (by rw [c44]; decide) (by rw [c44]; rfl) (by decide) ?_
    exact L_44 (hv 1 (by decide) (by decide)) (hv 2 (by decide) (by decide)) (Cz.mono (h44 (xs (i + 1).toNatClampNeg) (xs (i + 2).toNatClampNeg)) fun v σ1 ⟨r, e, q⟩ => ⟨r, e, Cz.mono q fun v2 σ2 ⟨e2, q2⟩ => ⟨e2, hJ σ2 q2⟩⟩)
  by_cases c45 : (xs i.toNatClampNeg &&& 127) = 45
  · refine x_tableIn (tgt := 2085) d_L_33 (by rw [c45]; decide) (by rw [c45]; decide) (by rw [c45]; rfl) (by decide) ?_
    exact L_45 (hv 1 (by decide) (by decide)) (hv 2 (by decide) (by decide)) (Cz.mono (h45 (xs (i + 1).toNatClampNeg) (xs (i + 2).toNatClampNeg)) fun v σ1 ⟨r, e, q⟩ => ⟨r, e, Cz.mono q fun v2 σ2 ⟨e2, q2⟩ => ⟨e2, hJ σ2 q2⟩⟩)
  by_cases c46 : (xs i.toNatClampNeg &&& 127) = 46
  · refine x_tableIn (tgt := 2118) d_L_33 (by rw [c46]; decide) (by rw [c46]; decide) (by rw [c46]; rfl) (by decide) ?_
    exact L_46 (hv 1 (by decide) (by decide)) (hv 2 (by decide) (by decide)) (hv 3 (by decide) (by decide)) (hv 4 (by decide) (by decide)) (Cz.mono (h46 (xs (i + 1).toNatClampNeg) (xs (i + 2).toNatClampNeg) (xs (i + 3).toNatClampNeg) (xs (i + 4).toNatClampNeg)) fun v σ1 ⟨r, e, q⟩ => ⟨r, e, Cz.mono q fun v2 σ2 ⟨e2, q2⟩ => ⟨e2, hJ σ2 q2⟩⟩)
  by_cases c47 : (xs i.toNatClampNeg &&& 127) = 47
  · refine x_tableIn (tgt := 2171) d_L_33 (by rw [c47]; decide) (by rw [c47]; decide) (by rw [c47]; rfl) (by decide) ?_
    exact L_47 (hv 1 (by decide) (by decide)) (hv 2 (by decide) (by decide)) (hv 3 (by decide) (by decide)) (hv 4 (by decide) (by decide)) (Cz.mono (h47 (xs (i + 1).toNatClampNeg) (xs (i + 2).toNatClampNeg) (xs (i + 3).toNatClampNeg) (xs (i + 4).toNatClampNeg)) fun v σ1 ⟨r, e, q⟩ => ⟨r, e, Cz.mono q fun v2 σ2 ⟨e2, q2⟩ => ⟨e2, hJ σ2 q2⟩⟩)
  by_cases c48 : (xs i.toNatClampNeg &&& 127) = 48
  · refine x_tableIn (tgt := 2224) d_L_33 (by rw [c48]; decide) (by rw [c48]; decide) (by rw [c48]; rfl) (by decide) ?_
    exact L_48 (hv 1 (by decide) (by decide)) (hv 2 (by decide) (by decide)) (hv 3 (by decide) (by decide)) (Cz.mono (h48 (xs (i + 1).toNatClampNeg) (xs (i + 2).toNatClampNeg) (xs (i + 3).toNatClampNeg)) fun v σ1 ⟨r, e, q⟩ => ⟨r, e, Cz.mono q fun v2 σ2 ⟨e2, q2⟩ => ⟨e2, hJ σ2 q2⟩⟩)
  by_cases c49 : (xs i.toNatClampNeg &&& 127) = 49
  · refine x_tableIn (tgt := 2267) d_L_33 (by rw [c49]; decide) (by rw [c49]; decide) (by rw [c49]; rfl) (by decide) ?_
    exact L_49  (Cz.mono (h49 ) fun v σ1 ⟨r, e, q⟩ => ⟨r, e, Cz.mono q fun v2 σ2 ⟨e2, q2⟩ => ⟨e2, hJ σ2 q2⟩⟩)
  by_cases c50 : (xs i.toNatClampNeg &&& 127) = 50
  · refine x_tableIn (tgt := 2280) d_L_33 (by rw [c50]; decide) (by rw [c50]; decide) (by rw [c50]; rfl) (by decide) ?_
    exact L_50 (hv 1 (by decide) (by decide)) (hv 2 (by decide) (by decide)) (hv 3 (by decide) (by decide)) (hv 4 (by decide) (by decide)) (hv 5 (by decide) (by decide)) (hv 6 (by decide) (by decide)) (hv 7 (by decide) (by decide)) (Cz.mono (h50 (xs (i + 1).toNatClampNeg) (xs (i + 2).toNatClampNeg) (xs (i + 3).toNatClampNeg) (xs (i + 4).toNatClampNeg) (xs (i + 5).toNatClampNeg) (xs (i + 6).toNatClampNeg) (xs (i + 7).toNatClampNeg)) fun v σ1 ⟨r, e, q⟩ => ⟨r, e, Cz.mono q fun v2 σ2 ⟨e2, q2⟩ => ⟨e2, hJ σ2 q2⟩⟩)
  by_cases c51 : (xs i.toNatClampNeg &&& 127) = 51
  · refine x_tableIn (tgt := 2367) d_L_33 (by rw [c51]; decide) (by rw [c51]; decide) (by rw [c51]; rfl) (by decide) ?_
    exact L_51 (hv 1 (by decide) (by decide)) (hv 2 (by decide) (by decide)) (Cz.mono (h51 (xs (i + 1).toNatClampNeg) (xs (i + 2).toNatClampNeg)) fun v σ1 ⟨r, e, q⟩ => ⟨r, e, Cz.mono q fun v2 σ2 ⟨e2, q2⟩ => ⟨e2, hJ σ2 q2⟩⟩)
  by_cases c52 : (xs i.toNatClampNeg &&& 127) = 52
  · refine x_tableIn (tgt := 2400) d_L_33 (by rw [c52]; decide) (by rw [c52]; decide) (by rw [c52]; rfl) (by decide) ?_
    exact L_52 (hv 1 (by decide) (by decide)) (hv 2 (by decide) (by decide)) (hv 3 (by decide) (by decide)) (hv 4 (by decide) (by decide)) (Cz.mono (h52 (xs (i + 1).toNatClampNeg) (xs (i + 2).toNatClampNeg) (xs (i + 3).toNatClampNeg) (xs (i + 4).toNatClampNeg)) fun v σ1 ⟨r, e, q⟩ => ⟨r, e, Cz.mono q fun v2 σ2 ⟨e2, q2⟩ => ⟨e2, hJ σ2 q2⟩⟩)
  by_cases c53 : (xs i.toNatClampNeg &&& 127) = 53
  · refine x_tableIn (tgt := 2453) d_L_33 (by rw [c53]; decide) (by rw [c53]; decide) (by rw [c53]; rfl) (by decide) ?_
    exact L_53 (hv 1 (by decide) (by decide)) (Cz.mono (h53 (xs (i + 1).toNatClampNeg)) fun v σ1 ⟨r, e, q⟩ => ⟨r, e, Cz.mono q fun v2 σ2 ⟨e2, q2⟩ => ⟨e2, hJ σ2 q2⟩⟩)
  by_cases c54 : (xs i.toNatClampNeg &&& 127) = 54
  · refine x_tableIn (tgt := 2476) d_L_33 (by rw [c54]; decide) (by rw [c54]; decide) (by rw [c54]; rfl) (by decide) ?_
    exact L_54 (hv 1 (by decide) (by decide)) (hv 2 (by decide) (by decide)) (hv 3 (by decide) (by decide)) (Cz.mono (h54 (xs (i + 1).toNatClampNeg) (xs (i + 2).toNatClampNeg) (xs (i + 3).toNatClampNeg)) fun v σ1 ⟨r, e, q⟩ => ⟨r, e, Cz.mono q fun v2 σ2 ⟨e2, q2⟩ => ⟨e2, hJ σ2 q2⟩⟩)
  by_cases c55 : (xs i.toNatClampNeg &&& 127) = 55
  · refine x_tableIn (tgt := 2519) d_L_33 (by rw [c55]; decide) (by rw [c55]; decide) (by rw [c55]; rfl) (by decide) ?_
    exact L_55 (hv 1 (by decide) (by decide)) (hv 2 (by decide) (by decide)) (Cz.mono (h55 (xs (i + 1).toNatClampNeg) (xs (i + 2).toNatClampNeg)) fun v σ1 ⟨r, e, q⟩ => ⟨r, e, Cz.mono q fun v2 σ2 ⟨e2, q2⟩ => ⟨e2, hJ σ2 q2⟩⟩)
  by_cases c56 : (xs i.toNatClampNeg &&& 127) = 56
  · refine x_tableIn (tgt := 2552) d_L_33 (by rw [c56]; decide) (by rw [c56]; decide) (by rw [c56]; rfl) (by decide) ?_
    exact L_56 (hv 1 (by decide) (by decide)) (hv 2 (by decide) (by decide)) (hv 3 (by decide) (by decide)) (Cz.mono (h56 (xs (i + 1).toNatClampNeg) (xs (i + 2).toNatClampNeg) (xs (i + 3).toNatClampNeg)) fun v σ1 ⟨r, e, q⟩ => ⟨r, e, Cz.mono q fun v2 σ2 ⟨e2, q2⟩ => ⟨e2, hJ σ2 q2⟩⟩)
  by_cases c57 : (xs i.toNatClampNeg &&& 127) = 57
  · refine x_tableIn (tgt := 2595) d_L_33 (by rw [c57]; decide) (by rw [c57]; decide) (by rw [c57]; rfl) (by decide) ?_
    exact L_57 (hv 1 (by decide) (by decide)) (hv 2 (by decide) (by decide)) (hv 3 (by decide) (by decide)) (Cz.mono (h57 (xs (i + 1).toNatClampNeg) (xs (i + 2).toNatClampNeg) (xs (i + 3).toNatClampNeg)) fun v σ1 ⟨r, e, q⟩ => ⟨r, e, Cz.mono q fun v2 σ2 ⟨e2, q2⟩ => ⟨e2, hJ σ2 q2⟩⟩)
  by_cases c58 : (xs i.toNatClampNeg &&& 127) = 58
  · refine x_tableIn (tgt := 2638) d_L_33 (by rw [c58]; decide) (by rw [c58]; decide) (by rw [c58]; rfl) (by decide) ?_
    exact L_58 (hv 1 (by decide) (by decide)) (hv 2 (by decide) (by decide)) (Cz.mono (h58 (xs (i + 1).toNatClampNeg) (xs (i + 2).toNatClampNeg)) fun v σ1 ⟨r, e, q⟩ => ⟨r, e, Cz.mono q fun v2 σ2 ⟨e2, q2⟩ => ⟨e2, hJ σ2 q2⟩⟩)
  by_cases c59 : (xs i.toNatClampNeg &&& 127) = 59
  · refine x_tableIn (tgt := 2671) d_L_33 (by rw [c59]; decide) (by rw [c59]; decide) (by rw [c59]; rfl) (by decide) ?_
    exact L_59 (hv 1 (by decide) (by decide)) (hv 2 (by decide) (by decide)) (Cz.mono (h59 (xs (i + 1).toNatClampNeg) (xs (i + 2).toNatClampNeg)) fun v σ1 ⟨r, e, q⟩ => ⟨r, e, Cz.mono q fun v2 σ2 ⟨e2, q2⟩ => ⟨e2, hJ σ2 q2⟩⟩)
  by_cases c60 : (xs i.toNatClampNeg &&& 127) = 60
  · refine x_tableIn (tgt := 2704) d_L_33 (by rw [c60]; decide) (by rw [c60]; decide) (by rw [c60]; rfl) (by decide) ?_
    exact L_60 (hv 1 (by decide) (by decide)) (hv 2 (by decide) (by decide)) (hv 3 (by decide) (by decide)) (hv 4 (by decide) (by decide)) (Cz.mono (h60 (xs (i + 1).toNatClampNeg) (xs (i + 2).toNatClampNeg) (xs (i + 3).toNatClampNeg) (xs (i + 4).toNatClampNeg)) fun v σ1 ⟨r, e, q⟩ => ⟨r, e, Cz.mono q fun v2 σ2 ⟨e2, q2⟩ => ⟨e2, hJ σ2 q2⟩⟩)
  by_cases c61 : (xs i.toNatClampNeg &&& 127) = 61
  · refine x_tableIn (tgt := 2757) d_L_33 (by rw [c61]; decide) (by rw [c61]; decide) (by rw [c61]; rfl) (by decide) ?_
    exact L_61  (Cz.mono (h61 ) fun v σ1 ⟨r, e, q⟩ => ⟨r, e, Cz.mono q fun v2 σ2 ⟨e2, q2⟩ => ⟨e2, hJ σ2 q2⟩⟩)
  by_cases c62 : (xs i.toNatClampNeg &&& 127) = 62
  · refine x_tableIn (tgt := 2770) d_L_33 (by rw [c62]; decide) (by rw [c62]; decide) (by rw [c62]; rfl) (by decide) ?_
    exact L_62  (Cz.mono (h62 ) fun v σ1 ⟨r, e, q⟩ => ⟨r, e, Cz.mono q fun v2 σ2 ⟨e2, q2⟩ => ⟨e2, hJ σ2 q2⟩⟩)
  by_cases c63 : (xs i.toNatClampNeg &&& 127) = 63
  · refine x_tableIn (tgt := 2783) d_L_33 (by rw [c63]; decide) (by rw [c63]; decide) (by rw [c63]; rfl) (by decide) ?_
    exact L_63  (Cz.mono (h63 ) fun v σ1 ⟨r, e, q⟩ => ⟨r, e, Cz.mono q fun v2 σ2 ⟨e2, q2⟩ => ⟨e2, hJ σ2 q2⟩⟩)
  by_cases c64 : (xs i.toNatClampNeg &&& 127) = 64
  · refine x_tableIn (tgt := 2796) d_L_33 (by rw [c64]; decide) (by rw [c64]; decide) (by rw [c64]; rfl) (by decide) ?_
    exact L_64 (hv 1 (by decide) (by decide)) (hv 2 (by decide) (by decide)) (Cz.mono (h64 (xs (i + 1).toNatClampNeg) (xs (i + 2).toNatClampNeg)) fun v σ1 ⟨r, e, q⟩ => ⟨r, e, Cz.mono q fun v2 σ2 ⟨e2, q2⟩ => ⟨e2, hJ σ2 q2⟩⟩)
  by_cases c65 : (xs i.toNatClampNeg &&& 127) = 65
  · refine x_tableIn (tgt := 2829) d_L_33 (by rw [c65]; decide) (by rw [c65]; decide) (by rw [c65]; rfl) (by decide) ?_
    exact L_65 (hv 1 (by decide) (by decide)) (Cz.mono (h65 (xs (i + 1).toNatClampNeg)) fun v σ1 ⟨r, e, q⟩ => ⟨r, e, Cz.mono q fun v2 σ2 ⟨e2, q2⟩ => ⟨e2, hJ σ2 q2⟩⟩)
  by_cases c66 : (xs i.toNatClampNeg &&& 127) = 66
  · refine x_tableIn (tgt := 2852) d_L_33 (by rw [c66]; decide) (by rw [c66]; decide) (by rw [c66]; rfl) (by decide) ?_
    exact L_66 (hv 1 (by decide) (by decide)) (hv 2 (by decide) (by decide)) (Cz.mono (h66 (xs (i + 1).toNatClampNeg) (xs (i + 2).toNatClampNeg)) fun v σ1 ⟨r, e, q⟩ => ⟨r, e, Cz.mono q fun v2 σ2 ⟨e2, q2⟩ => ⟨e2, hJ σ2 q2⟩⟩)
  by_cases c67 : (xs i.toNatClampNeg &&& 127) = 67
  · refine x_tableIn (tgt := 2885) d_L_33 (by rw [c67]; decide) (by rw [c67]; decide) (by rw [c67]; rfl) (by decide) ?_
    exact L_67 (hv 1 (by decide) (by decide)) (Cz.mono (h67 (xs (i + 1).toNatClampNeg)) fun v σ1 ⟨r, e, q⟩ => ⟨r, e, Cz.mono q fun v2 σ2 ⟨e2, q2⟩ => ⟨e2, hJ σ2 q2⟩⟩)
  by_cases c68 : (xs i.toNatClampNeg &&& 127) = 68
  · refine x_tableIn (tgt := 2908) d_L_33 (by rw [c68]; decide) (by rw [c68]; decide) (by rw [c68]; rfl) (by decide) ?_
    exact L_68 (hv 1 (by decide) (by decide)) (hv 2 (by decide) (by decide)) (hv 3 (by decide) (by decide)) (Cz.mono (h68 (xs (i + 1).toNatClampNeg) ((j_lshl (Int32.toInt64 (xs (i + 2).toNatClampNeg)) 32) ||| ((Int32.toInt64 (xs (i + 3).toNatClampNeg)) &&& 4294967295))) fun v σ1 ⟨r, e, q⟩ => ⟨r, e, Cz.mono q fun v2 σ2 ⟨e2, q2⟩ => ⟨e2, hJ σ2 q2⟩⟩)
  by_cases c69 : (xs i.toNatClampNeg &&& 127) = 69
  · refine x_tableIn (tgt := 2971) d_L_33 (by rw [c69]; decide) (by rw [c69]; decide) (by rw [c69]; rfl) (by decide) ?_
    exact L_69 (hv 1 (by decide) (by decide)) (hv 2 (by decide) (by decide)) (hv 3 (by decide) (by decide)) (Cz.mono (h69 (xs (i + 1).toNatClampNeg) ((j_lshl (Int32.toInt64 (xs (i + 2).toNatClampNeg)) 32) ||| ((Int32.toInt64 (xs (i + 3).toNatClampNeg)) &&& 4294967295))) fun v σ1 ⟨r, e, q⟩ => ⟨r, e, Cz.mono q fun v2 σ2 ⟨e2, q2⟩ => ⟨e2, hJ σ2 q2⟩⟩)
  by_cases c70 : (xs i.toNatClampNeg &&& 127) = 70
  · refine x_tableIn (tgt := 3034) d_L_33 (by rw [c70]; decide) (by rw [c70]; decide) (by rw [c70]; rfl) (by decide) ?_
    exact L_70 (hv 1 (by decide) (by decide)) (hv 2 (by decide) (by decide)) (Cz.mono (h70 (xs (i + 1).toNatClampNeg) (xs (i + 2).toNatClampNeg)) fun v σ1 ⟨r, e, q⟩ => ⟨r, e, Cz.mono q fun v2 σ2 ⟨e2, q2⟩ => ⟨e2, hJ σ2 q2⟩⟩)
  by_cases c71 : (xs i.toNatClampNeg &&& 127) = 71
  · refine x_tableIn (tgt := 3067) d_L_33 (by rw [c71]; decide) (by rw [c71]; decide) (by rw [c71]; rfl) (by decide) ?_
    exact L_71 (hv 1 (by decide) (by decide)) (hv 2 (by decide) (by decide)) (Cz.mono (h71 (xs (i + 1).toNatClampNeg) (xs (i + 2).toNatClampNeg)) fun v σ1 ⟨r, e, q⟩ => ⟨r, e, Cz.mono q fun v2 σ2 ⟨e2, q2⟩ => ⟨e2, hJ σ2 q2⟩⟩)
  by_cases c72 : (xs i.toNatClampNeg &&& 127) = 72
  · refine x_tableIn (tgt := 3100) d_L_33 (by rw [c72]; decide) (by rw [c72]; decide) (by rw [c72]; rfl) (by decide) ?_
    exact L_72 (hv 1 (by decide) (by decide)) (Cz.mono (h72 (xs (i + 1).toNatClampNeg)) fun v σ1 ⟨r, e, q⟩ => ⟨r, e, Cz.mono q fun v2 σ2 ⟨e2, q2⟩ => ⟨e2, hJ σ2 q2⟩⟩)
  by_cases c73 : (xs i.toNatClampNeg &&& 127) = 73
  · refine x_tableIn (tgt := 3123) d_L_33 (by rw [c73]; decide) (by rw [c73]; decide) (by rw [c73]; rfl) (by decide) ?_
    exact L_73 (hv 1 (by decide) (by decide)) (Cz.mono (h73 (xs (i + 1).toNatClampNeg)) fun v σ1 ⟨r, e, q⟩ => ⟨r, e, Cz.mono q fun v2 σ2 ⟨e2, q2⟩ => ⟨e2, hJ σ2 q2⟩⟩)
  by_cases c74 : (xs i.toNatClampNeg &&& 127) = 74
  · refine x_tableIn (tgt := 3146) d_L_33 (by rw [c74]; decide) (by rw [c74]; decide) (by rw [c74]; rfl) (by decide) ?_
    exact L_74 (hv 1 (by decide) (by decide)) (hv 2 (by decide) (by decide)) (hv 3 (by decide) (by decide)) (hv 4 (by decide) (by decide)) (Cz.mono (h74 (xs (i + 1).toNatClampNeg) (xs (i + 2).toNatClampNeg) (xs (i + 3).toNatClampNeg) (xs (i + 4).toNatClampNeg)) fun v σ1 ⟨r, e, q⟩ => ⟨r, e, Cz.mono q fun v2 σ2 ⟨e2, q2⟩ => ⟨e2, hJ σ2 q2⟩⟩)
  by_cases c75 : (xs i.toNatClampNeg &&& 127) = 75
  · refine x_tableIn (tgt := 3199) d_L_33 (by rw [c75]; decide) (by rw [c75]; decide) (by rw [c75]; rfl) (by decide) ?_
    exact L_75 (hv 1 (by decide) (by decide)) (hv 2 (by decide) (by decide)) (Cz.mono (h75 (xs (i + 1).toNatClampNeg) (xs (i + 2).toNatClampNeg)) fun v σ1 ⟨r, e, q⟩ => ⟨r, e, Cz.mono q fun v2 σ2 ⟨e2, q2⟩ => ⟨e2, hJ σ2 q2⟩⟩)
  by_cases c76 : (xs i.toNatClampNeg &&& 127) = 76
  · refine x_tableIn (tgt := 3232) d_L_33 (by rw [c76]; decide) (by rw [c76]; decide) (by rw [c76]; rfl) (by decide) ?_
    exact L_76 (hv 1 (by decide) (by decide)) (Cz.mono (h76 (xs (i + 1).toNatClampNeg)) fun v σ1 ⟨r, e, q⟩ => ⟨r, e, Cz.mono q fun v2 σ2 ⟨e2, q2⟩ => ⟨e2, hJ σ2 q2⟩⟩)
  by_cases c77 : (xs i.toNatClampNeg &&& 127) = 77
  · refine x_tableIn (tgt := 3255) d_L_33 (by rw [c77]; decide) (by rw [c77]; decide) (by rw [c77]; rfl) (by decide) ?_
    exact L_77 (hv 1 (by decide) (by decide)) (hv 2 (by decide) (by decide)) (Cz.mono (h77 (xs (i + 1).toNatClampNeg) (xs (i + 2).toNatClampNeg)) fun v σ1 ⟨r, e, q⟩ => ⟨r, e, Cz.mono q fun v2 σ2 ⟨e2, q2⟩ => ⟨e2, hJ σ2 q2⟩⟩)
  by_cases c78 : (xs i.toNatClampNeg &&& 127) = 78
  · refine x_tableIn (tgt := 3288) d_L_33 (by rw [c78]; decide) (by rw [c78]; decide) (by rw [c78]; rfl) (by decide) ?_
    exact L_78  (Cz.mono (h78 ) fun v σ1 ⟨r, e, q⟩ => ⟨r, e, Cz.mono q fun v2 σ2 ⟨e2, q2⟩ => ⟨e2, hJ σ2 q2⟩⟩)
  by_cases c79 : (xs i.toNatClampNeg &&& 127) = 79
  · refine x_tableIn (tgt := 3301) d_L_33 (by rw [c79]; decide) (by rw [c79]; decide) (by rw [c79]; rfl) (by decide) ?_
    exact L_79 (hv 1 (by decide) (by decide)) (hv 2 (by decide) (by decide)) (Cz.mono (h79 (xs (i + 1).toNatClampNeg) (xs (i + 2).toNatClampNeg)) fun v σ1 ⟨r, e, q⟩ => ⟨r, e, Cz.mono q fun v2 σ2 ⟨e2, q2⟩ => ⟨e2, hJ σ2 q2⟩⟩)
  by_cases c80 : (xs i.toNatClampNeg &&& 127) = 80
  · refine x_tableIn (tgt := 3334) d_L_33 (by rw [c80]; decide) (by rw [c80]; decide) (by rw [c80]; rfl) (by decide) ?_
    exact L_80 (hv 1 (by decide) (by decide)) (hv 2 (by decide) (by decide)) (hv 3 (by decide) (by decide)) (Cz.mono (h80 (xs (i + 1).toNatClampNeg) (xs (i + 2).toNatClampNeg) (xs (i + 3).toNatClampNeg)) fun v σ1 ⟨r, e, q⟩ => ⟨r, e, Cz.mono q fun v2 σ2 ⟨e2, q2⟩ => ⟨e2, hJ σ2 q2⟩⟩)
  by_cases c81 : (xs i.toNatClampNeg &&& 127) = 81
  · refine x_tableIn (tgt := 3377) d_L_33 (by rw [c81]; decide) (by rw [c81]; decide) (by rw [c81]; rfl) (by decide) ?_
    exact L_81  (Cz.mono (h81 ) fun v σ1 ⟨r, e, q⟩ => ⟨r, e, Cz.mono q fun v2 σ2 ⟨e2, q2⟩ => ⟨e2, hJ σ2 q2⟩⟩)
  by_cases c82 : (xs i.toNatClampNeg &&& 127) = 82
  · refine x_tableIn (tgt := 3390) d_L_33 (by rw [c82]; decide) (by rw [c82]; decide) (by rw [c82]; rfl) (by decide) ?_
    exact L_82 (hv 1 (by decide) (by decide)) (hv 2 (by decide) (by decide)) (Cz.mono (h82 (xs (i + 1).toNatClampNeg) (xs (i + 2).toNatClampNeg)) fun v σ1 ⟨r, e, q⟩ => ⟨r, e, Cz.mono q fun v2 σ2 ⟨e2, q2⟩ => ⟨e2, hJ σ2 q2⟩⟩)
  by_cases c83 : (xs i.toNatClampNeg &&& 127) = 83
  · refine x_tableIn (tgt := 3423) d_L_33 (by rw [c83]; decide) (by rw [c83]; decide) (by rw [c83]; rfl) (by decide) ?_
    exact L_83 (hv 1 (by decide) (by decide)) (hv 2 (by decide) (by decide)) (hv 3 (by decide) (by decide)) (hv 4 (by decide) (by decide)) (Cz.mono (h83 (xs (i + 1).toNatClampNeg) (xs (i + 2).toNatClampNeg) (xs (i + 3).toNatClampNeg) (xs (i + 4).toNatClampNeg)) fun v σ1 ⟨r, e, q⟩ => ⟨r, e, Cz.mono q fun v2 σ2 ⟨e2, q2⟩ => ⟨e2, hJ σ2 q2⟩⟩)
  refine x_tableOut (tgt := 3476) d_L_33 (j_out fun k hk1 hk2 hx => ?_) (by decide) (hJ σ hJ0)
  have hk : k = 0 ∨ k = 1 ∨ k = 2 ∨ k = 3 ∨ k = 4 ∨ k = 5 ∨ k = 6 ∨ k = 7 ∨ k = 8 ∨ k = 9 ∨ k = 10 ∨ k = 11 ∨ k = 12 ∨ k = 13 ∨ k = 14 ∨ k = 15 ∨ k = 16 ∨ k = 17 ∨ k = 18 ∨ k = 19 ∨ k = 20 ∨ k = 21 ∨ k = 22 ∨ k = 23 ∨ k = 24 ∨ k = 25 ∨ k = 26 ∨ k = 27 ∨ k = 28 ∨ k = 29 ∨ k = 30 ∨ k = 31 ∨ k = 32 ∨ k = 33 ∨ k = 34 ∨ k = 35 ∨ k = 36 ∨ k = 37 ∨ k = 38 ∨ k = 39 ∨ k = 40 ∨ k = 41 ∨ k = 42 ∨ k = 43 ∨ k = 44 ∨ k = 45 ∨ k = 46 ∨ k = 47 ∨ k = 48 ∨ k = 49 ∨ k = 50 ∨ k = 51 ∨ k = 52 ∨ k = 53 ∨ k = 54 ∨ k = 55 ∨ k = 56 ∨ k = 57 ∨ k = 58 ∨ k = 59 ∨ k = 60 ∨ k = 61 ∨ k = 62 ∨ k = 63 ∨ k = 64 ∨ k = 65 ∨ k = 66 ∨ k = 67 ∨ k = 68 ∨ k = 69 ∨ k = 70 ∨ k = 71 ∨ k = 72 ∨ k = 73 ∨ k = 74 ∨ k = 75 ∨ k = 76 ∨ k = 77 ∨ k = 78 ∨ k = 79 ∨ k = 80 ∨ k = 81 ∨ k = 82 ∨ k = 83 := by omega
  rcases hk with rfl | rfl | rfl | rfl | rfl | rfl | rfl | rfl | rfl | rfl | rfl | rfl | rfl | rfl | rfl | rfl | rfl | rfl | rfl | rfl | rfl | rfl | rfl | rfl | rfl | rfl | rfl | rfl | rfl | rfl | rfl | rfl | rfl | rfl | rfl | rfl | rfl | rfl | rfl | rfl | rfl | rfl | rfl | rfl | rfl | rfl | rfl | rfl | rfl | rfl | rfl | rfl | rfl | rfl | rfl | rfl | rfl | rfl | rfl | rfl | rfl | rfl | rfl | rfl | rfl | rfl | rfl | rfl | rfl | rfl | rfl | rfl | rfl | rfl | rfl | rfl | rfl | rfl | rfl | rfl | rfl | rfl | rfl | rfl
  · exact c0 (j_eq hx)
  · exact c1 (j_eq hx)
  · exact c2 (j_eq hx)
  · exact c3 (j_eq hx)
  · exact c4 (j_eq hx)
  · exact c5 (j_eq hx)
  · exact c6 (j_eq hx)
  · exact c7 (j_eq hx)
  · exact c8 (j_eq hx)
  · exact c9 (j_eq hx)
  · exact c10 (j_eq hx)
  · exact c11 (j_eq hx)
  · exact c12 (j_eq hx)
  · exact c13 (j_eq hx)
  · exact c14 (j_eq hx)
  · exact c15 (j_eq hx)
  · exact c16 (j_eq hx)
  · exact c17 (j_eq hx)
  · exact c18 (j_eq hx)
  · exact c19 (j_eq hx)
  · exact c20 (j_eq hx)
  · exact c21 (j_eq hx)
  · exact c22 (j_eq hx)
  · exact c23 (j_eq hx)
  · exact c24 (j_eq hx)
  · exact c25 (j_eq hx)
  · exact c26 (j_eq hx)
  · exact c27 (j_eq hx)
  · exact c28 (j_eq hx)
  · exact c29 (j_eq hx)
  · exact c30 (j_eq hx)
  · exact c31 (j_eq hx)
  · exact c32 (j_eq hx)
  · exact c33 (j_eq hx)
  · exact c34 (j_eq hx)
  · exact c35 (j_eq hx)
  · exact c36 (j_eq hx)
  · exact c37 (j_eq hx)
  · exact c38 (j_eq hx)
  · exact c39 (j_eq hx)
  · exact c40 (j_eq hx)
  · exact c41 (j_eq hx)
  · exact c42 (j_eq hx)
  · exact c43 (j_eq hx)
  · exact c44 (j_eq hx)
  · exact c45 (j_eq hx)
  · exact c46 (j_eq hx)
  · exact c47 (j_eq hx)
  · exact c48 (j_eq hx)
  · exact c49 (j_eq hx)
  · exact c50 (j_eq hx)
  · exact c51 (j_eq hx)
  · exact c52 (j_eq hx)
  · exact c53 (j_eq hx)
  · exact c54 (j_eq hx)
  · exact c55 (j_eq hx)
  · exact c56 (j_eq hx)
  · exact c57 (j_eq hx)
  · exact c58 (j_eq hx)
  · exact c59 (j_eq hx)
  · exact c60 (j_eq hx)
  · exact c61 (j_eq hx)
  · exact c62 (j_eq hx)
  · exact c63 (j_eq hx)
  · exact c64 (j_eq hx)
  · exact c65 (j_eq hx)
  · exact c66 (j_eq hx)
  · exact c67 (j_eq hx)
  · exact c68 (j_eq hx)
  · exact c69 (j_eq hx)
  · exact c70 (j_eq hx)
  · exact c71 (j_eq hx)
  · exact c72 (j_eq hx)
  · exact c73 (j_eq hx)
  · exact c74 (j_eq hx)
  · exact c75 (j_eq hx)
  · exact c76 (j_eq hx)
  · exact c77 (j_eq hx)
  · exact c78 (j_eq hx)
  · exact c79 (j_eq hx)
  · exact c80 (j_eq hx)
  · exact c81 (j_eq hx)
  · exact c82 (j_eq hx)
  · exact c83 (j_eq hx)
