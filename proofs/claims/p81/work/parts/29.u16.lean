section
theorem fxe_10_11 : FxE "RightsHouse$Things" 11 7 1 := fx_e (m := 25) (t := 3) rfl (by decide) (by decide +kernel)
theorem fxe_10_18 : FxE "RightsHouse$Things" 18 7 3 := fx_e (m := 25) (t := 3) rfl (by decide) (by decide +kernel)
theorem fxe_10_28 : FxE "RightsHouse$Things" 28 7 6 := fx_e (m := 25) (t := 3) rfl (by decide) (by decide +kernel)
theorem fxe_5_121 : FxE "RightsHouse$Judge" 121 7 2 := fx_e (m := 113) (t := 3) rfl (by decide) (by decide +kernel)
theorem fxe_5_15 : FxE "RightsHouse$Judge" 15 3 1 := fx_e (m := 113) (t := 3) rfl (by decide) (by decide +kernel)
theorem fxe_5_54 : FxE "RightsHouse$Judge" 54 3 4 := fx_e (m := 113) (t := 0) rfl (by decide) (by decide +kernel)
theorem fxe_5_92 : FxE "RightsHouse$Judge" 92 5 3 := fx_e (m := 113) (t := 3) rfl (by decide) (by decide +kernel)
theorem kaa_11 : KaA 11 100 40 := ka_a (by decide +kernel)
theorem kaa_12 : KaA 12 100 40 := ka_a (by decide +kernel)
theorem kaa_13 : KaA 13 102 40 := ka_a (by decide +kernel)
theorem kaa_16 : KaA 16 100 6 := ka_a (by decide +kernel)
theorem kaa_20 : KaA 20 100 2160 := ka_a (by decide +kernel)
theorem kfa_10_0 : KfA 10 0 7 0 0 := kf_a (by decide) (by decide +kernel)
theorem kfa_10_1 : KfA 10 1 7 2 11 := kf_a (by decide) (by decide +kernel)
theorem kfa_10_2 : KfA 10 2 7 2 12 := kf_a (by decide) (by decide +kernel)
theorem kfa_10_3 : KfA 10 3 7 2 13 := kf_a (by decide) (by decide +kernel)
theorem kfa_10_6 : KfA 10 6 7 2 16 := kf_a (by decide) (by decide +kernel)
theorem kfa_17_3 : KfA 17 3 5 2 20 := kf_a (by decide) (by decide +kernel)
theorem kfa_27_1 : KfA 27 1 3 2 10 := kf_a (by decide) (by decide +kernel)
theorem kfa_27_4 : KfA 27 4 3 0 0 := kf_a (by decide) (by decide +kernel)
theorem run_Th_actHolds {E : xV} {σ : zS} {K : zKt} {x y : Int32} {n : Nat} (hx : x.toInt = (n : Int)) (hn : n < 6) (k : ∀ v : Int32, (v = 1 ∧ btC (σ.1 16 n) y) ∨ (v = 0 ∧ ¬ btC (σ.1 16 n) y) → K (some (.int v)) σ) : Wz E Y_Th_actHolds 0 [(0, .ref 10), (1, .int x), (2, .int y)] [] σ K := by
  refine z_aload_n (f := 0) (i := 0) (q := 0) (pc' := 1) ⟨by decide +kernel, rfl⟩ rfl rfl ?_
  refine w_getr (k := 10) (j := 6) (idx := 28) (pc' := 4) fxe_10_28 kfa_10_6 ⟨by decide +kernel, rfl⟩ ?_
  refine z_iload_n (f := 1) (i := 1) (q := 1) (pc' := 5) ⟨by decide +kernel, rfl⟩ rfl rfl ?_
  refine w_iald (k := 16) (n := n) (pc' := 6) kaa_16 (hx) (hn) ⟨by decide +kernel, rfl⟩ ?_
  refine z_iload_n (f := 2) (i := 2) (q := 2) (pc' := 7) ⟨by decide +kernel, rfl⟩ rfl rfl ?_
  refine z_ishr (pc' := 8) ⟨by decide +kernel, rfl⟩ ?_
  refine z_iconst (i := 1) (v := 1) (pc' := 9) ⟨by decide +kernel, rfl⟩ (by decide) ?_
  refine z_iand (pc' := 10) ⟨by decide +kernel, rfl⟩ ?_
  refine z_iconst (i := 1) (v := 1) (pc' := 11) ⟨by decide +kernel, rfl⟩ (by decide) ?_
  refine z_icmp_ne (off := 7) (tgt := 18) (pc' := 14) ⟨by decide +kernel, by decide, rfl⟩ (fun h1 => ?_) (fun h1 => ?_)
  · refine z_iconst (i := 0) (v := 0) (pc' := 19) ⟨by decide +kernel, rfl⟩ (by decide) ?_
    refine z_iret (ty := .boolean) rfl rfl (by decide +kernel) ?_
    have z0L : (0 : Int64).toInt = 0 := by decide
    have z1 : (1 : Int32).toInt = 1 := by decide
    have gh1 := j_ne_t h1
    exact k _ (Or.inr ⟨rfl, h1⟩)
  · refine z_iconst (i := 1) (v := 1) (pc' := 15) ⟨by decide +kernel, rfl⟩ (by decide) ?_
    refine z_goto (off := 4) (tgt := 19) (pc' := 18) ⟨by decide +kernel, by decide, rfl⟩ ?_
    refine z_iret (ty := .boolean) rfl rfl (by decide +kernel) ?_
    have z0L : (0 : Int64).toInt = 0 := by decide
    have z1 : (1 : Int32).toInt = 1 := by decide
    have gh1 := j_ne_f h1
    exact k _ (Or.inl ⟨rfl, h1⟩)
theorem cz_Th_actHolds {E : xV} {σ : zS} {K : zKt} {x y : Int32} {n : Nat} (hx : x.toInt = (n : Int)) (hn : n < 6) (k : ∀ v : Int32, (v = 1 ∧ btC (σ.1 16 n) y) ∨ (v = 0 ∧ ¬ btC (σ.1 16 n) y) → K (some (.int v)) σ) : Cz E Y_Th_actHolds [.ref 10, .int x, .int y] σ K := z_entry (by decide) (fun a => by rw [sl_len]; exact Nat.le_of_ble_eq_true rfl) rfl (run_Th_actHolds hx hn k)
theorem run_Th_isUnder_l {E : xV} {σ : zS} {K : zKt} {t ot : Int32} (hp : PlC σ) : ∀ (j : Nat) {i x : Int32} {n : Nat}, i.toInt = (n : Int) → n + j = 40 → (x.toInt = -4 ∨ (0 ≤ x.toInt ∧ x.toInt ≤ 39)) → (∀ v : Int32, (v = 1 ∧ unC σ j x.toInt ot.toInt) ∨ (v = 0 ∧ ¬ unC σ j x.toInt ot.toInt) → K (some (.int v)) σ) → Wz E Y_Th_isUnder 5 [(4, .int i), (3, .int x), (0, .ref 10), (1, .int t), (2, .int ot)] [] σ K
  | 0, i, x, n, hi, hj, hx, k => by
    refine z_iload (i := 4) (q := 0) (pc' := 7) ⟨by decide +kernel, rfl⟩ rfl ?_
    refine z_bipush (i := 40) (v := 40) (pc' := 9) ⟨by decide +kernel, rfl⟩ (by decide) ?_
    refine z_icmp_ge (off := 40) (tgt := 49) (pc' := 12) ⟨by decide +kernel, by decide, rfl⟩ (fun h1 => ?_) (fun h1 => ?_)
    · refine z_iconst (i := 0) (v := 0) (pc' := 50) ⟨by decide +kernel, rfl⟩ (by decide) ?_
      refine z_iret (ty := .boolean) rfl rfl (by decide +kernel) ?_
      have z0L : (0 : Int64).toInt = 0 := by decide
      have z40 : (40 : Int32).toInt = 40 := by decide
      have gh1 := j_ge_t h1
      exact k _ (Or.inr ⟨rfl, fun q => q⟩)
    · have z0L : (0 : Int64).toInt = 0 := by decide
      have z40 : (40 : Int32).toInt = 40 := by decide
      have gh1 := j_ge_f h1
      exfalso
      omega
  | j + 1, i, x, n, hi, hj, hx, k => by
    have ih := @run_Th_isUnder_l E σ K t ot hp j
    refine z_iload (i := 4) (q := 0) (pc' := 7) ⟨by decide +kernel, rfl⟩ rfl ?_
    refine z_bipush (i := 40) (v := 40) (pc' := 9) ⟨by decide +kernel, rfl⟩ (by decide) ?_
    refine z_icmp_ge (off := 40) (tgt := 49) (pc' := 12) ⟨by decide +kernel, by decide, rfl⟩ (fun h1 => ?_) (fun h1 => ?_)
    · refine z_iconst (i := 0) (v := 0) (pc' := 50) ⟨by decide +kernel, rfl⟩ (by decide) ?_
      refine z_iret (ty := .boolean) rfl rfl (by decide +kernel) ?_
      have z0L : (0 : Int64).toInt = 0 := by decide
      have z40 : (40 : Int32).toInt = 40 := by decide
      have gh1 := j_ge_t h1
      exfalso
      omega
    · refine z_iload_n (f := 3) (i := 3) (q := 1) (pc' := 13) ⟨by decide +kernel, rfl⟩ rfl rfl ?_
      refine z_bipush (i := (-4)) (v := (-4)) (pc' := 15) ⟨by decide +kernel, rfl⟩ (by decide) ?_
      refine z_icmp_eq (off := 34) (tgt := 49) (pc' := 18) ⟨by decide +kernel, by decide, rfl⟩ (fun h2 => ?_) (fun h2 => ?_)
      · refine z_iconst (i := 0) (v := 0) (pc' := 50) ⟨by decide +kernel, rfl⟩ (by decide) ?_
        refine z_iret (ty := .boolean) rfl rfl (by decide +kernel) ?_
        have z0L : (0 : Int64).toInt = 0 := by decide
        have z__4_ : ((-4) : Int32).toInt = (-4) := by decide
        have z40 : (40 : Int32).toInt = 40 := by decide
        have gh1 := j_ge_f h1
        have gh2 := j_eq_t h2
        exact k _ (Or.inr ⟨rfl, un_4 (by omega)⟩)
      · refine z_iload_n (f := 3) (i := 3) (q := 1) (pc' := 19) ⟨by decide +kernel, rfl⟩ rfl rfl ?_
        refine z_iload_n (f := 2) (i := 2) (q := 4) (pc' := 20) ⟨by decide +kernel, rfl⟩ rfl rfl ?_
        refine z_icmp_ne (off := 5) (tgt := 25) (pc' := 23) ⟨by decide +kernel, by decide, rfl⟩ (fun h3 => ?_) (fun h3 => ?_)
        · refine z_aload_n (f := 0) (i := 0) (q := 2) (pc' := 26) ⟨by decide +kernel, rfl⟩ rfl rfl ?_
          refine w_getr (k := 10) (j := 3) (idx := 18) (pc' := 29) fxe_10_18 kfa_10_3 ⟨by decide +kernel, rfl⟩ ?_
          refine z_iload_n (f := 3) (i := 3) (q := 1) (pc' := 30) ⟨by decide +kernel, rfl⟩ rfl rfl ?_
          refine w_zald (k := 13) (n := x.toInt.toNat) (pc' := 31) kaa_13 (by have q := j_eq_f h2; have z4 : (-4 : Int32).toInt = -4 := (by decide); omega) (by omega) ⟨by decide +kernel, rfl⟩ ?_
          refine z_if_eq (off := 5) (tgt := 36) (pc' := 34) ⟨by decide +kernel, by decide, rfl⟩ (fun h4 => ?_) (fun h4 => ?_)
          · refine z_aload_n (f := 0) (i := 0) (q := 2) (pc' := 37) ⟨by decide +kernel, rfl⟩ rfl rfl ?_
            refine w_getr (k := 10) (j := 1) (idx := 11) (pc' := 40) fxe_10_11 kfa_10_1 ⟨by decide +kernel, rfl⟩ ?_
            refine z_iload_n (f := 3) (i := 3) (q := 1) (pc' := 41) ⟨by decide +kernel, rfl⟩ rfl rfl ?_
            refine w_iald (k := 11) (n := x.toInt.toNat) (pc' := 42) kaa_11 (by have q := j_eq_f h2; have z4 : (-4 : Int32).toInt = -4 := (by decide); omega) (by omega) ⟨by decide +kernel, rfl⟩ ?_
            refine z_istore_n (f := 3) (i := 3) (pc' := 43) ⟨by decide +kernel, rfl⟩ rfl (by decide) rfl ?_
            show Wz E Y_Th_isUnder 43 [(3, .int (σ.1 11 x.toInt.toNat)), (4, .int i), (0, .ref 10), (1, .int t), (2, .int ot)] [] σ K
            refine z_iinc (i := 4) (z := 1) (q := 1) (pc' := 46) ⟨by decide +kernel, rfl⟩ rfl rfl (by decide) rfl ?_
            show Wz E Y_Th_isUnder 46 [(4, .int (i + Int32.ofInt 1)), (3, .int (σ.1 11 x.toInt.toNat)), (0, .ref 10), (1, .int t), (2, .int ot)] [] σ K
            refine z_goto (off := (-41)) (tgt := 5) (pc' := 49) ⟨by decide +kernel, by decide, rfl⟩ ?_
            have z0L : (0 : Int64).toInt = 0 := by decide
            have z__4_ : ((-4) : Int32).toInt = (-4) := by decide
            have z0 : (0 : Int32).toInt = 0 := by decide
            have z40 : (40 : Int32).toInt = 40 := by decide
            have gh1 := j_ge_f h1
            have gh2 := j_eq_f h2
            have gh3 := j_ne_t h3
            have gh4 := j_eq_t (y := 0) h4
            have e1 : (Int32.ofInt 1).toInt = 1 := by decide
            have us := un_s (σ := σ) (n := j) (x := x.toInt) (o := ot.toInt) (k := x.toInt.toNat) (by omega) (by omega) (by omega)
            exact ih (n := n + 1) (by rw [i32_add (by rw [e1]; omega), e1]; omega) (by omega) (hp _ (by omega)) (fun v q => k v (by rw [us]; exact q))
          · refine z_iconst (i := 0) (v := 0) (pc' := 35) ⟨by decide +kernel, rfl⟩ (by decide) ?_
            refine z_iret (ty := .boolean) rfl rfl (by decide +kernel) ?_
            have z0L : (0 : Int64).toInt = 0 := by decide
            have z__4_ : ((-4) : Int32).toInt = (-4) := by decide
            have z0 : (0 : Int32).toInt = 0 := by decide
            have z40 : (40 : Int32).toInt = 40 := by decide
            have gh1 := j_ge_f h1
            have gh2 := j_eq_f h2
            have gh3 := j_ne_t h3
            have gh4 := j_eq_f (y := 0) h4
            exact k _ (Or.inr ⟨rfl, un_c (k := x.toInt.toNat) (by omega) (by omega) (by omega)⟩)
        · refine z_iconst (i := 1) (v := 1) (pc' := 24) ⟨by decide +kernel, rfl⟩ (by decide) ?_
          refine z_iret (ty := .boolean) rfl rfl (by decide +kernel) ?_
          have z0L : (0 : Int64).toInt = 0 := by decide
          have z__4_ : ((-4) : Int32).toInt = (-4) := by decide
          have z40 : (40 : Int32).toInt = 40 := by decide
          have gh1 := j_ge_f h1
          have gh2 := j_eq_f h2
          have gh3 := j_ne_f h3
          exact k _ (Or.inl ⟨rfl, un_y (by omega) (by omega)⟩)
theorem run_Th_isUnder {E : xV} {σ : zS} {K : zKt} {t ot : Int32} (hp : PlC σ) (ht : 0 ≤ t.toInt ∧ t.toInt ≤ 39) (k : ∀ v : Int32, (v = 1 ∧ unC σ 40 t.toInt ot.toInt) ∨ (v = 0 ∧ ¬ unC σ 40 t.toInt ot.toInt) → K (some (.int v)) σ) : Wz E Y_Th_isUnder 0 [(0, .ref 10), (1, .int t), (2, .int ot)] [] σ K := by
  refine z_iload_n (f := 1) (i := 1) (q := 1) (pc' := 1) ⟨by decide +kernel, rfl⟩ rfl rfl ?_
  refine z_istore_n (f := 3) (i := 3) (pc' := 2) ⟨by decide +kernel, rfl⟩ rfl (by decide) rfl ?_
  show Wz E Y_Th_isUnder 2 [(3, .int t), (0, .ref 10), (1, .int t), (2, .int ot)] [] σ K
  refine z_iconst (i := 0) (v := 0) (pc' := 3) ⟨by decide +kernel, rfl⟩ (by decide) ?_
  refine z_istore (i := 4) (pc' := 5) ⟨by decide +kernel, rfl⟩ (by decide) rfl ?_
  show Wz E Y_Th_isUnder 5 [(4, .int 0), (3, .int t), (0, .ref 10), (1, .int t), (2, .int ot)] [] σ K
  have z0L : (0 : Int64).toInt = 0 := by decide
  exact run_Th_isUnder_l hp 40 (n := 0) (by decide) (by omega) (Or.inr ht) k
theorem cz_Th_isUnder {E : xV} {σ : zS} {K : zKt} {t ot : Int32} (hp : PlC σ) (ht : 0 ≤ t.toInt ∧ t.toInt ≤ 39) (k : ∀ v : Int32, (v = 1 ∧ unC σ 40 t.toInt ot.toInt) ∨ (v = 0 ∧ ¬ unC σ 40 t.toInt ot.toInt) → K (some (.int v)) σ) : Cz E Y_Th_isUnder [.ref 10, .int t, .int ot] σ K := z_entry (by decide) (fun a => by rw [sl_len]; exact Nat.le_of_ble_eq_true rfl) rfl (run_Th_isUnder hp ht k)
theorem run_Th_depthOf_l {E : xV} {σ : zS} {K : zKt} {t : Int32} (hp : PlC σ) : ∀ (j : Nat) {i x d : Int32} {n : Nat}, i.toInt = (n : Int) → n + j = 40 → (0 ≤ d.toInt ∧ d.toInt ≤ n) → (x.toInt = -4 ∨ (0 ≤ x.toInt ∧ x.toInt ≤ 39)) → (∀ v : Int32, v.toInt = d.toInt + ((dpC σ j x.toInt : Nat) : Int) → K (some (.int v)) σ) → Wz E Y_Th_depthOf 12 [(4, .int i), (3, .int x), (2, .int d), (0, .ref 10), (1, .int t)] [] σ K
  | 0, i, x, d, n, hi, hj, hd, hx, k => by
    refine z_iload (i := 4) (q := 0) (pc' := 14) ⟨by decide +kernel, rfl⟩ rfl ?_
    refine z_bipush (i := 40) (v := 40) (pc' := 16) ⟨by decide +kernel, rfl⟩ (by decide) ?_
    refine z_icmp_ge (off := 25) (tgt := 41) (pc' := 19) ⟨by decide +kernel, by decide, rfl⟩ (fun h1 => ?_) (fun h1 => ?_)
    · refine z_iload_n (f := 2) (i := 2) (q := 2) (pc' := 42) ⟨by decide +kernel, rfl⟩ rfl rfl ?_
      refine z_iret (ty := .int) rfl rfl (by decide +kernel) ?_
      have z0L : (0 : Int64).toInt = 0 := by decide
      have z40 : (40 : Int32).toInt = 40 := by decide
      have gh1 := j_ge_t h1
      exact k _ (by show _ = d.toInt + ((0 : Nat) : Int); omega)
    · have z0L : (0 : Int64).toInt = 0 := by decide
      have z40 : (40 : Int32).toInt = 40 := by decide
      have gh1 := j_ge_f h1
      exfalso
      omega
  | j + 1, i, x, d, n, hi, hj, hd, hx, k => by
    have ih := @run_Th_depthOf_l E σ K t hp j
    refine z_iload (i := 4) (q := 0) (pc' := 14) ⟨by decide +kernel, rfl⟩ rfl ?_
    refine z_bipush (i := 40) (v := 40) (pc' := 16) ⟨by decide +kernel, rfl⟩ (by decide) ?_
    refine z_icmp_ge (off := 25) (tgt := 41) (pc' := 19) ⟨by decide +kernel, by decide, rfl⟩ (fun h1 => ?_) (fun h1 => ?_)
    · refine z_iload_n (f := 2) (i := 2) (q := 2) (pc' := 42) ⟨by decide +kernel, rfl⟩ rfl rfl ?_
      refine z_iret (ty := .int) rfl rfl (by decide +kernel) ?_
      have z0L : (0 : Int64).toInt = 0 := by decide
      have z40 : (40 : Int32).toInt = 40 := by decide
      have gh1 := j_ge_t h1
      exfalso
      omega
    · refine z_iload_n (f := 3) (i := 3) (q := 1) (pc' := 20) ⟨by decide +kernel, rfl⟩ rfl rfl ?_
      refine z_bipush (i := (-4)) (v := (-4)) (pc' := 22) ⟨by decide +kernel, rfl⟩ (by decide) ?_
      refine z_icmp_eq (off := 19) (tgt := 41) (pc' := 25) ⟨by decide +kernel, by decide, rfl⟩ (fun h2 => ?_) (fun h2 => ?_)
      · refine z_iload_n (f := 2) (i := 2) (q := 2) (pc' := 42) ⟨by decide +kernel, rfl⟩ rfl rfl ?_
        refine z_iret (ty := .int) rfl rfl (by decide +kernel) ?_
        have z0L : (0 : Int64).toInt = 0 := by decide
        have z__4_ : ((-4) : Int32).toInt = (-4) := by decide
        have z40 : (40 : Int32).toInt = 40 := by decide
        have gh1 := j_ge_f h1
        have gh2 := j_eq_t h2
        exact k _ (by rw [dp_4 (by omega)]; omega)
      · refine z_iinc (i := 2) (z := 1) (q := 2) (pc' := 28) ⟨by decide +kernel, rfl⟩ rfl rfl (by decide) rfl ?_
        show Wz E Y_Th_depthOf 28 [(2, .int (d + Int32.ofInt 1)), (4, .int i), (3, .int x), (0, .ref 10), (1, .int t)] [] σ K
        refine z_aload_n (f := 0) (i := 0) (q := 3) (pc' := 29) ⟨by decide +kernel, rfl⟩ rfl rfl ?_
        refine w_getr (k := 10) (j := 1) (idx := 11) (pc' := 32) fxe_10_11 kfa_10_1 ⟨by decide +kernel, rfl⟩ ?_
        refine z_iload_n (f := 3) (i := 3) (q := 2) (pc' := 33) ⟨by decide +kernel, rfl⟩ rfl rfl ?_
        refine w_iald (k := 11) (n := x.toInt.toNat) (pc' := 34) kaa_11 (by have q := j_eq_f h2; have z4 : (-4 : Int32).toInt = -4 := (by decide); omega) (by omega) ⟨by decide +kernel, rfl⟩ ?_
        refine z_istore_n (f := 3) (i := 3) (pc' := 35) ⟨by decide +kernel, rfl⟩ rfl (by decide) rfl ?_
        show Wz E Y_Th_depthOf 35 [(3, .int (σ.1 11 x.toInt.toNat)), (2, .int (d + Int32.ofInt 1)), (4, .int i), (0, .ref 10), (1, .int t)] [] σ K
        refine z_iinc (i := 4) (z := 1) (q := 2) (pc' := 38) ⟨by decide +kernel, rfl⟩ rfl rfl (by decide) rfl ?_
        show Wz E Y_Th_depthOf 38 [(4, .int (i + Int32.ofInt 1)), (3, .int (σ.1 11 x.toInt.toNat)), (2, .int (d + Int32.ofInt 1)), (0, .ref 10), (1, .int t)] [] σ K
        refine z_goto (off := (-26)) (tgt := 12) (pc' := 41) ⟨by decide +kernel, by decide, rfl⟩ ?_
        have z0L : (0 : Int64).toInt = 0 := by decide
        have z__4_ : ((-4) : Int32).toInt = (-4) := by decide
        have z40 : (40 : Int32).toInt = 40 := by decide
        have gh1 := j_ge_f h1
        have gh2 := j_eq_f h2
        refine z_sub [0, 1, 2, 3, 4] rfl ?_
        have e1 : (Int32.ofInt 1).toInt = 1 := by decide
        have us := dp_s (σ := σ) (n := j) (x := x.toInt) (k := x.toInt.toNat) (by omega)
        have ed : (d + Int32.ofInt 1).toInt = d.toInt + 1 := by rw [i32_add (by rw [e1]; omega), e1]
        exact ih (n := n + 1) (by rw [i32_add (by rw [e1]; omega), e1]; omega) (by omega) (by omega) (hp _ (by omega)) (fun v q => k v (by rw [q, ed, us]; omega))
theorem run_Th_depthOf {E : xV} {σ : zS} {K : zKt} {t : Int32} {n : Nat} (hp : PlC σ) (ht : t.toInt = (n : Int)) (hn : n < 40) (k : ∀ v : Int32, v.toInt = ((dpC σ 40 (σ.1 11 n).toInt : Nat) : Int) → K (some (.int v)) σ) : Wz E Y_Th_depthOf 0 [(0, .ref 10), (1, .int t)] [] σ K := by
  refine z_iconst (i := 0) (v := 0) (pc' := 1) ⟨by decide +kernel, rfl⟩ (by decide) ?_
  refine z_istore_n (f := 2) (i := 2) (pc' := 2) ⟨by decide +kernel, rfl⟩ rfl (by decide) rfl ?_
  show Wz E Y_Th_depthOf 2 [(2, .int 0), (0, .ref 10), (1, .int t)] [] σ K
  refine z_aload_n (f := 0) (i := 0) (q := 1) (pc' := 3) ⟨by decide +kernel, rfl⟩ rfl rfl ?_
  refine w_getr (k := 10) (j := 1) (idx := 11) (pc' := 6) fxe_10_11 kfa_10_1 ⟨by decide +kernel, rfl⟩ ?_
  refine z_iload_n (f := 1) (i := 1) (q := 2) (pc' := 7) ⟨by decide +kernel, rfl⟩ rfl rfl ?_
  refine w_iald (k := 11) (n := n) (pc' := 8) kaa_11 (ht) (hn) ⟨by decide +kernel, rfl⟩ ?_
  refine z_istore_n (f := 3) (i := 3) (pc' := 9) ⟨by decide +kernel, rfl⟩ rfl (by decide) rfl ?_
  show Wz E Y_Th_depthOf 9 [(3, .int (σ.1 11 n)), (2, .int 0), (0, .ref 10), (1, .int t)] [] σ K
  refine z_iconst (i := 0) (v := 0) (pc' := 10) ⟨by decide +kernel, rfl⟩ (by decide) ?_
  refine z_istore (i := 4) (pc' := 12) ⟨by decide +kernel, rfl⟩ (by decide) rfl ?_
  show Wz E Y_Th_depthOf 12 [(4, .int 0), (3, .int (σ.1 11 n)), (2, .int 0), (0, .ref 10), (1, .int t)] [] σ K
  have z0L : (0 : Int64).toInt = 0 := by decide
  exact run_Th_depthOf_l hp 40 (n := 0) (by decide) (by omega) (by decide) (hp n hn) (fun v q => k v (by rw [q]; have z : (0 : Int32).toInt = 0 := (by decide); omega))
theorem cz_Th_depthOf {E : xV} {σ : zS} {K : zKt} {t : Int32} {n : Nat} (hp : PlC σ) (ht : t.toInt = (n : Int)) (hn : n < 40) (k : ∀ v : Int32, v.toInt = ((dpC σ 40 (σ.1 11 n).toInt : Nat) : Int) → K (some (.int v)) σ) : Cz E Y_Th_depthOf [.ref 10, .int t] σ K := z_entry (by decide) (fun a => by rw [sl_len]; exact Nat.le_of_ble_eq_true rfl) rfl (run_Th_depthOf hp ht hn k)
theorem run_Ju_fitsWho {E : xV} {σ : zS} {K : zKt} {at_ : Int32} {a : Nat} (ha : at_.toInt = (a : Int)) (hb : RuB σ a) (k : ∀ v : Int32, (v = 1 ∧ fwC σ a) ∨ (v = 0 ∧ ¬ fwC σ a) → K (some (.int v)) σ) : Wz E Y_Ju_fitsWho 0 [(0, .ref 27), (1, .int at_)] [] σ K := by
  refine z_aload_n (f := 0) (i := 0) (q := 0) (pc' := 1) ⟨by decide +kernel, rfl⟩ rfl rfl ?_
  refine w_getr (k := 27) (j := 2) (idx := 19) (pc' := 4) fxe_5_19 kfa_27_2 ⟨by decide +kernel, rfl⟩ ?_
  refine w_getr (k := 17) (j := 3) (idx := 92) (pc' := 7) fxe_5_92 kfa_17_3 ⟨by decide +kernel, rfl⟩ ?_
  refine z_iload_n (f := 1) (i := 1) (q := 1) (pc' := 8) ⟨by decide +kernel, rfl⟩ rfl rfl ?_
  refine z_iconst (i := 2) (v := 2) (pc' := 9) ⟨by decide +kernel, rfl⟩ (by decide) ?_
  refine z_iadd (pc' := 10) ⟨by decide +kernel, rfl⟩ ?_
  refine w_iald (k := 20) (n := (a + 2)) (pc' := 11) kaa_20 (at_c ha (by decide) (by have := hb.1; omega)) (by have := hb.1; omega) ⟨by decide +kernel, rfl⟩ ?_
  refine z_istore_n (f := 2) (i := 2) (pc' := 12) ⟨by decide +kernel, rfl⟩ rfl (by decide) rfl ?_
  show Wz E Y_Ju_fitsWho 12 [(2, .int (σ.1 20 (a + 2))), (0, .ref 27), (1, .int at_)] [] σ K
  refine z_aload_n (f := 0) (i := 0) (q := 1) (pc' := 13) ⟨by decide +kernel, rfl⟩ rfl rfl ?_
  refine w_getr (k := 27) (j := 2) (idx := 19) (pc' := 16) fxe_5_19 kfa_27_2 ⟨by decide +kernel, rfl⟩ ?_
  refine w_getr (k := 17) (j := 3) (idx := 92) (pc' := 19) fxe_5_92 kfa_17_3 ⟨by decide +kernel, rfl⟩ ?_
  refine z_iload_n (f := 1) (i := 1) (q := 2) (pc' := 20) ⟨by decide +kernel, rfl⟩ rfl rfl ?_
  refine z_iconst (i := 1) (v := 1) (pc' := 21) ⟨by decide +kernel, rfl⟩ (by decide) ?_
  refine z_iadd (pc' := 22) ⟨by decide +kernel, rfl⟩ ?_
  refine w_iald (k := 20) (n := (a + 1)) (pc' := 23) kaa_20 (at_c ha (by decide) (by have := hb.1; omega)) (by have := hb.1; omega) ⟨by decide +kernel, rfl⟩ ?_
  by_cases h1 : Int32.toInt (σ.1 20 (a + 1)) = 1
  · refine z_tableIn (dflt := 82) (lo := 1) (hi := 3) (offs := #[64, 39, 25]) (len := 25) (off := 64) (tgt := 87) (by decide +kernel) (by omega) (by omega) (by rw [h1]; rfl) (by decide) ?_
    refine z_aload_n (f := 0) (i := 0) (q := 1) (pc' := 88) ⟨by decide +kernel, rfl⟩ rfl rfl ?_
    refine w_geti (k := 27) (j := 4) (idx := 54) (pc' := 91) fxe_5_54 kfa_27_4 ⟨by decide +kernel, rfl⟩ ?_
    refine z_iload_n (f := 2) (i := 2) (q := 0) (pc' := 92) ⟨by decide +kernel, rfl⟩ rfl rfl ?_
    refine z_ishr (pc' := 93) ⟨by decide +kernel, rfl⟩ ?_
    refine z_iconst (i := 1) (v := 1) (pc' := 94) ⟨by decide +kernel, rfl⟩ (by decide) ?_
    refine z_iand (pc' := 95) ⟨by decide +kernel, rfl⟩ ?_
    refine z_iconst (i := 1) (v := 1) (pc' := 96) ⟨by decide +kernel, rfl⟩ (by decide) ?_
    refine z_icmp_ne (off := 7) (tgt := 103) (pc' := 99) ⟨by decide +kernel, by decide, rfl⟩ (fun h2 => ?_) (fun h2 => ?_)
    · refine z_iconst (i := 0) (v := 0) (pc' := 104) ⟨by decide +kernel, rfl⟩ (by decide) ?_
      refine z_iret (ty := .boolean) rfl rfl (by decide +kernel) ?_
      have z0L : (0 : Int64).toInt = 0 := by decide
      have z1 : (1 : Int32).toInt = 1 := by decide
      have gh2 := j_ne_t h2
      have cf0 : ruC σ a 0 = (σ.1 20 (a + 0)).toInt := rfl
      have cf1 : ruC σ a 1 = (σ.1 20 (a + 1)).toInt := rfl
      have cf2 : ruC σ a 2 = (σ.1 20 (a + 2)).toInt := rfl
      have cf3 : ruC σ a 3 = (σ.1 20 (a + 3)).toInt := rfl
      have cf4 : ruC σ a 4 = (σ.1 20 (a + 4)).toInt := rfl
      have cf5 : ruC σ a 5 = (σ.1 20 (a + 5)).toInt := rfl
      exact k _ (Or.inr ⟨rfl, fun q => (by rcases q with q | q | q | q; omega; omega; exact h2 q.2; omega)⟩)
    · refine z_iconst (i := 1) (v := 1) (pc' := 100) ⟨by decide +kernel, rfl⟩ (by decide) ?_
      refine z_goto (off := 4) (tgt := 104) (pc' := 103) ⟨by decide +kernel, by decide, rfl⟩ ?_
      refine z_iret (ty := .boolean) rfl rfl (by decide +kernel) ?_
      have z0L : (0 : Int64).toInt = 0 := by decide
      have z1 : (1 : Int32).toInt = 1 := by decide
      have gh2 := j_ne_f h2
      have cf0 : ruC σ a 0 = (σ.1 20 (a + 0)).toInt := rfl
      have cf1 : ruC σ a 1 = (σ.1 20 (a + 1)).toInt := rfl
      have cf2 : ruC σ a 2 = (σ.1 20 (a + 2)).toInt := rfl
      have cf3 : ruC σ a 3 = (σ.1 20 (a + 3)).toInt := rfl
      have cf4 : ruC σ a 4 = (σ.1 20 (a + 4)).toInt := rfl
      have cf5 : ruC σ a 5 = (σ.1 20 (a + 5)).toInt := rfl
      exact k _ (Or.inl ⟨rfl, Or.inr (Or.inr (Or.inl ⟨h1, h2⟩))⟩)
  by_cases h3 : Int32.toInt (σ.1 20 (a + 1)) = 2
  · refine z_tableIn (dflt := 82) (lo := 1) (hi := 3) (offs := #[64, 39, 25]) (len := 25) (off := 39) (tgt := 62) (by decide +kernel) (by omega) (by omega) (by rw [h3]; rfl) (by decide) ?_
    refine z_aload_n (f := 0) (i := 0) (q := 1) (pc' := 63) ⟨by decide +kernel, rfl⟩ rfl rfl ?_
    refine w_getr (k := 27) (j := 1) (idx := 15) (pc' := 66) fxe_5_15 kfa_27_1 ⟨by decide +kernel, rfl⟩ ?_
    refine w_getr (k := 10) (j := 2) (idx := 121) (pc' := 69) fxe_5_121 kfa_10_2 ⟨by decide +kernel, rfl⟩ ?_
    refine z_aload_n (f := 0) (i := 0) (q := 1) (pc' := 70) ⟨by decide +kernel, rfl⟩ rfl rfl ?_
    refine w_geti (k := 27) (j := 5) (idx := 71) (pc' := 73) fxe_5_71 kfa_27_5 ⟨by decide +kernel, rfl⟩ ?_
    refine w_iald (k := 12) (n := (σ.1 27 5).toInt.toNat) (pc' := 74) kaa_12 (by have := hb.2.2; omega) (by have := hb.2.2; omega) ⟨by decide +kernel, rfl⟩ ?_
    refine z_aload_n (f := 0) (i := 0) (q := 1) (pc' := 75) ⟨by decide +kernel, rfl⟩ rfl rfl ?_
    refine w_geti (k := 27) (j := 3) (idx := 51) (pc' := 78) fxe_5_51 kfa_27_3 ⟨by decide +kernel, rfl⟩ ?_
    refine z_icmp_ne (off := 7) (tgt := 85) (pc' := 81) ⟨by decide +kernel, by decide, rfl⟩ (fun h4 => ?_) (fun h4 => ?_)
    · refine z_iconst (i := 0) (v := 0) (pc' := 86) ⟨by decide +kernel, rfl⟩ (by decide) ?_
      refine z_iret (ty := .boolean) rfl rfl (by decide +kernel) ?_
      have z0L : (0 : Int64).toInt = 0 := by decide
      have gh4 := j_ne_t h4
      have cf0 : ruC σ a 0 = (σ.1 20 (a + 0)).toInt := rfl
      have cf1 : ruC σ a 1 = (σ.1 20 (a + 1)).toInt := rfl
      have cf2 : ruC σ a 2 = (σ.1 20 (a + 2)).toInt := rfl
      have cf3 : ruC σ a 3 = (σ.1 20 (a + 3)).toInt := rfl
      have cf4 : ruC σ a 4 = (σ.1 20 (a + 4)).toInt := rfl
      have cf5 : ruC σ a 5 = (σ.1 20 (a + 5)).toInt := rfl
      exact k _ (Or.inr ⟨rfl, fun q => (by rcases q with q | q | q | q <;> omega)⟩)
    · refine z_iconst (i := 1) (v := 1) (pc' := 82) ⟨by decide +kernel, rfl⟩ (by decide) ?_
      refine z_goto (off := 4) (tgt := 86) (pc' := 85) ⟨by decide +kernel, by decide, rfl⟩ ?_
      refine z_iret (ty := .boolean) rfl rfl (by decide +kernel) ?_
      have z0L : (0 : Int64).toInt = 0 := by decide
      have gh4 := j_ne_f h4
      have cf0 : ruC σ a 0 = (σ.1 20 (a + 0)).toInt := rfl
      have cf1 : ruC σ a 1 = (σ.1 20 (a + 1)).toInt := rfl
      have cf2 : ruC σ a 2 = (σ.1 20 (a + 2)).toInt := rfl
      have cf3 : ruC σ a 3 = (σ.1 20 (a + 3)).toInt := rfl
      have cf4 : ruC σ a 4 = (σ.1 20 (a + 4)).toInt := rfl
      have cf5 : ruC σ a 5 = (σ.1 20 (a + 5)).toInt := rfl
      exact k _ (Or.inl ⟨rfl, Or.inr (Or.inl ⟨by omega, by omega⟩)⟩)
  by_cases h5 : Int32.toInt (σ.1 20 (a + 1)) = 3
  · refine z_tableIn (dflt := 82) (lo := 1) (hi := 3) (offs := #[64, 39, 25]) (len := 25) (off := 25) (tgt := 48) (by decide +kernel) (by omega) (by omega) (by rw [h5]; rfl) (by decide) ?_
    refine z_iload_n (f := 2) (i := 2) (q := 0) (pc' := 49) ⟨by decide +kernel, rfl⟩ rfl rfl ?_
    refine z_aload_n (f := 0) (i := 0) (q := 1) (pc' := 50) ⟨by decide +kernel, rfl⟩ rfl rfl ?_
    refine w_geti (k := 27) (j := 3) (idx := 51) (pc' := 53) fxe_5_51 kfa_27_3 ⟨by decide +kernel, rfl⟩ ?_
    refine z_icmp_ne (off := 7) (tgt := 60) (pc' := 56) ⟨by decide +kernel, by decide, rfl⟩ (fun h6 => ?_) (fun h6 => ?_)
    · refine z_iconst (i := 0) (v := 0) (pc' := 61) ⟨by decide +kernel, rfl⟩ (by decide) ?_
      refine z_iret (ty := .boolean) rfl rfl (by decide +kernel) ?_
      have z0L : (0 : Int64).toInt = 0 := by decide
      have gh6 := j_ne_t h6
      have cf0 : ruC σ a 0 = (σ.1 20 (a + 0)).toInt := rfl
      have cf1 : ruC σ a 1 = (σ.1 20 (a + 1)).toInt := rfl
      have cf2 : ruC σ a 2 = (σ.1 20 (a + 2)).toInt := rfl
      have cf3 : ruC σ a 3 = (σ.1 20 (a + 3)).toInt := rfl
      have cf4 : ruC σ a 4 = (σ.1 20 (a + 4)).toInt := rfl
      have cf5 : ruC σ a 5 = (σ.1 20 (a + 5)).toInt := rfl
      exact k _ (Or.inr ⟨rfl, fun q => (by rcases q with q | q | q | q <;> omega)⟩)
    · refine z_iconst (i := 1) (v := 1) (pc' := 57) ⟨by decide +kernel, rfl⟩ (by decide) ?_
      refine z_goto (off := 4) (tgt := 61) (pc' := 60) ⟨by decide +kernel, by decide, rfl⟩ ?_
      refine z_iret (ty := .boolean) rfl rfl (by decide +kernel) ?_
      have z0L : (0 : Int64).toInt = 0 := by decide
      have gh6 := j_ne_f h6
      have cf0 : ruC σ a 0 = (σ.1 20 (a + 0)).toInt := rfl
      have cf1 : ruC σ a 1 = (σ.1 20 (a + 1)).toInt := rfl
      have cf2 : ruC σ a 2 = (σ.1 20 (a + 2)).toInt := rfl
      have cf3 : ruC σ a 3 = (σ.1 20 (a + 3)).toInt := rfl
      have cf4 : ruC σ a 4 = (σ.1 20 (a + 4)).toInt := rfl
      have cf5 : ruC σ a 5 = (σ.1 20 (a + 5)).toInt := rfl
      exact k _ (Or.inl ⟨rfl, Or.inl ⟨by omega, by omega⟩⟩)
  refine z_tableOut (dflt := 82) (lo := 1) (hi := 3) (offs := #[64, 39, 25]) (len := 25) (tgt := 105) (by decide +kernel) (by omega) (by decide) ?_
  refine z_iconst (i := 1) (v := 1) (pc' := 106) ⟨by decide +kernel, rfl⟩ (by decide) ?_
  refine z_iret (ty := .boolean) rfl rfl (by decide +kernel) ?_
  have z0L : (0 : Int64).toInt = 0 := by decide
  have cf0 : ruC σ a 0 = (σ.1 20 (a + 0)).toInt := rfl
  have cf1 : ruC σ a 1 = (σ.1 20 (a + 1)).toInt := rfl
  have cf2 : ruC σ a 2 = (σ.1 20 (a + 2)).toInt := rfl
  have cf3 : ruC σ a 3 = (σ.1 20 (a + 3)).toInt := rfl
  have cf4 : ruC σ a 4 = (σ.1 20 (a + 4)).toInt := rfl
  have cf5 : ruC σ a 5 = (σ.1 20 (a + 5)).toInt := rfl
  exact k _ (Or.inl ⟨rfl, Or.inr (Or.inr (Or.inr (by omega)))⟩)
theorem cz_Ju_fitsWho {E : xV} {σ : zS} {K : zKt} {at_ : Int32} {a : Nat} (ha : at_.toInt = (a : Int)) (hb : RuB σ a) (k : ∀ v : Int32, (v = 1 ∧ fwC σ a) ∨ (v = 0 ∧ ¬ fwC σ a) → K (some (.int v)) σ) : Cz E Y_Ju_fitsWho [.ref 27, .int at_] σ K := z_entry (by decide) (fun a => by rw [sl_len]; exact Nat.le_of_ble_eq_true rfl) rfl (run_Ju_fitsWho ha hb k)
theorem run_Ju_fitsAct {E : xV} {σ : zS} {K : zKt} {at_ act : Int32} {a : Nat} (ha : at_.toInt = (a : Int)) (hb : RuB σ a) (hact : 0 ≤ act.toInt ∧ act.toInt ≤ 5) (k : ∀ v : Int32, (v = 1 ∧ faC σ a act) ∨ (v = 0 ∧ ¬ faC σ a act) → K (some (.int v)) σ) : Wz E Y_Ju_fitsAct 0 [(0, .ref 27), (1, .int at_), (2, .int act)] [] σ K := by
  refine z_aload_n (f := 0) (i := 0) (q := 0) (pc' := 1) ⟨by decide +kernel, rfl⟩ rfl rfl ?_
  refine w_getr (k := 27) (j := 2) (idx := 19) (pc' := 4) fxe_5_19 kfa_27_2 ⟨by decide +kernel, rfl⟩ ?_
  refine w_getr (k := 17) (j := 3) (idx := 92) (pc' := 7) fxe_5_92 kfa_17_3 ⟨by decide +kernel, rfl⟩ ?_
  refine z_iload_n (f := 1) (i := 1) (q := 1) (pc' := 8) ⟨by decide +kernel, rfl⟩ rfl rfl ?_
  refine z_iconst (i := 3) (v := 3) (pc' := 9) ⟨by decide +kernel, rfl⟩ (by decide) ?_
  refine z_iadd (pc' := 10) ⟨by decide +kernel, rfl⟩ ?_
  refine w_iald (k := 20) (n := (a + 3)) (pc' := 11) kaa_20 (at_c ha (by decide) (by have := hb.1; omega)) (by have := hb.1; omega) ⟨by decide +kernel, rfl⟩ ?_
  refine z_istore_n (f := 3) (i := 3) (pc' := 12) ⟨by decide +kernel, rfl⟩ rfl (by decide) rfl ?_
  show Wz E Y_Ju_fitsAct 12 [(3, .int (σ.1 20 (a + 3))), (0, .ref 27), (1, .int at_), (2, .int act)] [] σ K
  refine z_iload_n (f := 3) (i := 3) (q := 0) (pc' := 13) ⟨by decide +kernel, rfl⟩ rfl rfl ?_
  refine z_bipush (i := 6) (v := 6) (pc' := 15) ⟨by decide +kernel, rfl⟩ (by decide) ?_
  refine z_icmp_ne (off := 5) (tgt := 20) (pc' := 18) ⟨by decide +kernel, by decide, rfl⟩ (fun h1 => ?_) (fun h1 => ?_)
  · refine z_aload_n (f := 0) (i := 0) (q := 1) (pc' := 21) ⟨by decide +kernel, rfl⟩ rfl rfl ?_
    refine w_getr (k := 27) (j := 2) (idx := 19) (pc' := 24) fxe_5_19 kfa_27_2 ⟨by decide +kernel, rfl⟩ ?_
    refine w_getr (k := 17) (j := 3) (idx := 92) (pc' := 27) fxe_5_92 kfa_17_3 ⟨by decide +kernel, rfl⟩ ?_
    refine z_iload_n (f := 1) (i := 1) (q := 2) (pc' := 28) ⟨by decide +kernel, rfl⟩ rfl rfl ?_
    refine z_iconst (i := 0) (v := 0) (pc' := 29) ⟨by decide +kernel, rfl⟩ (by decide) ?_
    refine z_iadd (pc' := 30) ⟨by decide +kernel, rfl⟩ ?_
    refine w_iald (k := 20) (n := (a + 0)) (pc' := 31) kaa_20 (at_c ha (by decide) (by have := hb.1; omega)) (by have := hb.1; omega) ⟨by decide +kernel, rfl⟩ ?_
    refine z_if_ne (off := 7) (tgt := 38) (pc' := 34) ⟨by decide +kernel, by decide, rfl⟩ (fun h2 => ?_) (fun h2 => ?_)
    · refine z_iconst (i := 0) (v := 0) (pc' := 39) ⟨by decide +kernel, rfl⟩ (by decide) ?_
      refine z_istore (i := 4) (pc' := 41) ⟨by decide +kernel, rfl⟩ (by decide) rfl ?_
      show Wz E Y_Ju_fitsAct 41 [(4, .int 0), (3, .int (σ.1 20 (a + 3))), (0, .ref 27), (1, .int at_), (2, .int act)] [] σ K
      refine z_iload (i := 4) (q := 0) (pc' := 43) ⟨by decide +kernel, rfl⟩ rfl ?_
      refine z_if_eq (off := 15) (tgt := 58) (pc' := 46) ⟨by decide +kernel, by decide, rfl⟩ (fun h3 => ?_) (fun h3 => ?_)
      · refine z_aload_n (f := 0) (i := 0) (q := 2) (pc' := 59) ⟨by decide +kernel, rfl⟩ rfl rfl ?_
        refine w_getr (k := 27) (j := 1) (idx := 15) (pc' := 62) fxe_5_15 kfa_27_1 ⟨by decide +kernel, rfl⟩ ?_
        refine z_iload_n (f := 3) (i := 3) (q := 1) (pc' := 63) ⟨by decide +kernel, rfl⟩ rfl rfl ?_
        refine z_iload_n (f := 2) (i := 2) (q := 4) (pc' := 64) ⟨by decide +kernel, rfl⟩ rfl rfl ?_
        refine w_invV (Z := Y_Th_actHolds) (idx := 124) (kb := 10) (As := [.int (σ.1 20 (a + 3)), .int act]) (rest := []) (pc' := 67) cl_5_124 rfl ⟨rfl, rfl⟩ kfa_10_0 rfl ⟨⟨by decide, by decide⟩, rfl, rfl⟩ ⟨by decide +kernel, rfl⟩ rfl rfl (Nat.le_of_ble_eq_true rfl) rfl rfl ?_
        refine cz_Th_actHolds (n := (ruC σ a 3).toNat) (by have := hb.2.1; have cf : ruC σ a 3 = (σ.1 20 (a + 3)).toInt := rfl; show (σ.1 20 (a + 3)).toInt = _; omega) (by have := hb.2.1; have cf : ruC σ a 3 = (σ.1 20 (a + 3)).toInt := rfl;  have q := j_ne_t h1; have z6 : (6 : Int32).toInt = 6 := (by decide); show (σ.1 20 (a + 3)).toInt.toNat < 6; omega) (fun v4 hv4 => ?_)
        show Wz E Y_Ju_fitsAct 67 [(4, .int 0), (3, .int (σ.1 20 (a + 3))), (0, .ref 27), (1, .int at_), (2, .int act)] [.int v4] σ K
        refine z_iret (ty := .boolean) rfl (p3_nar hv4) (by decide +kernel) ?_
        have z0L : (0 : Int64).toInt = 0 := by decide
        have z0 : (0 : Int32).toInt = 0 := by decide
        have z6 : (6 : Int32).toInt = 6 := by decide
        have gh1 := j_ne_t h1
        have gh2 := j_ne_t (y := 0) h2
        have gh3 := j_eq_t (y := 0) h3
        have cf0 : ruC σ a 0 = (σ.1 20 (a + 0)).toInt := rfl
        have cf1 : ruC σ a 1 = (σ.1 20 (a + 1)).toInt := rfl
        have cf2 : ruC σ a 2 = (σ.1 20 (a + 2)).toInt := rfl
        have cf3 : ruC σ a 3 = (σ.1 20 (a + 3)).toInt := rfl
        have cf4 : ruC σ a 4 = (σ.1 20 (a + 4)).toInt := rfl
        have cf5 : ruC σ a 5 = (σ.1 20 (a + 5)).toInt := rfl
        have n6 : ruC σ a 3 ≠ 6 := by show (σ.1 20 (a + 3)).toInt ≠ 6; omega
        have e0 : ruC σ a 0 ≠ 0 := by show (σ.1 20 (a + 0)).toInt ≠ 0; omega
        exact k _ (hv4.imp (fun q => ⟨q.1, Or.inr ⟨n6, Or.inr ⟨e0, q.2⟩⟩⟩) (fun q => ⟨q.1, fun z => (by rcases z with z | ⟨_, z | z⟩; exact n6 z; exact e0 z.1; exact q.2 z.2)⟩))
      · refine z_aload_n (f := 0) (i := 0) (q := 2) (pc' := 47) ⟨by decide +kernel, rfl⟩ rfl rfl ?_
        refine w_getr (k := 27) (j := 1) (idx := 15) (pc' := 50) fxe_5_15 kfa_27_1 ⟨by decide +kernel, rfl⟩ ?_
        refine z_iload_n (f := 2) (i := 2) (q := 4) (pc' := 51) ⟨by decide +kernel, rfl⟩ rfl rfl ?_
        refine z_iload_n (f := 3) (i := 3) (q := 1) (pc' := 52) ⟨by decide +kernel, rfl⟩ rfl rfl ?_
        refine w_invV (Z := Y_Th_actHolds) (idx := 124) (kb := 10) (As := [.int act, .int (σ.1 20 (a + 3))]) (rest := []) (pc' := 55) cl_5_124 rfl ⟨rfl, rfl⟩ kfa_10_0 rfl ⟨⟨by decide, by decide⟩, rfl, rfl⟩ ⟨by decide +kernel, rfl⟩ rfl rfl (Nat.le_of_ble_eq_true rfl) rfl rfl ?_
        refine cz_Th_actHolds (n := act.toInt.toNat) (by omega) (by omega) (fun v5 hv5 => ?_)
        show Wz E Y_Ju_fitsAct 55 [(4, .int 0), (3, .int (σ.1 20 (a + 3))), (0, .ref 27), (1, .int at_), (2, .int act)] [.int v5] σ K
        refine z_goto (off := 12) (tgt := 67) (pc' := 58) ⟨by decide +kernel, by decide, rfl⟩ ?_
        refine z_iret (ty := .boolean) rfl (p3_nar hv5) (by decide +kernel) ?_
        have z0L : (0 : Int64).toInt = 0 := by decide
        have z0 : (0 : Int32).toInt = 0 := by decide
        have z6 : (6 : Int32).toInt = 6 := by decide
        have gh1 := j_ne_t h1
        have gh2 := j_ne_t (y := 0) h2
        have gh3 := j_eq_f (y := 0) h3
        have cf0 : ruC σ a 0 = (σ.1 20 (a + 0)).toInt := rfl
        have cf1 : ruC σ a 1 = (σ.1 20 (a + 1)).toInt := rfl
        have cf2 : ruC σ a 2 = (σ.1 20 (a + 2)).toInt := rfl
        have cf3 : ruC σ a 3 = (σ.1 20 (a + 3)).toInt := rfl
        have cf4 : ruC σ a 4 = (σ.1 20 (a + 4)).toInt := rfl
        have cf5 : ruC σ a 5 = (σ.1 20 (a + 5)).toInt := rfl
        have n6 : ruC σ a 3 ≠ 6 := by show (σ.1 20 (a + 3)).toInt ≠ 6; omega
        have e0 : ruC σ a 0 = 0 := by show (σ.1 20 (a + 0)).toInt = 0; omega
        exact k _ (hv5.imp (fun q => ⟨q.1, Or.inr ⟨n6, Or.inl ⟨e0, q.2⟩⟩⟩) (fun q => ⟨q.1, fun z => (by rcases z with z | ⟨_, z | z⟩; exact n6 z; exact q.2 z.2; exact z.1 e0)⟩))
    · refine z_iconst (i := 1) (v := 1) (pc' := 35) ⟨by decide +kernel, rfl⟩ (by decide) ?_
      refine z_goto (off := 4) (tgt := 39) (pc' := 38) ⟨by decide +kernel, by decide, rfl⟩ ?_
      refine z_istore (i := 4) (pc' := 41) ⟨by decide +kernel, rfl⟩ (by decide) rfl ?_
      show Wz E Y_Ju_fitsAct 41 [(4, .int 1), (3, .int (σ.1 20 (a + 3))), (0, .ref 27), (1, .int at_), (2, .int act)] [] σ K
      refine z_iload (i := 4) (q := 0) (pc' := 43) ⟨by decide +kernel, rfl⟩ rfl ?_
      refine z_if_eq (off := 15) (tgt := 58) (pc' := 46) ⟨by decide +kernel, by decide, rfl⟩ (fun h6 => ?_) (fun h6 => ?_)
      · refine z_aload_n (f := 0) (i := 0) (q := 2) (pc' := 59) ⟨by decide +kernel, rfl⟩ rfl rfl ?_
        refine w_getr (k := 27) (j := 1) (idx := 15) (pc' := 62) fxe_5_15 kfa_27_1 ⟨by decide +kernel, rfl⟩ ?_
        refine z_iload_n (f := 3) (i := 3) (q := 1) (pc' := 63) ⟨by decide +kernel, rfl⟩ rfl rfl ?_
        refine z_iload_n (f := 2) (i := 2) (q := 4) (pc' := 64) ⟨by decide +kernel, rfl⟩ rfl rfl ?_
        refine w_invV (Z := Y_Th_actHolds) (idx := 124) (kb := 10) (As := [.int (σ.1 20 (a + 3)), .int act]) (rest := []) (pc' := 67) cl_5_124 rfl ⟨rfl, rfl⟩ kfa_10_0 rfl ⟨⟨by decide, by decide⟩, rfl, rfl⟩ ⟨by decide +kernel, rfl⟩ rfl rfl (Nat.le_of_ble_eq_true rfl) rfl rfl ?_
        refine cz_Th_actHolds (n := (ruC σ a 3).toNat) (by have := hb.2.1; have cf : ruC σ a 3 = (σ.1 20 (a + 3)).toInt := rfl; show (σ.1 20 (a + 3)).toInt = _; omega) (by have := hb.2.1; have cf : ruC σ a 3 = (σ.1 20 (a + 3)).toInt := rfl;  have q := j_ne_t h1; have z6 : (6 : Int32).toInt = 6 := (by decide); show (σ.1 20 (a + 3)).toInt.toNat < 6; omega) (fun v7 hv7 => ?_)
        show Wz E Y_Ju_fitsAct 67 [(4, .int 1), (3, .int (σ.1 20 (a + 3))), (0, .ref 27), (1, .int at_), (2, .int act)] [.int v7] σ K
        refine z_iret (ty := .boolean) rfl (p3_nar hv7) (by decide +kernel) ?_
        have z0L : (0 : Int64).toInt = 0 := by decide
        have z0 : (0 : Int32).toInt = 0 := by decide
        have z1 : (1 : Int32).toInt = 1 := by decide
        have z6 : (6 : Int32).toInt = 6 := by decide
        have gh1 := j_ne_t h1
        have gh2 := j_ne_f (y := 0) h2
        have gh6 := j_eq_t (y := 0) h6
        have cf0 : ruC σ a 0 = (σ.1 20 (a + 0)).toInt := rfl
        have cf1 : ruC σ a 1 = (σ.1 20 (a + 1)).toInt := rfl
        have cf2 : ruC σ a 2 = (σ.1 20 (a + 2)).toInt := rfl
        have cf3 : ruC σ a 3 = (σ.1 20 (a + 3)).toInt := rfl
        have cf4 : ruC σ a 4 = (σ.1 20 (a + 4)).toInt := rfl
        have cf5 : ruC σ a 5 = (σ.1 20 (a + 5)).toInt := rfl
        have n6 : ruC σ a 3 ≠ 6 := by show (σ.1 20 (a + 3)).toInt ≠ 6; omega
        have e0 : ruC σ a 0 ≠ 0 := by show (σ.1 20 (a + 0)).toInt ≠ 0; omega
        exact k _ (hv7.imp (fun q => ⟨q.1, Or.inr ⟨n6, Or.inr ⟨e0, q.2⟩⟩⟩) (fun q => ⟨q.1, fun z => (by rcases z with z | ⟨_, z | z⟩; exact n6 z; exact e0 z.1; exact q.2 z.2)⟩))
      · refine z_aload_n (f := 0) (i := 0) (q := 2) (pc' := 47) ⟨by decide +kernel, rfl⟩ rfl rfl ?_
        refine w_getr (k := 27) (j := 1) (idx := 15) (pc' := 50) fxe_5_15 kfa_27_1 ⟨by decide +kernel, rfl⟩ ?_
        refine z_iload_n (f := 2) (i := 2) (q := 4) (pc' := 51) ⟨by decide +kernel, rfl⟩ rfl rfl ?_
        refine z_iload_n (f := 3) (i := 3) (q := 1) (pc' := 52) ⟨by decide +kernel, rfl⟩ rfl rfl ?_
        refine w_invV (Z := Y_Th_actHolds) (idx := 124) (kb := 10) (As := [.int act, .int (σ.1 20 (a + 3))]) (rest := []) (pc' := 55) cl_5_124 rfl ⟨rfl, rfl⟩ kfa_10_0 rfl ⟨⟨by decide, by decide⟩, rfl, rfl⟩ ⟨by decide +kernel, rfl⟩ rfl rfl (Nat.le_of_ble_eq_true rfl) rfl rfl ?_
        refine cz_Th_actHolds (n := act.toInt.toNat) (by omega) (by omega) (fun v8 hv8 => ?_)
        show Wz E Y_Ju_fitsAct 55 [(4, .int 1), (3, .int (σ.1 20 (a + 3))), (0, .ref 27), (1, .int at_), (2, .int act)] [.int v8] σ K
        refine z_goto (off := 12) (tgt := 67) (pc' := 58) ⟨by decide +kernel, by decide, rfl⟩ ?_
        refine z_iret (ty := .boolean) rfl (p3_nar hv8) (by decide +kernel) ?_
        have z0L : (0 : Int64).toInt = 0 := by decide
        have z0 : (0 : Int32).toInt = 0 := by decide
        have z1 : (1 : Int32).toInt = 1 := by decide
        have z6 : (6 : Int32).toInt = 6 := by decide
        have gh1 := j_ne_t h1
        have gh2 := j_ne_f (y := 0) h2
        have gh6 := j_eq_f (y := 0) h6
        have cf0 : ruC σ a 0 = (σ.1 20 (a + 0)).toInt := rfl
        have cf1 : ruC σ a 1 = (σ.1 20 (a + 1)).toInt := rfl
        have cf2 : ruC σ a 2 = (σ.1 20 (a + 2)).toInt := rfl
        have cf3 : ruC σ a 3 = (σ.1 20 (a + 3)).toInt := rfl
        have cf4 : ruC σ a 4 = (σ.1 20 (a + 4)).toInt := rfl
        have cf5 : ruC σ a 5 = (σ.1 20 (a + 5)).toInt := rfl
        have n6 : ruC σ a 3 ≠ 6 := by show (σ.1 20 (a + 3)).toInt ≠ 6; omega
        have e0 : ruC σ a 0 = 0 := by show (σ.1 20 (a + 0)).toInt = 0; omega
        exact k _ (hv8.imp (fun q => ⟨q.1, Or.inr ⟨n6, Or.inl ⟨e0, q.2⟩⟩⟩) (fun q => ⟨q.1, fun z => (by rcases z with z | ⟨_, z | z⟩; exact n6 z; exact q.2 z.2; exact z.1 e0)⟩))
  · refine z_iconst (i := 1) (v := 1) (pc' := 19) ⟨by decide +kernel, rfl⟩ (by decide) ?_
    refine z_iret (ty := .boolean) rfl rfl (by decide +kernel) ?_
    have z0L : (0 : Int64).toInt = 0 := by decide
    have z6 : (6 : Int32).toInt = 6 := by decide
    have gh1 := j_ne_f h1
    have cf0 : ruC σ a 0 = (σ.1 20 (a + 0)).toInt := rfl
    have cf1 : ruC σ a 1 = (σ.1 20 (a + 1)).toInt := rfl
    have cf2 : ruC σ a 2 = (σ.1 20 (a + 2)).toInt := rfl
    have cf3 : ruC σ a 3 = (σ.1 20 (a + 3)).toInt := rfl
    have cf4 : ruC σ a 4 = (σ.1 20 (a + 4)).toInt := rfl
    have cf5 : ruC σ a 5 = (σ.1 20 (a + 5)).toInt := rfl
    exact k _ (Or.inl ⟨rfl, Or.inl (by show (σ.1 20 (a + 3)).toInt = 6; omega)⟩)
theorem cz_Ju_fitsAct {E : xV} {σ : zS} {K : zKt} {at_ act : Int32} {a : Nat} (ha : at_.toInt = (a : Int)) (hb : RuB σ a) (hact : 0 ≤ act.toInt ∧ act.toInt ≤ 5) (k : ∀ v : Int32, (v = 1 ∧ faC σ a act) ∨ (v = 0 ∧ ¬ faC σ a act) → K (some (.int v)) σ) : Cz E Y_Ju_fitsAct [.ref 27, .int at_, .int act] σ K := z_entry (by decide) (fun a => by rw [sl_len]; exact Nat.le_of_ble_eq_true rfl) rfl (run_Ju_fitsAct ha hb hact k)
theorem run_Ju_fitsThing {E : xV} {σ : zS} {K : zKt} {at_ : Int32} {a : Nat} (ha : at_.toInt = (a : Int)) (hb : RuB σ a) (hp : PlC σ) (k : ∀ v : Int32, (v = 1 ∧ ftC σ a) ∨ (v = 0 ∧ ¬ ftC σ a) → K (some (.int v)) σ) : Wz E Y_Ju_fitsThing 0 [(0, .ref 27), (1, .int at_)] [] σ K := by
  refine z_aload_n (f := 0) (i := 0) (q := 0) (pc' := 1) ⟨by decide +kernel, rfl⟩ rfl rfl ?_
  refine w_getr (k := 27) (j := 2) (idx := 19) (pc' := 4) fxe_5_19 kfa_27_2 ⟨by decide +kernel, rfl⟩ ?_
  refine w_getr (k := 17) (j := 3) (idx := 92) (pc' := 7) fxe_5_92 kfa_17_3 ⟨by decide +kernel, rfl⟩ ?_
  refine z_iload_n (f := 1) (i := 1) (q := 1) (pc' := 8) ⟨by decide +kernel, rfl⟩ rfl rfl ?_
  refine z_iconst (i := 5) (v := 5) (pc' := 9) ⟨by decide +kernel, rfl⟩ (by decide) ?_
  refine z_iadd (pc' := 10) ⟨by decide +kernel, rfl⟩ ?_
  refine w_iald (k := 20) (n := (a + 5)) (pc' := 11) kaa_20 (at_c ha (by decide) (by have := hb.1; omega)) (by have := hb.1; omega) ⟨by decide +kernel, rfl⟩ ?_
  refine z_istore_n (f := 2) (i := 2) (pc' := 12) ⟨by decide +kernel, rfl⟩ rfl (by decide) rfl ?_
  show Wz E Y_Ju_fitsThing 12 [(2, .int (σ.1 20 (a + 5))), (0, .ref 27), (1, .int at_)] [] σ K
  refine z_aload_n (f := 0) (i := 0) (q := 1) (pc' := 13) ⟨by decide +kernel, rfl⟩ rfl rfl ?_
  refine w_getr (k := 27) (j := 2) (idx := 19) (pc' := 16) fxe_5_19 kfa_27_2 ⟨by decide +kernel, rfl⟩ ?_
  refine w_getr (k := 17) (j := 3) (idx := 92) (pc' := 19) fxe_5_92 kfa_17_3 ⟨by decide +kernel, rfl⟩ ?_
  refine z_iload_n (f := 1) (i := 1) (q := 2) (pc' := 20) ⟨by decide +kernel, rfl⟩ rfl rfl ?_
  refine z_iconst (i := 4) (v := 4) (pc' := 21) ⟨by decide +kernel, rfl⟩ (by decide) ?_
  refine z_iadd (pc' := 22) ⟨by decide +kernel, rfl⟩ ?_
  refine w_iald (k := 20) (n := (a + 4)) (pc' := 23) kaa_20 (at_c ha (by decide) (by have := hb.1; omega)) (by have := hb.1; omega) ⟨by decide +kernel, rfl⟩ ?_
  by_cases h1 : Int32.toInt (σ.1 20 (a + 4)) = 1
  · refine z_lookup (dflt := 52) (ps := #[(1, 39), (2, 25)]) (len := 25) (off := 39) (tgt := 62) (by decide +kernel) (by decide) (by show Op.lookupswitch.offset [(1, 39), (2, 25)] 52 (Int32.toInt (σ.1 20 (a + 4))) = 39; rw [Op.lookupswitch.offset_cons, if_pos (by omega)]) (by decide) ?_
    refine z_aload_n (f := 0) (i := 0) (q := 1) (pc' := 63) ⟨by decide +kernel, rfl⟩ rfl rfl ?_
    refine w_getr (k := 27) (j := 1) (idx := 15) (pc' := 66) fxe_5_15 kfa_27_1 ⟨by decide +kernel, rfl⟩ ?_
    refine z_aload_n (f := 0) (i := 0) (q := 1) (pc' := 67) ⟨by decide +kernel, rfl⟩ rfl rfl ?_
    refine w_geti (k := 27) (j := 5) (idx := 71) (pc' := 70) fxe_5_71 kfa_27_5 ⟨by decide +kernel, rfl⟩ ?_
    refine z_iload_n (f := 2) (i := 2) (q := 0) (pc' := 71) ⟨by decide +kernel, rfl⟩ rfl rfl ?_
    refine w_invV (Z := Y_Th_isUnder) (idx := 127) (kb := 10) (As := [.int (σ.1 27 5), .int (σ.1 20 (a + 5))]) (rest := []) (pc' := 74) cl_5_127 rfl ⟨rfl, rfl⟩ kfa_10_0 rfl ⟨⟨by decide, by decide⟩, rfl, rfl⟩ ⟨by decide +kernel, rfl⟩ rfl rfl (Nat.le_of_ble_eq_true rfl) rfl rfl ?_
    refine cz_Th_isUnder hp hb.2.2 (fun v2 hv2 => ?_)
    show Wz E Y_Ju_fitsThing 74 [(2, .int (σ.1 20 (a + 5))), (0, .ref 27), (1, .int at_)] [.int v2] σ K
    refine z_iret (ty := .boolean) rfl (p3_nar hv2) (by decide +kernel) ?_
    have z0L : (0 : Int64).toInt = 0 := by decide
    have cf0 : ruC σ a 0 = (σ.1 20 (a + 0)).toInt := rfl
    have cf1 : ruC σ a 1 = (σ.1 20 (a + 1)).toInt := rfl
    have cf2 : ruC σ a 2 = (σ.1 20 (a + 2)).toInt := rfl
    have cf3 : ruC σ a 3 = (σ.1 20 (a + 3)).toInt := rfl
    have cf4 : ruC σ a 4 = (σ.1 20 (a + 4)).toInt := rfl
    have cf5 : ruC σ a 5 = (σ.1 20 (a + 5)).toInt := rfl
    exact k _ (hv2.imp (fun q => ⟨q.1, Or.inr (Or.inl ⟨h1, q.2⟩)⟩) (fun q => ⟨q.1, fun z => (by rcases z with z | z | z; omega; exact q.2 z.2; exact z (Or.inl h1))⟩))
  by_cases h3 : Int32.toInt (σ.1 20 (a + 4)) = 2
  · refine z_lookup (dflt := 52) (ps := #[(1, 39), (2, 25)]) (len := 25) (off := 25) (tgt := 48) (by decide +kernel) (by decide) (by show Op.lookupswitch.offset [(1, 39), (2, 25)] 52 (Int32.toInt (σ.1 20 (a + 4))) = 25; rw [Op.lookupswitch.offset_cons, if_neg (by omega), Op.lookupswitch.offset_cons, if_pos (by omega)]) (by decide) ?_
    refine z_iload_n (f := 2) (i := 2) (q := 0) (pc' := 49) ⟨by decide +kernel, rfl⟩ rfl rfl ?_
    refine z_aload_n (f := 0) (i := 0) (q := 1) (pc' := 50) ⟨by decide +kernel, rfl⟩ rfl rfl ?_
    refine w_geti (k := 27) (j := 5) (idx := 71) (pc' := 53) fxe_5_71 kfa_27_5 ⟨by decide +kernel, rfl⟩ ?_
    refine z_icmp_ne (off := 7) (tgt := 60) (pc' := 56) ⟨by decide +kernel, by decide, rfl⟩ (fun h4 => ?_) (fun h4 => ?_)
    · refine z_iconst (i := 0) (v := 0) (pc' := 61) ⟨by decide +kernel, rfl⟩ (by decide) ?_
      refine z_iret (ty := .boolean) rfl rfl (by decide +kernel) ?_
      have z0L : (0 : Int64).toInt = 0 := by decide
      have gh4 := j_ne_t h4
      have cf0 : ruC σ a 0 = (σ.1 20 (a + 0)).toInt := rfl
      have cf1 : ruC σ a 1 = (σ.1 20 (a + 1)).toInt := rfl
      have cf2 : ruC σ a 2 = (σ.1 20 (a + 2)).toInt := rfl
      have cf3 : ruC σ a 3 = (σ.1 20 (a + 3)).toInt := rfl
      have cf4 : ruC σ a 4 = (σ.1 20 (a + 4)).toInt := rfl
      have cf5 : ruC σ a 5 = (σ.1 20 (a + 5)).toInt := rfl
      exact k _ (Or.inr ⟨rfl, fun q => (by rcases q with q | q | q <;> omega)⟩)
    · refine z_iconst (i := 1) (v := 1) (pc' := 57) ⟨by decide +kernel, rfl⟩ (by decide) ?_
      refine z_goto (off := 4) (tgt := 61) (pc' := 60) ⟨by decide +kernel, by decide, rfl⟩ ?_
      refine z_iret (ty := .boolean) rfl rfl (by decide +kernel) ?_
      have z0L : (0 : Int64).toInt = 0 := by decide
      have gh4 := j_ne_f h4
      have cf0 : ruC σ a 0 = (σ.1 20 (a + 0)).toInt := rfl
      have cf1 : ruC σ a 1 = (σ.1 20 (a + 1)).toInt := rfl
      have cf2 : ruC σ a 2 = (σ.1 20 (a + 2)).toInt := rfl
      have cf3 : ruC σ a 3 = (σ.1 20 (a + 3)).toInt := rfl
      have cf4 : ruC σ a 4 = (σ.1 20 (a + 4)).toInt := rfl
      have cf5 : ruC σ a 5 = (σ.1 20 (a + 5)).toInt := rfl
      exact k _ (Or.inl ⟨rfl, Or.inl ⟨by omega, by omega⟩⟩)
  refine z_lookup (dflt := 52) (ps := #[(1, 39), (2, 25)]) (len := 25) (off := 52) (tgt := 75) (by decide +kernel) (by decide) (by show Op.lookupswitch.offset [(1, 39), (2, 25)] 52 (Int32.toInt (σ.1 20 (a + 4))) = 52; rw [Op.lookupswitch.offset_cons, if_neg (by omega), Op.lookupswitch.offset_cons, if_neg (by omega), Op.lookupswitch.offset_nil]) (by decide) ?_
  refine z_iconst (i := 1) (v := 1) (pc' := 76) ⟨by decide +kernel, rfl⟩ (by decide) ?_
  refine z_iret (ty := .boolean) rfl rfl (by decide +kernel) ?_
  have z0L : (0 : Int64).toInt = 0 := by decide
  have cf0 : ruC σ a 0 = (σ.1 20 (a + 0)).toInt := rfl
  have cf1 : ruC σ a 1 = (σ.1 20 (a + 1)).toInt := rfl
  have cf2 : ruC σ a 2 = (σ.1 20 (a + 2)).toInt := rfl
  have cf3 : ruC σ a 3 = (σ.1 20 (a + 3)).toInt := rfl
  have cf4 : ruC σ a 4 = (σ.1 20 (a + 4)).toInt := rfl
  have cf5 : ruC σ a 5 = (σ.1 20 (a + 5)).toInt := rfl
  exact k _ (Or.inl ⟨rfl, Or.inr (Or.inr (by omega))⟩)
theorem cz_Ju_fitsThing {E : xV} {σ : zS} {K : zKt} {at_ : Int32} {a : Nat} (ha : at_.toInt = (a : Int)) (hb : RuB σ a) (hp : PlC σ) (k : ∀ v : Int32, (v = 1 ∧ ftC σ a) ∨ (v = 0 ∧ ¬ ftC σ a) → K (some (.int v)) σ) : Cz E Y_Ju_fitsThing [.ref 27, .int at_] σ K := z_entry (by decide) (fun a => by rw [sl_len]; exact Nat.le_of_ble_eq_true rfl) rfl (run_Ju_fitsThing ha hb hp k)
theorem run_Ju_spoken {E : xV} {σ : zS} {K : zKt} {at_ act : Int32} {a sn en m : Nat} {r : EntJ} (ha : at_.toInt = (a : Int)) (hb : RuB σ a) (hact : 0 ≤ act.toInt ∧ act.toInt ≤ 5) (hp : PlC σ) (hsn : (σ.1 20 (a + 6)).toInt = (sn : Int)) (hen : (σ.1 20 (a + 7)).toInt = (en : Int)) (hco : CoC σ en) (hc : ∀ f : Nat, f < 480 → 0 ≤ (σ.1 8 f).toInt ∧ (σ.1 8 f).toInt ≤ 20) (hw : 0 ≤ (σ.1 27 3).toInt ∧ (σ.1 27 3).toInt ≤ 19) (hn : 0 ≤ (σ.1 27 7).toInt ∧ (σ.1 27 7).toInt ≤ 1000000000) (ht : 0 ≤ (σ.1 27 6).toInt ∧ (σ.1 27 6).toInt ≤ 1000000000) (h25 : 2 ≤ r.1 ∧ r.1 ≤ 5) (hr : FtA σ a act → cr9 (ECV σ) (RC9 σ) en m sn [] [] = some r) (k : ∀ (τ' : zS) (o : Int32), SpR σ τ' a act r o → K (some (.int o)) τ') : Wz E Y_Ju_spoken 0 [(0, .ref 27), (1, .int at_), (2, .int act)] [] σ K := by
  refine z_aload_n (f := 0) (i := 0) (q := 0) (pc' := 1) ⟨by decide +kernel, rfl⟩ rfl rfl ?_
  refine w_getr (k := 27) (j := 2) (idx := 19) (pc' := 4) fxe_5_19 kfa_27_2 ⟨by decide +kernel, rfl⟩ ?_
  refine w_getr (k := 17) (j := 3) (idx := 92) (pc' := 7) fxe_5_92 kfa_17_3 ⟨by decide +kernel, rfl⟩ ?_
  refine z_iload_n (f := 1) (i := 1) (q := 1) (pc' := 8) ⟨by decide +kernel, rfl⟩ rfl rfl ?_
  refine z_iconst (i := 0) (v := 0) (pc' := 9) ⟨by decide +kernel, rfl⟩ (by decide) ?_
  refine z_iadd (pc' := 10) ⟨by decide +kernel, rfl⟩ ?_
  refine w_iald (k := 20) (n := (a + 0)) (pc' := 11) kaa_20 (at_c ha (by decide) (by have := hb.1; omega)) (by have := hb.1; omega) ⟨by decide +kernel, rfl⟩ ?_
  refine z_istore_n (f := 3) (i := 3) (pc' := 12) ⟨by decide +kernel, rfl⟩ rfl (by decide) rfl ?_
  show Wz E Y_Ju_spoken 12 [(3, .int (σ.1 20 (a + 0))), (0, .ref 27), (1, .int at_), (2, .int act)] [] σ K
  refine z_aload_n (f := 0) (i := 0) (q := 1) (pc' := 13) ⟨by decide +kernel, rfl⟩ rfl rfl ?_
  refine z_iload_n (f := 1) (i := 1) (q := 2) (pc' := 14) ⟨by decide +kernel, rfl⟩ rfl rfl ?_
  refine w_invV (Z := Y_Ju_fitsWho) (idx := 107) (kb := 27) (As := [.int at_]) (rest := []) (pc' := 17) cl_5_107 rfl ⟨rfl, rfl⟩ kfa_27_0 rfl ⟨⟨by decide, by decide⟩, rfl, rfl⟩ ⟨by decide +kernel, rfl⟩ rfl rfl (Nat.le_of_ble_eq_true rfl) rfl rfl ?_
  refine cz_Ju_fitsWho ha hb (fun v1 hv1 => ?_)
  show Wz E Y_Ju_spoken 17 [(3, .int (σ.1 20 (a + 0))), (0, .ref 27), (1, .int at_), (2, .int act)] [.int v1] σ K
  refine z_if_eq (off := 20) (tgt := 37) (pc' := 20) ⟨by decide +kernel, by decide, rfl⟩ (fun h2 => ?_) (fun h2 => ?_)
  · refine z_bipush (i := (-4)) (v := (-4)) (pc' := 39) ⟨by decide +kernel, rfl⟩ (by decide) ?_
    refine z_iret (ty := .int) rfl rfl (by decide +kernel) ?_
    have z0L : (0 : Int64).toInt = 0 := by decide
    have gh2 := p3_f hv1 h2
    exact k _ _ (sp_no (fun q => p3_f hv1 h2 q.1))
  · refine z_aload_n (f := 0) (i := 0) (q := 1) (pc' := 21) ⟨by decide +kernel, rfl⟩ rfl rfl ?_
    refine z_iload_n (f := 1) (i := 1) (q := 2) (pc' := 22) ⟨by decide +kernel, rfl⟩ rfl rfl ?_
    refine z_iload_n (f := 2) (i := 2) (q := 3) (pc' := 23) ⟨by decide +kernel, rfl⟩ rfl rfl ?_
    refine w_invV (Z := Y_Ju_fitsAct) (idx := 111) (kb := 27) (As := [.int at_, .int act]) (rest := []) (pc' := 26) cl_5_111 rfl ⟨rfl, rfl⟩ kfa_27_0 rfl ⟨⟨by decide, by decide⟩, rfl, rfl⟩ ⟨by decide +kernel, rfl⟩ rfl rfl (Nat.le_of_ble_eq_true rfl) rfl rfl ?_
    refine cz_Ju_fitsAct ha hb hact (fun v3 hv3 => ?_)
    show Wz E Y_Ju_spoken 26 [(3, .int (σ.1 20 (a + 0))), (0, .ref 27), (1, .int at_), (2, .int act)] [.int v3] σ K
    refine z_if_eq (off := 11) (tgt := 37) (pc' := 29) ⟨by decide +kernel, by decide, rfl⟩ (fun h4 => ?_) (fun h4 => ?_)
    · refine z_bipush (i := (-4)) (v := (-4)) (pc' := 39) ⟨by decide +kernel, rfl⟩ (by decide) ?_
      refine z_iret (ty := .int) rfl rfl (by decide +kernel) ?_
      have z0L : (0 : Int64).toInt = 0 := by decide
      have gh2 := p3_t hv1 h2
      have gh4 := p3_f hv3 h4
      exact k _ _ (sp_no (fun q => p3_f hv3 h4 q.2.1))
    · refine z_aload_n (f := 0) (i := 0) (q := 1) (pc' := 30) ⟨by decide +kernel, rfl⟩ rfl rfl ?_
      refine z_iload_n (f := 1) (i := 1) (q := 2) (pc' := 31) ⟨by decide +kernel, rfl⟩ rfl rfl ?_
      refine w_invV (Z := Y_Ju_fitsThing) (idx := 115) (kb := 27) (As := [.int at_]) (rest := []) (pc' := 34) cl_5_115 rfl ⟨rfl, rfl⟩ kfa_27_0 rfl ⟨⟨by decide, by decide⟩, rfl, rfl⟩ ⟨by decide +kernel, rfl⟩ rfl rfl (Nat.le_of_ble_eq_true rfl) rfl rfl ?_
      refine cz_Ju_fitsThing ha hb hp (fun v5 hv5 => ?_)
      show Wz E Y_Ju_spoken 34 [(3, .int (σ.1 20 (a + 0))), (0, .ref 27), (1, .int at_), (2, .int act)] [.int v5] σ K
      refine z_if_ne (off := 6) (tgt := 40) (pc' := 37) ⟨by decide +kernel, by decide, rfl⟩ (fun h6 => ?_) (fun h6 => ?_)
      · refine z_aload_n (f := 0) (i := 0) (q := 1) (pc' := 41) ⟨by decide +kernel, rfl⟩ rfl rfl ?_
        refine z_aload_n (f := 0) (i := 0) (q := 1) (pc' := 42) ⟨by decide +kernel, rfl⟩ rfl rfl ?_
        refine w_getr (k := 27) (j := 2) (idx := 19) (pc' := 45) fxe_5_19 kfa_27_2 ⟨by decide +kernel, rfl⟩ ?_
        refine w_getr (k := 17) (j := 3) (idx := 92) (pc' := 48) fxe_5_92 kfa_17_3 ⟨by decide +kernel, rfl⟩ ?_
        refine z_iload_n (f := 1) (i := 1) (q := 2) (pc' := 49) ⟨by decide +kernel, rfl⟩ rfl rfl ?_
        refine z_bipush (i := 6) (v := 6) (pc' := 51) ⟨by decide +kernel, rfl⟩ (by decide) ?_
        refine z_iadd (pc' := 52) ⟨by decide +kernel, rfl⟩ ?_
        refine w_iald (k := 20) (n := (a + 6)) (pc' := 53) kaa_20 (at_c ha (by decide) (by have := hb.1; omega)) (by have := hb.1; omega) ⟨by decide +kernel, rfl⟩ ?_
        refine z_aload_n (f := 0) (i := 0) (q := 1) (pc' := 54) ⟨by decide +kernel, rfl⟩ rfl rfl ?_
        refine w_getr (k := 27) (j := 2) (idx := 19) (pc' := 57) fxe_5_19 kfa_27_2 ⟨by decide +kernel, rfl⟩ ?_
        refine w_getr (k := 17) (j := 3) (idx := 92) (pc' := 60) fxe_5_92 kfa_17_3 ⟨by decide +kernel, rfl⟩ ?_
        refine z_iload_n (f := 1) (i := 1) (q := 2) (pc' := 61) ⟨by decide +kernel, rfl⟩ rfl rfl ?_
        refine z_bipush (i := 7) (v := 7) (pc' := 63) ⟨by decide +kernel, rfl⟩ (by decide) ?_
        refine z_iadd (pc' := 64) ⟨by decide +kernel, rfl⟩ ?_
        refine w_iald (k := 20) (n := (a + 7)) (pc' := 65) kaa_20 (at_c ha (by decide) (by have := hb.1; omega)) (by have := hb.1; omega) ⟨by decide +kernel, rfl⟩ ?_
        refine w_invV (Z := Y_Ju_truthOf) (idx := 118) (kb := 27) (As := [.int (σ.1 20 (a + 6)), .int (σ.1 20 (a + 7))]) (rest := []) (pc' := 68) cl_5_118 rfl ⟨rfl, rfl⟩ kfa_27_0 rfl ⟨⟨by decide, by decide⟩, rfl, rfl⟩ ⟨by decide +kernel, rfl⟩ rfl rfl (Nat.le_of_ble_eq_true rfl) rfl rfl ?_
        refine cz_Ju_truthOf hsn hen hco hc hw hb.2.2 hn ht (hr ⟨p3_t hv1 h2, p3_t hv3 h4, p3_t hv5 h6⟩) (fun σ7 v7 hv7 => ?_)
        show Wz E Y_Ju_spoken 68 [(3, .int (σ.1 20 (a + 0))), (0, .ref 27), (1, .int at_), (2, .int act)] [.int v7] σ7 K
        refine z_istore (i := 4) (pc' := 70) ⟨by decide +kernel, rfl⟩ (by decide) rfl ?_
        show Wz E Y_Ju_spoken 70 [(4, .int v7), (3, .int (σ.1 20 (a + 0))), (0, .ref 27), (1, .int at_), (2, .int act)] [] σ7 K
        refine z_iload (i := 4) (q := 0) (pc' := 72) ⟨by decide +kernel, rfl⟩ rfl ?_
        refine z_iconst (i := 3) (v := 3) (pc' := 73) ⟨by decide +kernel, rfl⟩ (by decide) ?_
        refine z_icmp_ne (off := 5) (tgt := 78) (pc' := 76) ⟨by decide +kernel, by decide, rfl⟩ (fun h8 => ?_) (fun h8 => ?_)
        · refine z_iload (i := 4) (q := 0) (pc' := 80) ⟨by decide +kernel, rfl⟩ rfl ?_
          refine z_iconst (i := 1) (v := 1) (pc' := 81) ⟨by decide +kernel, rfl⟩ (by decide) ?_
          refine z_icmp_eq (off := 14) (tgt := 95) (pc' := 84) ⟨by decide +kernel, by decide, rfl⟩ (fun h9 => ?_) (fun h9 => ?_)
          · refine z_iload_n (f := 3) (i := 3) (q := 1) (pc' := 96) ⟨by decide +kernel, rfl⟩ rfl rfl ?_
            refine z_goto (off := 5) (tgt := 101) (pc' := 99) ⟨by decide +kernel, by decide, rfl⟩ ?_
            refine z_iret (ty := .int) rfl rfl (by decide +kernel) ?_
            have z0L : (0 : Int64).toInt = 0 := by decide
            have z1 : (1 : Int32).toInt = 1 := by decide
            have z3 : (3 : Int32).toInt = 3 := by decide
            have gh2 := p3_t hv1 h2
            have gh4 := p3_t hv3 h4
            have gh6 := p3_t hv5 h6
            have gh8 := j_ne_t h8
            have gh9 := j_eq_t h9
            have zm4 : (-4 : Int32).toInt = -4 := by decide
            have hF : FtA σ a act := ⟨p3_t hv1 h2, p3_t hv3 h4, p3_t hv5 h6⟩
            have ef : (σ.1 20 (a + 0)).toInt = ruC σ a 0 := rfl
            exact k _ _ (sp_yes hF h25 hv7 (Or.inr (Or.inl ⟨by omega, by omega, rfl⟩)))
          · refine z_iload (i := 4) (q := 0) (pc' := 86) ⟨by decide +kernel, rfl⟩ rfl ?_
            refine z_iconst (i := 2) (v := 2) (pc' := 87) ⟨by decide +kernel, rfl⟩ (by decide) ?_
            refine z_icmp_ne (off := 12) (tgt := 99) (pc' := 90) ⟨by decide +kernel, by decide, rfl⟩ (fun h10 => ?_) (fun h10 => ?_)
            · refine z_bipush (i := (-4)) (v := (-4)) (pc' := 101) ⟨by decide +kernel, rfl⟩ (by decide) ?_
              refine z_iret (ty := .int) rfl rfl (by decide +kernel) ?_
              have z0L : (0 : Int64).toInt = 0 := by decide
              have z1 : (1 : Int32).toInt = 1 := by decide
              have z2 : (2 : Int32).toInt = 2 := by decide
              have z3 : (3 : Int32).toInt = 3 := by decide
              have gh2 := p3_t hv1 h2
              have gh4 := p3_t hv3 h4
              have gh6 := p3_t hv5 h6
              have gh8 := j_ne_t h8
              have gh9 := j_eq_f h9
              have gh10 := j_ne_t h10
              have zm4 : (-4 : Int32).toInt = -4 := by decide
              have hF : FtA σ a act := ⟨p3_t hv1 h2, p3_t hv3 h4, p3_t hv5 h6⟩
              have ef : (σ.1 20 (a + 0)).toInt = ruC σ a 0 := rfl
              exact k _ _ (sp_yes hF h25 hv7 (Or.inr (Or.inr ⟨by omega, by omega, zm4⟩)))
            · refine z_iload_n (f := 3) (i := 3) (q := 1) (pc' := 91) ⟨by decide +kernel, rfl⟩ rfl rfl ?_
              refine z_iconst (i := 1) (v := 1) (pc' := 92) ⟨by decide +kernel, rfl⟩ (by decide) ?_
              refine z_icmp_eq (off := 7) (tgt := 99) (pc' := 95) ⟨by decide +kernel, by decide, rfl⟩ (fun h11 => ?_) (fun h11 => ?_)
              · refine z_bipush (i := (-4)) (v := (-4)) (pc' := 101) ⟨by decide +kernel, rfl⟩ (by decide) ?_
                refine z_iret (ty := .int) rfl rfl (by decide +kernel) ?_
                have z0L : (0 : Int64).toInt = 0 := by decide
                have z1 : (1 : Int32).toInt = 1 := by decide
                have z2 : (2 : Int32).toInt = 2 := by decide
                have z3 : (3 : Int32).toInt = 3 := by decide
                have gh2 := p3_t hv1 h2
                have gh4 := p3_t hv3 h4
                have gh6 := p3_t hv5 h6
                have gh8 := j_ne_t h8
                have gh9 := j_eq_f h9
                have gh10 := j_ne_f h10
                have gh11 := j_eq_t h11
                have zm4 : (-4 : Int32).toInt = -4 := by decide
                have hF : FtA σ a act := ⟨p3_t hv1 h2, p3_t hv3 h4, p3_t hv5 h6⟩
                have ef : (σ.1 20 (a + 0)).toInt = ruC σ a 0 := rfl
                exact k _ _ (sp_yes hF h25 hv7 (Or.inr (Or.inr ⟨by omega, by omega, zm4⟩)))
              · refine z_iload_n (f := 3) (i := 3) (q := 1) (pc' := 96) ⟨by decide +kernel, rfl⟩ rfl rfl ?_
                refine z_goto (off := 5) (tgt := 101) (pc' := 99) ⟨by decide +kernel, by decide, rfl⟩ ?_
                refine z_iret (ty := .int) rfl rfl (by decide +kernel) ?_
                have z0L : (0 : Int64).toInt = 0 := by decide
                have z1 : (1 : Int32).toInt = 1 := by decide
                have z2 : (2 : Int32).toInt = 2 := by decide
                have z3 : (3 : Int32).toInt = 3 := by decide
                have gh2 := p3_t hv1 h2
                have gh4 := p3_t hv3 h4
                have gh6 := p3_t hv5 h6
                have gh8 := j_ne_t h8
                have gh9 := j_eq_f h9
                have gh10 := j_ne_f h10
                have gh11 := j_eq_f h11
                have zm4 : (-4 : Int32).toInt = -4 := by decide
                have hF : FtA σ a act := ⟨p3_t hv1 h2, p3_t hv3 h4, p3_t hv5 h6⟩
                have ef : (σ.1 20 (a + 0)).toInt = ruC σ a 0 := rfl
                exact k _ _ (sp_yes hF h25 hv7 (Or.inr (Or.inl ⟨by omega, by omega, rfl⟩)))
        · refine z_iconst (i := 3) (v := 3) (pc' := 77) ⟨by decide +kernel, rfl⟩ (by decide) ?_
          refine z_iret (ty := .int) rfl rfl (by decide +kernel) ?_
          have z0L : (0 : Int64).toInt = 0 := by decide
          have z3 : (3 : Int32).toInt = 3 := by decide
          have gh2 := p3_t hv1 h2
          have gh4 := p3_t hv3 h4
          have gh6 := p3_t hv5 h6
          have gh8 := j_ne_f h8
          have zm4 : (-4 : Int32).toInt = -4 := by decide
          have hF : FtA σ a act := ⟨p3_t hv1 h2, p3_t hv3 h4, p3_t hv5 h6⟩
          have ef : (σ.1 20 (a + 0)).toInt = ruC σ a 0 := rfl
          exact k _ _ (sp_yes hF h25 hv7 (Or.inl ⟨by omega, by omega⟩))
      · refine z_bipush (i := (-4)) (v := (-4)) (pc' := 39) ⟨by decide +kernel, rfl⟩ (by decide) ?_
        refine z_iret (ty := .int) rfl rfl (by decide +kernel) ?_
        have z0L : (0 : Int64).toInt = 0 := by decide
        have gh2 := p3_t hv1 h2
        have gh4 := p3_t hv3 h4
        have gh6 := p3_f hv5 h6
        exact k _ _ (sp_no (fun q => p3_f hv5 h6 q.2.2))
theorem cz_Ju_spoken {E : xV} {σ : zS} {K : zKt} {at_ act : Int32} {a sn en m : Nat} {r : EntJ} (ha : at_.toInt = (a : Int)) (hb : RuB σ a) (hact : 0 ≤ act.toInt ∧ act.toInt ≤ 5) (hp : PlC σ) (hsn : (σ.1 20 (a + 6)).toInt = (sn : Int)) (hen : (σ.1 20 (a + 7)).toInt = (en : Int)) (hco : CoC σ en) (hc : ∀ f : Nat, f < 480 → 0 ≤ (σ.1 8 f).toInt ∧ (σ.1 8 f).toInt ≤ 20) (hw : 0 ≤ (σ.1 27 3).toInt ∧ (σ.1 27 3).toInt ≤ 19) (hn : 0 ≤ (σ.1 27 7).toInt ∧ (σ.1 27 7).toInt ≤ 1000000000) (ht : 0 ≤ (σ.1 27 6).toInt ∧ (σ.1 27 6).toInt ≤ 1000000000) (h25 : 2 ≤ r.1 ∧ r.1 ≤ 5) (hr : FtA σ a act → cr9 (ECV σ) (RC9 σ) en m sn [] [] = some r) (k : ∀ (τ' : zS) (o : Int32), SpR σ τ' a act r o → K (some (.int o)) τ') : Cz E Y_Ju_spoken [.ref 27, .int at_, .int act] σ K := z_entry (by decide) (fun a => by rw [sl_len]; exact Nat.le_of_ble_eq_true rfl) rfl (run_Ju_spoken ha hb hact hp hsn hen hco hc hw hn ht h25 hr k)
theorem run_Ju_weightOf {E : xV} {σ : zS} {K : zKt} {way at_ said : Int32} {a : Nat} (ha : at_.toInt = (a : Int)) (hb : RuB σ a) (hp : PlC σ) (hsd : 0 ≤ said.toInt ∧ said.toInt ≤ 3) (u1 : 0 ≤ ruC σ a 1 ∧ ruC σ a 1 ≤ 3) (u4 : 0 ≤ ruC σ a 4 ∧ ruC σ a 4 ≤ 2) (u5 : ruC σ a 4 ≠ 0 → 0 ≤ ruC σ a 5 ∧ ruC σ a 5 ≤ 39) (k : ∀ v : Int32, v.toInt = wtC σ way.toInt a said.toInt → K (some (.int v)) σ) : Wz E Y_Ju_weightOf 0 [(0, .ref 27), (1, .int way), (2, .int at_), (3, .int said)] [] σ K := by
  refine z_iload_n (f := 1) (i := 1) (q := 1) (pc' := 1) ⟨by decide +kernel, rfl⟩ rfl rfl ?_
  refine z_if_ne (off := 5) (tgt := 6) (pc' := 4) ⟨by decide +kernel, by decide, rfl⟩ (fun h1 => ?_) (fun h1 => ?_)
  · refine z_iconst (i := 0) (v := 0) (pc' := 7) ⟨by decide +kernel, rfl⟩ (by decide) ?_
    refine z_istore (i := 4) (pc' := 9) ⟨by decide +kernel, rfl⟩ (by decide) rfl ?_
    show Wz E Y_Ju_weightOf 9 [(4, .int 0), (0, .ref 27), (1, .int way), (2, .int at_), (3, .int said)] [] σ K
    refine z_iload_n (f := 1) (i := 1) (q := 2) (pc' := 10) ⟨by decide +kernel, rfl⟩ rfl rfl ?_
    refine z_iconst (i := 3) (v := 3) (pc' := 11) ⟨by decide +kernel, rfl⟩ (by decide) ?_
    refine z_icmp_ne (off := 19) (tgt := 30) (pc' := 14) ⟨by decide +kernel, by decide, rfl⟩ (fun h2 => ?_) (fun h2 => ?_)
    · refine z_iload_n (f := 1) (i := 1) (q := 2) (pc' := 31) ⟨by decide +kernel, rfl⟩ rfl rfl ?_
      refine z_iconst (i := 2) (v := 2) (pc' := 32) ⟨by decide +kernel, rfl⟩ (by decide) ?_
      refine z_icmp_ne (off := 55) (tgt := 87) (pc' := 35) ⟨by decide +kernel, by decide, rfl⟩ (fun h3 => ?_) (fun h3 => ?_)
      · refine z_iload (i := 4) (q := 0) (pc' := 89) ⟨by decide +kernel, rfl⟩ rfl ?_
        refine z_iconst (i := 4) (v := 4) (pc' := 90) ⟨by decide +kernel, rfl⟩ (by decide) ?_
        refine z_imul (pc' := 91) ⟨by decide +kernel, rfl⟩ ?_
        refine w_getsR (m := 141) (idx := 104) (pc' := 94) rfl (by decide) (by decide +kernel) ⟨by decide +kernel, rfl⟩ ?_
        refine z_iload_n (f := 3) (i := 3) (q := 4) (pc' := 95) ⟨by decide +kernel, rfl⟩ rfl rfl ?_
        refine w_rald (n := said.toInt.toNat) (pc' := 96) (by omega) (by omega) ⟨by decide +kernel, rfl⟩ ?_
        refine z_iadd (pc' := 97) ⟨by decide +kernel, rfl⟩ ?_
        refine z_iret (ty := .int) rfl rfl (by decide +kernel) ?_
        have z0L : (0 : Int64).toInt = 0 := by decide
        have z0 : (0 : Int32).toInt = 0 := by decide
        have z2 : (2 : Int32).toInt = 2 := by decide
        have z3 : (3 : Int32).toInt = 3 := by decide
        have gh1 := j_ne_t (y := 0) h1
        have gh2 := j_ne_t h2
        have gh3 := j_ne_t h3
        have rk := rnk_at (x := said) (n := said.toInt.toNat) (by omega) (by omega)
        have e1 : (σ.1 20 (a + 1)).toInt = ruC σ a 1 := rfl
        have e4 : (σ.1 20 (a + 4)).toInt = ruC σ a 4 := rfl
        exact k _ (wt_put (z := 0) (by omega) (by decide) (by omega) (by rw [if_neg (by omega), if_neg (by omega)]) rk)
      · refine z_aload_n (f := 0) (i := 0) (q := 1) (pc' := 36) ⟨by decide +kernel, rfl⟩ rfl rfl ?_
        refine w_getr (k := 27) (j := 2) (idx := 19) (pc' := 39) fxe_5_19 kfa_27_2 ⟨by decide +kernel, rfl⟩ ?_
        refine w_getr (k := 17) (j := 3) (idx := 92) (pc' := 42) fxe_5_92 kfa_17_3 ⟨by decide +kernel, rfl⟩ ?_
        refine z_iload_n (f := 2) (i := 2) (q := 3) (pc' := 43) ⟨by decide +kernel, rfl⟩ rfl rfl ?_
        refine z_iconst (i := 4) (v := 4) (pc' := 44) ⟨by decide +kernel, rfl⟩ (by decide) ?_
        refine z_iadd (pc' := 45) ⟨by decide +kernel, rfl⟩ ?_
        refine w_iald (k := 20) (n := (a + 4)) (pc' := 46) kaa_20 (at_c ha (by decide) (by have := hb.1; omega)) (by have := hb.1; omega) ⟨by decide +kernel, rfl⟩ ?_
        refine z_if_eq (off := 41) (tgt := 87) (pc' := 49) ⟨by decide +kernel, by decide, rfl⟩ (fun h4 => ?_) (fun h4 => ?_)
        · refine z_iload (i := 4) (q := 0) (pc' := 89) ⟨by decide +kernel, rfl⟩ rfl ?_
          refine z_iconst (i := 4) (v := 4) (pc' := 90) ⟨by decide +kernel, rfl⟩ (by decide) ?_
          refine z_imul (pc' := 91) ⟨by decide +kernel, rfl⟩ ?_
          refine w_getsR (m := 141) (idx := 104) (pc' := 94) rfl (by decide) (by decide +kernel) ⟨by decide +kernel, rfl⟩ ?_
          refine z_iload_n (f := 3) (i := 3) (q := 4) (pc' := 95) ⟨by decide +kernel, rfl⟩ rfl rfl ?_
          refine w_rald (n := said.toInt.toNat) (pc' := 96) (by omega) (by omega) ⟨by decide +kernel, rfl⟩ ?_
          refine z_iadd (pc' := 97) ⟨by decide +kernel, rfl⟩ ?_
          refine z_iret (ty := .int) rfl rfl (by decide +kernel) ?_
          have z0L : (0 : Int64).toInt = 0 := by decide
          have z0 : (0 : Int32).toInt = 0 := by decide
          have z2 : (2 : Int32).toInt = 2 := by decide
          have z3 : (3 : Int32).toInt = 3 := by decide
          have gh1 := j_ne_t (y := 0) h1
          have gh2 := j_ne_t h2
          have gh3 := j_ne_f h3
          have gh4 := j_eq_t (y := 0) h4
          have rk := rnk_at (x := said) (n := said.toInt.toNat) (by omega) (by omega)
          have e1 : (σ.1 20 (a + 1)).toInt = ruC σ a 1 := rfl
          have e4 : (σ.1 20 (a + 4)).toInt = ruC σ a 4 := rfl
          exact k _ (wt_put (z := 0) (by omega) (by decide) (by omega) (by rw [if_neg (by omega), if_neg (by omega)]) rk)
        · refine z_aload_n (f := 0) (i := 0) (q := 1) (pc' := 50) ⟨by decide +kernel, rfl⟩ rfl rfl ?_
          refine w_getr (k := 27) (j := 1) (idx := 15) (pc' := 53) fxe_5_15 kfa_27_1 ⟨by decide +kernel, rfl⟩ ?_
          refine z_aload_n (f := 0) (i := 0) (q := 1) (pc' := 54) ⟨by decide +kernel, rfl⟩ rfl rfl ?_
          refine w_getr (k := 27) (j := 2) (idx := 19) (pc' := 57) fxe_5_19 kfa_27_2 ⟨by decide +kernel, rfl⟩ ?_
          refine w_getr (k := 17) (j := 3) (idx := 92) (pc' := 60) fxe_5_92 kfa_17_3 ⟨by decide +kernel, rfl⟩ ?_
          refine z_iload_n (f := 2) (i := 2) (q := 3) (pc' := 61) ⟨by decide +kernel, rfl⟩ rfl rfl ?_
          refine z_iconst (i := 5) (v := 5) (pc' := 62) ⟨by decide +kernel, rfl⟩ (by decide) ?_
          refine z_iadd (pc' := 63) ⟨by decide +kernel, rfl⟩ ?_
          refine w_iald (k := 20) (n := (a + 5)) (pc' := 64) kaa_20 (at_c ha (by decide) (by have := hb.1; omega)) (by have := hb.1; omega) ⟨by decide +kernel, rfl⟩ ?_
          refine w_invV (Z := Y_Th_depthOf) (idx := 98) (kb := 10) (As := [.int (σ.1 20 (a + 5))]) (rest := []) (pc' := 67) cl_5_98 rfl ⟨rfl, rfl⟩ kfa_10_0 rfl ⟨⟨by decide, by decide⟩, rfl, rfl⟩ ⟨by decide +kernel, rfl⟩ rfl rfl (Nat.le_of_ble_eq_true rfl) rfl rfl ?_
          refine cz_Th_depthOf (n := (ruC σ a 5).toNat) hp (by have cf : ruC σ a 5 = (σ.1 20 (a + 5)).toInt := rfl; show (σ.1 20 (a + 5)).toInt = _; have := u5 (by have q := j_eq_f (y := 0) h4; have z0 : (0 : Int32).toInt = 0 := (by decide); show (σ.1 20 (a + 4)).toInt ≠ 0; omega); omega) (by have := u5 (by have q := j_eq_f (y := 0) h4; have z0 : (0 : Int32).toInt = 0 := (by decide); show (σ.1 20 (a + 4)).toInt ≠ 0; omega); omega) (fun v5 hv5 => ?_)
          show Wz E Y_Ju_weightOf 67 [(4, .int 0), (0, .ref 27), (1, .int way), (2, .int at_), (3, .int said)] [.int v5] σ K
          refine z_istore (i := 5) (pc' := 69) ⟨by decide +kernel, rfl⟩ (by decide) rfl ?_
          show Wz E Y_Ju_weightOf 69 [(5, .int v5), (4, .int 0), (0, .ref 27), (1, .int way), (2, .int at_), (3, .int said)] [] σ K
          refine z_iconst (i := 2) (v := 2) (pc' := 70) ⟨by decide +kernel, rfl⟩ (by decide) ?_
          refine z_iload (i := 5) (q := 0) (pc' := 72) ⟨by decide +kernel, rfl⟩ rfl ?_
          refine z_imul (pc' := 73) ⟨by decide +kernel, rfl⟩ ?_
          refine z_aload_n (f := 0) (i := 0) (q := 2) (pc' := 74) ⟨by decide +kernel, rfl⟩ rfl rfl ?_
          refine w_getr (k := 27) (j := 2) (idx := 19) (pc' := 77) fxe_5_19 kfa_27_2 ⟨by decide +kernel, rfl⟩ ?_
          refine w_getr (k := 17) (j := 3) (idx := 92) (pc' := 80) fxe_5_92 kfa_17_3 ⟨by decide +kernel, rfl⟩ ?_
          refine z_iload_n (f := 2) (i := 2) (q := 4) (pc' := 81) ⟨by decide +kernel, rfl⟩ rfl rfl ?_
          refine z_iconst (i := 4) (v := 4) (pc' := 82) ⟨by decide +kernel, rfl⟩ (by decide) ?_
          refine z_iadd (pc' := 83) ⟨by decide +kernel, rfl⟩ ?_
          refine w_iald (k := 20) (n := (a + 4)) (pc' := 84) kaa_20 (at_c ha (by decide) (by have := hb.1; omega)) (by have := hb.1; omega) ⟨by decide +kernel, rfl⟩ ?_
          refine z_iadd (pc' := 85) ⟨by decide +kernel, rfl⟩ ?_
          refine z_istore (i := 4) (pc' := 87) ⟨by decide +kernel, rfl⟩ (by decide) rfl ?_
          show Wz E Y_Ju_weightOf 87 [(4, .int ((2 * v5) + (σ.1 20 (a + 4)))), (5, .int v5), (0, .ref 27), (1, .int way), (2, .int at_), (3, .int said)] [] σ K
          refine z_iload (i := 4) (q := 0) (pc' := 89) ⟨by decide +kernel, rfl⟩ rfl ?_
          refine z_iconst (i := 4) (v := 4) (pc' := 90) ⟨by decide +kernel, rfl⟩ (by decide) ?_
          refine z_imul (pc' := 91) ⟨by decide +kernel, rfl⟩ ?_
          refine w_getsR (m := 141) (idx := 104) (pc' := 94) rfl (by decide) (by decide +kernel) ⟨by decide +kernel, rfl⟩ ?_
          refine z_iload_n (f := 3) (i := 3) (q := 5) (pc' := 95) ⟨by decide +kernel, rfl⟩ rfl rfl ?_
          refine w_rald (n := said.toInt.toNat) (pc' := 96) (by omega) (by omega) ⟨by decide +kernel, rfl⟩ ?_
          refine z_iadd (pc' := 97) ⟨by decide +kernel, rfl⟩ ?_
          refine z_iret (ty := .int) rfl rfl (by decide +kernel) ?_
          have z0L : (0 : Int64).toInt = 0 := by decide
          have z0 : (0 : Int32).toInt = 0 := by decide
          have z2 : (2 : Int32).toInt = 2 := by decide
          have z3 : (3 : Int32).toInt = 3 := by decide
          have gh1 := j_ne_t (y := 0) h1
          have gh2 := j_ne_t h2
          have gh3 := j_ne_f h3
          have gh4 := j_eq_f (y := 0) h4
          have rk := rnk_at (x := said) (n := said.toInt.toNat) (by omega) (by omega)
          have e1 : (σ.1 20 (a + 1)).toInt = ruC σ a 1 := rfl
          have e4 : (σ.1 20 (a + 4)).toInt = ruC σ a 4 := rfl
          have dl := dp_le (σ := σ) (n := 40) (x := (σ.1 11 (ruC σ a 5).toNat).toInt)
          have z2 : (2 : Int32).toInt = 2 := by decide
          have m2 : (2 * v5).toInt = 2 * v5.toInt := by rw [Int32.toInt_mul, z2, Int.bmod_eq_of_le (by omega) (by omega)]
          exact k _ (wt_put (z := 2 * ((dpC σ 40 (σ.1 11 (ruC σ a 5).toNat).toInt : Nat) : Int) + ruC σ a 4) (by omega) (by rw [i32_add (by omega), m2, hv5]) (by omega) (by rw [if_neg (by omega), if_pos (by omega)]) rk)
    · refine z_aload_n (f := 0) (i := 0) (q := 1) (pc' := 15) ⟨by decide +kernel, rfl⟩ rfl rfl ?_
      refine w_getr (k := 27) (j := 2) (idx := 19) (pc' := 18) fxe_5_19 kfa_27_2 ⟨by decide +kernel, rfl⟩ ?_
      refine w_getr (k := 17) (j := 3) (idx := 92) (pc' := 21) fxe_5_92 kfa_17_3 ⟨by decide +kernel, rfl⟩ ?_
      refine z_iload_n (f := 2) (i := 2) (q := 3) (pc' := 22) ⟨by decide +kernel, rfl⟩ rfl rfl ?_
      refine z_iconst (i := 1) (v := 1) (pc' := 23) ⟨by decide +kernel, rfl⟩ (by decide) ?_
      refine z_iadd (pc' := 24) ⟨by decide +kernel, rfl⟩ ?_
      refine w_iald (k := 20) (n := (a + 1)) (pc' := 25) kaa_20 (at_c ha (by decide) (by have := hb.1; omega)) (by have := hb.1; omega) ⟨by decide +kernel, rfl⟩ ?_
      refine z_istore (i := 4) (pc' := 27) ⟨by decide +kernel, rfl⟩ (by decide) rfl ?_
      show Wz E Y_Ju_weightOf 27 [(4, .int (σ.1 20 (a + 1))), (0, .ref 27), (1, .int way), (2, .int at_), (3, .int said)] [] σ K
      refine z_goto (off := 60) (tgt := 87) (pc' := 30) ⟨by decide +kernel, by decide, rfl⟩ ?_
      refine z_iload (i := 4) (q := 0) (pc' := 89) ⟨by decide +kernel, rfl⟩ rfl ?_
      refine z_iconst (i := 4) (v := 4) (pc' := 90) ⟨by decide +kernel, rfl⟩ (by decide) ?_
      refine z_imul (pc' := 91) ⟨by decide +kernel, rfl⟩ ?_
      refine w_getsR (m := 141) (idx := 104) (pc' := 94) rfl (by decide) (by decide +kernel) ⟨by decide +kernel, rfl⟩ ?_
      refine z_iload_n (f := 3) (i := 3) (q := 4) (pc' := 95) ⟨by decide +kernel, rfl⟩ rfl rfl ?_
      refine w_rald (n := said.toInt.toNat) (pc' := 96) (by omega) (by omega) ⟨by decide +kernel, rfl⟩ ?_
      refine z_iadd (pc' := 97) ⟨by decide +kernel, rfl⟩ ?_
      refine z_iret (ty := .int) rfl rfl (by decide +kernel) ?_
      have z0L : (0 : Int64).toInt = 0 := by decide
      have z0 : (0 : Int32).toInt = 0 := by decide
      have z3 : (3 : Int32).toInt = 3 := by decide
      have gh1 := j_ne_t (y := 0) h1
      have gh2 := j_ne_f h2
      have rk := rnk_at (x := said) (n := said.toInt.toNat) (by omega) (by omega)
      have e1 : (σ.1 20 (a + 1)).toInt = ruC σ a 1 := rfl
      have e4 : (σ.1 20 (a + 4)).toInt = ruC σ a 4 := rfl
      exact k _ (wt_put (z := ruC σ a 1) (by omega) rfl (by omega) (by rw [if_pos (by omega)]) rk)
  · refine z_iconst (i := 0) (v := 0) (pc' := 5) ⟨by decide +kernel, rfl⟩ (by decide) ?_
    refine z_iret (ty := .int) rfl rfl (by decide +kernel) ?_
    have z0L : (0 : Int64).toInt = 0 := by decide
    have z0 : (0 : Int32).toInt = 0 := by decide
    have gh1 := j_ne_f (y := 0) h1
    exact k _ (wt_0 (by omega))
theorem cz_Ju_weightOf {E : xV} {σ : zS} {K : zKt} {way at_ said : Int32} {a : Nat} (ha : at_.toInt = (a : Int)) (hb : RuB σ a) (hp : PlC σ) (hsd : 0 ≤ said.toInt ∧ said.toInt ≤ 3) (u1 : 0 ≤ ruC σ a 1 ∧ ruC σ a 1 ≤ 3) (u4 : 0 ≤ ruC σ a 4 ∧ ruC σ a 4 ≤ 2) (u5 : ruC σ a 4 ≠ 0 → 0 ≤ ruC σ a 5 ∧ ruC σ a 5 ≤ 39) (k : ∀ v : Int32, v.toInt = wtC σ way.toInt a said.toInt → K (some (.int v)) σ) : Cz E Y_Ju_weightOf [.ref 27, .int way, .int at_, .int said] σ K := z_entry (by decide) (fun a => by rw [sl_len]; exact Nat.le_of_ble_eq_true rfl) rfl (run_Ju_weightOf ha hb hp hsd u1 u4 u5 k)

end
