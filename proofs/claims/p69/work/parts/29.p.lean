section
noncomputable section
/-! ===== WHAT ELSE HOLDS, 33: a statement that reaches out: 570 n, 571 b, 574 a: none below 572 does, 573 does; hints 110 .. 118 ===== -/
section SM
variable {J : Jt} {s : Sy} {ρ : List Int} {σ : zS}
/-- a sum of values with weights -/
noncomputable def sml (s : Sy) : List (AV × Int) → Lf → Int → Lf × Int
  | [], f, k => (f, k)
  | e :: r, f, k => sml s r (tlin e.2 (nf s e.1).1 f) (k + e.2 * (nf s e.1).2)
noncomputable def smv (ρ : List Int) : List (AV × Int) → Int
  | [] => 0
  | e :: r => e.2 * (ev ρ e.1).getD 0 + smv ρ r
theorem sml_ok (ho : Ok J s ρ σ) : ∀ {l : List (AV × Int)} {f : Lf} {k x : Int}, (∀ e ∈ l, ∃ z, ev ρ e.1 = some z) → tvo ρ f = some x → ∃ y, tvo ρ (sml s l f k).1 = some y ∧ y + (sml s l f k).2 = x + k + smv ρ l
  | [], f, k, x, _, hf => ⟨x, hf, by show x + k = x + k + 0; omega⟩
  | e :: r, f, k, x, he, hf => by
    obtain ⟨z, hz⟩ := he e (List.mem_cons_self ..)
    obtain ⟨v, v1, v2⟩ := nf_ok ho hz
    obtain ⟨y, y1, y2⟩ := sml_ok ho (l := r) (k := k + e.2 * (nf s e.1).2) (fun e' h => he e' (List.mem_cons_of_mem _ h)) (tlin_ok (w := e.2) v1 hf)
    refine ⟨y, y1, ?_⟩
    show y + (sml s r (tlin e.2 (nf s e.1).1 f) (k + e.2 * (nf s e.1).2)).2 = x + k + (e.2 * (ev ρ e.1).getD 0 + smv ρ r)
    rw [y2, hz]
    show x + e.2 * v + (k + e.2 * (nf s e.1).2) + smv ρ r = x + k + (e.2 * z + smv ρ r)
    rw [v2, Int.mul_add]
    omega
noncomputable def sle (s : Sy) (l : List (AV × Int)) (c : Int) : Bool := leq s (sml s l [] 0).1 (c - (sml s l [] 0).2)
theorem sle_ok (ho : Ok J s ρ σ) {l : List (AV × Int)} {c : Int} (h : sle s l c = true) (he : ∀ e ∈ l, ∃ z, ev ρ e.1 = some z) : smv ρ l ≤ c := by
  obtain ⟨y, y1, y2⟩ := sml_ok ho (l := l) (f := []) (k := 0) (x := 0) he rfl
  have := leq_ok ho h y1
  omega
end SM
noncomputable def BLK : Dom := [(2, 2), (5, 5)]
noncomputable def Blk (k : Int) : Prop := k = 2 ∨ k = 5
theorem blk_in {k : Int} (h : Blk k) : inD k BLK := by
  rcases h with rfl | rfl
  · exact ⟨(2, 2), List.mem_cons_self .., Int.le_refl _, Int.le_refl _⟩
  · exact ⟨(5, 5), List.mem_cons_of_mem _ (List.mem_cons_self ..), Int.le_refl _, Int.le_refl _⟩
theorem blk_of {k : Int} (h : inD k BLK) : Blk k := by
  obtain ⟨p, hp, h1, h2⟩ := h
  rcases List.mem_cons.mp hp with rfl | hp
  · exact Or.inl (by dsimp only at h1 h2; omega)
  rcases List.mem_cons.mp hp with rfl | hp
  · exact Or.inr (by dsimp only at h1 h2; omega)
  · cases hp
noncomputable def nblk (s : Sy) (a : AV) : Bool := isS (edom s a) && dis (dom s a) BLK
noncomputable def yblk (s : Sy) (a : AV) : Bool := isS (edom s a) && dsub (dom s a) BLK
theorem nblk_ok {J : Jt} {s : Sy} {ρ : List Int} {σ : zS} {a : AV} {x : Int} (ho : Ok J s ρ σ) (h : nblk s a = true) (hx : ev ρ a = some x) : ¬ Blk x := fun q => by
  have h : (isS (edom s a) && dis (dom s a) BLK) = true := h
  rw [Bool.and_eq_true] at h
  exact dis_ok h.2 (edom_ok' ho h.1 hx) (blk_in q)
theorem yblk_ok {J : Jt} {s : Sy} {ρ : List Int} {σ : zS} {a : AV} {x : Int} (ho : Ok J s ρ σ) (h : yblk s a = true) (hx : ev ρ a = some x) : Blk x := by
  have h : (isS (edom s a) && dsub (dom s a) BLK) = true := h
  rw [Bool.and_eq_true] at h
  exact blk_of (dsub_in h.2 (edom_ok' ho h.1 hx))
noncomputable def Qx (K B : Nat → Int) (n b a : Int) (i : Nat) : Prop := Blk a ∧ Blk (K i) ∧ n ≤ (i : Int) + B i ∧ (i : Int) + B i < n + b
noncomputable def xS9 (kK kB : Nat) (H : List (Nat × Int)) (σ : zS) : Prop :=
  (∀ n b a x, lk H 570 = some n → lk H 571 = some b → lk H 574 = some a → lk H 572 = some x → ∀ i : Nat, (i : Int) < x → ¬ Qx (Pp σ kK) (Pp σ kB) n b a i) ∧
  (∀ n b a w, lk H 570 = some n → lk H 571 = some b → lk H 574 = some a → lk H 573 = some w → ∃ i : Nat, w = (i : Int) ∧ Qx (Pp σ kK) (Pp σ kB) n b a i) ∧
  ∀ n b a, lk H 570 = some n → lk H 571 = some b → lk H 574 = some a → Blk a → 0 ≤ b ∧ b ≤ 20
noncomputable def xtg (t : Nat) : Bool := Nat.ble 570 t && Nat.ble t 574
theorem xtg_no {u : Nat} (h : xtg u = false) : ¬ (570 ≤ u ∧ u ≤ 574) := fun q => by
  have : xtg u = true := by
    show (Nat.ble 570 u && Nat.ble u 574) = true
    rw [Bool.and_eq_true]
    exact ⟨Nat.ble_eq_true_of_le q.1, Nat.ble_eq_true_of_le q.2⟩
  rw [this] at h
  cases h
noncomputable def cx9 (kK kB : Nat) : Cp := (xtg, (xS9 kK kB, (fun q => Nat.beq q kK || Nat.beq q kB, (fun _ hl _ _ _ => bif isS (lk hl 570) then none else some hl, nlw))))
theorem cx9_ok {T : Jx} {G : Gl} {kK kB : Nat} : CpOk T G (cx9 kK kB) := by
  apply CpOk.no (fun _ => rfl)
  have tin : ∀ u, 570 ≤ u → u ≤ 574 → xtg u = true := fun u h1 h2 => by
    show (Nat.ble 570 u && Nat.ble u 574) = true
    rw [Bool.and_eq_true]
    exact ⟨Nat.ble_eq_true_of_le h1, Nat.ble_eq_true_of_le h2⟩
  refine ⟨fun u hu => ?_, fun H H' σ σ' h1 h2 hS => ?_, ?_⟩
  · have hu : (Nat.ble 570 u && Nat.ble u 574) = true := hu
    rw [Bool.and_eq_true] at hu
    have := Nat.le_of_ble_eq_true hu.1
    omega
  · have r1 : Pp σ' kK = Pp σ kK := by
      funext y
      show (σ'.1 kK y).toInt = _
      rw [h2 kK (by show (Nat.beq kK kK || Nat.beq kK kB) = true; rw [Nat.beq_refl]; rfl)]
    have r2 : Pp σ' kB = Pp σ kB := by
      funext y
      show (σ'.1 kB y).toInt = _
      rw [h2 kB (by show (Nat.beq kB kK || Nat.beq kB kB) = true; rw [Nat.beq_refl, Bool.or_true])]
    have l : ∀ u, 570 ≤ u → u ≤ 574 → lk H' u = lk H u := fun u a b => h1 u (tin u a b)
    show xS9 kK kB H' σ'
    unfold xS9
    rw [r1, r2, l 570 (by omega) (by omega), l 571 (by omega) (by omega), l 572 (by omega) (by omega), l 573 (by omega) (by omega), l 574 (by omega) (by omega)]
    exact hS
  · intro s ρ σ k p v j x hl hl' H ho hb hp hi hv hx hr hw hh hS
    replace hw : (bif isS (lk hl 570) then none else some hl) = some hl' := hw
    cases hc : isS (lk hl 570) with
    | true => rw [hc] at hw; cases hw
    | false =>
      rw [hc] at hw
      cases Option.some.inj hw
      have no : lk H 570 = none := by
        rcases hh.lkp (t := 570) with ⟨_, q2⟩ | ⟨a, z, q1, _, _⟩
        · exact q2
        · rw [q1] at hc; cases hc
      exact ⟨H, hh, ⟨fun n b a x' q => (by rw [no] at q; cases q), fun n b a w q => (by rw [no] at q; cases q), fun n b a q => (by rw [no] at q; cases q)⟩, fun _ _ => rfl⟩
section H35
variable {T : Jx} {G : Gl} {cs : List Cp} {s : Sy} {ρ : List Int} {σ : zS} {kK kB : Nat}
noncomputable def h110 (kS jS : Nat) (a b : AV) (s : Sy) : Sy := match mget s.me kS (.c (jS : Int)) with
  | some n => bif ((n.isI && (a.isI && b.isI)) && ((!(isS (lk s.hl 570)) && !(isS (lk s.hl 571))) && (!(isS (lk s.hl 572)) && (!(isS (lk s.hl 573)) && !(isS (lk s.hl 574)))))) && (nblk s a || (leAV s (.c 0) b && leAV s b (.c 20))) then s.seth ((572, .c 0) :: (570, n) :: (571, b) :: (574, a) :: s.hl) else s
  | none => s
theorem h110_ok (hP : PH T G cs (cx9 kK kB)) {kS jS : Nat} {a b : AV} {x y : Int} (ha : ev ρ a = some x) (hb : ev ρ b = some y) (ho : Ok (Jf T G (cS cs)) s ρ σ) : Ok (Jf T G (cS cs)) (h110 kS jS a b s) ρ σ := by
  unfold h110
  split
  · rename_i n hn
    cases hc : ((n.isI && (a.isI && b.isI)) && ((!(isS (lk s.hl 570)) && !(isS (lk s.hl 571))) && (!(isS (lk s.hl 572)) && (!(isS (lk s.hl 573)) && !(isS (lk s.hl 574)))))) && (nblk s a || (leAV s (.c 0) b && leAV s b (.c 20))) with
    | false => exact ho
    | true =>
      simp only [Bool.and_eq_true, Bool.or_eq_true] at hc
      obtain ⟨⟨⟨c1, c2, c3⟩, ⟨c4, c5⟩, c6, c7, c8⟩, c9⟩ := hc
      obtain ⟨H, i1, i2⟩ := ho.inv
      have n573 := no_tag i1 c7
      have en := me_at ho hn rfl c1
      refine ph_set (H := H) (H' := (572, 0) :: (570, (σ.1 kS jS).toInt) :: (571, y) :: (574, x) :: H) hP ho i2 ⟨⟨rfl, rfl⟩, ⟨rfl, en⟩, ⟨rfl, hb⟩, ⟨rfl, ha⟩, i1⟩ (fun u hu => ?_) ⟨fun n' b' a' x' _ _ _ q4 i hi => ?_, fun n' b' a' w _ _ _ q4 => ?_, fun n' b' a' _ q2 q3 hB => ?_⟩
      · have := xtg_no hu
        rw [lk_cons, if_neg (by omega), lk_cons, if_neg (by omega), lk_cons, if_neg (by omega), lk_cons, if_neg (by omega)]
      · rw [lk_cons, if_pos rfl] at q4
        have := Option.some.inj q4
        omega
      · rw [lk_cons, if_neg (by decide), lk_cons, if_neg (by decide), lk_cons, if_neg (by decide), lk_cons, if_neg (by decide), n573] at q4
        cases q4
      · rw [lk_cons, if_neg (by decide), lk_cons, if_neg (by decide), lk_cons, if_pos rfl] at q2
        rw [lk_cons, if_neg (by decide), lk_cons, if_neg (by decide), lk_cons, if_neg (by decide), lk_cons, if_pos rfl] at q3
        rw [← Option.some.inj q2]
        rw [← Option.some.inj q3] at hB
        rcases c9 with c9 | ⟨c9, c10⟩
        · exact absurd hB (nblk_ok ho c9 ha)
        · exact ⟨leAV_ok ho c9 (x := 0) rfl hb, leAV_ok ho c10 hb (y := 20) rfl⟩
  · exact ho
noncomputable def h115 (s : Sy) : Sy := s.seth (hdel 570 (hdel 571 (hdel 572 (hdel 573 (hdel 574 s.hl)))))
theorem h115_ok (hP : PH T G cs (cx9 kK kB)) (ho : Ok (Jf T G (cS cs)) s ρ σ) : Ok (Jf T G (cS cs)) (h115 s) ρ σ := by
  obtain ⟨H, i1, i2⟩ := ho.inv
  refine ph_set hP ho i2 (((((i1.del).del).del).del).del) (fun u hu => ?_) ⟨fun n b a x q => ?_, fun n b a w q => ?_, fun n b a q => ?_⟩
  · have := xtg_no hu
    rw [lk_hdel, if_neg (by omega), lk_hdel, if_neg (by omega), lk_hdel, if_neg (by omega), lk_hdel, if_neg (by omega), lk_hdel, if_neg (by omega)]
  · rw [lk_hdel, if_pos rfl] at q; cases q
  · rw [lk_hdel, if_pos rfl] at q; cases q
  · rw [lk_hdel, if_pos rfl] at q; cases q
noncomputable def h116 (s : Sy) : Sy := bif (isS (lk s.hl 570) && (isS (lk s.hl 571) && isS (lk s.hl 574))) && !(isS (lk s.hl 572)) then s.seth (hset 572 (.c 0) s.hl) else s
theorem h116_ok (hP : PH T G cs (cx9 kK kB)) (ho : Ok (Jf T G (cS cs)) s ρ σ) : Ok (Jf T G (cS cs)) (h116 s) ρ σ := by
  unfold h116
  cases hc : (isS (lk s.hl 570) && (isS (lk s.hl 571) && isS (lk s.hl 574))) && !(isS (lk s.hl 572)) with
  | false => exact ho
  | true =>
    obtain ⟨H, i1, i2⟩ := ho.inv
    obtain ⟨w1, w2, w3⟩ := (i2.2.2 _ hP.2.2.1 : xS9 kK kB H σ)
    refine ph_set hP ho i2 (i1.set (a := .c 0) (x := 0) rfl) (fun u hu => ?_) ⟨fun n b a x _ _ _ q i hi => ?_, fun n b a w q1 q2 q3 q4 => ?_, fun n b a q1 q2 q3 => ?_⟩
    · have := xtg_no hu
      rw [lk_hset, if_neg (by omega)]
    · rw [lk_hset, if_pos rfl] at q
      have := Option.some.inj q
      omega
    · rw [lk_hset, if_neg (by decide)] at q1 q2 q3 q4
      exact w2 n b a w q1 q2 q3 q4
    · rw [lk_hset, if_neg (by decide)] at q1 q2 q3
      exact w3 n b a q1 q2 q3
noncomputable def h114x (s : Sy) : Option Sy := match lk s.hl 570, lk s.hl 571, lk s.hl 574 with
  | some _, some _, some _ => match lk s.hl 572, lk s.hl 573 with
    | some x, some w => bif leAV s (shA w 1) x then none else some s
    | _, _ => some s
  | _, _, _ => some s
theorem h114x_ok (hm : cx9 kK kB ∈ cs) (ho : Ok (Jf T G (cS cs)) s ρ σ) : ∃ s', h114x s = some s' ∧ Ok (Jf T G (cS cs)) s' ρ σ := by
  unfold h114x
  split
  · rename_i n b a qn qb qa
    split
    · rename_i x w qx qw
      cases hc : leAV s (shA w 1) x with
      | false => exact ⟨s, rfl, ho⟩
      | true =>
        obtain ⟨H, i1, i2⟩ := ho.inv
        obtain ⟨w1, w2, w3⟩ := (i2.2.2 _ hm : xS9 kK kB H σ)
        obtain ⟨zn, n1, _⟩ := tag_get ho i1 qn
        obtain ⟨zb, b1, _⟩ := tag_get ho i1 qb
        obtain ⟨za, a1, _⟩ := tag_get ho i1 qa
        obtain ⟨zx, x1, x2⟩ := tag_get ho i1 qx
        obtain ⟨zw, v1, v2⟩ := tag_get ho i1 qw
        have e := leAV_ok ho hc (shA_ev v2) x2
        obtain ⟨i, c1, c2⟩ := w2 zn zb za zw n1 b1 a1 v1
        exact absurd c2 (w1 zn zb za zx n1 b1 a1 x1 i (by omega))
    · exact ⟨s, rfl, ho⟩
  · exact ⟨s, rfl, ho⟩
noncomputable def h117 (s : Sy) : Option Sy := match lk s.hl 570, lk s.hl 571, lk s.hl 574 with
  | some _, some _, some a => match lk s.hl 573 with
    | some _ => bif nblk s a then none else some s
    | none => some s
  | _, _, _ => some s
theorem h117_ok (hm : cx9 kK kB ∈ cs) (ho : Ok (Jf T G (cS cs)) s ρ σ) : ∃ s', h117 s = some s' ∧ Ok (Jf T G (cS cs)) s' ρ σ := by
  unfold h117
  split
  · rename_i n b a qn qb qa
    split
    · rename_i w qw
      cases hc : nblk s a with
      | false => exact ⟨s, rfl, ho⟩
      | true =>
        obtain ⟨H, i1, i2⟩ := ho.inv
        obtain ⟨w1, w2, w3⟩ := (i2.2.2 _ hm : xS9 kK kB H σ)
        obtain ⟨zn, n1, _⟩ := tag_get ho i1 qn
        obtain ⟨zb, b1, _⟩ := tag_get ho i1 qb
        obtain ⟨za, a1, a2⟩ := tag_get ho i1 qa
        obtain ⟨zw, v1, v2⟩ := tag_get ho i1 qw
        obtain ⟨i, c1, c2⟩ := w2 zn zb za zw n1 b1 a1 v1
        exact absurd c2.1 (nblk_ok ho hc a2)
    · exact ⟨s, rfl, ho⟩
  · exact ⟨s, rfl, ho⟩
noncomputable def h118 (s : Sy) : Option Sy := match lk s.hl 570, lk s.hl 571, lk s.hl 574 with
  | some _, some b, some a => bif yblk s a && isS (edom s b) then s.refd b [(0, 20)] else some s
  | _, _, _ => some s
theorem h118_ok (hm : cx9 kK kB ∈ cs) (ho : Ok (Jf T G (cS cs)) s ρ σ) : ∃ s', h118 s = some s' ∧ Ok (Jf T G (cS cs)) s' ρ σ := by
  unfold h118
  split
  · rename_i n b a qn qb qa
    cases hc : yblk s a && isS (edom s b) with
    | false => exact ⟨s, rfl, ho⟩
    | true =>
      rw [Bool.and_eq_true] at hc
      obtain ⟨H, i1, i2⟩ := ho.inv
      obtain ⟨w1, w2, w3⟩ := (i2.2.2 _ hm : xS9 kK kB H σ)
      obtain ⟨zn, n1, _⟩ := tag_get ho i1 qn
      obtain ⟨zb, b1, b2⟩ := tag_get ho i1 qb
      obtain ⟨za, a1, a2⟩ := tag_get ho i1 qa
      obtain ⟨g1, g2⟩ := w3 zn zb za n1 b1 a1 (yblk_ok ho hc.1 a2)
      exact refd_ok ho b2 (edom_ok' ho hc.2 b2) ⟨_, List.mem_cons_self .., g1, g2⟩
  · exact ⟨s, rfl, ho⟩
/-- at i it doesn't reach out -/
noncomputable def xno (kK kB : Nat) (i n b a : AV) (s : Sy) : Bool := nblk s a || ((match oth s kK i with
  | some K => nblk s K
  | none => false) || (match oth s kB i with
  | some B => sle s [(i, 1), (B, 1), (n, -1)] (-1) || sle s [(n, 1), (b, 1), (i, -1), (B, -1)] 0
  | none => false))
noncomputable def xye (kK kB : Nat) (i n b a : AV) (s : Sy) : Bool := yblk s a && ((match oth s kK i with
  | some K => yblk s K
  | none => false) && (match oth s kB i with
  | some B => sle s [(n, 1), (i, -1), (B, -1)] 0 && sle s [(i, 1), (B, 1), (n, -1), (b, -1)] (-1)
  | none => false))
theorem ev4 {l : List (AV × Int)} (h : (l.all fun e => isS (ev ρ e.1)) = true) : ∀ e ∈ l, ∃ z, ev ρ e.1 = some z := fun e he => isS_some (List.all_eq_true.mp h e he)
theorem xno_ok {J : Jt} (ho : Ok J s ρ σ) {i n b a : AV} {j : Nat} {zn zb za : Int} (hi : ev ρ i = some (j : Int)) (hn : ev ρ n = some zn) (hb : ev ρ b = some zb) (ha : ev ρ a = some za) (h : xno kK kB i n b a s = true) : ¬ Qx (Pp σ kK) (Pp σ kB) zn zb za j := by
  intro q
  obtain ⟨q1, q2, q3, q4⟩ := q
  have h : (nblk s a || ((match oth s kK i with
    | some K => nblk s K
    | none => false) || (match oth s kB i with
    | some B => sle s [(i, 1), (B, 1), (n, -1)] (-1) || sle s [(n, 1), (b, 1), (i, -1), (B, -1)] 0
    | none => false))) = true := h
  rw [Bool.or_eq_true, Bool.or_eq_true] at h
  rcases h with h | h | h
  · exact nblk_ok ho h ha q1
  · split at h
    · rename_i K hK
      exact nblk_ok ho h (oth_ok ho hK hi).2 q2
    · cases h
  · split at h
    · rename_i B hB
      have eB : ev ρ B = some (Pp σ kB j) := (oth_ok ho hB hi).2
      rw [Bool.or_eq_true] at h
      rcases h with h | h
      · have g := sle_ok ho h (ev4 (by show ((isS (ev ρ i)) && ((isS (ev ρ B)) && ((isS (ev ρ n)) && true))) = true; rw [hi, eB, hn]; rfl))
        have g : 1 * (ev ρ i).getD 0 + (1 * (ev ρ B).getD 0 + (-1 * (ev ρ n).getD 0 + 0)) ≤ -1 := g
        rw [hi, eB, hn] at g
        have g : 1 * (j : Int) + (1 * Pp σ kB j + (-1 * zn + 0)) ≤ -1 := g
        omega
      · have g := sle_ok ho h (ev4 (by show ((isS (ev ρ n)) && ((isS (ev ρ b)) && ((isS (ev ρ i)) && ((isS (ev ρ B)) && true)))) = true; rw [hi, eB, hn, hb]; rfl))
        have g : 1 * (ev ρ n).getD 0 + (1 * (ev ρ b).getD 0 + (-1 * (ev ρ i).getD 0 + (-1 * (ev ρ B).getD 0 + 0))) ≤ 0 := g
        rw [hi, eB, hn, hb] at g
        have g : 1 * zn + (1 * zb + (-1 * (j : Int) + (-1 * Pp σ kB j + 0))) ≤ 0 := g
        omega
    · cases h
theorem xye_ok {J : Jt} (ho : Ok J s ρ σ) {i n b a : AV} {j : Nat} {zn zb za : Int} (hi : ev ρ i = some (j : Int)) (hn : ev ρ n = some zn) (hb : ev ρ b = some zb) (ha : ev ρ a = some za) (h : xye kK kB i n b a s = true) : Qx (Pp σ kK) (Pp σ kB) zn zb za j := by
  have h : (yblk s a && ((match oth s kK i with
    | some K => yblk s K
    | none => false) && (match oth s kB i with
    | some B => sle s [(n, 1), (i, -1), (B, -1)] 0 && sle s [(i, 1), (B, 1), (n, -1), (b, -1)] (-1)
    | none => false))) = true := h
  rw [Bool.and_eq_true, Bool.and_eq_true] at h
  obtain ⟨h1, h2, h3⟩ := h
  refine ⟨yblk_ok ho h1 ha, ?_, ?_⟩
  · split at h2
    · rename_i K hK
      exact yblk_ok ho h2 (oth_ok ho hK hi).2
    · cases h2
  · split at h3
    · rename_i B hB
      have eB : ev ρ B = some (Pp σ kB j) := (oth_ok ho hB hi).2
      rw [Bool.and_eq_true] at h3
      have g1 := sle_ok ho h3.1 (ev4 (by show ((isS (ev ρ n)) && ((isS (ev ρ i)) && ((isS (ev ρ B)) && true))) = true; rw [hi, eB, hn]; rfl))
      have g1 : 1 * (ev ρ n).getD 0 + (-1 * (ev ρ i).getD 0 + (-1 * (ev ρ B).getD 0 + 0)) ≤ 0 := g1
      rw [hi, eB, hn] at g1
      have g1 : 1 * zn + (-1 * (j : Int) + (-1 * Pp σ kB j + 0)) ≤ 0 := g1
      have g2 := sle_ok ho h3.2 (ev4 (by show ((isS (ev ρ i)) && ((isS (ev ρ B)) && ((isS (ev ρ n)) && ((isS (ev ρ b)) && true)))) = true; rw [hi, eB, hn, hb]; rfl))
      have g2 : 1 * (ev ρ i).getD 0 + (1 * (ev ρ B).getD 0 + (-1 * (ev ρ n).getD 0 + (-1 * (ev ρ b).getD 0 + 0))) ≤ -1 := g2
      rw [hi, eB, hn, hb] at g2
      have g2 : 1 * (j : Int) + (1 * Pp σ kB j + (-1 * zn + (-1 * zb + 0))) ≤ -1 := g2
      exact ⟨by omega, by omega⟩
    · cases h3
noncomputable def h111x (kK kB : Nat) (i : AV) (s : Sy) : Sy := match lk s.hl 570, lk s.hl 571, lk s.hl 574 with
  | some n, some b, some a => match lk s.hl 572 with
    | some x => bif eqA s x i && xno kK kB i n b a s then s.seth (hup 572 (shA i 1) s.hl) else s
    | none => s
  | _, _, _ => s
theorem h111x_ok (hP : PH T G cs (cx9 kK kB)) {i : AV} {j : Nat} (hi : ev ρ i = some (j : Int)) (ho : Ok (Jf T G (cS cs)) s ρ σ) : Ok (Jf T G (cS cs)) (h111x kK kB i s) ρ σ := by
  unfold h111x
  split
  · rename_i n b a qn qb qa
    split
    · rename_i x qx
      cases hc : eqA s x i && xno kK kB i n b a s with
      | false => exact ho
      | true =>
        rw [Bool.and_eq_true] at hc
        obtain ⟨H, i1, i2⟩ := ho.inv
        obtain ⟨w1, w2, w3⟩ := (i2.2.2 _ hP.2.2.1 : xS9 kK kB H σ)
        obtain ⟨zn, n1, n2⟩ := tag_get ho i1 qn
        obtain ⟨zb, b1, b2⟩ := tag_get ho i1 qb
        obtain ⟨za, a1, a2⟩ := tag_get ho i1 qa
        obtain ⟨zx, x1, x2⟩ := tag_get ho i1 qx
        have ex := eqA_ok ho hc.1 x2 hi
        have new := xno_ok ho hi n2 b2 a2 hc.2
        refine ph_set hP ho i2 (i1.up (shA_ev hi)) (fun u hu => lk_hup_ne (fun e => xtg_no hu (by omega))) ⟨fun n' b' a' x' q1 q2 q3 q4 i' h' => ?_, fun n' b' a' w q1 q2 q3 q4 => ?_, fun n' b' a' q1 q2 q3 => ?_⟩
        · rw [lk_hup_ne (by decide), n1] at q1
          rw [lk_hup_ne (by decide), b1] at q2
          rw [lk_hup_ne (by decide), a1] at q3
          rw [lk_hup_at x1] at q4
          have e4 := Option.some.inj q4
          rw [← Option.some.inj q1, ← Option.some.inj q2, ← Option.some.inj q3]
          by_cases e : i' = j
          · rw [e]; exact new
          · exact w1 zn zb za zx n1 b1 a1 x1 i' (by omega)
        · rw [lk_hup_ne (by decide)] at q1 q2 q3 q4
          exact w2 n' b' a' w q1 q2 q3 q4
        · rw [lk_hup_ne (by decide)] at q1 q2 q3
          exact w3 n' b' a' q1 q2 q3
    · exact ho
  · exact ho
noncomputable def h112x (kK kB : Nat) (i : AV) (s : Sy) : Sy := match lk s.hl 570, lk s.hl 571, lk s.hl 574 with
  | some n, some b, some a => bif xye kK kB i n b a s then s.seth (hdel 572 (hset 573 i s.hl)) else s
  | _, _, _ => s
theorem h112x_ok (hP : PH T G cs (cx9 kK kB)) {i : AV} {j : Nat} (hi : ev ρ i = some (j : Int)) (ho : Ok (Jf T G (cS cs)) s ρ σ) : Ok (Jf T G (cS cs)) (h112x kK kB i s) ρ σ := by
  unfold h112x
  split
  · rename_i n b a qn qb qa
    cases hc : xye kK kB i n b a s with
    | false => exact ho
    | true =>
      obtain ⟨H, i1, i2⟩ := ho.inv
      obtain ⟨w1, w2, w3⟩ := (i2.2.2 _ hP.2.2.1 : xS9 kK kB H σ)
      obtain ⟨zn, n1, n2⟩ := tag_get ho i1 qn
      obtain ⟨zb, b1, b2⟩ := tag_get ho i1 qb
      obtain ⟨za, a1, a2⟩ := tag_get ho i1 qa
      have new := xye_ok ho hi n2 b2 a2 hc
      refine ph_set hP ho i2 ((i1.set hi).del) (fun u hu => ?_) ⟨fun n' b' a' x' _ _ _ q4 => ?_, fun n' b' a' w q1 q2 q3 q4 => ?_, fun n' b' a' q1 q2 q3 => ?_⟩
      · have := xtg_no hu
        rw [lk_hdel, if_neg (by omega), lk_hset, if_neg (by omega)]
      · rw [lk_hdel, if_pos rfl] at q4; cases q4
      · rw [lk_hdel, if_neg (by decide), lk_hset, if_neg (by decide), n1] at q1
        rw [lk_hdel, if_neg (by decide), lk_hset, if_neg (by decide), b1] at q2
        rw [lk_hdel, if_neg (by decide), lk_hset, if_neg (by decide), a1] at q3
        rw [lk_hdel, if_neg (by decide), lk_hset, if_pos rfl] at q4
        rw [← Option.some.inj q1, ← Option.some.inj q2, ← Option.some.inj q3]
        exact ⟨j, (Option.some.inj q4).symm, new⟩
      · rw [lk_hdel, if_neg (by decide), lk_hset, if_neg (by decide)] at q1 q2 q3
        exact w3 n' b' a' q1 q2 q3
  · exact ho
noncomputable def h113x (kK kB : Nat) (i : AV) (s : Sy) : Option Sy := match lk s.hl 570, lk s.hl 571, lk s.hl 574 with
  | some n, some b, some a => match lk s.hl 572 with
    | some x => bif xye kK kB i n b a s && leAV s (shA i 1) x then none else some s
    | none => some s
  | _, _, _ => some s
theorem h113x_ok (hm : cx9 kK kB ∈ cs) {i : AV} {j : Nat} (hi : ev ρ i = some (j : Int)) (ho : Ok (Jf T G (cS cs)) s ρ σ) : ∃ s', h113x kK kB i s = some s' ∧ Ok (Jf T G (cS cs)) s' ρ σ := by
  unfold h113x
  split
  · rename_i n b a qn qb qa
    split
    · rename_i x qx
      cases hc : xye kK kB i n b a s && leAV s (shA i 1) x with
      | false => exact ⟨s, rfl, ho⟩
      | true =>
        rw [Bool.and_eq_true] at hc
        obtain ⟨H, i1, i2⟩ := ho.inv
        obtain ⟨w1, w2, w3⟩ := (i2.2.2 _ hm : xS9 kK kB H σ)
        obtain ⟨zn, n1, n2⟩ := tag_get ho i1 qn
        obtain ⟨zb, b1, b2⟩ := tag_get ho i1 qb
        obtain ⟨za, a1, a2⟩ := tag_get ho i1 qa
        obtain ⟨zx, x1, x2⟩ := tag_get ho i1 qx
        have e := leAV_ok ho hc.2 (shA_ev hi) x2
        exact absurd (xye_ok ho hi n2 b2 a2 hc.1) (w1 zn zb za zx n1 b1 a1 x1 j (by omega))
    · exact ⟨s, rfl, ho⟩
  · exact ⟨s, rfl, ho⟩
end H35
end
end
section
noncomputable section
/-! ===== WHAT ELSE HOLDS, 37: blocks lie within blocks (800 n, 801 b, 802 x: none below x is left by a block of b at n); the stack of loops (805 how many, 806 behind the latest one or within it, 807 within it); hints 160 .. 179 ===== -/
section SA
variable {J : Jt} {s : Sy} {ρ : List Int} {σ : zS}
noncomputable def adS (s : Sy) (l : List (AV × Int)) (c : Int) : Sy := s.factd (sml s l [] 0).1 (c - (sml s l [] 0).2)
theorem adS_ok (ho : Ok J s ρ σ) {l : List (AV × Int)} {c : Int} (he : ∀ e ∈ l, ∃ z, ev ρ e.1 = some z) (h : smv ρ l ≤ c) : Ok J (adS s l c) ρ σ := by
  obtain ⟨y, y1, y2⟩ := sml_ok ho (l := l) (f := []) (k := 0) (x := 0) he rfl
  exact factd_ok ho y1 (by omega)
theorem smv2 {a b : AV} {v w x y : Int} (ha : ev ρ a = some x) (hb : ev ρ b = some y) : smv ρ [(a, v), (b, w)] = v * x + (w * y + 0) := by
  show v * (ev ρ a).getD 0 + (w * (ev ρ b).getD 0 + 0) = _
  rw [ha, hb]; rfl
theorem smv1 {a : AV} {v x : Int} (ha : ev ρ a = some x) : smv ρ [(a, v)] = v * x + 0 := by
  show v * (ev ρ a).getD 0 + 0 = _
  rw [ha]; rfl
theorem smv3 {a b c : AV} {v w u x y z : Int} (ha : ev ρ a = some x) (hb : ev ρ b = some y) (hc : ev ρ c = some z) : smv ρ [(a, v), (b, w), (c, u)] = v * x + (w * y + (u * z + 0)) := by
  show v * (ev ρ a).getD 0 + (w * (ev ρ b).getD 0 + (u * (ev ρ c).getD 0 + 0)) = _
  rw [ha, hb, hc]; rfl
theorem smv4 {a b c d : AV} {v w u t x y z q : Int} (ha : ev ρ a = some x) (hb : ev ρ b = some y) (hc : ev ρ c = some z) (hd : ev ρ d = some q) : smv ρ [(a, v), (b, w), (c, u), (d, t)] = v * x + (w * y + (u * z + (t * q + 0))) := by
  show v * (ev ρ a).getD 0 + (w * (ev ρ b).getD 0 + (u * (ev ρ c).getD 0 + (t * (ev ρ d).getD 0 + 0))) = _
  rw [ha, hb, hc, hd]; rfl
theorem evs1 {a : AV} {v x : Int} (ha : ev ρ a = some x) : ∀ e ∈ [(a, v)], ∃ z, ev ρ e.1 = some z := fun e he => by
  rcases List.mem_cons.mp he with rfl | he
  · exact ⟨_, ha⟩
  · cases he
theorem evs2 {a b : AV} {v w x y : Int} (ha : ev ρ a = some x) (hb : ev ρ b = some y) : ∀ e ∈ [(a, v), (b, w)], ∃ z, ev ρ e.1 = some z := fun e he => by
  rcases List.mem_cons.mp he with rfl | he
  · exact ⟨_, ha⟩
  · exact evs1 hb e he
theorem evs3 {a b c : AV} {v w u x y z : Int} (ha : ev ρ a = some x) (hb : ev ρ b = some y) (hc : ev ρ c = some z) : ∀ e ∈ [(a, v), (b, w), (c, u)], ∃ z, ev ρ e.1 = some z := fun e he => by
  rcases List.mem_cons.mp he with rfl | he
  · exact ⟨_, ha⟩
  · exact evs2 hb hc e he
theorem evs4 {a b c d : AV} {v w u t x y z q : Int} (ha : ev ρ a = some x) (hb : ev ρ b = some y) (hc : ev ρ c = some z) (hd : ev ρ d = some q) : ∀ e ∈ [(a, v), (b, w), (c, u), (d, t)], ∃ z, ev ρ e.1 = some z := fun e he => by
  rcases List.mem_cons.mp he with rfl | he
  · exact ⟨_, ha⟩
  · exact evs3 hb hc hd e he
end SA
noncomputable def NsS (K B : Nat → Int) (st : Int) : Prop := ∀ i j : Nat, i < j → (j : Int) < st → Blk (K i) → Blk (K j) → (j : Int) ≤ (i : Int) + B i → (j : Int) + B j ≤ (i : Int) + B i
noncomputable def NsT (K B : Nat → Int) (n b x : Int) : Prop := ∀ i : Nat, (i : Int) < x → Blk (K i) → n ≤ (i : Int) + B i → n + b ≤ (i : Int) + B i
noncomputable def NsL (K B L : Nat → Int) (st d : Int) : Prop := ∀ i : Nat, (i : Int) < d → (0 ≤ L i ∧ L i < st ∧ K (L i).toNat = 5) ∧ ((i : Int) + 1 < d → L i < L (i + 1) ∧ L (i + 1) ≤ L i + B (L i).toNat)
noncomputable def NsX (B L : Nat → Int) (d z e : Int) : Prop := 1 ≤ d → L (d - 1).toNat < z ∧ z ≤ L (d - 1).toNat + B (L (d - 1).toNat).toNat + e
noncomputable def FS (K B L : Nat → Int) (st : Int) (H : List (Nat × Int)) : Prop :=
  NsS K B st ∧ (∀ n b x, lk H 800 = some n → lk H 801 = some b → lk H 802 = some x → NsT K B n b x) ∧
  ∀ d, lk H 805 = some d → NsL K B L st d ∧ (∀ x, lk H 806 = some x → NsX B L d x 1) ∧ ∀ y, lk H 807 = some y → NsX B L d y 0
noncomputable def fS9 (kK kB kL kF jS : Nat) (H : List (Nat × Int)) (σ : zS) : Prop := FS (Pp σ kK) (Pp σ kB) (Pp σ kL) (Pp σ kF jS) H
theorem nsl_lo {K B L : Nat → Int} {st d : Int} (h : NsL K B L st d) : ∀ i : Nat, (i : Int) < d → (i : Int) ≤ L i
  | 0, hi => (h 0 hi).1.1
  | i + 1, hi => by
    have g := nsl_lo h i (by omega)
    have := ((h i (by omega)).2 (by omega)).1
    omega
theorem FS_kb {K B K' B' L : Nat → Int} {st : Int} {H : List (Nat × Int)} (h : FS K B L st H) (h1 : ∀ i : Nat, (i : Int) < st → K' i = K i ∧ B' i = B i) (h2 : ∀ x, lk H 802 = some x → ∀ i : Nat, (i : Int) < x → K' i = K i ∧ B' i = B i) (h3 : lk H 805 = none) : FS K' B' L st H := by
  refine ⟨fun i j hij hj => ?_, fun n b x q1 q2 q3 i hi => ?_, fun d q => ?_⟩
  · rw [(h1 i (by omega)).1, (h1 i (by omega)).2, (h1 j hj).1, (h1 j hj).2]
    exact h.1 i j hij hj
  · rw [(h2 x q3 i hi).1, (h2 x q3 i hi).2]
    exact h.2.1 n b x q1 q2 q3 i hi
  · rw [h3] at q; cases q
theorem FS_l {K B L L' : Nat → Int} {st : Int} {H : List (Nat × Int)} (h : FS K B L st H) (hL : ∀ d, lk H 805 = some d → ∀ i : Nat, (i : Int) < d → L' i = L i) : FS K B L' st H := by
  refine ⟨h.1, h.2.1, fun d q => ?_⟩
  obtain ⟨g1, g2, g3⟩ := h.2.2 d q
  have e := hL d q
  have top : 1 ≤ d → L' (d - 1).toNat = L (d - 1).toNat := fun hd => e _ (by omega)
  refine ⟨fun i hi => ?_, fun x qx hd => ?_, fun y qy hd => ?_⟩
  · rw [e i hi]
    refine ⟨(g1 i hi).1, fun h2 => ?_⟩
    have e2 := e (i + 1) (by omega)
    rw [e2]
    exact (g1 i hi).2 h2
  · rw [top hd]; exact g2 x qx hd
  · rw [top hd]; exact g3 y qy hd
noncomputable def ftg (t : Nat) : Bool := Nat.ble 800 t && Nat.ble t 807
theorem ftg_no {u : Nat} (h : ftg u = false) : ¬ (800 ≤ u ∧ u ≤ 807) := fun q => by
  have : ftg u = true := by
    show (Nat.ble 800 u && Nat.ble u 807) = true
    rw [Bool.and_eq_true]
    exact ⟨Nat.ble_eq_true_of_le q.1, Nat.ble_eq_true_of_le q.2⟩
  rw [this] at h
  cases h
/-- the statement that comes: no block, or one that leaves none -/
noncomputable def fnew (kK kB : Nat) (s : Sy) (hl : List (Nat × AV)) (st : AV) : Bool := match oth s kK st with
  | some w => nblk s w || (match oth s kB st, lk hl 800 with
    | some b, some n => (match lk hl 801, lk hl 802 with
      | some m, some x => eqA s n st && (eqA s b m && leAV s st x)
      | _, _ => false)
    | _, _ => false)
  | none => false
noncomputable def fw9 (kK kB kL kF jS : Nat) (s : Sy) (hl : List (Nat × AV)) (k : Nat) (p v : AV) : Option (List (Nat × AV)) :=
  bif Nat.beq k kL then (match lk hl 805 with
    | some d => bif leAV s d p then some hl else none
    | none => some hl)
  else match lk hl 805, mget s.me kF (.c (jS : Int)) with
  | none, some st => bif Nat.beq k kF then (match p with
      | .inr (.inl (.ofNat j)) => bif Nat.beq j jS then (bif st.isI && (leAV s v st || (eqA s v (shA st 1) && fnew kK kB s hl st)) then some hl else none) else some hl
      | _ => none)
    else bif (st.isI && leAV s st p) && (match lk hl 802 with
      | some x => leAV s x p
      | none => true) then some hl else none
  | _, _ => bif Nat.beq k kF then (match p with
      | .inr (.inl (.ofNat j)) => bif Nat.beq j jS then none else some hl
      | _ => none)
    else none
noncomputable def cF9 (kK kB kL kF jS : Nat) : Cp := (ftg, (fS9 kK kB kL kF jS, (fun q => (Nat.beq q kK || Nat.beq q kB) || (Nat.beq q kL || Nat.beq q kF), (fun s hl k p v => fw9 kK kB kL kF jS s hl k p v, nlw))))
theorem cF9_ok {T : Jx} {G : Gl} {kK kB kL kF jS : Nat} (d1 : kL ≠ kK) (d2 : kL ≠ kB) (d3 : kL ≠ kF) (d4 : kF ≠ kK) (d5 : kF ≠ kB) : CpOk T G (cF9 kK kB kL kF jS) := by
  apply CpOk.no (fun _ => rfl)
  have tin : ∀ u, 800 ≤ u → u ≤ 807 → ftg u = true := fun u h1 h2 => by
    show (Nat.ble 800 u && Nat.ble u 807) = true
    rw [Bool.and_eq_true]
    exact ⟨Nat.ble_eq_true_of_le h1, Nat.ble_eq_true_of_le h2⟩
  refine ⟨fun u hu => ?_, fun H H' σ σ' h1 h2 hS => ?_, ?_⟩
  · have hu : (Nat.ble 800 u && Nat.ble u 807) = true := hu
    rw [Bool.and_eq_true] at hu
    have := Nat.le_of_ble_eq_true hu.1
    omega
  · have r1 : Pp σ' kK = Pp σ kK := by
      funext y
      show (σ'.1 kK y).toInt = _
      rw [h2 kK (by show ((Nat.beq kK kK || Nat.beq kK kB) || (Nat.beq kK kL || Nat.beq kK kF)) = true; rw [Nat.beq_refl]; rfl)]
    have r2 : Pp σ' kB = Pp σ kB := by
      funext y
      show (σ'.1 kB y).toInt = _
      rw [h2 kB (by show ((Nat.beq kB kK || Nat.beq kB kB) || (Nat.beq kB kL || Nat.beq kB kF)) = true; rw [Nat.beq_refl, Bool.or_true]; rfl)]
    have r3 : Pp σ' kL = Pp σ kL := by
      funext y
      show (σ'.1 kL y).toInt = _
      rw [h2 kL (by show ((Nat.beq kL kK || Nat.beq kL kB) || (Nat.beq kL kL || Nat.beq kL kF)) = true; rw [Nat.beq_refl, Bool.true_or, Bool.or_true])]
    have r4 : Pp σ' kF = Pp σ kF := by
      funext y
      show (σ'.1 kF y).toInt = _
      rw [h2 kF (by show ((Nat.beq kF kK || Nat.beq kF kB) || (Nat.beq kF kL || Nat.beq kF kF)) = true; rw [Nat.beq_refl, Bool.or_true, Bool.or_true])]
    have l : ∀ u, 800 ≤ u → u ≤ 807 → lk H' u = lk H u := fun u a b => h1 u (tin u a b)
    show fS9 kK kB kL kF jS H' σ'
    unfold fS9 FS
    rw [r1, r2, r3, r4, l 800 (by omega) (by omega), l 801 (by omega) (by omega), l 802 (by omega) (by omega), l 805 (by omega) (by omega), l 806 (by omega) (by omega), l 807 (by omega) (by omega)]
    exact hS
  · intro s ρ σ k p v j x hl hl' H ho hb hp hi hv hx hr hw hh hS
    replace hw : fw9 kK kB kL kF jS s hl k p v = some hl' := hw
    replace hS : FS (Pp σ kK) (Pp σ kB) (Pp σ kL) (Pp σ kF jS) H := hS
    replace hr : ((Nat.beq k kK || Nat.beq k kB) || (Nat.beq k kL || Nat.beq k kF)) = true := hr
    suffices hg : hl' = hl ∧ FS (Pp (zI σ k j x) kK) (Pp (zI σ k j x) kB) (Pp (zI σ k j x) kL) (Pp (zI σ k j x) kF jS) H by
      rw [hg.1]
      exact ⟨H, hh, hg.2, fun _ _ => rfl⟩
    have row : ∀ k', k' ≠ k → Pp (zI σ k j x) k' = Pp σ k' := fun k' h => by
      funext y
      show ((zI σ k j x).1 k' y).toInt = _
      rw [zI_row h]
    have off : ∀ k' y, ¬ (k' = k ∧ y = j) → Pp (zI σ k j x) k' y = Pp σ k' y := fun k' y h => by
      show ((zI σ k j x).1 k' y).toInt = _
      rw [zI_ne h]
    unfold fw9 at hw
    cases eL : Nat.beq k kL with
    | true =>
      have ek := Nat.eq_of_beq_eq_true eL
      subst ek
      rw [eL] at hw
      simp only [cond_true] at hw
      rw [row kK d1.symm, row kB d2.symm, row kF d3.symm]
      split at hw
      · rename_i d hd
        cases e1 : leAV s d p with
        | false => rw [e1] at hw; cases hw
        | true =>
          rw [e1] at hw
          cases Option.some.inj hw
          refine ⟨rfl, FS_l hS (fun z qz i hi => off _ _ ?_)⟩
          obtain ⟨z', z1, z2⟩ : ∃ z', lk H 805 = some z' ∧ ev ρ d = some z' := by
            rcases hh.lkp (t := 805) with ⟨q1, _⟩ | ⟨a, y, q1, q2, q3⟩
            · rw [q1] at hd; cases hd
            · rw [q1] at hd
              cases Option.some.inj hd
              exact ⟨y, q2, q3⟩
          rw [z1] at qz
          cases Option.some.inj qz
          have := leAV_ok ho e1 z2 hp
          rintro ⟨_, q⟩
          omega
      · rename_i hd
        cases Option.some.inj hw
        refine ⟨rfl, FS_l hS (fun z qz => ?_)⟩
        rcases hh.lkp (t := 805) with ⟨_, q2⟩ | ⟨a, y, q1, _, _⟩
        · rw [q2] at qz; cases qz
        · rw [q1] at hd; cases hd
    | false =>
      have nL : k ≠ kL := beq_ne eL
      rw [eL] at hw
      simp only [cond_false] at hw
      split at hw
      · rename_i st h5 hst
        have no5 : lk H 805 = none := by
          rcases hh.lkp (t := 805) with ⟨_, q2⟩ | ⟨a, y, q1, _, _⟩
          · exact q2
          · rw [q1] at h5; cases h5
        cases eF : Nat.beq k kF with
        | true =>
          have ek := Nat.eq_of_beq_eq_true eF
          subst ek
          rw [eF] at hw
          simp only [cond_true] at hw
          rw [row kK d4.symm, row kB d5.symm, row kL d3]
          split at hw
          · rename_i j0
            have ej : j0 = j := by
              have : ((j0 : Nat) : Int) = (j : Int) := Option.some.inj hp
              omega
            subst ej
            cases eS : Nat.beq j0 jS with
            | false =>
              have nS : j0 ≠ jS := beq_ne eS
              rw [eS] at hw
              cases Option.some.inj hw
              rw [off _ _ (by rintro ⟨_, q⟩; exact nS q.symm)]
              exact ⟨rfl, hS⟩
            | true =>
              have es := Nat.eq_of_beq_eq_true eS
              subst es
              rw [eS] at hw
              simp only [cond_true] at hw
              cases ec : st.isI && (leAV s v st || (eqA s v (shA st 1) && fnew kK kB s hl st)) with
              | false => rw [ec] at hw; cases hw
              | true =>
                rw [ec] at hw
                cases Option.some.inj hw
                have ex : Pp (zI σ k j0 x) k j0 = x.toInt := by
                  show ((zI σ k j0 x).1 k j0).toInt = _
                  rw [zI_at]
                rw [ex]
                rw [Bool.and_eq_true, Bool.or_eq_true] at ec
                have est : ev ρ st = some (Pp σ k j0) := me_at ho hst rfl ec.1
                refine ⟨rfl, ?_, hS.2.1, fun d q => by rw [no5] at q; cases q⟩
                intro i i' hii hi' b1 b2 b3
                rcases ec.2 with c | c
                · have := leAV_ok ho c hx est
                  exact hS.1 i i' hii (by omega) b1 b2 b3
                · rw [Bool.and_eq_true] at c
                  have e1 := eqA_ok ho c.1 hx (shA_ev est)
                  by_cases hlt : (i' : Int) < Pp σ k j0
                  · exact hS.1 i i' hii hlt b1 b2 b3
                  have e2 : Pp σ k j0 = (i' : Int) := by omega
                  rw [e2] at est
                  have c2 := c.2
                  unfold fnew at c2
                  split at c2
                  · rename_i w hw2
                    rw [Bool.or_eq_true] at c2
                    rcases c2 with c2 | c2
                    · exact absurd b2 (nblk_ok ho c2 (oth_ok ho hw2 est).2)
                    · split at c2
                      · rename_i b n hB hn
                        split at c2
                        · rename_i m y hm hy
                          rw [Bool.and_eq_true, Bool.and_eq_true] at c2
                          have eB : ev ρ b = some (Pp σ kB i') := (oth_ok ho hB est).2
                          rcases hh.lkp (t := 800) with ⟨q1, _⟩ | ⟨a0, z0, q1, u0, v0⟩
                          · rw [q1] at hn; cases hn
                          rw [q1] at hn
                          cases Option.some.inj hn
                          rcases hh.lkp (t := 801) with ⟨q1, _⟩ | ⟨a1, z1, q1, u1, v1⟩
                          · rw [q1] at hm; cases hm
                          rw [q1] at hm
                          cases Option.some.inj hm
                          rcases hh.lkp (t := 802) with ⟨q1, _⟩ | ⟨a2, z2, q1, u2, v2⟩
                          · rw [q1] at hy; cases hy
                          rw [q1] at hy
                          cases Option.some.inj hy
                          have f1 := eqA_ok ho c2.1 v0 est
                          have f2 := eqA_ok ho c2.2.1 eB v1
                          have f3 := leAV_ok ho c2.2.2 est v2
                          have g := hS.2.1 z0 z1 z2 u0 u1 u2 i (by omega) b1 (by omega)
                          omega
                        · cases c2
                      · cases c2
                  · cases c2
          · cases hw
        | false =>
          have nF : k ≠ kF := beq_ne eF
          rw [eF] at hw
          simp only [cond_false] at hw
          cases ec : (st.isI && leAV s st p) && (match lk hl 802 with
            | some x => leAV s x p
            | none => true) with
          | false => rw [ec] at hw; cases hw
          | true =>
            rw [ec] at hw
            cases Option.some.inj hw
            rw [Bool.and_eq_true, Bool.and_eq_true] at ec
            have est : ev ρ st = some (Pp σ kF jS) := me_at ho hst rfl ec.1.1
            have g1 := leAV_ok ho ec.1.2 est hp
            rw [row kL nL.symm, row kF nF.symm]
            refine ⟨rfl, FS_kb hS (fun i hi => ⟨off _ _ ?_, off _ _ ?_⟩) (fun y qy i hi => ?_) no5⟩
            · rintro ⟨_, q⟩; omega
            · rintro ⟨_, q⟩; omega
            · have c2 := ec.2
              rcases hh.lkp (t := 802) with ⟨_, q2⟩ | ⟨a2, z2, q1, u2, v2⟩
              · rw [q2] at qy; cases qy
              · rw [q1] at c2
                rw [u2] at qy
                cases Option.some.inj qy
                have := leAV_ok ho c2 v2 hp
                exact ⟨off _ _ (by rintro ⟨_, q⟩; omega), off _ _ (by rintro ⟨_, q⟩; omega)⟩
      · cases eF : Nat.beq k kF with
        | false => rw [eF] at hw; cases hw
        | true =>
          have ek := Nat.eq_of_beq_eq_true eF
          subst ek
          rw [eF] at hw
          simp only [cond_true] at hw
          rw [row kK d4.symm, row kB d5.symm, row kL d3]
          split at hw
          · rename_i j0
            have ej : j0 = j := by
              have : ((j0 : Nat) : Int) = (j : Int) := Option.some.inj hp
              omega
            subst ej
            cases eS : Nat.beq j0 jS with
            | true => rw [eS] at hw; cases hw
            | false =>
              have nS : j0 ≠ jS := beq_ne eS
              rw [eS] at hw
              cases Option.some.inj hw
              rw [off _ _ (by rintro ⟨_, q⟩; exact nS q.symm)]
              exact ⟨rfl, hS⟩
          · cases hw
section H37
variable {T : Jx} {G : Gl} {cs : List Cp} {s : Sy} {ρ : List Int} {σ : zS} {kK kB kL kF jS : Nat}
noncomputable def h160 (a b : AV) (s : Sy) : Sy := bif (a.isI && b.isI) && (!(isS (lk s.hl 800)) && (!(isS (lk s.hl 801)) && !(isS (lk s.hl 802)))) then s.seth ((800, a) :: (801, b) :: (802, .c 0) :: s.hl) else s
theorem h160_ok (hP : PH T G cs (cF9 kK kB kL kF jS)) {a b : AV} {x y : Int} (ha : ev ρ a = some x) (hb : ev ρ b = some y) (ho : Ok (Jf T G (cS cs)) s ρ σ) : Ok (Jf T G (cS cs)) (h160 a b s) ρ σ := by
  unfold h160
  cases hc : (a.isI && b.isI) && (!(isS (lk s.hl 800)) && (!(isS (lk s.hl 801)) && !(isS (lk s.hl 802)))) with
  | false => exact ho
  | true =>
    obtain ⟨H, i1, i2⟩ := ho.inv
    obtain ⟨w1, w2, w3⟩ := (i2.2.2 _ hP.2.2.1 : fS9 kK kB kL kF jS H σ)
    refine ph_set (H := H) (H' := (800, x) :: (801, y) :: (802, 0) :: H) hP ho i2 ⟨⟨rfl, ha⟩, ⟨rfl, hb⟩, ⟨rfl, rfl⟩, i1⟩ (fun u hu => ?_) ⟨w1, fun n b x _ _ q3 i hi => ?_, fun d q => ?_⟩
    · have := ftg_no hu
      rw [lk_cons, if_neg (by omega), lk_cons, if_neg (by omega), lk_cons, if_neg (by omega)]
    · rw [lk_cons, if_neg (by decide), lk_cons, if_neg (by decide), lk_cons, if_pos rfl] at q3
      have := Option.some.inj q3
      omega
    · rw [lk_cons, if_neg (by decide), lk_cons, if_neg (by decide), lk_cons, if_neg (by decide)] at q
      rw [lk_cons, if_neg (by decide), lk_cons, if_neg (by decide), lk_cons, if_neg (by decide), lk_cons, if_neg (by decide), lk_cons, if_neg (by decide), lk_cons, if_neg (by decide)]
      exact w3 d q
noncomputable def f161 (kK kB : Nat) (n m x : AV) (s : Sy) : Bool := match oth s kK x with
  | some w => nblk s w || (match oth s kB x with
    | some b => sle s [(x, 1), (b, 1), (n, -1)] (-1) || sle s [(n, 1), (m, 1), (x, -1), (b, -1)] 0
    | none => false)
  | none => false
theorem f161_ok {J : Jt} (ho : Ok J s ρ σ) {n m x : AV} {j : Nat} {zn zm : Int} (hx : ev ρ x = some (j : Int)) (hn : ev ρ n = some zn) (hm : ev ρ m = some zm) (h : f161 kK kB n m x s = true) : Blk (Pp σ kK j) → zn ≤ (j : Int) + Pp σ kB j → zn + zm ≤ (j : Int) + Pp σ kB j := by
  intro b1 b2
  unfold f161 at h
  split at h
  · rename_i w hw
    rw [Bool.or_eq_true] at h
    rcases h with h | h
    · exact absurd b1 (nblk_ok ho h (oth_ok ho hw hx).2)
    · split at h
      · rename_i b hB
        have eB : ev ρ b = some (Pp σ kB j) := (oth_ok ho hB hx).2
        rw [Bool.or_eq_true] at h
        rcases h with h | h
        · have g := sle_ok ho h (evs3 hx eB hn)
          rw [smv3 hx eB hn] at g
          omega
        · have g := sle_ok ho h (evs4 hn hm hx eB)
          rw [smv4 hn hm hx eB] at g
          omega
      · cases h
  · cases h
noncomputable def h161 (kK kB : Nat) (s : Sy) : Sy := match lk s.hl 800, lk s.hl 801, lk s.hl 802 with
  | some n, some m, some x => bif leAV s (.c 0) x && f161 kK kB n m x s then s.seth (hup 802 (shA x 1) s.hl) else s
  | _, _, _ => s
theorem h161_ok (hP : PH T G cs (cF9 kK kB kL kF jS)) (ho : Ok (Jf T G (cS cs)) s ρ σ) : Ok (Jf T G (cS cs)) (h161 kK kB s) ρ σ := by
  unfold h161
  split
  · rename_i n m x qn qm qx
    cases hc : leAV s (.c 0) x && f161 kK kB n m x s with
    | false => exact ho
    | true =>
      rw [Bool.and_eq_true] at hc
      obtain ⟨H, i1, i2⟩ := ho.inv
      obtain ⟨w1, w2, w3⟩ := (i2.2.2 _ hP.2.2.1 : fS9 kK kB kL kF jS H σ)
      obtain ⟨zn, n1, n2⟩ := tag_get ho i1 qn
      obtain ⟨zm, m1, m2⟩ := tag_get ho i1 qm
      obtain ⟨zx, x1, x2⟩ := tag_get ho i1 qx
      have g0 := leAV_ok ho hc.1 (x := 0) rfl x2
      have hx : ev ρ x = some ((zx.toNat : Nat) : Int) := x2.trans (congrArg some (by omega))
      have new := f161_ok ho hx n2 m2 hc.2
      refine ph_set hP ho i2 (i1.up (shA_ev x2)) (fun u hu => lk_hup_ne (fun e => ftg_no hu (by omega))) ⟨w1, fun n' b' x' q1 q2 q3 i hi => ?_, fun d q => ?_⟩
      · rw [lk_hup_ne (by decide), n1] at q1
        rw [lk_hup_ne (by decide), m1] at q2
        rw [lk_hup_at x1] at q3
        have e3 := Option.some.inj q3
        rw [← Option.some.inj q1, ← Option.some.inj q2]
        by_cases e : i = zx.toNat
        · rw [e]; exact new
        · exact w2 zn zm zx n1 m1 x1 i (by omega)
      · rw [lk_hup_ne (by decide)] at q
        rw [lk_hup_ne (by decide), lk_hup_ne (by decide)]
        exact w3 d q
  · exact ho
noncomputable def h162 (s : Sy) : Sy := s.seth (hdel 800 (hdel 801 (hdel 802 s.hl)))
theorem h162_ok (hP : PH T G cs (cF9 kK kB kL kF jS)) (ho : Ok (Jf T G (cS cs)) s ρ σ) : Ok (Jf T G (cS cs)) (h162 s) ρ σ := by
  obtain ⟨H, i1, i2⟩ := ho.inv
  obtain ⟨w1, w2, w3⟩ := (i2.2.2 _ hP.2.2.1 : fS9 kK kB kL kF jS H σ)
  refine ph_set hP ho i2 (((i1.del).del).del) (fun u hu => ?_) ⟨w1, fun n b x q => ?_, fun d q => ?_⟩
  · have := ftg_no hu
    rw [lk_hdel, if_neg (by omega), lk_hdel, if_neg (by omega), lk_hdel, if_neg (by omega)]
  · rw [lk_hdel, if_pos rfl] at q; cases q
  · rw [lk_hdel, if_neg (by decide), lk_hdel, if_neg (by decide), lk_hdel, if_neg (by decide)] at q
    rw [lk_hdel, if_neg (by decide), lk_hdel, if_neg (by decide), lk_hdel, if_neg (by decide), lk_hdel, if_neg (by decide), lk_hdel, if_neg (by decide), lk_hdel, if_neg (by decide)]
    exact w3 d q
noncomputable def h165 (s : Sy) : Sy := bif !(isS (lk s.hl 805)) && (!(isS (lk s.hl 806)) && !(isS (lk s.hl 807))) then s.seth ((806, .c 0) :: (805, .c 0) :: s.hl) else s
theorem h165_ok (hP : PH T G cs (cF9 kK kB kL kF jS)) (ho : Ok (Jf T G (cS cs)) s ρ σ) : Ok (Jf T G (cS cs)) (h165 s) ρ σ := by
  unfold h165
  cases hc : !(isS (lk s.hl 805)) && (!(isS (lk s.hl 806)) && !(isS (lk s.hl 807))) with
  | false => exact ho
  | true =>
    obtain ⟨H, i1, i2⟩ := ho.inv
    obtain ⟨w1, w2, w3⟩ := (i2.2.2 _ hP.2.2.1 : fS9 kK kB kL kF jS H σ)
    refine ph_set (H := H) (H' := (806, 0) :: (805, 0) :: H) hP ho i2 ⟨⟨rfl, rfl⟩, ⟨rfl, rfl⟩, i1⟩ (fun u hu => ?_) ⟨w1, fun n b x q1 q2 q3 => ?_, fun d q => ?_⟩
    · have := ftg_no hu
      rw [lk_cons, if_neg (by omega), lk_cons, if_neg (by omega)]
    · rw [lk_cons, if_neg (by decide), lk_cons, if_neg (by decide)] at q1 q2 q3
      exact w2 n b x q1 q2 q3
    · rw [lk_cons, if_neg (by decide), lk_cons, if_pos rfl] at q
      have e := Option.some.inj q
      exact ⟨fun i hi => absurd hi (by omega), fun x _ hd => absurd hd (by omega), fun y _ hd => absurd hd (by omega)⟩
noncomputable def h179 (s : Sy) : Sy := s.seth (hdel 805 (hdel 806 (hdel 807 s.hl)))
theorem h179_ok (hP : PH T G cs (cF9 kK kB kL kF jS)) (ho : Ok (Jf T G (cS cs)) s ρ σ) : Ok (Jf T G (cS cs)) (h179 s) ρ σ := by
  obtain ⟨H, i1, i2⟩ := ho.inv
  obtain ⟨w1, w2, w3⟩ := (i2.2.2 _ hP.2.2.1 : fS9 kK kB kL kF jS H σ)
  refine ph_set hP ho i2 (((i1.del).del).del) (fun u hu => ?_) ⟨w1, fun n b x q1 q2 q3 => ?_, fun d q => ?_⟩
  · have := ftg_no hu
    rw [lk_hdel, if_neg (by omega), lk_hdel, if_neg (by omega), lk_hdel, if_neg (by omega)]
  · rw [lk_hdel, if_neg (by decide), lk_hdel, if_neg (by decide), lk_hdel, if_neg (by decide)] at q1 q2 q3
    exact w2 n b x q1 q2 q3
  · rw [lk_hdel, if_pos rfl] at q; cases q
/-- what is known of the latest loop -/
theorem f_top (hm : cF9 kK kB kL kF jS ∈ cs) (ho : Ok (Jf T G (cS cs)) s ρ σ) {H : List (Nat × Int)} (i2 : Jf T G (cS cs) H σ) {d u : AV} {zd : Int} (hd : lk H 805 = some zd) (ed : ev ρ d = some zd) (h1 : leAV s (.c 1) d = true) (hu : oth s kL (shA d (-1)) = some u) : 1 ≤ zd ∧ ∃ w : Nat, Pp σ kL (zd - 1).toNat = (w : Int) ∧ ev ρ u = some (w : Int) ∧ (w : Int) < Pp σ kF jS ∧ Pp σ kK w = 5 := by
  have g1 := leAV_ok ho h1 (x := 1) rfl ed
  obtain ⟨w1, w2, w3⟩ := (i2.2.2 _ hm : fS9 kK kB kL kF jS H σ)
  obtain ⟨g3, _⟩ := w3 zd hd
  have hp : ev ρ (shA d (-1)) = some (((zd - 1).toNat : Nat) : Int) := (shA_ev ed).trans (congrArg some (by omega))
  have eu : ev ρ u = some (Pp σ kL (zd - 1).toNat) := (oth_ok ho hu hp).2
  obtain ⟨⟨c1, c2, c3⟩, _⟩ := g3 (zd - 1).toNat (by omega)
  exact ⟨g1, (Pp σ kL (zd - 1).toNat).toNat, by omega, eu.trans (congrArg some (by omega)), by omega, c3⟩
noncomputable def f166b (kB : Nat) (u z : AV) (e : Int) (s : Sy) : Sy := match oth s kB u with
  | some b => adS s [(z, 1), (u, -1), (b, -1)] e
  | none => s
noncomputable def f166c (kK : Nat) (u : AV) (s : Sy) : Sy := bif !(isS (mget s.me kK (pl s u))) && eqA s u (pl s u) then s.add kK (pl s u) (.c 5) else s
noncomputable def f166 (kK kB : Nat) (u z st : AV) (e : Int) (s : Sy) : Sy := f166c kK u (f166b kB u z e (adS (adS (adS s [(u, 1), (z, -1)] (-1)) [(u, 1), (st, -1)] (-1)) [(u, -1)] 0))
theorem f166_ok {J : Jt} (ho : Ok J s ρ σ) {u z st : AV} {e : Int} {w : Nat} {zz : Int} (hu : ev ρ u = some (w : Int)) (hz : ev ρ z = some zz) (hs : ev ρ st = some (Pp σ kF jS)) (h1 : (w : Int) < zz) (h2 : zz ≤ (w : Int) + Pp σ kB w + e) (h3 : (w : Int) < Pp σ kF jS) (h4 : Pp σ kK w = 5) : Ok J (f166 kK kB u z st e s) ρ σ := by
  have o1 := adS_ok ho (evs2 (v := 1) (w := -1) hu hz) (c := -1) (by rw [smv2 hu hz]; omega)
  have o2 := adS_ok o1 (evs2 (v := 1) (w := -1) hu hs) (c := -1) (by rw [smv2 hu hs]; omega)
  have o3 := adS_ok o2 (evs1 (v := -1) hu) (c := 0) (by rw [smv1 hu]; omega)
  unfold f166
  generalize adS (adS (adS s [(u, 1), (z, -1)] (-1)) [(u, 1), (st, -1)] (-1)) [(u, -1)] 0 = s3 at o3
  have o4 : Ok J (f166b kB u z e s3) ρ σ := by
    unfold f166b
    split
    · rename_i b hB
      have eB : ev ρ b = some (Pp σ kB w) := (oth_ok o3 hB hu).2
      exact adS_ok o3 (evs3 (v := 1) (w := -1) (u := -1) hz hu eB) (by rw [smv3 hz hu eB]; omega)
    · exact o3
  generalize f166b kB u z e s3 = s4 at o4
  unfold f166c
  cases hc : !(isS (mget s4.me kK (pl s4 u))) && eqA s4 u (pl s4 u) with
  | false => exact o4
  | true =>
    rw [Bool.and_eq_true] at hc
    obtain ⟨y, hy⟩ := pl_ev (s := s4) hu
    have ey := eqA_ok o4 hc.2 hu hy
    exact o4.addm ⟨w, by rw [hy]; exact congrArg some ey.symm, Or.inl ⟨rfl, congrArg some h4.symm⟩⟩
noncomputable def h166 (kK kB kL kF jS t : Nat) (e : Int) (s : Sy) : Sy := match lk s.hl 805, lk s.hl t with
  | some d, some z => bif leAV s (.c 1) d then (match oth s kL (shA d (-1)), mget s.me kF (.c (jS : Int)) with
    | some u, some st => bif st.isI then f166 kK kB u z st e s else s
    | _, _ => s) else s
  | _, _ => s
theorem h166_ok (hm : cF9 kK kB kL kF jS ∈ cs) {t : Nat} {e : Int} (ht : t = 806 ∧ e = 1 ∨ t = 807 ∧ e = 0) (ho : Ok (Jf T G (cS cs)) s ρ σ) : Ok (Jf T G (cS cs)) (h166 kK kB kL kF jS t e s) ρ σ := by
  unfold h166
  split
  · rename_i d z qd qz
    cases hc : leAV s (.c 1) d with
    | false => exact ho
    | true =>
      simp only [cond_true]
      split
      · rename_i u st hu hst
        cases hi : st.isI with
        | false => exact ho
        | true =>
          simp only [cond_true]
          obtain ⟨H, i1, i2⟩ := ho.inv
          obtain ⟨zd, e1, e2⟩ := tag_get ho i1 qd
          obtain ⟨zz, f1, f2⟩ := tag_get ho i1 qz
          obtain ⟨g1, w, g2, g3, g4, g5⟩ := f_top hm ho i2 e1 e2 hc hu
          have est : ev ρ st = some (Pp σ kF jS) := me_at ho hst rfl hi
          obtain ⟨w1, w2, w3⟩ := (i2.2.2 _ hm : fS9 kK kB kL kF jS H σ)
          obtain ⟨_, x1, x2⟩ := w3 zd e1
          have nx : NsX (Pp σ kB) (Pp σ kL) zd zz e := by
            rcases ht with ⟨rfl, rfl⟩ | ⟨rfl, rfl⟩
            · exact x1 zz f1
            · exact x2 zz f1
          have nx := nx g1
          rw [g2] at nx
          have tn : ((w : Nat) : Int).toNat = w := by omega
          rw [tn] at nx
          exact f166_ok ho g3 f2 est nx.1 nx.2 g4 g5
      · exact ho
  · exact ho
noncomputable def h167 (kL : Nat) (s : Sy) : Sy := match lk s.hl 805 with
  | some d => bif leAV s (.c 1) d && !(isS (lk s.hl 807)) then (match oth s kL (shA d (-1)) with
    | some u => s.seth (hup 805 (shA d (-1)) ((807, u) :: hdel 806 s.hl))
    | none => s) else s
  | none => s
theorem h167_ok (hP : PH T G cs (cF9 kK kB kL kF jS)) (ho : Ok (Jf T G (cS cs)) s ρ σ) : Ok (Jf T G (cS cs)) (h167 kL s) ρ σ := by
  unfold h167
  split
  · rename_i d qd
    cases hc : leAV s (.c 1) d && !(isS (lk s.hl 807)) with
    | false => exact ho
    | true =>
      simp only [cond_true]
      rw [Bool.and_eq_true] at hc
      split
      · rename_i u hu
        obtain ⟨H, i1, i2⟩ := ho.inv
        obtain ⟨zd, e1, e2⟩ := tag_get ho i1 qd
        obtain ⟨g1, w, g2, g3, g4, g5⟩ := f_top hP.2.2.1 ho i2 e1 e2 hc.1 hu
        obtain ⟨w1, w2, w3⟩ := (i2.2.2 _ hP.2.2.1 : fS9 kK kB kL kF jS H σ)
        obtain ⟨n1, _, _⟩ := w3 zd e1
        have e5 : lk ((807, (w : Int)) :: hdel 806 H) 805 = some zd := by rw [lk_cons, if_neg (by decide), lk_hdel, if_neg (by decide)]; exact e1
        refine ph_set (H := H) (H' := hup 805 (zd + -1) ((807, (w : Int)) :: hdel 806 H)) hP ho i2 (Hl.up (shA_ev e2) ⟨⟨rfl, g3⟩, i1.del⟩) (fun v hv => ?_) ⟨w1, fun n b x q1 q2 q3 => ?_, fun d' q => ?_⟩
        · have := ftg_no hv
          rw [lk_hup_ne (by omega), lk_cons, if_neg (by omega), lk_hdel, if_neg (by omega)]
        · rw [lk_hup_ne (by decide), lk_cons, if_neg (by decide), lk_hdel, if_neg (by decide)] at q1 q2 q3
          exact w2 n b x q1 q2 q3
        · rw [lk_hup_at e5] at q
          have ed := Option.some.inj q
          refine ⟨fun i hi => ⟨(n1 i (by omega)).1, fun h2 => (n1 i (by omega)).2 (by omega)⟩, fun x qx => ?_, fun y qy hd => ?_⟩
          · rw [lk_hup_ne (by decide), lk_cons, if_neg (by decide), lk_hdel, if_pos rfl] at qx
            cases qx
          · rw [lk_hup_ne (by decide), lk_cons, if_pos rfl] at qy
            have ey := Option.some.inj qy
            have h2 := (n1 (d' - 1).toNat (by omega)).2 (by omega)
            have en : (d' - 1).toNat + 1 = (zd - 1).toNat := by omega
            rw [en, g2] at h2
            omega
      · exact ho
  · exact ho
noncomputable def f173 (kB kL : Nat) (d x : AV) (s : Sy) : Bool := bif leAV s (.c 1) d then (match oth s kL (shA d (-1)) with
  | some u => (match oth s kB u with
    | some b => sle s [(x, 1), (u, -1), (b, -1)] 0
    | none => false)
  | none => false) else false
noncomputable def h173 (kB kL : Nat) (s : Sy) : Sy := match lk s.hl 805, lk s.hl 806 with
  | some d, some x => bif !(isS (lk s.hl 807)) && (leAV s d (.c 0) || f173 kB kL d x s) then s.seth ((807, x) :: hdel 806 s.hl) else s
  | _, _ => s
theorem h173_ok (hP : PH T G cs (cF9 kK kB kL kF jS)) (ho : Ok (Jf T G (cS cs)) s ρ σ) : Ok (Jf T G (cS cs)) (h173 kB kL s) ρ σ := by
  unfold h173
  split
  · rename_i d x qd qx
    cases hc : !(isS (lk s.hl 807)) && (leAV s d (.c 0) || f173 kB kL d x s) with
    | false => exact ho
    | true =>
      rw [Bool.and_eq_true, Bool.or_eq_true] at hc
      obtain ⟨H, i1, i2⟩ := ho.inv
      obtain ⟨zd, e1, e2⟩ := tag_get ho i1 qd
      obtain ⟨zx, f1, f2⟩ := tag_get ho i1 qx
      obtain ⟨w1, w2, w3⟩ := (i2.2.2 _ hP.2.2.1 : fS9 kK kB kL kF jS H σ)
      obtain ⟨n1, n2, _⟩ := w3 zd e1
      have key : NsX (Pp σ kB) (Pp σ kL) zd zx 0 := by
        intro hd
        rcases hc.2 with h | h
        · have := leAV_ok ho h e2 (y := 0) rfl
          omega
        · unfold f173 at h
          cases h1 : leAV s (.c 1) d with
          | false => rw [h1] at h; cases h
          | true =>
            rw [h1] at h
            simp only [cond_true] at h
            split at h
            · rename_i u hu
              obtain ⟨g1, w, g2, g3, g4, g5⟩ := f_top hP.2.2.1 ho i2 e1 e2 h1 hu
              split at h
              · rename_i b hB
                have eB : ev ρ b = some (Pp σ kB w) := (oth_ok ho hB g3).2
                have g := sle_ok ho h (evs3 f2 g3 eB)
                rw [smv3 f2 g3 eB] at g
                have := n2 zx f1 hd
                rw [g2] at this ⊢
                have tn : ((w : Nat) : Int).toNat = w := by omega
                rw [tn] at this ⊢
                omega
              · cases h
            · cases h
      refine ph_set (H := H) (H' := (807, zx) :: hdel 806 H) hP ho i2 ⟨⟨rfl, f2⟩, i1.del⟩ (fun v hv => ?_) ⟨w1, fun n b x q1 q2 q3 => ?_, fun d' q => ?_⟩
      · have := ftg_no hv
        rw [lk_cons, if_neg (by omega), lk_hdel, if_neg (by omega)]
      · rw [lk_cons, if_neg (by decide), lk_hdel, if_neg (by decide)] at q1 q2 q3
        exact w2 n b x q1 q2 q3
      · rw [lk_cons, if_neg (by decide), lk_hdel, if_neg (by decide), e1] at q
        have ed := Option.some.inj q
        subst ed
        refine ⟨n1, fun x qx => ?_, fun y qy => ?_⟩
        · rw [lk_cons, if_neg (by decide), lk_hdel, if_pos rfl] at qx
          cases qx
        · rw [lk_cons, if_pos rfl] at qy
          rw [← Option.some.inj qy]
          exact key
  · exact ho
noncomputable def h178 (s : Sy) : Sy := match lk s.hl 805, lk s.hl 807 with
  | some d, some y => bif leAV s (.c 0) y then adS s [(d, 1), (y, -1)] 0 else s
  | _, _ => s
theorem h178_ok (hm : cF9 kK kB kL kF jS ∈ cs) (ho : Ok (Jf T G (cS cs)) s ρ σ) : Ok (Jf T G (cS cs)) (h178 s) ρ σ := by
  unfold h178
  split
  · rename_i d y qd qy
    cases hc : leAV s (.c 0) y with
    | false => exact ho
    | true =>
      obtain ⟨H, i1, i2⟩ := ho.inv
      obtain ⟨zd, e1, e2⟩ := tag_get ho i1 qd
      obtain ⟨zy, f1, f2⟩ := tag_get ho i1 qy
      obtain ⟨w1, w2, w3⟩ := (i2.2.2 _ hm : fS9 kK kB kL kF jS H σ)
      obtain ⟨n1, _, n3⟩ := w3 zd e1
      have g0 := leAV_ok ho hc (x := 0) rfl f2
      have key : zd ≤ zy := by
        by_cases hd : 1 ≤ zd
        · have g1 := (n3 zy f1 hd).1
          have g2 := nsl_lo n1 (zd - 1).toNat (by omega)
          omega
        · omega
      exact adS_ok ho (evs2 e2 f2) (by rw [smv2 e2 f2]; omega)
  · exact ho
noncomputable def h175 (s : Sy) : Sy := match lk s.hl 805, lk s.hl 807 with
  | some _, some y => bif !(isS (lk s.hl 806)) then s.seth ((806, shA y 1) :: hdel 807 s.hl) else s
  | _, _ => s
theorem f_to6 (hP : PH T G cs (cF9 kK kB kL kF jS)) (ho : Ok (Jf T G (cS cs)) s ρ σ) {H : List (Nat × Int)} (i1 : Hl ρ s.hl H) (i2 : Jf T G (cS cs) H σ) {zd zx : Int} {x : AV} (e1 : lk H 805 = some zd) (hx : ev ρ x = some zx) (key : NsX (Pp σ kB) (Pp σ kL) zd zx 1) : Ok (Jf T G (cS cs)) (s.seth ((806, x) :: hdel 807 s.hl)) ρ σ := by
  obtain ⟨w1, w2, w3⟩ := (i2.2.2 _ hP.2.2.1 : fS9 kK kB kL kF jS H σ)
  obtain ⟨n1, n2, n3⟩ := w3 zd e1
  refine ph_set (H := H) (H' := (806, zx) :: hdel 807 H) hP ho i2 ⟨⟨rfl, hx⟩, i1.del⟩ (fun v hv => ?_) ⟨w1, fun n b x q1 q2 q3 => ?_, fun d' q => ?_⟩
  · have := ftg_no hv
    rw [lk_cons, if_neg (by omega), lk_hdel, if_neg (by omega)]
  · rw [lk_cons, if_neg (by decide), lk_hdel, if_neg (by decide)] at q1 q2 q3
    exact w2 n b x q1 q2 q3
  · rw [lk_cons, if_neg (by decide), lk_hdel, if_neg (by decide), e1] at q
    have ed := Option.some.inj q
    subst ed
    refine ⟨n1, fun x qx => ?_, fun y qy => ?_⟩
    · rw [lk_cons, if_pos rfl] at qx
      rw [← Option.some.inj qx]
      exact key
    · rw [lk_cons, if_neg (by decide), lk_hdel, if_pos rfl] at qy
      cases qy
theorem h175_ok (hP : PH T G cs (cF9 kK kB kL kF jS)) (ho : Ok (Jf T G (cS cs)) s ρ σ) : Ok (Jf T G (cS cs)) (h175 s) ρ σ := by
  unfold h175
  split
  · rename_i d y qd qy
    cases hc : !(isS (lk s.hl 806)) with
    | false => exact ho
    | true =>
      obtain ⟨H, i1, i2⟩ := ho.inv
      obtain ⟨zd, e1, e2⟩ := tag_get ho i1 qd
      obtain ⟨zy, f1, f2⟩ := tag_get ho i1 qy
      obtain ⟨w1, w2, w3⟩ := (i2.2.2 _ hP.2.2.1 : fS9 kK kB kL kF jS H σ)
      obtain ⟨n1, n2, n3⟩ := w3 zd e1
      refine f_to6 hP ho i1 i2 e1 (shA_ev f2) (fun hd => ?_)
      have := n3 zy f1 hd
      omega
  · exact ho
/-- 176: a block is left: behind it -/
noncomputable def h176 (kK kB kF jS : Nat) (s : Sy) : Sy := match lk s.hl 805, lk s.hl 807 with
  | some _, some y => (match oth s kK y, oth s kB y, mget s.me kF (.c (jS : Int)) with
    | some w, some b, some st => bif (((st.isI && leAV s (shA y 1) st) && (leAV s (.c 0) y && leAV s (.c 0) b)) && (yblk s w && !(isS (lk s.hl 806)))) && inS s (tlin 1 (nf s b).1 (nf s y).1) ((nf s y).2 + (nf s b).2 + 1) (-2147483648) 2147483647
      then (s.lin false (tlin 1 (nf s b).1 (nf s y).1) ((nf s y).2 + (nf s b).2 + 1) T32).1.seth ((806, (s.lin false (tlin 1 (nf s b).1 (nf s y).1) ((nf s y).2 + (nf s b).2 + 1) T32).2) :: hdel 807 (s.lin false (tlin 1 (nf s b).1 (nf s y).1) ((nf s y).2 + (nf s b).2 + 1) T32).1.hl) else s
    | _, _, _ => s)
  | _, _ => s
theorem lin_hl {lg : Bool} {f : Lf} {k : Int} {d : Dom} : (s.lin lg f k d).1.hl = s.hl := by
  unfold Sy.lin
  split
  · rfl
  · rename_i id w _
    cases (ile w 1 && ile 1 w) with
    | true => rfl
    | false =>
      show (match dfnd s.df [(id, w)] with
        | some (j, k') => (s, avn lg j (k - k'))
        | none => ((s.nx + 1, ((s.nx, d) :: s.env, (s.me, (s.cg, ((s.nx, ([(id, w)], k)) :: s.df, (s.fa, s.hl)))))), avn lg s.nx 0)).1.hl = s.hl
      split <;> rfl
  · split <;> rfl
theorem h176_ok (hP : PH T G cs (cF9 kK kB kL kF jS)) (ho : Ok (Jf T G (cS cs)) s ρ σ) : ∃ ρ', Pre ρ ρ' ∧ Ok (Jf T G (cS cs)) (h176 kK kB kF jS s) ρ' σ := by
  unfold h176
  split
  · rename_i d y qd qy
    split
    · rename_i w b st hw hB hst
      cases hc : (((st.isI && leAV s (shA y 1) st) && (leAV s (.c 0) y && leAV s (.c 0) b)) && (yblk s w && !(isS (lk s.hl 806)))) && inS s (tlin 1 (nf s b).1 (nf s y).1) ((nf s y).2 + (nf s b).2 + 1) (-2147483648) 2147483647 with
      | false => exact ⟨ρ, Pre.rf, ho⟩
      | true =>
        simp only [cond_true]
        simp only [Bool.and_eq_true] at hc
        obtain ⟨⟨⟨⟨c1, c2⟩, c3, c4⟩, c5, c6⟩, c7⟩ := hc
        obtain ⟨H, i1, i2⟩ := ho.inv
        obtain ⟨zd, e1, e2⟩ := tag_get ho i1 qd
        obtain ⟨zy, f1, f2⟩ := tag_get ho i1 qy
        obtain ⟨w1, w2, w3⟩ := (i2.2.2 _ hP.2.2.1 : fS9 kK kB kL kF jS H σ)
        obtain ⟨n1, n2, n3⟩ := w3 zd e1
        have g0 := leAV_ok ho c3 (x := 0) rfl f2
        have hy : ev ρ y = some ((zy.toNat : Nat) : Int) := f2.trans (congrArg some (by omega))
        have eB : ev ρ b = some (Pp σ kB zy.toNat) := (oth_ok ho hB hy).2
        have eK : Blk (Pp σ kK zy.toNat) := yblk_ok ho c5 (oth_ok ho hw hy).2
        have est : ev ρ st = some (Pp σ kF jS) := me_at ho hst rfl c1
        have g1 := leAV_ok ho c2 (shA_ev f2) est
        have g2 := leAV_ok ho c4 (x := 0) rfl eB
        obtain ⟨vy, y1, y2⟩ := nf_ok ho f2
        obtain ⟨vb, b1, b2⟩ := nf_ok ho eB
        have hv := tlin_ok (w := 1) b1 y1
        have hin := inS_ok ho c7 hv
        have ex : zy + Pp σ kB zy.toNat + 1 = vy + 1 * vb + ((nf s y).2 + (nf s b).2 + 1) := by omega
        obtain ⟨ρ', p1, o1, _, o3⟩ := lin_ok ho (lg := false) (d := T32) hv ex ⟨_, List.mem_cons_self .., by dsimp only; omega, by dsimp only; omega⟩
        refine ⟨ρ', p1, f_to6 hP o1 (by rw [lin_hl]; exact i1.mono p1) i2 e1 o3 (fun hd => ?_)⟩
        have h1 := n3 zy f1 hd
        obtain ⟨⟨q1, q2, q3⟩, _⟩ := n1 (zd - 1).toNat (by omega)
        have h2 := w1 (Pp σ kL (zd - 1).toNat).toNat zy.toNat (by omega) (by omega) (by rw [q3]; exact Or.inr rfl) eK (by omega)
        omega
    · exact ⟨ρ, Pre.rf, ho⟩
  · exact ⟨ρ, Pre.rf, ho⟩
/-- 177: a loop is begun -/
noncomputable def h177 (kK kB kL kF jS : Nat) (s : Sy) : Sy := match lk s.hl 805, lk s.hl 807 with
  | some d, some y => (match oth s kK y, oth s kB y, mget s.me kF (.c (jS : Int)) with
    | some w, some b, some st => (match oth s kL d with
      | some u => bif (((st.isI && leAV s (shA y 1) st) && (leAV s (.c 0) y && leAV s (.c 0) b)) && (eqA s w (.c 5) && !(isS (lk s.hl 806)))) && (eqA s u y && leAV s (.c 0) d) then s.seth (hup 805 (shA d 1) ((806, shA y 1) :: hdel 807 s.hl)) else s
      | none => s)
    | _, _, _ => s)
  | _, _ => s
theorem h177_ok (hP : PH T G cs (cF9 kK kB kL kF jS)) (ho : Ok (Jf T G (cS cs)) s ρ σ) : Ok (Jf T G (cS cs)) (h177 kK kB kL kF jS s) ρ σ := by
  unfold h177
  split
  · rename_i d y qd qy
    split
    · rename_i w b st hw hB hst
      split
      · rename_i u hu
        cases hc : (((st.isI && leAV s (shA y 1) st) && (leAV s (.c 0) y && leAV s (.c 0) b)) && (eqA s w (.c 5) && !(isS (lk s.hl 806)))) && (eqA s u y && leAV s (.c 0) d) with
        | false => exact ho
        | true =>
          simp only [cond_true]
          simp only [Bool.and_eq_true] at hc
          obtain ⟨⟨⟨⟨c1, c2⟩, c3, c4⟩, c5, c6⟩, c7, c8⟩ := hc
          obtain ⟨H, i1, i2⟩ := ho.inv
          obtain ⟨zd, e1, e2⟩ := tag_get ho i1 qd
          obtain ⟨zy, f1, f2⟩ := tag_get ho i1 qy
          obtain ⟨w1, w2, w3⟩ := (i2.2.2 _ hP.2.2.1 : fS9 kK kB kL kF jS H σ)
          obtain ⟨n1, n2, n3⟩ := w3 zd e1
          have g0 := leAV_ok ho c3 (x := 0) rfl f2
          have hy : ev ρ y = some ((zy.toNat : Nat) : Int) := f2.trans (congrArg some (by omega))
          have eB : ev ρ b = some (Pp σ kB zy.toNat) := (oth_ok ho hB hy).2
          have eK : Pp σ kK zy.toNat = 5 := eqA_ok ho c5 (oth_ok ho hw hy).2 (y := 5) rfl
          have est : ev ρ st = some (Pp σ kF jS) := me_at ho hst rfl c1
          have g1 := leAV_ok ho c2 (shA_ev f2) est
          have g2 := leAV_ok ho c4 (x := 0) rfl eB
          have g3 := leAV_ok ho c8 (x := 0) rfl e2
          have hd : ev ρ d = some ((zd.toNat : Nat) : Int) := e2.trans (congrArg some (by omega))
          have eu : Pp σ kL zd.toNat = zy := eqA_ok ho c7 (oth_ok ho hu hd).2 f2
          have e5 : lk ((806, zy + 1) :: hdel 807 H) 805 = some zd := by rw [lk_cons, if_neg (by decide), lk_hdel, if_neg (by decide)]; exact e1
          refine ph_set (H := H) (H' := hup 805 (zd + 1) ((806, zy + 1) :: hdel 807 H)) hP ho i2 (Hl.up (shA_ev e2) ⟨⟨rfl, shA_ev f2⟩, i1.del⟩) (fun v hv => ?_) ⟨w1, fun n b x q1 q2 q3 => ?_, fun d' q => ?_⟩
          · have := ftg_no hv
            rw [lk_hup_ne (by omega), lk_cons, if_neg (by omega), lk_hdel, if_neg (by omega)]
          · rw [lk_hup_ne (by decide), lk_cons, if_neg (by decide), lk_hdel, if_neg (by decide)] at q1 q2 q3
            exact w2 n b x q1 q2 q3
          · rw [lk_hup_at e5] at q
            have ed := Option.some.inj q
            refine ⟨fun i hi => ?_, fun x qx hd' => ?_, fun z qz => ?_⟩
            · by_cases hlt : (i : Int) < zd
              · refine ⟨(n1 i hlt).1, fun h2 => ?_⟩
                by_cases h3 : (i : Int) + 1 < zd
                · exact (n1 i hlt).2 h3
                · have en : i + 1 = zd.toNat := by omega
                  have em : (zd - 1).toNat = i := by omega
                  rw [en, eu]
                  have := n3 zy f1 (by omega)
                  rw [em] at this
                  omega
              · have en : i = zd.toNat := by omega
                rw [en, eu]
                exact ⟨⟨g0, by omega, eK⟩, fun h2 => absurd h2 (by omega)⟩
            · rw [lk_hup_ne (by decide), lk_cons, if_pos rfl] at qx
              have ex := Option.some.inj qx
              have en : (d' - 1).toNat = zd.toNat := by omega
              rw [en, eu]
              omega
            · rw [lk_hup_ne (by decide), lk_cons, if_neg (by decide), lk_hdel, if_pos rfl] at qz
              cases qz
      · exact ho
    · exact ho
  · exact ho
end H37
end
end
section
/-! ===== PRODUCTS, 0: rules of any judgement that goes with steps ===== -/
noncomputable def mixD (D : Nat → Bool) (σ τ : zS) : zS := (fun k => bif D k then σ.1 k else τ.1 k, fun k => bif D k then σ.2 k else τ.2 k)
noncomputable def agD (D : Nat → Bool) (σ σ' : zS) : Prop := ∀ k, D k = false → σ'.1 k = σ.1 k ∧ σ'.2 k = σ.2 k
noncomputable abbrev Tt : Type := Nat → Nat → List (Nat × Value) → List Value → zS → Prop
/-- T goes with steps that look at the cells of D alone -/
noncomputable def Lft (E : xV) (Yf : Nat → xY) (D : Nat → Bool) (T : Tt) : Prop := ∀ (m pc : Nat) (l : List (Nat × Value)) (v : List Value) (σ : zS) (pc' : Nat) (l' : List (Nat × Value)) (v' : List Value) (σ' : zS), agD D σ σ' → (∀ (τ : zS) (K : zKt), Wz E (Yf m) pc' l' v' (mixD D σ' τ) K → Wz E (Yf m) pc l v (mixD D σ τ) K) → T m pc' l' v' σ' → T m pc l v σ
section PZ
variable {E : xV} {Yf : Nat → xY} {D : Nat → Bool} {T : Tt} {m pc pc' : Nat} {lv lv' : List (Nat × Value)} {st : List Value} {σ τ : zS}
theorem agD.rf : agD D σ σ := fun _ _ => ⟨rfl, rfl⟩
theorem agD.tr {a b c : zS} (h : agD D a b) (h' : agD D b c) : agD D a c := fun k q => ⟨(h' k q).1.trans (h k q).1, (h' k q).2.trans (h k q).2⟩
theorem mix1 {k : Nat} (h : D k = true) : (mixD D σ τ).1 k = σ.1 k := by simp only [mixD, h, cond_true]
theorem mix2 {k : Nat} (h : D k = true) : (mixD D σ τ).2 k = σ.2 k := by simp only [mixD, h, cond_true]
theorem mixIr {k : Nat} {f : Nat → Int32} (h : D k = true) : zIr (mixD D σ τ) k f = mixD D (zIr σ k f) τ := by
  refine Prod.ext (funext fun q => ?_) rfl
  simp only [zIr, mixD, xup]
  by_cases e : q = k
  · subst e; simp only [h, cond_true, if_true]
  · simp only [if_neg e]
theorem mixJr {k : Nat} {f : Nat → Int64} (h : D k = true) : zJr (mixD D σ τ) k f = mixD D (zJr σ k f) τ := by
  refine Prod.ext rfl (funext fun q => ?_)
  simp only [zJr, mixD, xup]
  by_cases e : q = k
  · subst e; simp only [h, cond_true, if_true]
  · simp only [if_neg e]
theorem mixI {k j : Nat} {x : Int32} (h : D k = true) : zI (mixD D σ τ) k j x = mixD D (zI σ k j x) τ := by
  show zIr (mixD D σ τ) k (upd ((mixD D σ τ).1 k) j x) = _
  rw [mix1 h]
  exact mixIr h
theorem mixJ {k j : Nat} {x : Int64} (h : D k = true) : zJ (mixD D σ τ) k j x = mixD D (zJ σ k j x) τ := by
  show zJr (mixD D σ τ) k (vp_updL ((mixD D σ τ).2 k) j x) = _
  rw [mix2 h]
  exact mixJr h
theorem agIr {k : Nat} {f : Nat → Int32} (h : D k = true) : agD D σ (zIr σ k f) := fun q hq => ⟨by
  have e : q ≠ k := fun e => by rw [e, h] at hq; cases hq
  simp only [zIr, xup, if_neg e], rfl⟩
theorem agJr {k : Nat} {f : Nat → Int64} (h : D k = true) : agD D σ (zJr σ k f) := fun q hq => ⟨rfl, by
  have e : q ≠ k := fun e => by rw [e, h] at hq; cases hq
  simp only [zJr, xup, if_neg e]⟩
theorem agI {k j : Nat} {x : Int32} (h : D k = true) : agD D σ (zI σ k j x) := agIr h
theorem agJ {k j : Nat} {x : Int64} (h : D k = true) : agD D σ (zJ σ k j x) := agJr h
theorem g_aald (hT : Lft E Yf D T) {k z i' : Nat} {i : Int32} (hk : k < 215) (hd : KD k = (103, [z])) (hi : vp_in i z) (hr : RF k i.toNatClampNeg = i' + 1) (d : decode (Yf m).2.1 pc = .ok (.aaload, 1) ∧ pc + 1 = pc') (kk : T m pc' lv (.ref i' :: st) σ) : T m pc lv (.int i :: .ref k :: st) σ := hT _ _ _ _ _ _ _ _ _ agD.rf (fun τ K q => z_aald hk hd hi hr d q) kk
theorem g_aload (hT : Lft E Yf D T) {i q : Nat} {x : Nat} (d : decode (Yf m).2.1 pc = .ok (.aload i, 2) ∧ pc + 2 = pc') (hq : lv[q]? = some (i, .ref x)) (k : T m pc' lv (.ref x :: st) σ) : T m pc lv st σ := hT _ _ _ _ _ _ _ _ _ agD.rf (fun τ K q => z_aload d hq q) k
theorem g_aload_n (hT : Lft E Yf D T) {f : Fin 4} {i q : Nat} {x : Nat} (d : decode (Yf m).2.1 pc = .ok (.aload_n f, 1) ∧ pc + 1 = pc') (hi : (f : Nat) = i) (hq : lv[q]? = some (i, .ref x)) (k : T m pc' lv (.ref x :: st) σ) : T m pc lv st σ := hT _ _ _ _ _ _ _ _ _ agD.rf (fun τ K q => z_aload_n d hi hq q) k
theorem g_astore_n (hT : Lft E Yf D T) {f : Fin 4} {i : Nat} {x : Nat} (d : decode (Yf m).2.1 pc = .ok (.astore_n f, 1) ∧ pc + 1 = pc') (hi : (f : Nat) = i) (hn : i < (Yf m).2.2.1) (hl' : (i, Value.ref x) :: lv.filter (fun q => !(q.1 == i) && !(q.1 + 1 == i && q.2.category == 2)) = lv') (k : T m pc' lv' st σ) : T m pc lv (.ref x :: st) σ := hT _ _ _ _ _ _ _ _ _ agD.rf (fun τ K q => z_astore_n d hi hn hl' q) k
theorem g_bipush (hT : Lft E Yf D T) {i : Int} {v : Int32} (d : decode (Yf m).2.1 pc = .ok (.bipush i, 2) ∧ pc + 2 = pc') (hv : (Int8.ofInt i).toInt32 = v) (k : T m pc' lv (.int v :: st) σ) : T m pc lv st σ := hT _ _ _ _ _ _ _ _ _ agD.rf (fun τ K q => z_bipush d hv q) k
theorem g_copyi (hT : Lft E Yf D T) {idx k0 k1 z0 z1 : Nat} {sp dp v : Int32} (hD0 : D k0 = true) (hD1 : D k1 = true) (w1 : Cond.methodLink (Yf m).1.cls idx arraycopyName ∈ TBg) (w2 : Cond.native arraycopyName ∈ TBg) (w3 : Cond.static arraycopyName ∈ TBg) (w4 : Cond.initialized "java/lang/System" ∈ TBg) (hk0 : k0 < 215) (hk1 : k1 < 215) (hd0 : KD k0 = (100, [z0])) (hd1 : KD k1 = (100, [z1])) (hb : ¬ sp < 0 ∧ ¬ dp < 0 ∧ ¬ v < 0 ∧ sp.toNatClampNeg + v.toNatClampNeg ≤ z0 ∧ dp.toNatClampNeg + v.toNatClampNeg ≤ z1) (hfr : 1 ≤ (Yf m).2.2.2.2.frames) (hlo : 40 ≤ (Yf m).2.2.2.2.locals) (hcat : (st.map fun v => v.category).sum ≤ 8) (d : decode (Yf m).2.1 pc = .ok (.invokestatic idx, 3) ∧ pc + 3 = pc') (kk : T m pc' lv st (zIr σ k1 (va_cpy (σ.1 k0) (σ.1 k1) sp.toNatClampNeg dp.toNatClampNeg v.toNatClampNeg)))  : T m pc lv (.int v :: .int dp :: .ref k1 :: .int sp :: .ref k0 :: st) σ := hT _ _ _ _ _ _ _ _ _ (agIr hD1) (fun τ K q => z_copyi w1 w2 w3 w4 hk0 hk1 hd0 hd1 hb hfr hlo hcat d (by rw [mix1 hD0, mix1 hD1, mixIr hD1]; exact q)) kk
theorem g_copyl (hT : Lft E Yf D T) {idx k0 k1 z0 z1 : Nat} {sp dp v : Int32} (hD0 : D k0 = true) (hD1 : D k1 = true) (w1 : Cond.methodLink (Yf m).1.cls idx arraycopyName ∈ TBg) (w2 : Cond.native arraycopyName ∈ TBg) (w3 : Cond.static arraycopyName ∈ TBg) (w4 : Cond.initialized "java/lang/System" ∈ TBg) (hk0 : k0 < 215) (hk1 : k1 < 215) (hd0 : KD k0 = (101, [z0])) (hd1 : KD k1 = (101, [z1])) (hb : ¬ sp < 0 ∧ ¬ dp < 0 ∧ ¬ v < 0 ∧ sp.toNatClampNeg + v.toNatClampNeg ≤ z0 ∧ dp.toNatClampNeg + v.toNatClampNeg ≤ z1) (hfr : 1 ≤ (Yf m).2.2.2.2.frames) (hlo : 40 ≤ (Yf m).2.2.2.2.locals) (hcat : (st.map fun v => v.category).sum ≤ 8) (d : decode (Yf m).2.1 pc = .ok (.invokestatic idx, 3) ∧ pc + 3 = pc') (kk : T m pc' lv st (zJr σ k1 (va_cpy (σ.2 k0) (σ.2 k1) sp.toNatClampNeg dp.toNatClampNeg v.toNatClampNeg)))  : T m pc lv (.int v :: .int dp :: .ref k1 :: .int sp :: .ref k0 :: st) σ := hT _ _ _ _ _ _ _ _ _ (agJr hD1) (fun τ K q => z_copyl w1 w2 w3 w4 hk0 hk1 hd0 hd1 hb hfr hlo hcat d (by rw [mix2 hD0, mix2 hD1, mixJr hD1]; exact q)) kk
theorem g_dup2ir (hT : Lft E Yf D T) {i : Int32} {x : Nat} (d : decode (Yf m).2.1 pc = .ok (.dup2, 1) ∧ pc + 1 = pc') (k : T m pc' lv (.int i :: .ref x :: .int i :: .ref x :: st) σ) : T m pc lv (.int i :: .ref x :: st) σ := hT _ _ _ _ _ _ _ _ _ agD.rf (fun τ K q => z_dup2ir d q) k
theorem g_dup2l (hT : Lft E Yf D T) {x : Int64} (d : decode (Yf m).2.1 pc = .ok (.dup2, 1) ∧ pc + 1 = pc') (k : T m pc' lv (.long x :: .long x :: st) σ) : T m pc lv (.long x :: st) σ := hT _ _ _ _ _ _ _ _ _ agD.rf (fun τ K q => z_dup2l d q) k
theorem g_dupi (hT : Lft E Yf D T) {x : Int32} (d : decode (Yf m).2.1 pc = .ok (.dup, 1) ∧ pc + 1 = pc') (k : T m pc' lv (.int x :: .int x :: st) σ) : T m pc lv (.int x :: st) σ := hT _ _ _ _ _ _ _ _ _ agD.rf (fun τ K q => z_dupi d q) k
theorem g_dupr (hT : Lft E Yf D T) {x : Nat} (d : decode (Yf m).2.1 pc = .ok (.dup, 1) ∧ pc + 1 = pc') (k : T m pc' lv (.ref x :: .ref x :: st) σ) : T m pc lv (.ref x :: st) σ := hT _ _ _ _ _ _ _ _ _ agD.rf (fun τ K q => z_dupr d q) k
theorem g_geti (hT : Lft E Yf D T) {k j idx ci : Nat} {l : List Nat} {ty : FieldType} {fin : Bool} (hD : D k = true) (F : xFl (Yf m).1.cls idx ci j ty fin) (hk : k < 215) (hd : KD k = (ci, l)) (hc : ci < 100) (hj : l[j]? = some 0) (d : decode (Yf m).2.1 pc = .ok (.getfield idx, 3) ∧ pc + 3 = pc') (kk : T m pc' lv (.int (σ.1 k j) :: st) σ) : T m pc lv (.ref k :: st) σ := hT _ _ _ _ _ _ _ _ _ agD.rf (fun τ K q => z_geti F hk hd hc hj d (by rw [mix1 hD]; exact q)) kk
theorem g_getj (hT : Lft E Yf D T) {k j idx ci : Nat} {l : List Nat} {ty : FieldType} {fin : Bool} (hD : D k = true) (F : xFl (Yf m).1.cls idx ci j ty fin) (hk : k < 215) (hd : KD k = (ci, l)) (hc : ci < 100) (hj : l[j]? = some 1) (d : decode (Yf m).2.1 pc = .ok (.getfield idx, 3) ∧ pc + 3 = pc') (kk : T m pc' lv (.long (σ.2 k j) :: st) σ) : T m pc lv (.ref k :: st) σ := hT _ _ _ _ _ _ _ _ _ agD.rf (fun τ K q => z_getj F hk hd hc hj d (by rw [mix2 hD]; exact q)) kk
theorem g_getr (hT : Lft E Yf D T) {k j i idx ci : Nat} {l : List Nat} {ty : FieldType} {fin : Bool} (F : xFl (Yf m).1.cls idx ci j ty fin) (hk : k < 215) (hd : KD k = (ci, l)) (hc : ci < 100) (hj : l[j]? = some 2) (hr : RF k j = i + 1) (d : decode (Yf m).2.1 pc = .ok (.getfield idx, 3) ∧ pc + 3 = pc') (kk : T m pc' lv (.ref i :: st) σ) : T m pc lv (.ref k :: st) σ := hT _ _ _ _ _ _ _ _ _ agD.rf (fun τ K q => z_getr F hk hd hc hj hr d q) kk
theorem g_getsC (hT : Lft E Yf D T) {idx : Nat} (hl : Cond.fieldLink (Yf m).1.cls idx "java/lang/String" "COMPACT_STRINGS" "Z" ∈ TBg) (d : decode (Yf m).2.1 pc = .ok (.getstatic idx, 3) ∧ pc + 3 = pc') (k : T m pc' lv (.int 1 :: st) σ) : T m pc lv st σ := hT _ _ _ _ _ _ _ _ _ agD.rf (fun τ K q => z_getsC hl d q) k
theorem g_getsR (hT : Lft E Yf D T) {idx : Nat} (hl : Cond.fieldLink (Yf m).1.cls idx "RightsHouse$Judge" "RANK" "[I" ∈ TBg) (d : decode (Yf m).2.1 pc = .ok (.getstatic idx, 3) ∧ pc + 3 = pc') (k : T m pc' lv (.ref 3001 :: st) σ) : T m pc lv st σ := hT _ _ _ _ _ _ _ _ _ agD.rf (fun τ K q => z_getsR hl d q) k
theorem g_goto (hT : Lft E Yf D T) {off : Int} {tgt : Nat} (d : decode (Yf m).2.1 pc = .ok (.goto off, 3) ∧ (pc : Int) + off = (tgt : Int) ∧ pc + 3 = pc') (k : T m tgt lv st σ) : T m pc lv st σ := hT _ _ _ _ _ _ _ _ _ agD.rf (fun τ K q => z_goto d q) k
theorem g_i2b (hT : Lft E Yf D T) {x v : Int32} (d : decode (Yf m).2.1 pc = .ok (.i2b, 1) ∧ pc + 1 = pc') (hv : x.toInt8.toInt32 = v) (k : T m pc' lv (.int v :: st) σ) : T m pc lv (.int x :: st) σ := hT _ _ _ _ _ _ _ _ _ agD.rf (fun τ K q => z_i2b d hv q) k
theorem g_i2c (hT : Lft E Yf D T) {x : Int32} {v : Int32} (d : decode (Yf m).2.1 pc = .ok (.i2c, 1) ∧ pc + 1 = pc') (hv : (x.toUInt32 % 65536).toInt32 = v) (k : T m pc' lv (.int v :: st) σ) : T m pc lv (.int x :: st) σ := hT _ _ _ _ _ _ _ _ _ agD.rf (fun τ K q => z_i2c d hv q) k
theorem g_i2l (hT : Lft E Yf D T) {x : Int32} {v : Int64} (d : decode (Yf m).2.1 pc = .ok (.i2l, 1) ∧ pc + 1 = pc') (hv : x.toInt64 = v) (k : T m pc' lv (.long v :: st) σ) : T m pc lv (.int x :: st) σ := hT _ _ _ _ _ _ _ _ _ agD.rf (fun τ K q => z_i2l d hv q) k
theorem g_iadd (hT : Lft E Yf D T) {x y : Int32} (d : decode (Yf m).2.1 pc = .ok (.iadd, 1) ∧ pc + 1 = pc') (k : T m pc' lv (.int (x + y) :: st) σ) : T m pc lv (.int y :: .int x :: st) σ := hT _ _ _ _ _ _ _ _ _ agD.rf (fun τ K q => z_iadd d q) k
theorem g_iald (hT : Lft E Yf D T) {k z : Nat} {i : Int32} (hD : D k = true) (hk : k < 215) (hd : KD k = (100, [z])) (hi : vp_in i z) (d : decode (Yf m).2.1 pc = .ok (.iaload, 1) ∧ pc + 1 = pc') (kk : T m pc' lv (.int (σ.1 k i.toNatClampNeg) :: st) σ) : T m pc lv (.int i :: .ref k :: st) σ := hT _ _ _ _ _ _ _ _ _ agD.rf (fun τ K q => z_iald hk hd hi d (by rw [mix1 hD]; exact q)) kk
theorem g_iand (hT : Lft E Yf D T) {x y : Int32} (d : decode (Yf m).2.1 pc = .ok (.iand, 1) ∧ pc + 1 = pc') (k : T m pc' lv (.int (x &&& y) :: st) σ) : T m pc lv (.int y :: .int x :: st) σ := hT _ _ _ _ _ _ _ _ _ agD.rf (fun τ K q => z_iand d q) k
theorem g_iast (hT : Lft E Yf D T) {k z : Nat} {i : Int32} {x : Int32} (hD : D k = true) (hk : k < 215) (hd : KD k = (100, [z])) (hi : vp_in i z) (d : decode (Yf m).2.1 pc = .ok (.iastore, 1) ∧ pc + 1 = pc') (kk : T m pc' lv st (zI σ k i.toNatClampNeg x)) : T m pc lv (.int x :: .int i :: .ref k :: st) σ := hT _ _ _ _ _ _ _ _ _ (agI hD) (fun τ K q => z_iast hk hd hi d (by rw [mixI hD]; exact q)) kk
theorem g_icmp_eq (hT : Lft E Yf D T) {x y : Int32} {off : Int} {tgt : Nat} (d : decode (Yf m).2.1 pc = .ok (.if_icmp .eq off, 3) ∧ (pc : Int) + off = (tgt : Int) ∧ pc + 3 = pc') (kt : x = y → T m tgt lv st σ) (kf : ¬ x = y → T m pc' lv st σ) : T m pc lv (.int y :: .int x :: st) σ := by
  by_cases h : x = y
  · exact hT _ _ _ _ _ _ _ _ _ agD.rf (fun τ K q => z_icmp_eq d (fun _ => q) (fun h9 => absurd h h9)) (kt h)
  · exact hT _ _ _ _ _ _ _ _ _ agD.rf (fun τ K q => z_icmp_eq d (fun h9 => absurd h9 h) (fun _ => q)) (kf h)
theorem g_icmp_ge (hT : Lft E Yf D T) {x y : Int32} {off : Int} {tgt : Nat} (d : decode (Yf m).2.1 pc = .ok (.if_icmp .ge off, 3) ∧ (pc : Int) + off = (tgt : Int) ∧ pc + 3 = pc') (kt : y ≤ x → T m tgt lv st σ) (kf : ¬ y ≤ x → T m pc' lv st σ) : T m pc lv (.int y :: .int x :: st) σ := by
  by_cases h : y ≤ x
  · exact hT _ _ _ _ _ _ _ _ _ agD.rf (fun τ K q => z_icmp_ge d (fun _ => q) (fun h9 => absurd h h9)) (kt h)
  · exact hT _ _ _ _ _ _ _ _ _ agD.rf (fun τ K q => z_icmp_ge d (fun h9 => absurd h9 h) (fun _ => q)) (kf h)
theorem g_icmp_gt (hT : Lft E Yf D T) {x y : Int32} {off : Int} {tgt : Nat} (d : decode (Yf m).2.1 pc = .ok (.if_icmp .gt off, 3) ∧ (pc : Int) + off = (tgt : Int) ∧ pc + 3 = pc') (kt : y < x → T m tgt lv st σ) (kf : ¬ y < x → T m pc' lv st σ) : T m pc lv (.int y :: .int x :: st) σ := by
  by_cases h : y < x
  · exact hT _ _ _ _ _ _ _ _ _ agD.rf (fun τ K q => z_icmp_gt d (fun _ => q) (fun h9 => absurd h h9)) (kt h)
  · exact hT _ _ _ _ _ _ _ _ _ agD.rf (fun τ K q => z_icmp_gt d (fun h9 => absurd h9 h) (fun _ => q)) (kf h)
theorem g_icmp_le (hT : Lft E Yf D T) {x y : Int32} {off : Int} {tgt : Nat} (d : decode (Yf m).2.1 pc = .ok (.if_icmp .le off, 3) ∧ (pc : Int) + off = (tgt : Int) ∧ pc + 3 = pc') (kt : x ≤ y → T m tgt lv st σ) (kf : ¬ x ≤ y → T m pc' lv st σ) : T m pc lv (.int y :: .int x :: st) σ := by
  by_cases h : x ≤ y
  · exact hT _ _ _ _ _ _ _ _ _ agD.rf (fun τ K q => z_icmp_le d (fun _ => q) (fun h9 => absurd h h9)) (kt h)
  · exact hT _ _ _ _ _ _ _ _ _ agD.rf (fun τ K q => z_icmp_le d (fun h9 => absurd h9 h) (fun _ => q)) (kf h)
theorem g_icmp_lt (hT : Lft E Yf D T) {x y : Int32} {off : Int} {tgt : Nat} (d : decode (Yf m).2.1 pc = .ok (.if_icmp .lt off, 3) ∧ (pc : Int) + off = (tgt : Int) ∧ pc + 3 = pc') (kt : x < y → T m tgt lv st σ) (kf : ¬ x < y → T m pc' lv st σ) : T m pc lv (.int y :: .int x :: st) σ := by
  by_cases h : x < y
  · exact hT _ _ _ _ _ _ _ _ _ agD.rf (fun τ K q => z_icmp_lt d (fun _ => q) (fun h9 => absurd h h9)) (kt h)
  · exact hT _ _ _ _ _ _ _ _ _ agD.rf (fun τ K q => z_icmp_lt d (fun h9 => absurd h9 h) (fun _ => q)) (kf h)
theorem g_icmp_ne (hT : Lft E Yf D T) {x y : Int32} {off : Int} {tgt : Nat} (d : decode (Yf m).2.1 pc = .ok (.if_icmp .ne off, 3) ∧ (pc : Int) + off = (tgt : Int) ∧ pc + 3 = pc') (kt : ¬ x = y → T m tgt lv st σ) (kf : x = y → T m pc' lv st σ) : T m pc lv (.int y :: .int x :: st) σ := by
  by_cases h : x = y
  · exact hT _ _ _ _ _ _ _ _ _ agD.rf (fun τ K q => z_icmp_ne d (fun h9 => absurd h h9) (fun _ => q)) (kf h)
  · exact hT _ _ _ _ _ _ _ _ _ agD.rf (fun τ K q => z_icmp_ne d (fun _ => q) (fun h9 => absurd h9 h)) (kt h)
theorem g_iconst (hT : Lft E Yf D T) {i : Int} {v : Int32} (d : decode (Yf m).2.1 pc = .ok (.iconst i, 1) ∧ pc + 1 = pc') (hv : Int32.ofInt i = v) (k : T m pc' lv (.int v :: st) σ) : T m pc lv st σ := hT _ _ _ _ _ _ _ _ _ agD.rf (fun τ K q => z_iconst d hv q) k
theorem g_idiv (hT : Lft E Yf D T) {x y : Int32} (d : decode (Yf m).2.1 pc = .ok (.idiv, 1) ∧ pc + 1 = pc') (hne : ¬ y = 0) (k : T m pc' lv (.int (x / y) :: st) σ) : T m pc lv (.int y :: .int x :: st) σ := hT _ _ _ _ _ _ _ _ _ agD.rf (fun τ K q => z_idiv d hne q) k
theorem g_if_eq (hT : Lft E Yf D T) {x : Int32} {off : Int} {tgt : Nat} (d : decode (Yf m).2.1 pc = .ok (.ifCond .eq off, 3) ∧ (pc : Int) + off = (tgt : Int) ∧ pc + 3 = pc') (kt : x = 0 → T m tgt lv st σ) (kf : ¬ x = 0 → T m pc' lv st σ) : T m pc lv (.int x :: st) σ := by
  by_cases h : x = 0
  · exact hT _ _ _ _ _ _ _ _ _ agD.rf (fun τ K q => z_if_eq d (fun _ => q) (fun h9 => absurd h h9)) (kt h)
  · exact hT _ _ _ _ _ _ _ _ _ agD.rf (fun τ K q => z_if_eq d (fun h9 => absurd h9 h) (fun _ => q)) (kf h)
theorem g_if_ge (hT : Lft E Yf D T) {x : Int32} {off : Int} {tgt : Nat} (d : decode (Yf m).2.1 pc = .ok (.ifCond .ge off, 3) ∧ (pc : Int) + off = (tgt : Int) ∧ pc + 3 = pc') (kt : 0 ≤ x → T m tgt lv st σ) (kf : ¬ 0 ≤ x → T m pc' lv st σ) : T m pc lv (.int x :: st) σ := by
  by_cases h : 0 ≤ x
  · exact hT _ _ _ _ _ _ _ _ _ agD.rf (fun τ K q => z_if_ge d (fun _ => q) (fun h9 => absurd h h9)) (kt h)
  · exact hT _ _ _ _ _ _ _ _ _ agD.rf (fun τ K q => z_if_ge d (fun h9 => absurd h9 h) (fun _ => q)) (kf h)
theorem g_if_gt (hT : Lft E Yf D T) {x : Int32} {off : Int} {tgt : Nat} (d : decode (Yf m).2.1 pc = .ok (.ifCond .gt off, 3) ∧ (pc : Int) + off = (tgt : Int) ∧ pc + 3 = pc') (kt : 0 < x → T m tgt lv st σ) (kf : ¬ 0 < x → T m pc' lv st σ) : T m pc lv (.int x :: st) σ := by
  by_cases h : 0 < x
  · exact hT _ _ _ _ _ _ _ _ _ agD.rf (fun τ K q => z_if_gt d (fun _ => q) (fun h9 => absurd h h9)) (kt h)
  · exact hT _ _ _ _ _ _ _ _ _ agD.rf (fun τ K q => z_if_gt d (fun h9 => absurd h9 h) (fun _ => q)) (kf h)
theorem g_if_le (hT : Lft E Yf D T) {x : Int32} {off : Int} {tgt : Nat} (d : decode (Yf m).2.1 pc = .ok (.ifCond .le off, 3) ∧ (pc : Int) + off = (tgt : Int) ∧ pc + 3 = pc') (kt : x ≤ 0 → T m tgt lv st σ) (kf : ¬ x ≤ 0 → T m pc' lv st σ) : T m pc lv (.int x :: st) σ := by
  by_cases h : x ≤ 0
  · exact hT _ _ _ _ _ _ _ _ _ agD.rf (fun τ K q => z_if_le d (fun _ => q) (fun h9 => absurd h h9)) (kt h)
  · exact hT _ _ _ _ _ _ _ _ _ agD.rf (fun τ K q => z_if_le d (fun h9 => absurd h9 h) (fun _ => q)) (kf h)
theorem g_if_lt (hT : Lft E Yf D T) {x : Int32} {off : Int} {tgt : Nat} (d : decode (Yf m).2.1 pc = .ok (.ifCond .lt off, 3) ∧ (pc : Int) + off = (tgt : Int) ∧ pc + 3 = pc') (kt : x < 0 → T m tgt lv st σ) (kf : ¬ x < 0 → T m pc' lv st σ) : T m pc lv (.int x :: st) σ := by
  by_cases h : x < 0
  · exact hT _ _ _ _ _ _ _ _ _ agD.rf (fun τ K q => z_if_lt d (fun _ => q) (fun h9 => absurd h h9)) (kt h)
  · exact hT _ _ _ _ _ _ _ _ _ agD.rf (fun τ K q => z_if_lt d (fun h9 => absurd h9 h) (fun _ => q)) (kf h)
theorem g_if_ne (hT : Lft E Yf D T) {x : Int32} {off : Int} {tgt : Nat} (d : decode (Yf m).2.1 pc = .ok (.ifCond .ne off, 3) ∧ (pc : Int) + off = (tgt : Int) ∧ pc + 3 = pc') (kt : ¬ x = 0 → T m tgt lv st σ) (kf : x = 0 → T m pc' lv st σ) : T m pc lv (.int x :: st) σ := by
  by_cases h : x = 0
  · exact hT _ _ _ _ _ _ _ _ _ agD.rf (fun τ K q => z_if_ne d (fun h9 => absurd h h9) (fun _ => q)) (kf h)
  · exact hT _ _ _ _ _ _ _ _ _ agD.rf (fun τ K q => z_if_ne d (fun _ => q) (fun h9 => absurd h9 h)) (kt h)
theorem g_iinc (hT : Lft E Yf D T) {i q : Nat} {z : Int} {x v : Int32} (d : decode (Yf m).2.1 pc = .ok (.iinc i z, 3) ∧ pc + 3 = pc') (hq : lv[q]? = some (i, .int x)) (hv : x + Int32.ofInt z = v) (hn : i < (Yf m).2.2.1) (hl' : (i, Value.int v) :: lv.filter (fun q => !(q.1 == i) && !(q.1 + 1 == i && q.2.category == 2)) = lv') (k : T m pc' lv' st σ) : T m pc lv st σ := hT _ _ _ _ _ _ _ _ _ agD.rf (fun τ K q => z_iinc d hq hv hn hl' q) k
theorem g_iload (hT : Lft E Yf D T) {i q : Nat} {x : Int32} (d : decode (Yf m).2.1 pc = .ok (.iload i, 2) ∧ pc + 2 = pc') (hq : lv[q]? = some (i, .int x)) (k : T m pc' lv (.int x :: st) σ) : T m pc lv st σ := hT _ _ _ _ _ _ _ _ _ agD.rf (fun τ K q => z_iload d hq q) k
theorem g_iload_n (hT : Lft E Yf D T) {f : Fin 4} {i q : Nat} {x : Int32} (d : decode (Yf m).2.1 pc = .ok (.iload_n f, 1) ∧ pc + 1 = pc') (hi : (f : Nat) = i) (hq : lv[q]? = some (i, .int x)) (k : T m pc' lv (.int x :: st) σ) : T m pc lv st σ := hT _ _ _ _ _ _ _ _ _ agD.rf (fun τ K q => z_iload_n d hi hq q) k
theorem g_imul (hT : Lft E Yf D T) {x y : Int32} (d : decode (Yf m).2.1 pc = .ok (.imul, 1) ∧ pc + 1 = pc') (k : T m pc' lv (.int (x * y) :: st) σ) : T m pc lv (.int y :: .int x :: st) σ := hT _ _ _ _ _ _ _ _ _ agD.rf (fun τ K q => z_imul d q) k
theorem g_ineg (hT : Lft E Yf D T) {x : Int32} (d : decode (Yf m).2.1 pc = .ok (.ineg, 1) ∧ pc + 1 = pc') (k : T m pc' lv (.int (-x) :: st) σ) : T m pc lv (.int x :: st) σ := hT _ _ _ _ _ _ _ _ _ agD.rf (fun τ K q => z_ineg d q) k
theorem g_ior (hT : Lft E Yf D T) {x y : Int32} (d : decode (Yf m).2.1 pc = .ok (.ior, 1) ∧ pc + 1 = pc') (k : T m pc' lv (.int (x ||| y) :: st) σ) : T m pc lv (.int y :: .int x :: st) σ := hT _ _ _ _ _ _ _ _ _ agD.rf (fun τ K q => z_ior d q) k
theorem g_irem (hT : Lft E Yf D T) {x y : Int32} (d : decode (Yf m).2.1 pc = .ok (.irem, 1) ∧ pc + 1 = pc') (hne : ¬ y = 0) (k : T m pc' lv (.int (x - x / y * y) :: st) σ) : T m pc lv (.int y :: .int x :: st) σ := hT _ _ _ _ _ _ _ _ _ agD.rf (fun τ K q => z_irem d hne q) k
theorem g_ishl (hT : Lft E Yf D T) {x y : Int32} (d : decode (Yf m).2.1 pc = .ok (.ishl, 1) ∧ pc + 1 = pc') (k : T m pc' lv (.int (x <<< (y &&& 31)) :: st) σ) : T m pc lv (.int y :: .int x :: st) σ := hT _ _ _ _ _ _ _ _ _ agD.rf (fun τ K q => z_ishl d q) k
theorem g_ishr (hT : Lft E Yf D T) {x y : Int32} (d : decode (Yf m).2.1 pc = .ok (.ishr, 1) ∧ pc + 1 = pc') (k : T m pc' lv (.int (x >>> (y &&& 31)) :: st) σ) : T m pc lv (.int y :: .int x :: st) σ := hT _ _ _ _ _ _ _ _ _ agD.rf (fun τ K q => z_ishr d q) k
theorem g_istore (hT : Lft E Yf D T) {i : Nat} {x : Int32} (d : decode (Yf m).2.1 pc = .ok (.istore i, 2) ∧ pc + 2 = pc') (hn : i < (Yf m).2.2.1) (hl' : (i, Value.int x) :: lv.filter (fun q => !(q.1 == i) && !(q.1 + 1 == i && q.2.category == 2)) = lv') (k : T m pc' lv' st σ) : T m pc lv (.int x :: st) σ := hT _ _ _ _ _ _ _ _ _ agD.rf (fun τ K q => z_istore d hn hl' q) k
theorem g_istore_n (hT : Lft E Yf D T) {f : Fin 4} {i : Nat} {x : Int32} (d : decode (Yf m).2.1 pc = .ok (.istore_n f, 1) ∧ pc + 1 = pc') (hi : (f : Nat) = i) (hn : i < (Yf m).2.2.1) (hl' : (i, Value.int x) :: lv.filter (fun q => !(q.1 == i) && !(q.1 + 1 == i && q.2.category == 2)) = lv') (k : T m pc' lv' st σ) : T m pc lv (.int x :: st) σ := hT _ _ _ _ _ _ _ _ _ agD.rf (fun τ K q => z_istore_n d hi hn hl' q) k
theorem g_isub (hT : Lft E Yf D T) {x y : Int32} (d : decode (Yf m).2.1 pc = .ok (.isub, 1) ∧ pc + 1 = pc') (k : T m pc' lv (.int (x - y) :: st) σ) : T m pc lv (.int y :: .int x :: st) σ := hT _ _ _ _ _ _ _ _ _ agD.rf (fun τ K q => z_isub d q) k
theorem g_iushr (hT : Lft E Yf D T) {x y v : Int32} (d : decode (Yf m).2.1 pc = .ok (.iushr, 1) ∧ pc + 1 = pc') (hv : (x.toUInt32 >>> (y.toUInt32 &&& Int32.toUInt32 31)).toInt32 = v) (k : T m pc' lv (.int v :: st) σ) : T m pc lv (.int y :: .int x :: st) σ := hT _ _ _ _ _ _ _ _ _ agD.rf (fun τ K q => z_iushr d hv q) k
theorem g_ixor (hT : Lft E Yf D T) {x y : Int32} (d : decode (Yf m).2.1 pc = .ok (.ixor, 1) ∧ pc + 1 = pc') (k : T m pc' lv (.int (x ^^^ y) :: st) σ) : T m pc lv (.int y :: .int x :: st) σ := hT _ _ _ _ _ _ _ _ _ agD.rf (fun τ K q => z_ixor d q) k
theorem g_l2i (hT : Lft E Yf D T) {x : Int64} {v : Int32} (d : decode (Yf m).2.1 pc = .ok (.l2i, 1) ∧ pc + 1 = pc') (hv : x.toInt32 = v) (k : T m pc' lv (.int v :: st) σ) : T m pc lv (.long x :: st) σ := hT _ _ _ _ _ _ _ _ _ agD.rf (fun τ K q => z_l2i d hv q) k
theorem g_ladd (hT : Lft E Yf D T) {x y : Int64} (d : decode (Yf m).2.1 pc = .ok (.ladd, 1) ∧ pc + 1 = pc') (k : T m pc' lv (.long (x + y) :: st) σ) : T m pc lv (.long y :: .long x :: st) σ := hT _ _ _ _ _ _ _ _ _ agD.rf (fun τ K q => z_ladd d q) k
theorem g_lald (hT : Lft E Yf D T) {k z : Nat} {i : Int32} (hD : D k = true) (hk : k < 215) (hd : KD k = (101, [z])) (hi : vp_in i z) (d : decode (Yf m).2.1 pc = .ok (.laload, 1) ∧ pc + 1 = pc') (kk : T m pc' lv (.long (σ.2 k i.toNatClampNeg) :: st) σ) : T m pc lv (.int i :: .ref k :: st) σ := hT _ _ _ _ _ _ _ _ _ agD.rf (fun τ K q => z_lald hk hd hi d (by rw [mix2 hD]; exact q)) kk
theorem g_land (hT : Lft E Yf D T) {x y : Int64} (d : decode (Yf m).2.1 pc = .ok (.land, 1) ∧ pc + 1 = pc') (k : T m pc' lv (.long (x &&& y) :: st) σ) : T m pc lv (.long y :: .long x :: st) σ := hT _ _ _ _ _ _ _ _ _ agD.rf (fun τ K q => z_land d q) k
theorem g_last (hT : Lft E Yf D T) {k z : Nat} {i : Int32} {x : Int64} (hD : D k = true) (hk : k < 215) (hd : KD k = (101, [z])) (hi : vp_in i z) (d : decode (Yf m).2.1 pc = .ok (.lastore, 1) ∧ pc + 1 = pc') (kk : T m pc' lv st (zJ σ k i.toNatClampNeg x)) : T m pc lv (.long x :: .int i :: .ref k :: st) σ := hT _ _ _ _ _ _ _ _ _ (agJ hD) (fun τ K q => z_last hk hd hi d (by rw [mixJ hD]; exact q)) kk
theorem g_lcmp (hT : Lft E Yf D T) {x y : Int64} (d : decode (Yf m).2.1 pc = .ok (.lcmp, 1) ∧ pc + 1 = pc') (k : T m pc' lv (.int (lg_cmp x y) :: st) σ) : T m pc lv (.long y :: .long x :: st) σ := hT _ _ _ _ _ _ _ _ _ agD.rf (fun τ K q => z_lcmp d q) k
theorem g_lconst (hT : Lft E Yf D T) {i : Fin 2} {v : Int64} (d : decode (Yf m).2.1 pc = .ok (.lconst i, 1) ∧ pc + 1 = pc') (hv : Int64.ofNat (i : Nat) = v) (k : T m pc' lv (.long v :: st) σ) : T m pc lv st σ := hT _ _ _ _ _ _ _ _ _ agD.rf (fun τ K q => z_lconst d hv q) k
theorem g_ldc (hT : Lft E Yf D T) {i : Nat} {v : Int32} (d : decode (Yf m).2.1 pc = .ok (.ldc i, 2) ∧ pc + 2 = pc') (hw : Cond.constant (Yf m).1.cls i v ∈ TBg) (k : T m pc' lv (.int v :: st) σ) : T m pc lv st σ := hT _ _ _ _ _ _ _ _ _ agD.rf (fun τ K q => z_ldc d hw q) k
theorem g_ldc2 (hT : Lft E Yf D T) {i : Nat} {v : Int64} (d : decode (Yf m).2.1 pc = .ok (.ldc2_w i, 3) ∧ pc + 3 = pc') (hw : Cond.constantLong (Yf m).1.cls i v ∈ TBg) (k : T m pc' lv (.long v :: st) σ) : T m pc lv st σ := hT _ _ _ _ _ _ _ _ _ agD.rf (fun τ K q => z_ldc2 d hw q) k
theorem g_ldcS (hT : Lft E Yf D T) {i : Nat} {q : String × (Nat × String)} (hq : STR[i]? = some q) (hY : (Yf m).1.cls = q.1) (d : decode (Yf m).2.1 pc = .ok (.ldc q.2.1, 2) ∧ pc + 2 = pc') (k : T m pc' lv (.ref (1000 + i) :: st) σ) : T m pc lv st σ := hT _ _ _ _ _ _ _ _ _ agD.rf (fun τ K q => z_ldcS hq hY d q) k
theorem g_ldcw (hT : Lft E Yf D T) {i : Nat} {v : Int32} (d : decode (Yf m).2.1 pc = .ok (.ldc_w i, 3) ∧ pc + 3 = pc') (hw : Cond.constant (Yf m).1.cls i v ∈ TBg) (k : T m pc' lv (.int v :: st) σ) : T m pc lv st σ := hT _ _ _ _ _ _ _ _ _ agD.rf (fun τ K q => z_ldcw d hw q) k
theorem g_ldcwS (hT : Lft E Yf D T) {i : Nat} {q : String × (Nat × String)} (hq : STR[i]? = some q) (hY : (Yf m).1.cls = q.1) (d : decode (Yf m).2.1 pc = .ok (.ldc_w q.2.1, 3) ∧ pc + 3 = pc') (k : T m pc' lv (.ref (1000 + i) :: st) σ) : T m pc lv st σ := hT _ _ _ _ _ _ _ _ _ agD.rf (fun τ K q => z_ldcwS hq hY d q) k
theorem g_ldiv (hT : Lft E Yf D T) {x y : Int64} (d : decode (Yf m).2.1 pc = .ok (.ldiv, 1) ∧ pc + 1 = pc') (hne : ¬ y = 0) (k : T m pc' lv (.long (x / y) :: st) σ) : T m pc lv (.long y :: .long x :: st) σ := hT _ _ _ _ _ _ _ _ _ agD.rf (fun τ K q => z_ldiv d hne q) k
theorem g_lload (hT : Lft E Yf D T) {i q : Nat} {x : Int64} (d : decode (Yf m).2.1 pc = .ok (.lload i, 2) ∧ pc + 2 = pc') (hq : lv[q]? = some (i, .long x)) (k : T m pc' lv (.long x :: st) σ) : T m pc lv st σ := hT _ _ _ _ _ _ _ _ _ agD.rf (fun τ K q => z_lload d hq q) k
theorem g_lload_n (hT : Lft E Yf D T) {f : Fin 4} {i q : Nat} {x : Int64} (d : decode (Yf m).2.1 pc = .ok (.lload_n f, 1) ∧ pc + 1 = pc') (hi : (f : Nat) = i) (hq : lv[q]? = some (i, .long x)) (k : T m pc' lv (.long x :: st) σ) : T m pc lv st σ := hT _ _ _ _ _ _ _ _ _ agD.rf (fun τ K q => z_lload_n d hi hq q) k
theorem g_lmul (hT : Lft E Yf D T) {x y : Int64} (d : decode (Yf m).2.1 pc = .ok (.lmul, 1) ∧ pc + 1 = pc') (k : T m pc' lv (.long (x * y) :: st) σ) : T m pc lv (.long y :: .long x :: st) σ := hT _ _ _ _ _ _ _ _ _ agD.rf (fun τ K q => z_lmul d q) k
theorem g_lneg (hT : Lft E Yf D T) {x : Int64} (d : decode (Yf m).2.1 pc = .ok (.lneg, 1) ∧ pc + 1 = pc') (k : T m pc' lv (.long (-x) :: st) σ) : T m pc lv (.long x :: st) σ := hT _ _ _ _ _ _ _ _ _ agD.rf (fun τ K q => z_lneg d q) k
theorem g_lookup (hT : Lft E Yf D T) {dflt : Int} {ps : Array (Int × Int)} {len : Nat} {x : Int32} {off : Int} {tgt : Nat} (d : decode (Yf m).2.1 pc = .ok (.lookupswitch dflt ps, len)) (hp : (ps.toList.zip (ps.toList.drop 1)).all (fun (a, next) => a.1 < next.1) = true) (ho : Op.lookupswitch.offset ps.toList dflt x.toInt = off) (ht : (pc : Int) + off = (tgt : Int)) (k : T m tgt lv st σ) : T m pc lv (.int x :: st) σ := hT _ _ _ _ _ _ _ _ _ agD.rf (fun τ K q => z_lookup d hp ho ht q) k
theorem g_lor (hT : Lft E Yf D T) {x y : Int64} (d : decode (Yf m).2.1 pc = .ok (.lor, 1) ∧ pc + 1 = pc') (k : T m pc' lv (.long (x ||| y) :: st) σ) : T m pc lv (.long y :: .long x :: st) σ := hT _ _ _ _ _ _ _ _ _ agD.rf (fun τ K q => z_lor d q) k
theorem g_lrem (hT : Lft E Yf D T) {x y : Int64} (d : decode (Yf m).2.1 pc = .ok (.lrem, 1) ∧ pc + 1 = pc') (hne : ¬ y = 0) (k : T m pc' lv (.long (x - x / y * y) :: st) σ) : T m pc lv (.long y :: .long x :: st) σ := hT _ _ _ _ _ _ _ _ _ agD.rf (fun τ K q => z_lrem d hne q) k
theorem g_lshl (hT : Lft E Yf D T) {x v : Int64} {y : Int32} (d : decode (Yf m).2.1 pc = .ok (.lshl, 1) ∧ pc + 1 = pc') (hv : x <<< (y.toInt64 &&& 63) = v) (k : T m pc' lv (.long v :: st) σ) : T m pc lv (.int y :: .long x :: st) σ := hT _ _ _ _ _ _ _ _ _ agD.rf (fun τ K q => z_lshl d hv q) k
theorem g_lshr (hT : Lft E Yf D T) {x v : Int64} {y : Int32} (d : decode (Yf m).2.1 pc = .ok (.lshr, 1) ∧ pc + 1 = pc') (hv : x >>> (y.toInt64 &&& 63) = v) (k : T m pc' lv (.long v :: st) σ) : T m pc lv (.int y :: .long x :: st) σ := hT _ _ _ _ _ _ _ _ _ agD.rf (fun τ K q => z_lshr d hv q) k
theorem g_lstore (hT : Lft E Yf D T) {i : Nat} {x : Int64} (d : decode (Yf m).2.1 pc = .ok (.lstore i, 2) ∧ pc + 2 = pc') (hn : i + 1 < (Yf m).2.2.1) (hl' : (i, Value.long x) :: lv.filter (fun q => !(q.1 == i) && (!(q.1 == i + 1) && !(q.1 + 1 == i && q.2.category == 2))) = lv') (k : T m pc' lv' st σ) : T m pc lv (.long x :: st) σ := hT _ _ _ _ _ _ _ _ _ agD.rf (fun τ K q => z_lstore d hn hl' q) k
theorem g_lstore_n (hT : Lft E Yf D T) {f : Fin 4} {i : Nat} {x : Int64} (d : decode (Yf m).2.1 pc = .ok (.lstore_n f, 1) ∧ pc + 1 = pc') (hi : (f : Nat) = i) (hn : i + 1 < (Yf m).2.2.1) (hl' : (i, Value.long x) :: lv.filter (fun q => !(q.1 == i) && (!(q.1 == i + 1) && !(q.1 + 1 == i && q.2.category == 2))) = lv') (k : T m pc' lv' st σ) : T m pc lv (.long x :: st) σ := hT _ _ _ _ _ _ _ _ _ agD.rf (fun τ K q => z_lstore_n d hi hn hl' q) k
theorem g_lsub (hT : Lft E Yf D T) {x y : Int64} (d : decode (Yf m).2.1 pc = .ok (.lsub, 1) ∧ pc + 1 = pc') (k : T m pc' lv (.long (x - y) :: st) σ) : T m pc lv (.long y :: .long x :: st) σ := hT _ _ _ _ _ _ _ _ _ agD.rf (fun τ K q => z_lsub d q) k
theorem g_lushr (hT : Lft E Yf D T) {x v : Int64} {y : Int32} (d : decode (Yf m).2.1 pc = .ok (.lushr, 1) ∧ pc + 1 = pc') (hv : (x.toUInt64 >>> (y.toInt64.toUInt64 &&& Int64.toUInt64 63)).toInt64 = v) (k : T m pc' lv (.long v :: st) σ) : T m pc lv (.int y :: .long x :: st) σ := hT _ _ _ _ _ _ _ _ _ agD.rf (fun τ K q => z_lushr d hv q) k
theorem g_lxor (hT : Lft E Yf D T) {x y : Int64} (d : decode (Yf m).2.1 pc = .ok (.lxor, 1) ∧ pc + 1 = pc') (k : T m pc' lv (.long (x ^^^ y) :: st) σ) : T m pc lv (.long y :: .long x :: st) σ := hT _ _ _ _ _ _ _ _ _ agD.rf (fun τ K q => z_lxor d q) k
theorem g_mmax (hT : Lft E Yf D T) {pc pc' idx : Nat} {x y : Int32} (w1 : Cond.methodLink (Yf m).1.cls idx Lib.Math.max.name ∈ TBg) (w2 : Cond.static Lib.Math.max.name ∈ TBg) (w3 : Cond.initialized "java/lang/Math" ∈ TBg) (w4 : Cond.code Lib.Math.max.name Lib.Math.max.code 2 (some .int) ∈ TBg) (hfr : 1 ≤ (Yf m).2.2.2.2.frames) (hlo : 40 ≤ (Yf m).2.2.2.2.locals) (hcat : (st.map fun v => v.category).sum ≤ 8) (d : decode (Yf m).2.1 pc = .ok (.invokestatic idx, 3) ∧ pc + 3 = pc') (k : T m pc' lv (.int (if x < y then y else x) :: st) σ) : T m pc lv (.int y :: .int x :: st) σ := hT _ _ _ _ _ _ _ _ _ agD.rf (fun τ K q => z_mmax w1 w2 w3 w4 hfr hlo hcat d q) k
theorem g_mmin (hT : Lft E Yf D T) {pc pc' idx : Nat} {x y : Int32} (w1 : Cond.methodLink (Yf m).1.cls idx Lib.Math.min.name ∈ TBg) (w2 : Cond.static Lib.Math.min.name ∈ TBg) (w3 : Cond.initialized "java/lang/Math" ∈ TBg) (w4 : Cond.code Lib.Math.min.name Lib.Math.min.code 2 (some .int) ∈ TBg) (hfr : 1 ≤ (Yf m).2.2.2.2.frames) (hlo : 40 ≤ (Yf m).2.2.2.2.locals) (hcat : (st.map fun v => v.category).sum ≤ 8) (d : decode (Yf m).2.1 pc = .ok (.invokestatic idx, 3) ∧ pc + 3 = pc') (k : T m pc' lv (.int (if y < x then y else x) :: st) σ) : T m pc lv (.int y :: .int x :: st) σ := hT _ _ _ _ _ _ _ _ _ agD.rf (fun τ K q => z_mmin w1 w2 w3 w4 hfr hlo hcat d q) k
theorem g_popi (hT : Lft E Yf D T) {x : Int32} (d : decode (Yf m).2.1 pc = .ok (.pop, 1) ∧ pc + 1 = pc') (k : T m pc' lv st σ) : T m pc lv (.int x :: st) σ := hT _ _ _ _ _ _ _ _ _ agD.rf (fun τ K q => z_popi d q) k
theorem g_puti (hT : Lft E Yf D T) {k j idx ci : Nat} {l : List Nat} {ty : FieldType} {v : Int32} (hD : D k = true) (F : xFl (Yf m).1.cls idx ci j ty false) (hk : k < 215) (hd : KD k = (ci, l)) (hc : ci < 100) (hj : l[j]? = some 0) (hw : narrow ty (.int v) = .int v) (hf : fits ty (.int v) = true) (d : decode (Yf m).2.1 pc = .ok (.putfield idx, 3) ∧ pc + 3 = pc') (kk : T m pc' lv st (zI σ k j v)) : T m pc lv (.int v :: .ref k :: st) σ := hT _ _ _ _ _ _ _ _ _ (agI hD) (fun τ K q => z_puti F hk hd hc hj hw hf d (by rw [mixI hD]; exact q)) kk
theorem g_putj (hT : Lft E Yf D T) {k j idx ci : Nat} {l : List Nat} {v : Int64} (hD : D k = true) (F : xFl (Yf m).1.cls idx ci j .long false) (hk : k < 215) (hd : KD k = (ci, l)) (hc : ci < 100) (hj : l[j]? = some 1) (d : decode (Yf m).2.1 pc = .ok (.putfield idx, 3) ∧ pc + 3 = pc') (kk : T m pc' lv st (zJ σ k j v)) : T m pc lv (.long v :: .ref k :: st) σ := hT _ _ _ _ _ _ _ _ _ (agJ hD) (fun τ K q => z_putj F hk hd hc hj d (by rw [mixJ hD]; exact q)) kk
theorem g_rald (hT : Lft E Yf D T) {x : Int32} (hx : vp_in x 4) (d : decode (Yf m).2.1 pc = .ok (.iaload, 1) ∧ pc + 1 = pc') (k : T m pc' lv (.int (RNK.getD x.toNatClampNeg 0) :: st) σ) : T m pc lv (.int x :: .ref 3001 :: st) σ := hT _ _ _ _ _ _ _ _ _ agD.rf (fun τ K q => z_rald hx d q) k
theorem g_sald (hT : Lft E Yf D T) {i : Nat} {x : Int32} (hi : i < 21) (hx : vp_in x (SLN.getD i 0)) (d : decode (Yf m).2.1 pc = .ok (.baload, 1) ∧ pc + 1 = pc') (k : T m pc' lv (.int ((SBY.getD i []).getD x.toNatClampNeg 0) :: st) σ) : T m pc lv (.int x :: .ref (2000 + i) :: st) σ := hT _ _ _ _ _ _ _ _ _ agD.rf (fun τ K q => z_sald hi hx d q) k
theorem g_sgetc (hT : Lft E Yf D T) {idx i : Nat} (hi : i < 21) (hl : Cond.fieldLink (Yf m).1.cls idx "java/lang/String" "coder" "B" ∈ TBg) (d : decode (Yf m).2.1 pc = .ok (.getfield idx, 3) ∧ pc + 3 = pc') (k : T m pc' lv (.int 0 :: st) σ) : T m pc lv (.ref (1000 + i) :: st) σ := hT _ _ _ _ _ _ _ _ _ agD.rf (fun τ K q => z_sgetc hi hl d q) k
theorem g_sgetv (hT : Lft E Yf D T) {idx i : Nat} (hi : i < 21) (hl : Cond.fieldLink (Yf m).1.cls idx "java/lang/String" "value" "[B" ∈ TBg) (d : decode (Yf m).2.1 pc = .ok (.getfield idx, 3) ∧ pc + 3 = pc') (k : T m pc' lv (.ref (2000 + i) :: st) σ) : T m pc lv (.ref (1000 + i) :: st) σ := hT _ _ _ _ _ _ _ _ _ agD.rf (fun τ K q => z_sgetv hi hl d q) k
theorem g_sipush (hT : Lft E Yf D T) {i : Int} {v : Int32} (d : decode (Yf m).2.1 pc = .ok (.sipush i, 3) ∧ pc + 3 = pc') (hv : (Int16.ofInt i).toInt32 = v) (k : T m pc' lv (.int v :: st) σ) : T m pc lv st σ := hT _ _ _ _ _ _ _ _ _ agD.rf (fun τ K q => z_sipush d hv q) k
theorem g_slen (hT : Lft E Yf D T) {i : Nat} {v : Int32} (hi : i < 21) (hv : Int32.ofNat (SLN.getD i 0) = v) (d : decode (Yf m).2.1 pc = .ok (.arraylength, 1) ∧ pc + 1 = pc') (k : T m pc' lv (.int v :: st) σ) : T m pc lv (.ref (2000 + i) :: st) σ := hT _ _ _ _ _ _ _ _ _ agD.rf (fun τ K q => z_slen hi hv d q) k
theorem g_tableIn (hT : Lft E Yf D T) {dflt lo hi : Int} {offs : Array Int} {len : Nat} {x : Int32} {off : Int} {tgt : Nat} (d : decode (Yf m).2.1 pc = .ok (.tableswitch dflt lo hi offs, len)) (h1 : ¬ x.toInt < lo) (h2 : ¬ hi < x.toInt) (ho : offs[(x.toInt - lo).toNat]? = some off) (ht : (pc : Int) + off = (tgt : Int)) (k : T m tgt lv st σ) : T m pc lv (.int x :: st) σ := hT _ _ _ _ _ _ _ _ _ agD.rf (fun τ K q => z_tableIn d h1 h2 ho ht q) k
theorem g_tableOut (hT : Lft E Yf D T) {dflt lo hi : Int} {offs : Array Int} {len : Nat} {x : Int32} {tgt : Nat} (d : decode (Yf m).2.1 pc = .ok (.tableswitch dflt lo hi offs, len)) (h : x.toInt < lo ∨ hi < x.toInt) (ht : (pc : Int) + dflt = (tgt : Int)) (k : T m tgt lv st σ) : T m pc lv (.int x :: st) σ := hT _ _ _ _ _ _ _ _ _ agD.rf (fun τ K q => z_tableOut d h ht q) k
theorem g_zald (hT : Lft E Yf D T) {k z : Nat} {i : Int32} (hD : D k = true) (hk : k < 215) (hd : KD k = (102, [z])) (hi : vp_in i z) (d : decode (Yf m).2.1 pc = .ok (.baload, 1) ∧ pc + 1 = pc') (kk : T m pc' lv (.int (σ.1 k i.toNatClampNeg) :: st) σ) : T m pc lv (.int i :: .ref k :: st) σ := hT _ _ _ _ _ _ _ _ _ agD.rf (fun τ K q => z_zald hk hd hi d (by rw [mix1 hD]; exact q)) kk
theorem g_zast (hT : Lft E Yf D T) {k z : Nat} {i : Int32} {x : Int32} (hD : D k = true) (hk : k < 215) (hd : KD k = (102, [z])) (hi : vp_in i z) (d : decode (Yf m).2.1 pc = .ok (.bastore, 1) ∧ pc + 1 = pc') (kk : T m pc' lv st (zI σ k i.toNatClampNeg (vp_nar .boolean x))) : T m pc lv (.int x :: .int i :: .ref k :: st) σ := hT _ _ _ _ _ _ _ _ _ (agI hD) (fun τ K q => z_zast hk hd hi d (by rw [mixI hD]; exact q)) kk
end PZ
end
