section
noncomputable section
/-! ===== WHAT ELSE HOLDS, 33: a statement that reaches out: 570 n, 571 b, 574 a: none below 572 does, 573 does; hints 110 .. 118 ===== -/
section SM
variable {J : Jt} {s : Sy} {ρ : List Int} {σ : zS}
/-- a sum of values with weights -/
def sml (s : Sy) : List (AV × Int) → Lf → Int → Lf × Int
  | [], f, k => (f, k)
  | e :: r, f, k => sml s r (tlin e.2 (nf s e.1).1 f) (k + e.2 * (nf s e.1).2)
def smv (ρ : List Int) : List (AV × Int) → Int
  | [] => 0
  | e :: r => e.2 * (ev ρ e.1).getD 0 + smv ρ r
theorem sml_ok (ho : Ok J s ρ σ) : ∀ {l : List (AV × Int)} {f : Lf} {k x : Int}, (∀ e ∈ l, ∃ z, ev ρ e.1 = some z) → tvo ρ f = some x → ∃ y, tvo ρ (sml s l f k).1 = some y ∧ y + (sml s l f k).2 = x + k + smv ρ l
  | [], f, k, x, _, hf => ⟨x, hf, by show x + k = x + k + 0; omega⟩
  | e :: r, f, k, x, he, hf => by
    obtain ⟨z, hz⟩ := he e (List.mem_cons_self ..)
    obtain ⟨v, v1, v2⟩ := nf_ok ho hz
    obtain ⟨y, y1, y2⟩ := sml_ok ho (l := r) (k := k + e.2 * (nf s e.1).2) (fun e' h => he e' (List.mem_cons_of_mem _ h)) (tlin_ok (w := e.2) v1 hf)
    refine ⟨y, y1, ?_⟩
    show y + (sml s r (tlin e.2 (nf s e.1).1 f) (k + e.2 * (nf s e.1).2)).2 = x + k + (e.2 * (ev ρ e.1).getD 0 + smv ρ r)
    rw [y2, hz]
    show x + e.2 * v + (k + e.2 * (nf s e.1).2) + smv ρ r = x + k + (e.2 * z + smv ρ r)
    rw [v2, Int.mul_add]
    omega
def sle (s : Sy) (l : List (AV × Int)) (c : Int) : Bool := leq s (sml s l [] 0).1 (c - (sml s l [] 0).2)
theorem sle_ok (ho : Ok J s ρ σ) {l : List (AV × Int)} {c : Int} (h : sle s l c = true) (he : ∀ e ∈ l, ∃ z, ev ρ e.1 = some z) : smv ρ l ≤ c := by
  obtain ⟨y, y1, y2⟩ := sml_ok ho (l := l) (f := []) (k := 0) (x := 0) he rfl
  have := leq_ok ho h y1
  omega
end SM
def BLK : Dom := [(2, 2), (5, 5)]
def Blk (k : Int) : Prop := k = 2 ∨ k = 5
theorem blk_in {k : Int} (h : Blk k) : inD k BLK := by
  rcases h with rfl | rfl
  · exact ⟨(2, 2), List.mem_cons_self .., Int.le_refl _, Int.le_refl _⟩
  · exact ⟨(5, 5), List.mem_cons_of_mem _ (List.mem_cons_self ..), Int.le_refl _, Int.le_refl _⟩
theorem blk_of {k : Int} (h : inD k BLK) : Blk k := by
  obtain ⟨p, hp, h1, h2⟩ := h
  rcases List.mem_cons.mp hp with rfl | hp
  · exact Or.inl (by dsimp only at h1 h2; omega)
  rcases List.mem_cons.mp hp with rfl | hp
  · exact Or.inr (by dsimp only at h1 h2; omega)
  · cases hp
def nblk (s : Sy) (a : AV) : Bool := isS (edom s a) && dis (dom s a) BLK
def yblk (s : Sy) (a : AV) : Bool := isS (edom s a) && dsub (dom s a) BLK
theorem nblk_ok {J : Jt} {s : Sy} {ρ : List Int} {σ : zS} {a : AV} {x : Int} (ho : Ok J s ρ σ) (h : nblk s a = true) (hx : ev ρ a = some x) : ¬ Blk x := fun q => by
  have h : (isS (edom s a) && dis (dom s a) BLK) = true := h
  rw [Bool.and_eq_true] at h
  exact dis_ok h.2 (edom_ok' ho h.1 hx) (blk_in q)
theorem yblk_ok {J : Jt} {s : Sy} {ρ : List Int} {σ : zS} {a : AV} {x : Int} (ho : Ok J s ρ σ) (h : yblk s a = true) (hx : ev ρ a = some x) : Blk x := by
  have h : (isS (edom s a) && dsub (dom s a) BLK) = true := h
  rw [Bool.and_eq_true] at h
  exact blk_of (dsub_in h.2 (edom_ok' ho h.1 hx))
def Qx (K B : Nat → Int) (n b a : Int) (i : Nat) : Prop := Blk a ∧ Blk (K i) ∧ n ≤ (i : Int) + B i ∧ (i : Int) + B i < n + b
def xS9 (kK kB : Nat) (H : List (Nat × Int)) (σ : zS) : Prop :=
  (∀ n b a x, lk H 570 = some n → lk H 571 = some b → lk H 574 = some a → lk H 572 = some x → ∀ i : Nat, (i : Int) < x → ¬ Qx (Pp σ kK) (Pp σ kB) n b a i) ∧
  (∀ n b a w, lk H 570 = some n → lk H 571 = some b → lk H 574 = some a → lk H 573 = some w → ∃ i : Nat, w = (i : Int) ∧ Qx (Pp σ kK) (Pp σ kB) n b a i) ∧
  ∀ n b a, lk H 570 = some n → lk H 571 = some b → lk H 574 = some a → Blk a → 0 ≤ b ∧ b ≤ 20
def xtg (t : Nat) : Bool := Nat.ble 570 t && Nat.ble t 574
theorem xtg_no {u : Nat} (h : xtg u = false) : ¬ (570 ≤ u ∧ u ≤ 574) := fun q => by
  have : xtg u = true := by
    show (Nat.ble 570 u && Nat.ble u 574) = true
    rw [Bool.and_eq_true]
    exact ⟨Nat.ble_eq_true_of_le q.1, Nat.ble_eq_true_of_le q.2⟩
  rw [this] at h
  cases h
def cx9 (kK kB : Nat) : Cp := (xtg, (xS9 kK kB, (fun q => Nat.beq q kK || Nat.beq q kB, (fun _ hl _ _ _ => bif isS (lk hl 570) then none else some hl, nlw))))
theorem cx9_ok {T : Jx} {G : Gl} {kK kB : Nat} : CpOk T G (cx9 kK kB) := by
  apply CpOk.no (fun _ => rfl)
  have tin : ∀ u, 570 ≤ u → u ≤ 574 → xtg u = true := fun u h1 h2 => by
    show (Nat.ble 570 u && Nat.ble u 574) = true
    rw [Bool.and_eq_true]
    exact ⟨Nat.ble_eq_true_of_le h1, Nat.ble_eq_true_of_le h2⟩
  refine ⟨fun u hu => ?_, fun H H' σ σ' h1 h2 hS => ?_, ?_⟩
  · have hu : (Nat.ble 570 u && Nat.ble u 574) = true := hu
    rw [Bool.and_eq_true] at hu
    have := Nat.le_of_ble_eq_true hu.1
    omega
  · have r1 : Pp σ' kK = Pp σ kK := by
      funext y
      show (σ'.1 kK y).toInt = _
      rw [h2 kK (by show (Nat.beq kK kK || Nat.beq kK kB) = true; rw [Nat.beq_refl]; rfl)]
    have r2 : Pp σ' kB = Pp σ kB := by
      funext y
      show (σ'.1 kB y).toInt = _
      rw [h2 kB (by show (Nat.beq kB kK || Nat.beq kB kB) = true; rw [Nat.beq_refl, Bool.or_true])]
    have l : ∀ u, 570 ≤ u → u ≤ 574 → lk H' u = lk H u := fun u a b => h1 u (tin u a b)
    show xS9 kK kB H' σ'
    unfold xS9
    rw [r1, r2, l 570 (by omega) (by omega), l 571 (by omega) (by omega), l 572 (by omega) (by omega), l 573 (by omega) (by omega), l 574 (by omega) (by omega)]
    exact hS
  · intro s ρ σ k p v j x hl hl' H ho hb hp hi hv hx hr hw hh hS
    replace hw : (bif isS (lk hl 570) then none else some hl) = some hl' := hw
    cases hc : isS (lk hl 570) with
    | true => rw [hc] at hw; cases hw
    | false =>
      rw [hc] at hw
      cases Option.some.inj hw
      have no : lk H 570 = none := by
        rcases hh.lkp (t := 570) with ⟨_, q2⟩ | ⟨a, z, q1, _, _⟩
        · exact q2
        · rw [q1] at hc; cases hc
      exact ⟨H, hh, ⟨fun n b a x' q => (by rw [no] at q; cases q), fun n b a w q => (by rw [no] at q; cases q), fun n b a q => (by rw [no] at q; cases q)⟩, fun _ _ => rfl⟩
section H35
variable {T : Jx} {G : Gl} {cs : List Cp} {s : Sy} {ρ : List Int} {σ : zS} {kK kB : Nat}
def h110 (kS jS : Nat) (a b : AV) (s : Sy) : Sy := match mget s.me kS (.c (jS : Int)) with
  | some n => bif ((n.isI && (a.isI && b.isI)) && ((!(isS (lk s.hl 570)) && !(isS (lk s.hl 571))) && (!(isS (lk s.hl 572)) && (!(isS (lk s.hl 573)) && !(isS (lk s.hl 574)))))) && (nblk s a || (leAV s (.c 0) b && leAV s b (.c 20))) then s.seth ((572, .c 0) :: (570, n) :: (571, b) :: (574, a) :: s.hl) else s
  | none => s
theorem h110_ok (hP : PH T G cs (cx9 kK kB)) {kS jS : Nat} {a b : AV} {x y : Int} (ha : ev ρ a = some x) (hb : ev ρ b = some y) (ho : Ok (Jf T G (cS cs)) s ρ σ) : Ok (Jf T G (cS cs)) (h110 kS jS a b s) ρ σ := by
  unfold h110
  split
  · rename_i n hn
    cases hc : ((n.isI && (a.isI && b.isI)) && ((!(isS (lk s.hl 570)) && !(isS (lk s.hl 571))) && (!(isS (lk s.hl 572)) && (!(isS (lk s.hl 573)) && !(isS (lk s.hl 574)))))) && (nblk s a || (leAV s (.c 0) b && leAV s b (.c 20))) with
    | false => exact ho
    | true =>
      simp only [Bool.and_eq_true, Bool.or_eq_true] at hc
      obtain ⟨⟨⟨c1, c2, c3⟩, ⟨c4, c5⟩, c6, c7, c8⟩, c9⟩ := hc
      obtain ⟨H, i1, i2⟩ := ho.inv
      have n573 := no_tag i1 c7
      have en := me_at ho hn rfl c1
      refine ph_set (H := H) (H' := (572, 0) :: (570, (σ.1 kS jS).toInt) :: (571, y) :: (574, x) :: H) hP ho i2 ⟨⟨rfl, rfl⟩, ⟨rfl, en⟩, ⟨rfl, hb⟩, ⟨rfl, ha⟩, i1⟩ (fun u hu => ?_) ⟨fun n' b' a' x' _ _ _ q4 i hi => ?_, fun n' b' a' w _ _ _ q4 => ?_, fun n' b' a' _ q2 q3 hB => ?_⟩
      · have := xtg_no hu
        rw [lk_cons, if_neg (by omega), lk_cons, if_neg (by omega), lk_cons, if_neg (by omega), lk_cons, if_neg (by omega)]
      · rw [lk_cons, if_pos rfl] at q4
        have := Option.some.inj q4
        omega
      · rw [lk_cons, if_neg (by decide), lk_cons, if_neg (by decide), lk_cons, if_neg (by decide), lk_cons, if_neg (by decide), n573] at q4
        cases q4
      · rw [lk_cons, if_neg (by decide), lk_cons, if_neg (by decide), lk_cons, if_pos rfl] at q2
        rw [lk_cons, if_neg (by decide), lk_cons, if_neg (by decide), lk_cons, if_neg (by decide), lk_cons, if_pos rfl] at q3
        rw [← Option.some.inj q2]
        rw [← Option.some.inj q3] at hB
        rcases c9 with c9 | ⟨c9, c10⟩
        · exact absurd hB (nblk_ok ho c9 ha)
        · exact ⟨leAV_ok ho c9 (x := 0) rfl hb, leAV_ok ho c10 hb (y := 20) rfl⟩
  · exact ho
def h115 (s : Sy) : Sy := s.seth (hdel 570 (hdel 571 (hdel 572 (hdel 573 (hdel 574 s.hl)))))
theorem h115_ok (hP : PH T G cs (cx9 kK kB)) (ho : Ok (Jf T G (cS cs)) s ρ σ) : Ok (Jf T G (cS cs)) (h115 s) ρ σ := by
  obtain ⟨H, i1, i2⟩ := ho.inv
  refine ph_set hP ho i2 (((((i1.del).del).del).del).del) (fun u hu => ?_) ⟨fun n b a x q => ?_, fun n b a w q => ?_, fun n b a q => ?_⟩
  · have := xtg_no hu
    rw [lk_hdel, if_neg (by omega), lk_hdel, if_neg (by omega), lk_hdel, if_neg (by omega), lk_hdel, if_neg (by omega), lk_hdel, if_neg (by omega)]
  · rw [lk_hdel, if_pos rfl] at q; cases q
  · rw [lk_hdel, if_pos rfl] at q; cases q
  · rw [lk_hdel, if_pos rfl] at q; cases q
def h116 (s : Sy) : Sy := bif (isS (lk s.hl 570) && (isS (lk s.hl 571) && isS (lk s.hl 574))) && !(isS (lk s.hl 572)) then s.seth (hset 572 (.c 0) s.hl) else s
theorem h116_ok (hP : PH T G cs (cx9 kK kB)) (ho : Ok (Jf T G (cS cs)) s ρ σ) : Ok (Jf T G (cS cs)) (h116 s) ρ σ := by
  unfold h116
  cases hc : (isS (lk s.hl 570) && (isS (lk s.hl 571) && isS (lk s.hl 574))) && !(isS (lk s.hl 572)) with
  | false => exact ho
  | true =>
    obtain ⟨H, i1, i2⟩ := ho.inv
    obtain ⟨w1, w2, w3⟩ := (i2.2.2 _ hP.2.2.1 : xS9 kK kB H σ)
    refine ph_set hP ho i2 (i1.set (a := .c 0) (x := 0) rfl) (fun u hu => ?_) ⟨fun n b a x _ _ _ q i hi => ?_, fun n b a w q1 q2 q3 q4 => ?_, fun n b a q1 q2 q3 => ?_⟩
    · have := xtg_no hu
      rw [lk_hset, if_neg (by omega)]
    · rw [lk_hset, if_pos rfl] at q
      have := Option.some.inj q
      omega
    · rw [lk_hset, if_neg (by decide)] at q1 q2 q3 q4
      exact w2 n b a w q1 q2 q3 q4
    · rw [lk_hset, if_neg (by decide)] at q1 q2 q3
      exact w3 n b a q1 q2 q3
def h114x (s : Sy) : Option Sy := match lk s.hl 570, lk s.hl 571, lk s.hl 574 with
  | some _, some _, some _ => match lk s.hl 572, lk s.hl 573 with
    | some x, some w => bif leAV s (shA w 1) x then none else some s
    | _, _ => some s
  | _, _, _ => some s
theorem h114x_ok (hm : cx9 kK kB ∈ cs) (ho : Ok (Jf T G (cS cs)) s ρ σ) : ∃ s', h114x s = some s' ∧ Ok (Jf T G (cS cs)) s' ρ σ := by
  unfold h114x
  split
  · rename_i n b a qn qb qa
    split
    · rename_i x w qx qw
      cases hc : leAV s (shA w 1) x with
      | false => exact ⟨s, rfl, ho⟩
      | true =>
        obtain ⟨H, i1, i2⟩ := ho.inv
        obtain ⟨w1, w2, w3⟩ := (i2.2.2 _ hm : xS9 kK kB H σ)
        obtain ⟨zn, n1, _⟩ := tag_get ho i1 qn
        obtain ⟨zb, b1, _⟩ := tag_get ho i1 qb
        obtain ⟨za, a1, _⟩ := tag_get ho i1 qa
        obtain ⟨zx, x1, x2⟩ := tag_get ho i1 qx
        obtain ⟨zw, v1, v2⟩ := tag_get ho i1 qw
        have e := leAV_ok ho hc (shA_ev v2) x2
        obtain ⟨i, c1, c2⟩ := w2 zn zb za zw n1 b1 a1 v1
        exact absurd c2 (w1 zn zb za zx n1 b1 a1 x1 i (by omega))
    · exact ⟨s, rfl, ho⟩
  · exact ⟨s, rfl, ho⟩
def h117 (s : Sy) : Option Sy := match lk s.hl 570, lk s.hl 571, lk s.hl 574 with
  | some _, some _, some a => match lk s.hl 573 with
    | some _ => bif nblk s a then none else some s
    | none => some s
  | _, _, _ => some s
theorem h117_ok (hm : cx9 kK kB ∈ cs) (ho : Ok (Jf T G (cS cs)) s ρ σ) : ∃ s', h117 s = some s' ∧ Ok (Jf T G (cS cs)) s' ρ σ := by
  unfold h117
  split
  · rename_i n b a qn qb qa
    split
    · rename_i w qw
      cases hc : nblk s a with
      | false => exact ⟨s, rfl, ho⟩
      | true =>
        obtain ⟨H, i1, i2⟩ := ho.inv
        obtain ⟨w1, w2, w3⟩ := (i2.2.2 _ hm : xS9 kK kB H σ)
        obtain ⟨zn, n1, _⟩ := tag_get ho i1 qn
        obtain ⟨zb, b1, _⟩ := tag_get ho i1 qb
        obtain ⟨za, a1, a2⟩ := tag_get ho i1 qa
        obtain ⟨zw, v1, v2⟩ := tag_get ho i1 qw
        obtain ⟨i, c1, c2⟩ := w2 zn zb za zw n1 b1 a1 v1
        exact absurd c2.1 (nblk_ok ho hc a2)
    · exact ⟨s, rfl, ho⟩
  · exact ⟨s, rfl, ho⟩
def h118 (s : Sy) : Option Sy := match lk s.hl 570, lk s.hl 571, lk s.hl 574 with
  | some _, some b, some a => bif yblk s a && isS (edom s b) then s.refd b [(0, 20)] else some s
  | _, _, _ => some s
theorem h118_ok (hm : cx9 kK kB ∈ cs) (ho : Ok (Jf T G (cS cs)) s ρ σ) : ∃ s', h118 s = some s' ∧ Ok (Jf T G (cS cs)) s' ρ σ := by
  unfold h118
  split
  · rename_i n b a qn qb qa
    cases hc : yblk s a && isS (edom s b) with
    | false => exact ⟨s, rfl, ho⟩
    | true =>
      rw [Bool.and_eq_true] at hc
      obtain ⟨H, i1, i2⟩ := ho.inv
      obtain ⟨w1, w2, w3⟩ := (i2.2.2 _ hm : xS9 kK kB H σ)
      obtain ⟨zn, n1, _⟩ := tag_get ho i1 qn
      obtain ⟨zb, b1, b2⟩ := tag_get ho i1 qb
      obtain ⟨za, a1, a2⟩ := tag_get ho i1 qa
      obtain ⟨g1, g2⟩ := w3 zn zb za n1 b1 a1 (yblk_ok ho hc.1 a2)
      exact refd_ok ho b2 (edom_ok' ho hc.2 b2) ⟨_, List.mem_cons_self .., g1, g2⟩
  · exact ⟨s, rfl, ho⟩
/-- at i it doesn't reach out -/
def xno (kK kB : Nat) (i n b a : AV) (s : Sy) : Bool := nblk s a || ((match oth s kK i with
  | some K => nblk s K
  | none => false) || (match oth s kB i with
  | some B => sle s [(i, 1), (B, 1), (n, -1)] (-1) || sle s [(n, 1), (b, 1), (i, -1), (B, -1)] 0
  | none => false))
def xye (kK kB : Nat) (i n b a : AV) (s : Sy) : Bool := yblk s a && ((match oth s kK i with
  | some K => yblk s K
  | none => false) && (match oth s kB i with
  | some B => sle s [(n, 1), (i, -1), (B, -1)] 0 && sle s [(i, 1), (B, 1), (n, -1), (b, -1)] (-1)
  | none => false))
theorem ev4 {l : List (AV × Int)} (h : (l.all fun e => isS (ev ρ e.1)) = true) : ∀ e ∈ l, ∃ z, ev ρ e.1 = some z := fun e he => isS_some (List.all_eq_true.mp h e he)
theorem xno_ok {J : Jt} (ho : Ok J s ρ σ) {i n b a : AV} {j : Nat} {zn zb za : Int} (hi : ev ρ i = some (j : Int)) (hn : ev ρ n = some zn) (hb : ev ρ b = some zb) (ha : ev ρ a = some za) (h : xno kK kB i n b a s = true) : ¬ Qx (Pp σ kK) (Pp σ kB) zn zb za j := by
  intro q
  obtain ⟨q1, q2, q3, q4⟩ := q
  have h : (nblk s a || ((match oth s kK i with
    | some K => nblk s K
    | none => false) || (match oth s kB i with
    | some B => sle s [(i, 1), (B, 1), (n, -1)] (-1) || sle s [(n, 1), (b, 1), (i, -1), (B, -1)] 0
    | none => false))) = true := h
  rw [Bool.or_eq_true, Bool.or_eq_true] at h
  rcases h with h | h | h
  · exact nblk_ok ho h ha q1
  · split at h
    · rename_i K hK
      exact nblk_ok ho h (oth_ok ho hK hi).2 q2
    · cases h
  · split at h
    · rename_i B hB
      have eB : ev ρ B = some (Pp σ kB j) := (oth_ok ho hB hi).2
      rw [Bool.or_eq_true] at h
      rcases h with h | h
      · have g := sle_ok ho h (ev4 (by show ((isS (ev ρ i)) && ((isS (ev ρ B)) && ((isS (ev ρ n)) && true))) = true; rw [hi, eB, hn]; rfl))
        have g : 1 * (ev ρ i).getD 0 + (1 * (ev ρ B).getD 0 + (-1 * (ev ρ n).getD 0 + 0)) ≤ -1 := g
        rw [hi, eB, hn] at g
        have g : 1 * (j : Int) + (1 * Pp σ kB j + (-1 * zn + 0)) ≤ -1 := g
        omega
      · have g := sle_ok ho h (ev4 (by show ((isS (ev ρ n)) && ((isS (ev ρ b)) && ((isS (ev ρ i)) && ((isS (ev ρ B)) && true)))) = true; rw [hi, eB, hn, hb]; rfl))
        have g : 1 * (ev ρ n).getD 0 + (1 * (ev ρ b).getD 0 + (-1 * (ev ρ i).getD 0 + (-1 * (ev ρ B).getD 0 + 0))) ≤ 0 := g
        rw [hi, eB, hn, hb] at g
        have g : 1 * zn + (1 * zb + (-1 * (j : Int) + (-1 * Pp σ kB j + 0))) ≤ 0 := g
        omega
    · cases h
theorem xye_ok {J : Jt} (ho : Ok J s ρ σ) {i n b a : AV} {j : Nat} {zn zb za : Int} (hi : ev ρ i = some (j : Int)) (hn : ev ρ n = some zn) (hb : ev ρ b = some zb) (ha : ev ρ a = some za) (h : xye kK kB i n b a s = true) : Qx (Pp σ kK) (Pp σ kB) zn zb za j := by
  have h : (yblk s a && ((match oth s kK i with
    | some K => yblk s K
    | none => false) && (match oth s kB i with
    | some B => sle s [(n, 1), (i, -1), (B, -1)] 0 && sle s [(i, 1), (B, 1), (n, -1), (b, -1)] (-1)
    | none => false))) = true := h
  rw [Bool.and_eq_true, Bool.and_eq_true] at h
  obtain ⟨h1, h2, h3⟩ := h
  refine ⟨yblk_ok ho h1 ha, ?_, ?_⟩
  · split at h2
    · rename_i K hK
      exact yblk_ok ho h2 (oth_ok ho hK hi).2
    · cases h2
  · split at h3
    · rename_i B hB
      have eB : ev ρ B = some (Pp σ kB j) := (oth_ok ho hB hi).2
      rw [Bool.and_eq_true] at h3
      have g1 := sle_ok ho h3.1 (ev4 (by show ((isS (ev ρ n)) && ((isS (ev ρ i)) && ((isS (ev ρ B)) && true))) = true; rw [hi, eB, hn]; rfl))
      have g1 : 1 * (ev ρ n).getD 0 + (-1 * (ev ρ i).getD 0 + (-1 * (ev ρ B).getD 0 + 0)) ≤ 0 := g1
      rw [hi, eB, hn] at g1
      have g1 : 1 * zn + (-1 * (j : Int) + (-1 * Pp σ kB j + 0)) ≤ 0 := g1
      have g2 := sle_ok ho h3.2 (ev4 (by show ((isS (ev ρ i)) && ((isS (ev ρ B)) && ((isS (ev ρ n)) && ((isS (ev ρ b)) && true)))) = true; rw [hi, eB, hn, hb]; rfl))
      have g2 : 1 * (ev ρ i).getD 0 + (1 * (ev ρ B).getD 0 + (-1 * (ev ρ n).getD 0 + (-1 * (ev ρ b).getD 0 + 0))) ≤ -1 := g2
      rw [hi, eB, hn, hb] at g2
      have g2 : 1 * (j : Int) + (1 * Pp σ kB j + (-1 * zn + (-1 * zb + 0))) ≤ -1 := g2
      exact ⟨by omega, by omega⟩
    · cases h3
def h111x (kK kB : Nat) (i : AV) (s : Sy) : Sy := match lk s.hl 570, lk s.hl 571, lk s.hl 574 with
  | some n, some b, some a => match lk s.hl 572 with
    | some x => bif eqA s x i && xno kK kB i n b a s then s.seth (hup 572 (shA i 1) s.hl) else s
    | none => s
  | _, _, _ => s
theorem h111x_ok (hP : PH T G cs (cx9 kK kB)) {i : AV} {j : Nat} (hi : ev ρ i = some (j : Int)) (ho : Ok (Jf T G (cS cs)) s ρ σ) : Ok (Jf T G (cS cs)) (h111x kK kB i s) ρ σ := by
  unfold h111x
  split
  · rename_i n b a qn qb qa
    split
    · rename_i x qx
      cases hc : eqA s x i && xno kK kB i n b a s with
      | false => exact ho
      | true =>
        rw [Bool.and_eq_true] at hc
        obtain ⟨H, i1, i2⟩ := ho.inv
        obtain ⟨w1, w2, w3⟩ := (i2.2.2 _ hP.2.2.1 : xS9 kK kB H σ)
        obtain ⟨zn, n1, n2⟩ := tag_get ho i1 qn
        obtain ⟨zb, b1, b2⟩ := tag_get ho i1 qb
        obtain ⟨za, a1, a2⟩ := tag_get ho i1 qa
        obtain ⟨zx, x1, x2⟩ := tag_get ho i1 qx
        have ex := eqA_ok ho hc.1 x2 hi
        have new := xno_ok ho hi n2 b2 a2 hc.2
        refine ph_set hP ho i2 (i1.up (shA_ev hi)) (fun u hu => lk_hup_ne (fun e => xtg_no hu (by omega))) ⟨fun n' b' a' x' q1 q2 q3 q4 i' h' => ?_, fun n' b' a' w q1 q2 q3 q4 => ?_, fun n' b' a' q1 q2 q3 => ?_⟩
        · rw [lk_hup_ne (by decide), n1] at q1
          rw [lk_hup_ne (by decide), b1] at q2
          rw [lk_hup_ne (by decide), a1] at q3
          rw [lk_hup_at x1] at q4
          have e4 := Option.some.inj q4
          rw [← Option.some.inj q1, ← Option.some.inj q2, ← Option.some.inj q3]
          by_cases e : i' = j
          · rw [e]; exact new
          · exact w1 zn zb za zx n1 b1 a1 x1 i' (by omega)
        · rw [lk_hup_ne (by decide)] at q1 q2 q3 q4
          exact w2 n' b' a' w q1 q2 q3 q4
        · rw [lk_hup_ne (by decide)] at q1 q2 q3
          exact w3 n' b' a' q1 q2 q3
    · exact ho
  · exact ho
def h112x (kK kB : Nat) (i : AV) (s : Sy) : Sy := match lk s.hl 570, lk s.hl 571, lk s.hl 574 with
  | some n, some b, some a => bif xye kK kB i n b a s then s.seth (hdel 572 (hset 573 i s.hl)) else s
  | _, _, _ => s
theorem h112x_ok (hP : PH T G cs (cx9 kK kB)) {i : AV} {j : Nat} (hi : ev ρ i = some (j : Int)) (ho : Ok (Jf T G (cS cs)) s ρ σ) : Ok (Jf T G (cS cs)) (h112x kK kB i s) ρ σ := by
  unfold h112x
  split
  · rename_i n b a qn qb qa
    cases hc : xye kK kB i n b a s with
    | false => exact ho
    | true =>
      obtain ⟨H, i1, i2⟩ := ho.inv
      obtain ⟨w1, w2, w3⟩ := (i2.2.2 _ hP.2.2.1 : xS9 kK kB H σ)
      obtain ⟨zn, n1, n2⟩ := tag_get ho i1 qn
      obtain ⟨zb, b1, b2⟩ := tag_get ho i1 qb
      obtain ⟨za, a1, a2⟩ := tag_get ho i1 qa
      have new := xye_ok ho hi n2 b2 a2 hc
      refine ph_set hP ho i2 ((i1.set hi).del) (fun u hu => ?_) ⟨fun n' b' a' x' _ _ _ q4 => ?_, fun n' b' a' w q1 q2 q3 q4 => ?_, fun n' b' a' q1 q2 q3 => ?_⟩
      · have := xtg_no hu
        rw [lk_hdel, if_neg (by omega), lk_hset, if_neg (by omega)]
      · rw [lk_hdel, if_pos rfl] at q4; cases q4
      · rw [lk_hdel, if_neg (by decide), lk_hset, if_neg (by decide), n1] at q1
        rw [lk_hdel, if_neg (by decide), lk_hset, if_neg (by decide), b1] at q2
        rw [lk_hdel, if_neg (by decide), lk_hset, if_neg (by decide), a1] at q3
        rw [lk_hdel, if_neg (by decide), lk_hset, if_pos rfl] at q4
        rw [← Option.some.inj q1, ← Option.some.inj q2, ← Option.some.inj q3]
        exact ⟨j, (Option.some.inj q4).symm, new⟩
      · rw [lk_hdel, if_neg (by decide), lk_hset, if_neg (by decide)] at q1 q2 q3
        exact w3 n' b' a' q1 q2 q3
  · exact ho
def h113x (kK kB : Nat) (i : AV) (s : Sy) : Option Sy := match lk s.hl 570, lk s.hl 571, lk s.hl 574 with
  | some n, some b, some a => match lk s.hl 572 with
    | some x => bif xye kK kB i n b a s && leAV s (shA i 1) x then none else some s
    | none => some s
  | _, _, _ => some s
theorem h113x_ok (hm : cx9 kK kB ∈ cs) {i : AV} {j : Nat} (hi : ev ρ i = some (j : Int)) (ho : Ok (Jf T G (cS cs)) s ρ σ) : ∃ s', h113x kK kB i s = some s' ∧ Ok (Jf T G (cS cs)) s' ρ σ := by
  unfold h113x
  split
  · rename_i n b a qn qb qa
    split
    · rename_i x qx
      cases hc : xye kK kB i n b a s && leAV s (shA i 1) x with
      | false => exact ⟨s, rfl, ho⟩
      | true =>
        rw [Bool.and_eq_true] at hc
        obtain ⟨H, i1, i2⟩ := ho.inv
        obtain ⟨w1, w2, w3⟩ := (i2.2.2 _ hm : xS9 kK kB H σ)
        obtain ⟨zn, n1, n2⟩ := tag_get ho i1 qn
        obtain ⟨zb, b1, b2⟩ := tag_get ho i1 qb
        obtain ⟨za, a1, a2⟩ := tag_get ho i1 qa
        obtain ⟨zx, x1, x2⟩ := tag_get ho i1 qx
        have e := leAV_ok ho hc.2 (shA_ev hi) x2
        exact absurd (xye_ok ho hi n2 b2 a2 hc.1) (w1 zn zb za zx n1 b1 a1 x1 j (by omega))
    · exact ⟨s, rfl, ho⟩
  · exact ⟨s, rfl, ho⟩
end H35
end
end
section
noncomputable section
/-! ===== WHAT ELSE HOLDS, 34: how many of the first places of a row hold 4: 580 z, 581 r; 582 i, 583 n; hints 120 .. 124 ===== -/
def c4n (K : Nat → Int) : Nat → Int
  | 0 => 0
  | n + 1 => c4n K n + (if K n = 4 then 1 else 0)
def cS9 (kK : Nat) (H : List (Nat × Int)) (σ : zS) : Prop :=
  (∀ z r, lk H 580 = some z → lk H 581 = some r → ∃ j : Nat, z = (j : Int) ∧ r = c4n (Pp σ kK) j) ∧ ∀ z r, lk H 582 = some z → lk H 583 = some r → ∃ j : Nat, z = (j : Int) ∧ r = c4n (Pp σ kK) j
def c9tg (t : Nat) : Bool := Nat.ble 580 t && Nat.ble t 583
theorem c9tg_no {u : Nat} (h : c9tg u = false) : ¬ (580 ≤ u ∧ u ≤ 583) := fun q => by
  have : c9tg u = true := by
    show (Nat.ble 580 u && Nat.ble u 583) = true
    rw [Bool.and_eq_true]
    exact ⟨Nat.ble_eq_true_of_le q.1, Nat.ble_eq_true_of_le q.2⟩
  rw [this] at h
  cases h
def cc9 (kK : Nat) : Cp := (c9tg, (cS9 kK, (fun q => Nat.beq q kK, (fun _ hl _ _ _ => bif isS (lk hl 580) || isS (lk hl 582) then none else some hl, nlw))))
theorem cc9_ok {T : Jx} {G : Gl} {kK : Nat} : CpOk T G (cc9 kK) := by
  apply CpOk.no (fun _ => rfl)
  have tin : ∀ u, 580 ≤ u → u ≤ 583 → c9tg u = true := fun u h1 h2 => by
    show (Nat.ble 580 u && Nat.ble u 583) = true
    rw [Bool.and_eq_true]
    exact ⟨Nat.ble_eq_true_of_le h1, Nat.ble_eq_true_of_le h2⟩
  refine ⟨fun u hu => ?_, fun H H' σ σ' h1 h2 hS => ?_, ?_⟩
  · have hu : (Nat.ble 580 u && Nat.ble u 583) = true := hu
    rw [Bool.and_eq_true] at hu
    have := Nat.le_of_ble_eq_true hu.1
    omega
  · have r1 : Pp σ' kK = Pp σ kK := by
      funext y
      show (σ'.1 kK y).toInt = _
      rw [h2 kK (Nat.beq_refl kK)]
    have l : ∀ u, 580 ≤ u → u ≤ 583 → lk H' u = lk H u := fun u a b => h1 u (tin u a b)
    show cS9 kK H' σ'
    unfold cS9
    rw [r1, l 580 (by omega) (by omega), l 581 (by omega) (by omega), l 582 (by omega) (by omega), l 583 (by omega) (by omega)]
    exact hS
  · intro s ρ σ k p v j x hl hl' H ho hb hp hi hv hx hr hw hh hS
    replace hw : (bif isS (lk hl 580) || isS (lk hl 582) then none else some hl) = some hl' := hw
    cases hc : isS (lk hl 580) || isS (lk hl 582) with
    | true => rw [hc] at hw; cases hw
    | false =>
      rw [hc] at hw
      cases Option.some.inj hw
      rw [Bool.or_eq_false_iff] at hc
      have no : ∀ u, isS (lk hl u) = false → lk H u = none := fun u h => by
        rcases hh.lkp (t := u) with ⟨_, q2⟩ | ⟨a, z, q1, _, _⟩
        · exact q2
        · rw [q1] at h; cases h
      exact ⟨H, hh, ⟨fun z r q => (by rw [no 580 hc.1] at q; cases q), fun z r q => (by rw [no 582 hc.2] at q; cases q)⟩, fun _ _ => rfl⟩
section H36
variable {T : Jx} {G : Gl} {cs : List Cp} {s : Sy} {ρ : List Int} {σ : zS} {kK : Nat}
def h120 (s : Sy) : Sy := bif !(isS (lk s.hl 582)) && !(isS (lk s.hl 583)) then s.seth ((582, .c 0) :: (583, .c 0) :: s.hl) else s
theorem h120_ok (hP : PH T G cs (cc9 kK)) (ho : Ok (Jf T G (cS cs)) s ρ σ) : Ok (Jf T G (cS cs)) (h120 s) ρ σ := by
  unfold h120
  cases hc : !(isS (lk s.hl 582)) && !(isS (lk s.hl 583)) with
  | false => exact ho
  | true =>
    obtain ⟨H, i1, i2⟩ := ho.inv
    obtain ⟨w1, w2⟩ := (i2.2.2 _ hP.2.2.1 : cS9 kK H σ)
    refine ph_set (H := H) (H' := (582, 0) :: (583, 0) :: H) hP ho i2 ⟨⟨rfl, rfl⟩, ⟨rfl, rfl⟩, i1⟩ (fun u hu => ?_) ⟨fun z r a b => ?_, fun z r a b => ?_⟩
    · have := c9tg_no hu
      rw [lk_cons, if_neg (by omega), lk_cons, if_neg (by omega)]
    · rw [lk_cons, if_neg (by decide), lk_cons, if_neg (by decide)] at a b
      exact w1 z r a b
    · rw [lk_cons, if_pos rfl] at a
      rw [lk_cons, if_neg (by decide), lk_cons, if_pos rfl] at b
      exact ⟨0, (Option.some.inj a).symm, (Option.some.inj b).symm⟩
def h124 (s : Sy) : Sy := s.seth (hdel 580 (hdel 581 (hdel 582 (hdel 583 s.hl))))
theorem h124_ok (hP : PH T G cs (cc9 kK)) (ho : Ok (Jf T G (cS cs)) s ρ σ) : Ok (Jf T G (cS cs)) (h124 s) ρ σ := by
  obtain ⟨H, i1, i2⟩ := ho.inv
  refine ph_set hP ho i2 ((((i1.del).del).del).del) (fun u hu => ?_) ⟨fun z r a => ?_, fun z r a => ?_⟩
  · have := c9tg_no hu
    rw [lk_hdel, if_neg (by omega), lk_hdel, if_neg (by omega), lk_hdel, if_neg (by omega), lk_hdel, if_neg (by omega)]
  · rw [lk_hdel, if_pos rfl] at a; cases a
  · rw [lk_hdel, if_neg (by decide), lk_hdel, if_neg (by decide), lk_hdel, if_pos rfl] at a; cases a
def h122k (s : Sy) : Sy := match lk s.hl 582 with
  | some i => match lk s.hl 583 with
    | some n => s.seth (hset 580 i (hset 581 n (hdel 582 (hdel 583 s.hl))))
    | none => s
  | none => s
theorem h122k_ok (hP : PH T G cs (cc9 kK)) (ho : Ok (Jf T G (cS cs)) s ρ σ) : Ok (Jf T G (cS cs)) (h122k s) ρ σ := by
  unfold h122k
  split
  · rename_i i qi
    split
    · rename_i n qn
      obtain ⟨H, i1, i2⟩ := ho.inv
      obtain ⟨w1, w2⟩ := (i2.2.2 _ hP.2.2.1 : cS9 kK H σ)
      obtain ⟨zi, a1, a2⟩ := tag_get ho i1 qi
      obtain ⟨zn, b1, b2⟩ := tag_get ho i1 qn
      refine ph_set hP ho i2 ((((i1.del).del).set b2).set a2) (fun u hu => ?_) ⟨fun z r a b => ?_, fun z r a b => ?_⟩
      · have := c9tg_no hu
        rw [lk_hset, if_neg (by omega), lk_hset, if_neg (by omega), lk_hdel, if_neg (by omega), lk_hdel, if_neg (by omega)]
      · rw [lk_hset, if_pos rfl] at a
        rw [lk_hset, if_neg (by decide), lk_hset, if_pos rfl] at b
        rw [← Option.some.inj a, ← Option.some.inj b]
        exact w2 zi zn a1 b1
      · rw [lk_hset, if_neg (by decide), lk_hset, if_neg (by decide), lk_hdel, if_pos rfl] at a
        cases a
    · exact ho
  · exact ho
def h123e (s : Sy) : Sy := match lk s.hl 580, lk s.hl 581 with
  | some z, some r => match lk s.hl 582, lk s.hl 583 with
    | some i, some n => bif eqA s i z then (s.factd (tlin (-1) (nf s r).1 (nf s n).1) ((nf s r).2 - (nf s n).2)).factd (tlin (-1) (nf s n).1 (nf s r).1) ((nf s n).2 - (nf s r).2) else s
    | _, _ => s
  | _, _ => s
theorem h123e_ok (hm : cc9 kK ∈ cs) (ho : Ok (Jf T G (cS cs)) s ρ σ) : Ok (Jf T G (cS cs)) (h123e s) ρ σ := by
  unfold h123e
  split
  · rename_i z r qz qr
    split
    · rename_i i n qi qn
      cases hc : eqA s i z with
      | false => exact ho
      | true =>
        obtain ⟨H, i1, i2⟩ := ho.inv
        obtain ⟨w1, w2⟩ := (i2.2.2 _ hm : cS9 kK H σ)
        obtain ⟨zz, z1, z2⟩ := tag_get ho i1 qz
        obtain ⟨zr, r1, r2⟩ := tag_get ho i1 qr
        obtain ⟨zi, a1, a2⟩ := tag_get ho i1 qi
        obtain ⟨zn, b1, b2⟩ := tag_get ho i1 qn
        have e := eqA_ok ho hc a2 z2
        obtain ⟨j, j1, j2⟩ := w1 zz zr z1 r1
        obtain ⟨l, l1, l2⟩ := w2 zi zn a1 b1
        have ej : j = l := by omega
        rw [← ej] at l2
        have er : zr = zn := j2.trans l2.symm
        obtain ⟨v, v1, v2⟩ := nf_ok ho r2
        obtain ⟨u, u1, u2⟩ := nf_ok ho b2
        have g1 := tlin_ok (w := -1) v1 u1
        have g2 := tlin_ok (w := -1) u1 v1
        have o1 := factd_ok ho (c := (nf s r).2 - (nf s n).2) g1 (by omega)
        exact factd_ok o1 g2 (by omega)
    · exact ho
  · exact ho
def h121c (kK : Nat) (a : AV) (s : Sy) : Sy := match lk s.hl 582, lk s.hl 583 with
  | some i, some n => bif eqA s i a then (match oth s kK a with
    | some K => bif isS (edom s K) then (bif dis (dom s K) [(4, 4)] then s.seth (hup 582 (shA a 1) s.hl) else bif dsub (dom s K) [(4, 4)] then s.seth (hup 582 (shA a 1) (hup 583 (shA n 1) s.hl)) else s) else s
    | none => s) else s
  | _, _ => s
theorem h121c_ok (hP : PH T G cs (cc9 kK)) {a : AV} {j : Nat} (ha : ev ρ a = some (j : Int)) (ho : Ok (Jf T G (cS cs)) s ρ σ) : Ok (Jf T G (cS cs)) (h121c kK a s) ρ σ := by
  unfold h121c
  split
  · rename_i i n qi qn
    cases hc : eqA s i a with
    | false => exact ho
    | true =>
      simp only [cond_true]
      split
      · rename_i K hK
        cases he : isS (edom s K) with
        | false => exact ho
        | true =>
          simp only [cond_true]
          obtain ⟨H, i1, i2⟩ := ho.inv
          obtain ⟨w1, w2⟩ := (i2.2.2 _ hP.2.2.1 : cS9 kK H σ)
          obtain ⟨zi, a1, a2⟩ := tag_get ho i1 qi
          obtain ⟨zn, b1, b2⟩ := tag_get ho i1 qn
          have e := eqA_ok ho hc a2 ha
          obtain ⟨l, l1, l2⟩ := w2 zi zn a1 b1
          have el : l = j := by omega
          rw [el] at l2
          have eK : ev ρ K = some (Pp σ kK j) := (oth_ok ho hK ha).2
          have hd := edom_ok' ho he eK
          cases h1 : dis (dom s K) [(4, 4)] with
          | true =>
            simp only [cond_true]
            have n4 : Pp σ kK j ≠ 4 := fun q => dis_ok h1 hd (by rw [q]; exact ⟨_, List.mem_cons_self .., Int.le_refl _, Int.le_refl _⟩)
            refine ph_set hP ho i2 (i1.up (shA_ev ha)) (fun u hu => lk_hup_ne (fun e => c9tg_no hu (by omega))) ⟨fun z r a b => ?_, fun z r a b => ?_⟩
            · rw [lk_hup_ne (by decide)] at a b
              exact w1 z r a b
            · rw [lk_hup_at a1] at a
              rw [lk_hup_ne (by decide), b1] at b
              refine ⟨j + 1, by rw [← Option.some.inj a]; omega, ?_⟩
              rw [← Option.some.inj b, l2]
              show c4n (Pp σ kK) j = c4n (Pp σ kK) j + (if Pp σ kK j = 4 then 1 else 0)
              rw [if_neg n4]
              omega
          | false =>
            simp only [cond_false]
            cases h2 : dsub (dom s K) [(4, 4)] with
            | false => exact ho
            | true =>
              simp only [cond_true]
              have y4 : Pp σ kK j = 4 := by
                obtain ⟨p, hp, g1, g2⟩ := dsub_in h2 hd
                rcases List.mem_cons.mp hp with rfl | hp
                · dsimp only at g1 g2; omega
                · cases hp
              refine ph_set hP ho i2 ((i1.up (shA_ev b2)).up (shA_ev ha)) (fun u hu => ?_) ⟨fun z r a b => ?_, fun z r a b => ?_⟩
              · have := c9tg_no hu
                rw [lk_hup_ne (by omega), lk_hup_ne (by omega)]
              · rw [lk_hup_ne (by decide), lk_hup_ne (by decide)] at a b
                exact w1 z r a b
              · have a3 : lk (hup 583 (zn + 1) H) 582 = some zi := by
                  rw [lk_hup_ne (by decide)]
                  exact a1
                rw [lk_hup_at a3] at a
                rw [lk_hup_ne (by decide), lk_hup_at b1] at b
                refine ⟨j + 1, by rw [← Option.some.inj a]; omega, ?_⟩
                rw [← Option.some.inj b, l2]
                show c4n (Pp σ kK) j + 1 = c4n (Pp σ kK) j + (if Pp σ kK j = 4 then 1 else 0)
                rw [if_pos y4]
      · exact ho
  · exact ho
end H36
end
end
section
noncomputable section
/-! ===== what holds all through: bounds, columns, rows that go together ===== -/
def d9_0 : Dom := [(0, 200)]
def d9_1 : Dom := [(0, 20)]
def d9_2 : Dom := [(0, 1200)]
def d9_3 : Dom := [(0, 1000000000)]
def d9_4 : Dom := [(0, 7)]
def d9_5 : Dom := [(0, 19)]
def d9_6 : Dom := [(0, 9600)]
def d9_7 : Dom := [(0, 8)]
def d9_8 : Dom := [(0, 5)]
def d9_9 : Dom := [(0, 3)]
def d9_10 : Dom := [(0, 1)]
def d9_11 : Dom := [(0, 10)]
def d9_12 : Dom := [(0, 40)]
def d9_13 : Dom := [(0, 39)]
def d9_14 : Dom := [(0, 60)]
def d9_15 : Dom := [(0, 6)]
def d9_16 : Dom := [(0, 240)]
def d9_17 : Dom := [(0, 30)]
def d9_18 : Dom := [(0, 255)]
def d9_19 : Dom := [(0, 15)]
def d9_20 : Dom := [(0, 16)]
def d9_21 : Dom := [(0, 12)]
def d9_22 : Dom := [(0, 11)]
def d9_23 : Dom := [(0, 1301)]
def d9_24 : Dom := [(0, 1300)]
def v9_0 : AV := .inl (0, 0)
def v9_1 : AV := .inl (1, 0)
def v9_2 : AV := .inl (2, 0)
def v9_3 : AV := .inl (3, 0)
def v9_4 : AV := .inl (4, 0)
def v9_5 : AV := .inl (5, 0)
def v9_6 : AV := .inl (6, 0)
def v9_7 : AV := .inl (7, 0)
def v9_8 : AV := .inl (8, 0)
def v9_9 : AV := .inl (9, 0)
def v9_10 : AV := .inl (10, 0)
def v9_11 : AV := .inl (11, 0)
def v9_12 : AV := .inl (12, 0)
def v9_13 : AV := .inl (13, 0)
def v9_14 : AV := .inl (14, 0)
def v9_15 : AV := .inl (15, 0)
def v9_16 : AV := .inl (16, 0)
def v9_17 : AV := .inl (17, 0)
def v9_18 : AV := .inl (18, 0)
def v9_19 : AV := .inl (19, 0)
def v9_20 : AV := .inl (20, 0)
def v9_21 : AV := .inl (21, 0)
def v9_22 : AV := .inl (22, 0)
def v9_23 : AV := .inl (23, 0)
def v9_24 : AV := .inl (24, 0)
def v9_25 : AV := .inl (25, 0)
def v9_26 : AV := .inl (26, 0)
def v9_27 : AV := .inl (27, 0)
def v9_28 : AV := .inl (28, 0)
def v9_29 : AV := .inl (29, 0)
def v9_30 : AV := .inl (30, 0)
def v9_31 : AV := .inl (31, 0)
def v9_32 : AV := .inl (32, 0)
def v9_33 : AV := .inl (33, 0)
def v9_34 : AV := .inl (34, 0)
def v9_35 : AV := .inl (35, 0)
def v9_36 : AV := .inl (36, 0)
def v9_37 : AV := .inl (37, 0)
def v9_38 : AV := .inl (38, 0)
def v9_39 : AV := .inl (39, 0)
def v9_40 : AV := .inl (40, 0)
def v9_41 : AV := .inl (41, 0)
def v9_42 : AV := .inl (42, 0)
def v9_43 : AV := .inl (43, 0)
def v9_44 : AV := .inl (44, 0)
def v9_45 : AV := .inl (45, 0)
def v9_46 : AV := .inl (46, 0)
def v9_47 : AV := .inl (47, 0)
def v9_48 : AV := .inl (48, 0)
def v9_49 : AV := .inl (49, 0)
def v9_50 : AV := .inl (50, 0)
def v9_51 : AV := .inl (51, 0)
def v9_52 : AV := .inl (52, 0)
def v9_53 : AV := .inl (53, 0)
def v9_54 : AV := .inl (54, 0)
def v9_55 : AV := .inl (55, 0)
def v9_56 : AV := .inl (56, 0)
def v9_57 : AV := .inl (57, 0)
def v9_58 : AV := .inl (58, 0)
def v9_59 : AV := .inl (59, 0)
def v9_60 : AV := .inl (60, 0)
def v9_61 : AV := .inl (61, 0)
def v9_62 : AV := .inl (62, 0)
def v9_63 : AV := .inl (63, 0)
def c9_0 : AV := .inr (.inl 0)
def c9_1 : AV := .inr (.inl 1)
def c9_2 : AV := .inr (.inl 2)
def c9_3 : AV := .inr (.inl 3)
def c9_4 : AV := .inr (.inl 4)
def c9_5 : AV := .inr (.inl 5)
def c9_6 : AV := .inr (.inl 6)
def c9_7 : AV := .inr (.inl 7)
def c9_8 : AV := .inr (.inl 8)
def c9_9 : AV := .inr (.inl 9)
def c9_10 : AV := .inr (.inl 10)
def c9_11 : AV := .inr (.inl 11)
def c9_12 : AV := .inr (.inl 12)
def c9_13 : AV := .inr (.inl 13)
def c9_14 : AV := .inr (.inl 14)
def c9_15 : AV := .inr (.inl 15)
def c9_16 : AV := .inr (.inl 16)
def c9_17 : AV := .inr (.inl 17)
def c9_18 : AV := .inr (.inl 18)
def c9_19 : AV := .inr (.inl 19)
def c9_20 : AV := .inr (.inl 20)
def c9_21 : AV := .inr (.inl 21)
def c9_22 : AV := .inr (.inl 22)
def c9_23 : AV := .inr (.inl 23)
def c9_24 : AV := .inr (.inl 24)
def c9_25 : AV := .inr (.inl 25)
def c9_26 : AV := .inr (.inl 26)
def c9_27 : AV := .inr (.inl 27)
def c9_28 : AV := .inr (.inl 28)
def c9_29 : AV := .inr (.inl 29)
def c9_30 : AV := .inr (.inl 30)
def c9_31 : AV := .inr (.inl 31)
def c9_32 : AV := .inr (.inl 32)
def c9_33 : AV := .inr (.inl 33)
def c9_34 : AV := .inr (.inl 34)
def c9_35 : AV := .inr (.inl 35)
def c9_36 : AV := .inr (.inl 36)
def c9_37 : AV := .inr (.inl 37)
def c9_38 : AV := .inr (.inl 38)
def c9_39 : AV := .inr (.inl 39)
def T_fi : BT Dom := [(17408, [(1, d9_2), (2, d9_3), (5, d9_12), (7, [(0, 300)]), (5120, d9_1), (5121, d9_20), (5122, [(0, 201)]), (10240, [(1, 40)]), (17408, d9_7)]), (27654, [(17417, d9_2), (17421, [(0, 1201)]), (17422, d9_2), (17423, d9_6), (17424, d9_2), (27651, d9_5), (27652, T32), (27653, d9_13), (27654, T32)]), (34821, [(27655, T32), (27658, [(0, 64)]), (27660, [(0, 64)]), (27661, T32), (27664, d9_10), (27666, d9_10), (27667, d9_1), (34817, d9_1), (34821, [((-4), (-4)), (0, 19)])]), (53258, [(34822, d9_7), (41985, [(0, 4)]), (41996, d9_9), (41997, T32), (41998, T32), (53249, d9_14), (53253, d9_14), (53257, [(0, 576)]), (53258, d9_10)]), (112643, [(60417, d9_14), (60427, d9_14), (71686, d9_1), (100352, d9_15), (100354, d9_21), (100364, d9_1), (112640, d9_3), (112641, d9_2), (112643, [(0, 300)])]), (112670, [(112646, d9_1), (112647, d9_20), (112648, [(0, 201)]), (112660, [(1, 40)]), (112666, d9_10), (112667, d9_2), (112668, d9_8), (112669, d9_2), (112670, T32)]), (112701, [(112672, d9_7), (112686, [(0, 10400)]), (112692, [(0, 23)]), (112696, d9_24), (112697, d9_1), (112698, [((-1), 1200)]), (112699, d9_19), (112700, d9_10), (112701, d9_10)]), (112715, [(112704, d9_24), (112705, d9_9), (112706, [((-4), (-4)), (0, 29)]), (112707, T32), (112708, T32), (112709, d9_10), (112711, d9_12), (112714, d9_10), (112715, d9_1)]), (112752, [(112717, d9_1), (112721, [((-4), (-4)), (0, 19)]), (112722, d9_7), (112725, [(0, 4)]), (112735, T32), (112736, d9_14), (112747, d9_14), (112749, d9_14), (112752, [(0, 600)])]), (112790, [(112757, d9_10), (112758, d9_14), (112774, [(0, 161)]), (112776, d9_15), (112778, d9_21), (112788, d9_1), (112790, d9_10)])]
def T_ai : BT Dom := [(18, [(1, d9_18), (2, T32), (3, d9_4), (7, d9_9), (8, d9_1), (11, [((-4), (-4)), (0, 39)]), (12, [((-4), (-4)), (0, 19)]), (13, d9_10), (14, d9_10), (15, T32), (16, T32), (18, d9_9)]), (36, [(19, d9_17), (21, [(0, 25)]), (23, d9_18), (24, d9_8), (25, d9_2), (29, d9_10), (30, [(0, 2)]), (31, T32), (32, T32), (33, T32), (35, [(0, 4)]), (36, d9_19)]), (49, [(37, [(0, 24)]), (38, d9_5), (39, T32), (40, T32), (42, d9_7), (43, d9_19), (44, [((-4), (-4)), (0, 19)]), (45, d9_21), (46, [(0, 2)]), (47, T32), (48, T32), (49, T32)]), (65, [(50, T32), (51, T32), (54, d9_10), (55, [(0, 59)]), (56, d9_19), (57, d9_19), (60, d9_18), (61, d9_8), (62, [(0, 9)]), (63, T32), (64, T32), (65, T32)]), (102, [(66, T32), (67, T32), (68, d9_0), (69, [(0, 59)]), (72, T32), (73, d9_12), (74, d9_19), (96, d9_5), (99, [(0, 65535)]), (100, d9_8), (101, d9_21), (102, [(0, 4)])]), (115, [(103, T32), (104, T32), (105, d9_22), (106, d9_21), (107, [(0, 4)]), (108, T32), (109, T32), (111, d9_18), (112, T32), (113, T32), (114, [(0, 115)]), (115, d9_19)]), (129, [(116, T32), (117, T32), (118, T32), (119, T32), (120, d9_10), (121, d9_9), (122, d9_1), (125, [((-4), (-4)), (0, 39)]), (126, [((-4), (-4)), (0, 19)]), (127, d9_10), (128, d9_10), (129, d9_10)]), (141, [(130, d9_9), (131, d9_17), (132, [((-1), 2)]), (133, [((-1), 3)]), (134, T32), (135, [((-1), 6)]), (136, [((-1), 2)]), (137, T32), (138, T32), (139, [(0, 10400)]), (140, [(0, 10400)]), (141, [(0, 18)])]), (155, [(143, d9_9), (144, d9_10), (145, [(0, 2)]), (146, d9_24), (147, d9_19), (148, [(0, 0), (7, 13), (16, 18)]), (149, T32), (150, T32), (151, d9_8), (153, T32), (154, T32), (155, d9_4)]), (167, [(156, T32), (157, [(0, 4)]), (158, d9_19), (159, [(0, 24)]), (160, d9_5), (161, d9_10), (162, d9_7), (163, d9_19), (164, [((-4), (-4)), (0, 19)]), (165, T32), (166, d9_21), (167, [(0, 2)])]), (179, [(168, T32), (169, T32), (170, [((-4), (-4)), (0, 19)]), (171, d9_5), (172, d9_5), (173, d9_8), (174, d9_13), (175, T32), (176, d9_1), (177, T32), (178, d9_10), (179, d9_10)]), (191, [(180, [(0, 59)]), (181, [(0, 59)]), (182, d9_19), (183, d9_19), (184, d9_22), (185, d9_22), (186, d9_19), (187, d9_18), (188, d9_8), (189, [(0, 9)]), (190, T32), (191, T32)]), (205, [(192, T32), (193, T32), (194, T32), (195, d9_0), (196, [(0, 59)]), (198, T32), (199, d9_12), (200, d9_10), (201, d9_10), (202, T32), (204, [(0, 65535)]), (205, d9_8)]), (214, [(206, d9_21), (207, [(0, 4)]), (208, T32), (209, T32), (210, d9_22), (211, d9_21), (212, [(0, 4)]), (213, T32), (214, T32)])]
def T_co : BT (Nat × List Dom) := [(6, [(4, (7, [T32, T32, T32, T32, T32, T32, T32])), (6, (6, [[(0, 115)], d9_19, T32, T32, T32, T32]))]), (53, [(20, (9, [[(0, 2)], d9_9, T32, d9_15, [(0, 2)], d9_13, d9_6, d9_6, T32])), (53, (8, [d9_5, d9_5, d9_8, d9_13, T32, d9_1, T32, d9_10]))]), (58, [(58, (3, [d9_22, d9_22, d9_19]))])]
def T_rl : BT (Nat × Nat) := [(26, [(21, (3, 0)), (22, (3, 1)), (24, (11, 0)), (25, (11, 1)), (26, (11, 2))]), (63, [(46, (0, 0)), (47, (0, 1)), (48, (0, 2)), (61, (1, 0)), (63, (1, 1))]), (134, [(64, (1, 2)), (102, (2, 0)), (103, (2, 1)), (133, (9, 0)), (134, (9, 1))]), (157, [(136, (8, 0)), (137, (8, 1)), (141, (10, 0)), (142, (10, 1)), (157, (4, 0))]), (188, [(159, (4, 1)), (167, (5, 0)), (168, (5, 1)), (169, (5, 2)), (188, (6, 0))]), (208, [(190, (6, 1)), (191, (6, 2)), (207, (7, 0)), (208, (7, 1))])]
def T_rs : List Rl1 := [(48, ([(46, false), (47, false), (48, false)], [[d9_10, d9_4, d9_4], [[(2, 2)], [(1, 8)], T32]])), (60, ([(61, false), (63, false), (64, false)], [[[(0, 0)], [(0, 9)], [(0, 9)]], [[(1, 1)], T32, T32], [[(2, 2), (5, 5)], d9_1, T32], [[(3, 3)], [(10, 13)], T32], [[(4, 4)], [(0, 9)], d9_4]])), (144, ([(102, false), (103, false)], [[[(0, 1), (3, 3)], d9_22], [[(2, 2)], [(0, 65535)]], [[(4, 4)], T32]])), (9600, ([(21, false), (22, true)], [[[(0, 3), (7, 12), (21, 23)], T64], [[(4, 6), (13, 20)], d9_19], [[(24, 25)], d9_6]])), (20, ([(157, false), (159, false)], [[[(0, 1), (3, 4)], d9_19], [[(2, 2)], [(0, 24)]]])), (48, ([(167, false), (168, false), (169, false)], [[d9_10, d9_4, d9_4], [[(2, 2)], [(1, 8)], T32]])), (60, ([(188, false), (190, false), (191, false)], [[[(0, 0)], [(0, 9)], [(0, 9)]], [[(1, 1)], T32, T32], [[(2, 2), (5, 5)], d9_1, T32], [[(3, 3)], [(10, 13)], T32], [[(4, 4)], [(0, 9)], d9_4]])), (144, ([(207, false), (208, false)], [[[(0, 1), (3, 3)], d9_22], [[(2, 2)], [(0, 65535)]], [[(4, 4)], T32]])), (240, ([(136, false), (137, false)], [[[((-1), 0)], T32], [[(1, 2)], d9_13]])), (240, ([(133, false), (134, false)], [[[((-1), 0), (2, 3)], T32], [[(1, 1)], d9_19]])), (10400, ([(141, false), (142, true)], [[[(0, 3), (7, 13), (16, 18)], T64], [[(4, 6), (14, 15)], d9_19]])), (1201, ([(24, false), (25, false), (26, true)], [[[(1, 1)], [(0, 1199)], [(1, 1200)]], [[(0, 0), (2, 5)], d9_2, T64]]))]
def TJ : Jx := (T_fi, (T_ai, (T_co, (T_rl, T_rs))))
theorem TJ_wf : TJ.wf = true := by decide +kernel
end
end
