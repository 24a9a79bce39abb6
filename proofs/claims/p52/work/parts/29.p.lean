noncomputable section
/-! ===== WHAT ELSE HOLDS, 33: a statement that reaches out: 570 n, 571 b, 574 a: none below 572 does, 573 does; hints 110 .. 118 ===== -/
section SM
variable {J : Jt} {s : Sy} {ρ : List Int} {σ : zS}
/-- a sum of values with weights -/
def sml (s : Sy) : List (AV × Int) → Lf → Int → Lf × Int
  | [], f, k => (f, k)
  | e :: r, f, k => sml s r (tlin e.2 (nf s e.1).1 f) (k + e.2 * (nf s e.1).2)
def smv (ρ : List Int) : List (AV × Int) → Int
  | [] => 0
  | e :: r => e.2 * (ev ρ e.1).getD 0 + smv ρ r
theorem sml_ok (ho : Ok J s ρ σ) : ∀ {l : List (AV × Int)} {f : Lf} {k x : Int}, (∀ e ∈ l, ∃ z, ev ρ e.1 = some z) → tvo ρ f = some x → ∃ y, tvo ρ (sml s l f k).1 = some y ∧ y + (sml s l f k).2 = x + k + smv ρ l
  | [], f, k, x, _, hf => ⟨x, hf, by show x + k = x + k + 0; omega⟩
  | e :: r, f, k, x, he, hf => by
    obtain ⟨z, hz⟩ := he e (List.mem_cons_self ..)
    obtain ⟨v, v1, v2⟩ := nf_ok ho hz
    obtain ⟨y, y1, y2⟩ := sml_ok ho (l := r) (k := k + e.2 * (nf s e.1).2) (fun e' h => he e' (List.mem_cons_of_mem _ h)) (tlin_ok (w := e.2) v1 hf)
    refine ⟨y, y1, ?_⟩
    show y + (sml s r (tlin e.2 (nf s e.1).1 f) (k + e.2 * (nf s e.1).2)).2 = x + k + (e.2 * (ev ρ e.1).getD 0 + smv ρ r)
    rw [y2, hz]
    show x + e.2 * v + (k + e.2 * (nf s e.1).2) + smv ρ r = x + k + (e.2 * z + smv ρ r)
    rw [v2, Int.mul_add]
    omega
def sle (s : Sy) (l : List (AV × Int)) (c : Int) : Bool := leq s (sml s l [] 0).1 (c - (sml s l [] 0).2)
theorem sle_ok (ho : Ok J s ρ σ) {l : List (AV × Int)} {c : Int} (h : sle s l c = true) (he : ∀ e ∈ l, ∃ z, ev ρ e.1 = some z) : smv ρ l ≤ c := by
  obtain ⟨y, y1, y2⟩ := sml_ok ho (l := l) (f := []) (k := 0) (x := 0) he rfl
  have := leq_ok ho h y1
  omega
end SM
def BLK : Dom := [(2, 2), (5, 5)]
def Blk (k : Int) : Prop := k = 2 ∨ k = 5
theorem blk_in {k : Int} (h : Blk k) : inD k BLK := by
  rcases h with rfl | rfl
  · exact ⟨(2, 2), List.mem_cons_self .., Int.le_refl _, Int.le_refl _⟩
  · exact ⟨(5, 5), List.mem_cons_of_mem _ (List.mem_cons_self ..), Int.le_refl _, Int.le_refl _⟩
theorem blk_of {k : Int} (h : inD k BLK) : Blk k := by
  obtain ⟨p, hp, h1, h2⟩ := h
  rcases List.mem_cons.mp hp with rfl | hp
  · exact Or.inl (by dsimp only at h1 h2; omega)
  rcases List.mem_cons.mp hp with rfl | hp
  · exact Or.inr (by dsimp only at h1 h2; omega)
  · cases hp
def nblk (s : Sy) (a : AV) : Bool := isS (edom s a) && dis (dom s a) BLK
def yblk (s : Sy) (a : AV) : Bool := isS (edom s a) && dsub (dom s a) BLK
theorem nblk_ok {J : Jt} {s : Sy} {ρ : List Int} {σ : zS} {a : AV} {x : Int} (ho : Ok J s ρ σ) (h : nblk s a = true) (hx : ev ρ a = some x) : ¬ Blk x := fun q => by
  have h : (isS (edom s a) && dis (dom s a) BLK) = true := h
  rw [Bool.and_eq_true] at h
  exact dis_ok h.2 (edom_ok' ho h.1 hx) (blk_in q)
theorem yblk_ok {J : Jt} {s : Sy} {ρ : List Int} {σ : zS} {a : AV} {x : Int} (ho : Ok J s ρ σ) (h : yblk s a = true) (hx : ev ρ a = some x) : Blk x := by
  have h : (isS (edom s a) && dsub (dom s a) BLK) = true := h
  rw [Bool.and_eq_true] at h
  exact blk_of (dsub_in h.2 (edom_ok' ho h.1 hx))
def Qx (K B : Nat → Int) (n b a : Int) (i : Nat) : Prop := Blk a ∧ Blk (K i) ∧ n ≤ (i : Int) + B i ∧ (i : Int) + B i < n + b
def xS9 (kK kB : Nat) (H : List (Nat × Int)) (σ : zS) : Prop :=
  (∀ n b a x, lk H 570 = some n → lk H 571 = some b → lk H 574 = some a → lk H 572 = some x → ∀ i : Nat, (i : Int) < x → ¬ Qx (Pp σ kK) (Pp σ kB) n b a i) ∧
  (∀ n b a w, lk H 570 = some n → lk H 571 = some b → lk H 574 = some a → lk H 573 = some w → ∃ i : Nat, w = (i : Int) ∧ Qx (Pp σ kK) (Pp σ kB) n b a i) ∧
  ∀ n b a, lk H 570 = some n → lk H 571 = some b → lk H 574 = some a → Blk a → 0 ≤ b ∧ b ≤ 20
def xtg (t : Nat) : Bool := Nat.ble 570 t && Nat.ble t 574
theorem xtg_no {u : Nat} (h : xtg u = false) : ¬ (570 ≤ u ∧ u ≤ 574) := fun q => by
  have : xtg u = true := by
    show (Nat.ble 570 u && Nat.ble u 574) = true
    rw [Bool.and_eq_true]
    exact ⟨Nat.ble_eq_true_of_le q.1, Nat.ble_eq_true_of_le q.2⟩
  rw [this] at h
  cases h
def cx9 (kK kB : Nat) : Cp := (xtg, (xS9 kK kB, (fun q => Nat.beq q kK || Nat.beq q kB, (fun _ hl _ _ _ => bif isS (lk hl 570) then none else some hl, nlw))))
theorem cx9_ok {T : Jx} {G : Gl} {kK kB : Nat} : CpOk T G (cx9 kK kB) := by
  apply CpOk.no (fun _ => rfl)
  have tin : ∀ u, 570 ≤ u → u ≤ 574 → xtg u = true := fun u h1 h2 => by
    show (Nat.ble 570 u && Nat.ble u 574) = true
    rw [Bool.and_eq_true]
    exact ⟨Nat.ble_eq_true_of_le h1, Nat.ble_eq_true_of_le h2⟩
  refine ⟨fun u hu => ?_, fun H H' σ σ' h1 h2 hS => ?_, ?_⟩
  · have hu : (Nat.ble 570 u && Nat.ble u 574) = true := hu
    rw [Bool.and_eq_true] at hu
    have := Nat.le_of_ble_eq_true hu.1
    omega
  · have r1 : Pp σ' kK = Pp σ kK := by
      funext y
      show (σ'.1 kK y).toInt = _
      rw [h2 kK (by show (Nat.beq kK kK || Nat.beq kK kB) = true; rw [Nat.beq_refl]; rfl)]
    have r2 : Pp σ' kB = Pp σ kB := by
      funext y
      show (σ'.1 kB y).toInt = _
      rw [h2 kB (by show (Nat.beq kB kK || Nat.beq kB kB) = true; rw [Nat.beq_refl, Bool.or_true])]
    have l : ∀ u, 570 ≤ u → u ≤ 574 → lk H' u = lk H u := fun u a b => h1 u (tin u a b)
    show xS9 kK kB H' σ'
    unfold xS9
    rw [r1, r2, l 570 (by omega) (by omega), l 571 (by omega) (by omega), l 572 (by omega) (by omega), l 573 (by omega) (by omega), l 574 (by omega) (by omega)]
    exact hS
  · intro s ρ σ k p v j x hl hl' H ho hb hp hi hv hx hr hw hh hS
    replace hw : (bif isS (lk hl 570) then none else some hl) = some hl' := hw
    cases hc : isS (lk hl 570) with
    | true => rw [hc] at hw; cases hw
    | false =>
      rw [hc] at hw
      cases Option.some.inj hw
      have no : lk H 570 = none := by
        rcases hh.lkp (t := 570) with ⟨_, q2⟩ | ⟨a, z, q1, _, _⟩
        · exact q2
        · rw [q1] at hc; cases hc
      exact ⟨H, hh, ⟨fun n b a x' q => (by rw [no] at q; cases q), fun n b a w q => (by rw [no] at q; cases q), fun n b a q => (by rw [no] at q; cases q)⟩, fun _ _ => rfl⟩
section H35
variable {T : Jx} {G : Gl} {cs : List Cp} {s : Sy} {ρ : List Int} {σ : zS} {kK kB : Nat}
def h110 (kS jS : Nat) (a b : AV) (s : Sy) : Sy := match mget s.me kS (.c (jS : Int)) with
  | some n => bif ((n.isI && (a.isI && b.isI)) && ((!(isS (lk s.hl 570)) && !(isS (lk s.hl 571))) && (!(isS (lk s.hl 572)) && (!(isS (lk s.hl 573)) && !(isS (lk s.hl 574)))))) && (nblk s a || (leAV s (.c 0) b && leAV s b (.c 20))) then s.seth ((572, .c 0) :: (570, n) :: (571, b) :: (574, a) :: s.hl) else s
  | none => s
theorem h110_ok (hP : PH T G cs (cx9 kK kB)) {kS jS : Nat} {a b : AV} {x y : Int} (ha : ev ρ a = some x) (hb : ev ρ b = some y) (ho : Ok (Jf T G (cS cs)) s ρ σ) : Ok (Jf T G (cS cs)) (h110 kS jS a b s) ρ σ := by
  unfold h110
  split
  · rename_i n hn
    cases hc : ((n.isI && (a.isI && b.isI)) && ((!(isS (lk s.hl 570)) && !(isS (lk s.hl 571))) && (!(isS (lk s.hl 572)) && (!(isS (lk s.hl 573)) && !(isS (lk s.hl 574)))))) && (nblk s a || (leAV s (.c 0) b && leAV s b (.c 20))) with
    | false => exact ho
    | true =>
      simp only [Bool.and_eq_true, Bool.or_eq_true] at hc
      obtain ⟨⟨⟨c1, c2, c3⟩, ⟨c4, c5⟩, c6, c7, c8⟩, c9⟩ := hc
      obtain ⟨H, i1, i2⟩ := ho.inv
      have n573 := no_tag i1 c7
      have en := me_at ho hn rfl c1
      refine ph_set (H := H) (H' := (572, 0) :: (570, (σ.1 kS jS).toInt) :: (571, y) :: (574, x) :: H) hP ho i2 ⟨⟨rfl, rfl⟩, ⟨rfl, en⟩, ⟨rfl, hb⟩, ⟨rfl, ha⟩, i1⟩ (fun u hu => ?_) ⟨fun n' b' a' x' _ _ _ q4 i hi => ?_, fun n' b' a' w _ _ _ q4 => ?_, fun n' b' a' _ q2 q3 hB => ?_⟩
      · have := xtg_no hu
        rw [lk_cons, if_neg (by omega), lk_cons, if_neg (by omega), lk_cons, if_neg (by omega), lk_cons, if_neg (by omega)]
      · rw [lk_cons, if_pos rfl] at q4
        have := Option.some.inj q4
        omega
      · rw [lk_cons, if_neg (by decide), lk_cons, if_neg (by decide), lk_cons, if_neg (by decide), lk_cons, if_neg (by decide), n573] at q4
        cases q4
      · rw [lk_cons, if_neg (by decide), lk_cons, if_neg (by decide), lk_cons, if_pos rfl] at q2
        rw [lk_cons, if_neg (by decide), lk_cons, if_neg (by decide), lk_cons, if_neg (by decide), lk_cons, if_pos rfl] at q3
        rw [← Option.some.inj q2]
        rw [← Option.some.inj q3] at hB
        rcases c9 with c9 | ⟨c9, c10⟩
        · exact absurd hB (nblk_ok ho c9 ha)
        · exact ⟨leAV_ok ho c9 (x := 0) rfl hb, leAV_ok ho c10 hb (y := 20) rfl⟩
  · exact ho
def h115 (s : Sy) : Sy := s.seth (hdel 570 (hdel 571 (hdel 572 (hdel 573 (hdel 574 s.hl)))))
theorem h115_ok (hP : PH T G cs (cx9 kK kB)) (ho : Ok (Jf T G (cS cs)) s ρ σ) : Ok (Jf T G (cS cs)) (h115 s) ρ σ := by
  obtain ⟨H, i1, i2⟩ := ho.inv
  refine ph_set hP ho i2 (((((i1.del).del).del).del).del) (fun u hu => ?_) ⟨fun n b a x q => ?_, fun n b a w q => ?_, fun n b a q => ?_⟩
  · have := xtg_no hu
    rw [lk_hdel, if_neg (by omega), lk_hdel, if_neg (by omega), lk_hdel, if_neg (by omega), lk_hdel, if_neg (by omega), lk_hdel, if_neg (by omega)]
  · rw [lk_hdel, if_pos rfl] at q; cases q
  · rw [lk_hdel, if_pos rfl] at q; cases q
  · rw [lk_hdel, if_pos rfl] at q; cases q
def h116 (s : Sy) : Sy := bif (isS (lk s.hl 570) && (isS (lk s.hl 571) && isS (lk s.hl 574))) && !(isS (lk s.hl 572)) then s.seth (hset 572 (.c 0) s.hl) else s
theorem h116_ok (hP : PH T G cs (cx9 kK kB)) (ho : Ok (Jf T G (cS cs)) s ρ σ) : Ok (Jf T G (cS cs)) (h116 s) ρ σ := by
  unfold h116
  cases hc : (isS (lk s.hl 570) && (isS (lk s.hl 571) && isS (lk s.hl 574))) && !(isS (lk s.hl 572)) with
  | false => exact ho
  | true =>
    obtain ⟨H, i1, i2⟩ := ho.inv
    obtain ⟨w1, w2, w3⟩ := (i2.2.2 _ hP.2.2.1 : xS9 kK kB H σ)
    refine ph_set hP ho i2 (i1.set (a := .c 0) (x := 0) rfl) (fun u hu => ?_) ⟨fun n b a x _ _ _ q i hi => ?_, fun n b a w q1 q2 q3 q4 => ?_, fun n b a q1 q2 q3 => ?_⟩
    · have := xtg_no hu
      rw [lk_hset, if_neg (by omega)]
    · rw [lk_hset, if_pos rfl] at q
      have := Option.some.inj q
      omega
    · rw [lk_hset, if_neg (by decide)] at q1 q2 q3 q4
      exact w2 n b a w q1 q2 q3 q4
    · rw [lk_hset, if_neg (by decide)] at q1 q2 q3
      exact w3 n b a q1 q2 q3
def h114x (s : Sy) : Option Sy := match lk s.hl 570, lk s.hl 571, lk s.hl 574 with
  | some _, some _, some _ => match lk s.hl 572, lk s.hl 573 with
    | some x, some w => bif leAV s (shA w 1) x then none else some s
    | _, _ => some s
  | _, _, _ => some s
theorem h114x_ok (hm : cx9 kK kB ∈ cs) (ho : Ok (Jf T G (cS cs)) s ρ σ) : ∃ s', h114x s = some s' ∧ Ok (Jf T G (cS cs)) s' ρ σ := by
  unfold h114x
  split
  · rename_i n b a qn qb qa
    split
    · rename_i x w qx qw
      cases hc : leAV s (shA w 1) x with
      | false => exact ⟨s, rfl, ho⟩
      | true =>
        obtain ⟨H, i1, i2⟩ := ho.inv
        obtain ⟨w1, w2, w3⟩ := (i2.2.2 _ hm : xS9 kK kB H σ)
        obtain ⟨zn, n1, _⟩ := tag_get ho i1 qn
        obtain ⟨zb, b1, _⟩ := tag_get ho i1 qb
        obtain ⟨za, a1, _⟩ := tag_get ho i1 qa
        obtain ⟨zx, x1, x2⟩ := tag_get ho i1 qx
        obtain ⟨zw, v1, v2⟩ := tag_get ho i1 qw
        have e := leAV_ok ho hc (shA_ev v2) x2
        obtain ⟨i, c1, c2⟩ := w2 zn zb za zw n1 b1 a1 v1
        exact absurd c2 (w1 zn zb za zx n1 b1 a1 x1 i (by omega))
    · exact ⟨s, rfl, ho⟩
  · exact ⟨s, rfl, ho⟩
def h117 (s : Sy) : Option Sy := match lk s.hl 570, lk s.hl 571, lk s.hl 574 with
  | some _, some _, some a => match lk s.hl 573 with
    | some _ => bif nblk s a then none else some s
    | none => some s
  | _, _, _ => some s
theorem h117_ok (hm : cx9 kK kB ∈ cs) (ho : Ok (Jf T G (cS cs)) s ρ σ) : ∃ s', h117 s = some s' ∧ Ok (Jf T G (cS cs)) s' ρ σ := by
  unfold h117
  split
  · rename_i n b a qn qb qa
    split
    · rename_i w qw
      cases hc : nblk s a with
      | false => exact ⟨s, rfl, ho⟩
      | true =>
        obtain ⟨H, i1, i2⟩ := ho.inv
        obtain ⟨w1, w2, w3⟩ := (i2.2.2 _ hm : xS9 kK kB H σ)
        obtain ⟨zn, n1, _⟩ := tag_get ho i1 qn
        obtain ⟨zb, b1, _⟩ := tag_get ho i1 qb
        obtain ⟨za, a1, a2⟩ := tag_get ho i1 qa
        obtain ⟨zw, v1, v2⟩ := tag_get ho i1 qw
        obtain ⟨i, c1, c2⟩ := w2 zn zb za zw n1 b1 a1 v1
        exact absurd c2.1 (nblk_ok ho hc a2)
    · exact ⟨s, rfl, ho⟩
  · exact ⟨s, rfl, ho⟩
def h118 (s : Sy) : Option Sy := match lk s.hl 570, lk s.hl 571, lk s.hl 574 with
  | some _, some b, some a => bif yblk s a && isS (edom s b) then s.refd b [(0, 20)] else some s
  | _, _, _ => some s
theorem h118_ok (hm : cx9 kK kB ∈ cs) (ho : Ok (Jf T G (cS cs)) s ρ σ) : ∃ s', h118 s = some s' ∧ Ok (Jf T G (cS cs)) s' ρ σ := by
  unfold h118
  split
  · rename_i n b a qn qb qa
    cases hc : yblk s a && isS (edom s b) with
    | false => exact ⟨s, rfl, ho⟩
    | true =>
      rw [Bool.and_eq_true] at hc
      obtain ⟨H, i1, i2⟩ := ho.inv
      obtain ⟨w1, w2, w3⟩ := (i2.2.2 _ hm : xS9 kK kB H σ)
      obtain ⟨zn, n1, _⟩ := tag_get ho i1 qn
      obtain ⟨zb, b1, b2⟩ := tag_get ho i1 qb
      obtain ⟨za, a1, a2⟩ := tag_get ho i1 qa
      obtain ⟨g1, g2⟩ := w3 zn zb za n1 b1 a1 (yblk_ok ho hc.1 a2)
      exact refd_ok ho b2 (edom_ok' ho hc.2 b2) ⟨_, List.mem_cons_self .., g1, g2⟩
  · exact ⟨s, rfl, ho⟩
/-- at i it doesn't reach out -/
def xno (kK kB : Nat) (i n b a : AV) (s : Sy) : Bool := nblk s a || ((match oth s kK i with
  | some K => nblk s K
  | none => false) || (match oth s kB i with
  | some B => sle s [(i, 1), (B, 1), (n, -1)] (-1) || sle s [(n, 1), (b, 1), (i, -1), (B, -1)] 0
  | none => false))
def xye (kK kB : Nat) (i n b a : AV) (s : Sy) : Bool := yblk s a && ((match oth s kK i with
  | some K => yblk s K
  | none => false) && (match oth s kB i with
  | some B => sle s [(n, 1), (i, -1), (B, -1)] 0 && sle s [(i, 1), (B, 1), (n, -1), (b, -1)] (-1)
  | none => false))
theorem ev4 {l : List (AV × Int)} (h : (l.all fun e => isS (ev ρ e.1)) = true) : ∀ e ∈ l, ∃ z, ev ρ e.1 = some z := fun e he => isS_some (List.all_eq_true.mp h e he)
theorem xno_ok {J : Jt} (ho : Ok J s ρ σ) {i n b a : AV} {j : Nat} {zn zb za : Int} (hi : ev ρ i = some (j : Int)) (hn : ev ρ n = some zn) (hb : ev ρ b = some zb) (ha : ev ρ a = some za) (h : xno kK kB i n b a s = true) : ¬ Qx (Pp σ kK) (Pp σ kB) zn zb za j := by
  intro q
  obtain ⟨q1, q2, q3, q4⟩ := q
  have h : (nblk s a || ((match oth s kK i with
    | some K => nblk s K
    | none => false) || (match oth s kB i with
    | some B => sle s [(i, 1), (B, 1), (n, -1)] (-1) || sle s [(n, 1), (b, 1), (i, -1), (B, -1)] 0
    | none => false))) = true := h
  rw [Bool.or_eq_true, Bool.or_eq_true] at h
  rcases h with h | h | h
  · exact nblk_ok ho h ha q1
  · split at h
    · rename_i K hK
      exact nblk_ok ho h (oth_ok ho hK hi).2 q2
    · cases h
  · split at h
    · rename_i B hB
      have eB : ev ρ B = some (Pp σ kB j) := (oth_ok ho hB hi).2
      rw [Bool.or_eq_true] at h
      rcases h with h | h
      · have g := sle_ok ho h (ev4 (by show ((isS (ev ρ i)) && ((isS (ev ρ B)) && ((isS (ev ρ n)) && true))) = true; rw [hi, eB, hn]; rfl))
        have g : 1 * (ev ρ i).getD 0 + (1 * (ev ρ B).getD 0 + (-1 * (ev ρ n).getD 0 + 0)) ≤ -1 := g
        rw [hi, eB, hn] at g
        have g : 1 * (j : Int) + (1 * Pp σ kB j + (-1 * zn + 0)) ≤ -1 := g
        omega
      · have g := sle_ok ho h (ev4 (by show ((isS (ev ρ n)) && ((isS (ev ρ b)) && ((isS (ev ρ i)) && ((isS (ev ρ B)) && true)))) = true; rw [hi, eB, hn, hb]; rfl))
        have g : 1 * (ev ρ n).getD 0 + (1 * (ev ρ b).getD 0 + (-1 * (ev ρ i).getD 0 + (-1 * (ev ρ B).getD 0 + 0))) ≤ 0 := g
        rw [hi, eB, hn, hb] at g
        have g : 1 * zn + (1 * zb + (-1 * (j : Int) + (-1 * Pp σ kB j + 0))) ≤ 0 := g
        omega
    · cases h
theorem xye_ok {J : Jt} (ho : Ok J s ρ σ) {i n b a : AV} {j : Nat} {zn zb za : Int} (hi : ev ρ i = some (j : Int)) (hn : ev ρ n = some zn) (hb : ev ρ b = some zb) (ha : ev ρ a = some za) (h : xye kK kB i n b a s = true) : Qx (Pp σ kK) (Pp σ kB) zn zb za j := by
  have h : (yblk s a && ((match oth s kK i with
    | some K => yblk s K
    | none => false) && (match oth s kB i with
    | some B => sle s [(n, 1), (i, -1), (B, -1)] 0 && sle s [(i, 1), (B, 1), (n, -1), (b, -1)] (-1)
    | none => false))) = true := h
  rw [Bool.and_eq_true, Bool.and_eq_true] at h
  obtain ⟨h1, h2, h3⟩ := h
  refine ⟨yblk_ok ho h1 ha, ?_, ?_⟩
  · split at h2
    · rename_i K hK
      exact yblk_ok ho h2 (oth_ok ho hK hi).2
    · cases h2
  · split at h3
    · rename_i B hB
      have eB : ev ρ B = some (Pp σ kB j) := (oth_ok ho hB hi).2
      rw [Bool.and_eq_true] at h3
      have g1 := sle_ok ho h3.1 (ev4 (by show ((isS (ev ρ n)) && ((isS (ev ρ i)) && ((isS (ev ρ B)) && true))) = true; rw [hi, eB, hn]; rfl))
      have g1 : 1 * (ev ρ n).getD 0 + (-1 * (ev ρ i).getD 0 + (-1 * (ev ρ B).getD 0 + 0)) ≤ 0 := g1
      rw [hi, eB, hn] at g1
      have g1 : 1 * zn + (-1 * (j : Int) + (-1 * Pp σ kB j + 0)) ≤ 0 := g1
      have g2 := sle_ok ho h3.2 (ev4 (by show ((isS (ev ρ i)) && ((isS (ev ρ B)) && ((isS (ev ρ n)) && ((isS (ev ρ b)) && true)))) = true; rw [hi, eB, hn, hb]; rfl))
      have g2 : 1 * (ev ρ i).getD 0 + (1 * (ev ρ B).getD 0 + (-1 * (ev ρ n).getD 0 + (-1 * (ev ρ b).getD 0 + 0))) ≤ -1 := g2
      rw [hi, eB, hn, hb] at g2
      have g2 : 1 * (j : Int) + (1 * Pp σ kB j + (-1 * zn + (-1 * zb + 0))) ≤ -1 := g2
      exact ⟨by omega, by omega⟩
    · cases h3
def h111x (kK kB : Nat) (i : AV) (s : Sy) : Sy := match lk s.hl 570, lk s.hl 571, lk s.hl 574 with
  | some n, some b, some a => match lk s.hl 572 with
    | some x => bif eqA s x i && xno kK kB i n b a s then s.seth (hup 572 (shA i 1) s.hl) else s
    | none => s
  | _, _, _ => s
theorem h111x_ok (hP : PH T G cs (cx9 kK kB)) {i : AV} {j : Nat} (hi : ev ρ i = some (j : Int)) (ho : Ok (Jf T G (cS cs)) s ρ σ) : Ok (Jf T G (cS cs)) (h111x kK kB i s) ρ σ := by
  unfold h111x
  split
  · rename_i n b a qn qb qa
    split
    · rename_i x qx
      cases hc : eqA s x i && xno kK kB i n b a s with
      | false => exact ho
      | true =>
        rw [Bool.and_eq_true] at hc
        obtain ⟨H, i1, i2⟩ := ho.inv
        obtain ⟨w1, w2, w3⟩ := (i2.2.2 _ hP.2.2.1 : xS9 kK kB H σ)
        obtain ⟨zn, n1, n2⟩ := tag_get ho i1 qn
        obtain ⟨zb, b1, b2⟩ := tag_get ho i1 qb
        obtain ⟨za, a1, a2⟩ := tag_get ho i1 qa
        obtain ⟨zx, x1, x2⟩ := tag_get ho i1 qx
        have ex := eqA_ok ho hc.1 x2 hi
        have new := xno_ok ho hi n2 b2 a2 hc.2
        refine ph_set hP ho i2 (i1.up (shA_ev hi)) (fun u hu => lk_hup_ne (fun e => xtg_no hu (by omega))) ⟨fun n' b' a' x' q1 q2 q3 q4 i' h' => ?_, fun n' b' a' w q1 q2 q3 q4 => ?_, fun n' b' a' q1 q2 q3 => ?_⟩
        · rw [lk_hup_ne (by decide), n1] at q1
          rw [lk_hup_ne (by decide), b1] at q2
          rw [lk_hup_ne (by decide), a1] at q3
          rw [lk_hup_at x1] at q4
          have e4 := Option.some.inj q4
          rw [← Option.some.inj q1, ← Option.some.inj q2, ← Option.some.inj q3]
          by_cases e : i' = j
          · rw [e]; exact new
          · exact w1 zn zb za zx n1 b1 a1 x1 i' (by omega)
        · rw [lk_hup_ne (by decide)] at q1 q2 q3 q4
          exact w2 n' b' a' w q1 q2 q3 q4
        · rw [lk_hup_ne (by decide)] at q1 q2 q3
          exact w3 n' b' a' q1 q2 q3
    · exact ho
  · exact ho
def h112x (kK kB : Nat) (i : AV) (s : Sy) : Sy := match lk s.hl 570, lk s.hl 571, lk s.hl 574 with
  | some n, some b, some a => bif xye kK kB i n b a s then s.seth (hdel 572 (hset 573 i s.hl)) else s
  | _, _, _ => s
theorem h112x_ok (hP : PH T G cs (cx9 kK kB)) {i : AV} {j : Nat} (hi : ev ρ i = some (j : Int)) (ho : Ok (Jf T G (cS cs)) s ρ σ) : Ok (Jf T G (cS cs)) (h112x kK kB i s) ρ σ := by
  unfold h112x
  split
  · rename_i n b a qn qb qa
    cases hc : xye kK kB i n b a s with
    | false => exact ho
    | true =>
      obtain ⟨H, i1, i2⟩ := ho.inv
      obtain ⟨w1, w2, w3⟩ := (i2.2.2 _ hP.2.2.1 : xS9 kK kB H σ)
      obtain ⟨zn, n1, n2⟩ := tag_get ho i1 qn
      obtain ⟨zb, b1, b2⟩ := tag_get ho i1 qb
      obtain ⟨za, a1, a2⟩ := tag_get ho i1 qa
      have new := xye_ok ho hi n2 b2 a2 hc
      refine ph_set hP ho i2 ((i1.set hi).del) (fun u hu => ?_) ⟨fun n' b' a' x' _ _ _ q4 => ?_, fun n' b' a' w q1 q2 q3 q4 => ?_, fun n' b' a' q1 q2 q3 => ?_⟩
      · have := xtg_no hu
        rw [lk_hdel, if_neg (by omega), lk_hset, if_neg (by omega)]
      · rw [lk_hdel, if_pos rfl] at q4; cases q4
      · rw [lk_hdel, if_neg (by decide), lk_hset, if_neg (by decide), n1] at q1
        rw [lk_hdel, if_neg (by decide), lk_hset, if_neg (by decide), b1] at q2
        rw [lk_hdel, if_neg (by decide), lk_hset, if_neg (by decide), a1] at q3
        rw [lk_hdel, if_neg (by decide), lk_hset, if_pos rfl] at q4
        rw [← Option.some.inj q1, ← Option.some.inj q2, ← Option.some.inj q3]
        exact ⟨j, (Option.some.inj q4).symm, new⟩
      · rw [lk_hdel, if_neg (by decide), lk_hset, if_neg (by decide)] at q1 q2 q3
        exact w3 n' b' a' q1 q2 q3
  · exact ho
def h113x (kK kB : Nat) (i : AV) (s : Sy) : Option Sy := match lk s.hl 570, lk s.hl 571, lk s.hl 574 with
  | some n, some b, some a => match lk s.hl 572 with
    | some x => bif xye kK kB i n b a s && leAV s (shA i 1) x then none else some s
    | none => some s
  | _, _, _ => some s
theorem h113x_ok (hm : cx9 kK kB ∈ cs) {i : AV} {j : Nat} (hi : ev ρ i = some (j : Int)) (ho : Ok (Jf T G (cS cs)) s ρ σ) : ∃ s', h113x kK kB i s = some s' ∧ Ok (Jf T G (cS cs)) s' ρ σ := by
  unfold h113x
  split
  · rename_i n b a qn qb qa
    split
    · rename_i x qx
      cases hc : xye kK kB i n b a s && leAV s (shA i 1) x with
      | false => exact ⟨s, rfl, ho⟩
      | true =>
        rw [Bool.and_eq_true] at hc
        obtain ⟨H, i1, i2⟩ := ho.inv
        obtain ⟨w1, w2, w3⟩ := (i2.2.2 _ hm : xS9 kK kB H σ)
        obtain ⟨zn, n1, n2⟩ := tag_get ho i1 qn
        obtain ⟨zb, b1, b2⟩ := tag_get ho i1 qb
        obtain ⟨za, a1, a2⟩ := tag_get ho i1 qa
        obtain ⟨zx, x1, x2⟩ := tag_get ho i1 qx
        have e := leAV_ok ho hc.2 (shA_ev hi) x2
        exact absurd (xye_ok ho hi n2 b2 a2 hc.1) (w1 zn zb za zx n1 b1 a1 x1 j (by omega))
    · exact ⟨s, rfl, ho⟩
  · exact ⟨s, rfl, ho⟩
end H35
end
