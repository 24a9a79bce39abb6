noncomputable section
/-! ===== WHAT ELSE HOLDS, 24: hints of code ===== -/
/-- tags take the values that a list has for them -/
def qmap {α : Type} (l : List (Nat × α)) : List (Nat × α) → List (Nat × α)
  | [] => []
  | e :: r => (e.1, (lk l e.1).getD e.2) :: qmap l r
theorem Hl_qmap {ρ : List Int} {l : List (Nat × AV)} {L : List (Nat × Int)} (hlL : Hl ρ l L) : ∀ {a : List (Nat × AV)} {H : List (Nat × Int)}, Hl ρ a H → Hl ρ (qmap l a) (qmap L H)
  | [], [], _ => trivial
  | e :: r, h :: q, ⟨h1, h2⟩ => by
    refine ⟨⟨h1.1, ?_⟩, Hl_qmap hlL h2⟩
    show ev ρ ((lk l e.1).getD e.2) = some ((lk L h.1).getD h.2)
    rw [← h1.1]
    rcases hlL.lkp (t := e.1) with ⟨q1, q2⟩ | ⟨a, x, q1, q2, q3⟩
    · rw [q1, q2]
      exact h1.2
    · rw [q1, q2]
      exact q3
  | [], _ :: _, q => q.elim
  | _ :: _, [], q => q.elim
theorem lk_qmap {L : List (Nat × Int)} {t : Nat} : ∀ {H : List (Nat × Int)}, lk (qmap L H) t = (lk H t).map fun z => (lk L t).getD z
  | [] => rfl
  | e :: r => by
    have ih := lk_qmap (L := L) (t := t) (H := r)
    show lk ((e.1, (lk L e.1).getD e.2) :: qmap L r) t = Option.map (fun z => (lk L t).getD z) (lk (e :: r) t)
    rw [lkq_cons, lkq_cons]
    show (bif Nat.beq e.1 t then some ((lk L e.1).getD e.2) else lk (qmap L r) t) = Option.map (fun z => (lk L t).getD z) (bif Nat.beq e.1 t then some e.2 else lk r t)
    cases hb : Nat.beq e.1 t with
    | true =>
      rw [Nat.eq_of_beq_eq_true hb]
      rfl
    | false => exact ih
theorem lk_qm {L H : List (Nat × Int)} {t : Nat} {z : Int} (h : lk H t = some z) : lk (qmap L H) t = some ((lk L t).getD z) := by
  rw [lk_qmap, h]
  rfl
theorem lk_qne {L H : List (Nat × Int)} {t : Nat} (h : lk L t = none) : lk (qmap L H) t = lk H t := by
  rw [lk_qmap, h]
  cases lk H t <;> rfl
theorem lk_off {L : List (Nat × Int)} (h : (L.all fun e => qtg e.1) = true) {u : Nat} (hu : qtg u = false) : lk L u = none := by
  cases hl : lk L u with
  | none => rfl
  | some z =>
    have h2 : qtg u = true := List.all_eq_true.mp h _ (lk_mem hl)
    rw [hu] at h2
    cases h2
def qcl (s : Sy) (a : AV) : Nat := bif dsub (dom s a) [(-2147483648, 4), (6, 6), (15, 15)] then 0 else bif dsub (dom s a) [(5, 5), (7, 7), (14, 14), (16, 16)] then 1 else bif dsub (dom s a) [(8, 13), (17, 2147483647)] then 2 else 3
def QH (T : Jx) (G : Gl) (cs : List Cp) (K : QK) : Prop := T.wf = true ∧ (∀ c ∈ cs, CpOk T G c) ∧ cr K ∈ cs ∧ ∀ c ∈ cs, ∀ t, qtg t = true → c.tg t = true → c = cr K
/-- the tags that none wants any more -/
def qdel2 {α : Type} (hl : List (Nat × α)) : List (Nat × α) := hdel 312 (hdel 313 (hdel 314 (hdel 326 hl)))
def hr31 (K : QK) (s : Sy) : Option Sy := match qget s.hl with
  | some a => match mget s.me K.w (pl s (shA a.w (-1))) with
    | some c => bif c.isI && eqAV s (shA a.w (-1)) (pl s (shA a.w (-1))) then ((s.below (.c 0) a.b).below a.b a.w).refd c [(5, 2147483647)] else some ((s.below (.c 0) a.b).below a.b a.w)
    | none => some ((s.below (.c 0) a.b).below a.b a.w)
  | none => some s
def hr32 (K : QK) (s : Sy) : Sy := match qget s.hl with
  | some a => match mget s.me K.w (pl s (shA a.w (-1))) with
    | some c => bif c.isI && eqAV s (shA a.w (-1)) (pl s (shA a.w (-1))) then
        (bif Nat.beq (qcl s c) 1 then (s.below a.b (shA a.w (-1))).seth (qmap [(324, shA a.w (-1))] s.hl)
        else bif Nat.beq (qcl s c) 2 then ((s.below (.c 0) (shA a.b (-1))).below (shA a.b (-1)) (shA a.w (-1))).seth (qmap [(324, shA a.w (-1)), (325, shA a.b (-1))] s.hl)
        else s) else s
    | none => s
  | none => s
def hr33 (K : QK) (s : Sy) : Sy := match qget s.hl with
  | some a => match mget s.me K.c (pl s a.e) with
    | some c => bif c.isI && eqAV s a.e (pl s a.e) then
        (bif Nat.beq (qcl s c) 0 then s.seth (qmap [(322, shA a.e 1), (323, shA a.h 1)] s.hl)
        else bif Nat.beq (qcl s c) 1 && leAV s (.c 1) a.h then s.seth (qmap [(322, shA a.e 1)] s.hl)
        else bif Nat.beq (qcl s c) 2 && leAV s (.c 2) a.h then s.seth (qmap [(322, shA a.e 1), (323, shA a.h (-1))] s.hl)
        else s) else s
    | none => s
  | none => s
def hr38 (K : QK) (s : Sy) : Sy := match qget s.hl with
  | some a => match mget s.me K.w (pl s a.w) with
    | some c => bif c.isI && eqAV s a.w (pl s a.w) then
        (bif Nat.beq (qcl s c) 1 then s.seth (qmap [(324, shA a.w 1)] s.hl)
        else bif Nat.beq (qcl s c) 2 then s.seth (qmap [(324, shA a.w 1), (325, shA a.b 1)] s.hl)
        else s) else s
    | none => s
  | none => s
def hr34 (s : Sy) : Sy := match qget s.hl with
  | some _ => s.seth (qmap [(324, .c 0), (325, .c 0)] s.hl)
  | none => s
def hr35 (s : Sy) : Sy := match qget s.hl with
  | some a => s.seth (qmap [(321, a.e), (323, .c 0)] s.hl)
  | none => s
def hr36 (K : QK) (r : AV) (s : Sy) : Sy := match qget s.hl with
  | some a => match mget s.me K.s (pl s r), mget s.me K.e (pl s r) with
    | some x, some y => bif (x.isI && y.isI) && (((eqAV s a.n r && eqAV s r (pl s r)) && leAV s a.e (shA a.f 1300)) && (eqAV s x a.f && eqAV s y a.e)) then s.seth (qmap [(327, shA a.n 1)] s.hl) else s
    | _, _ => s
  | none => s
def hr37 (K : QK) (jC : Nat) (s : Sy) : Sy := match mget s.me K.f (.c (K.p : Int)), mget s.me K.f (.c (jC : Int)) with
  | some q, some e => bif (q.isI && e.isI) && ((le3 s 1 e (-1300) q 0 (.c 0) 0 && le3 s 1300 q (-1) e 0 (.c 0) 0) && (leAV s (.c 0) q && leAV s q (.c 8))) then (((s.new [(0, 240)]).factd (tlin (-30) (nf (s.new [(0, 240)]) q).1 [(s.nx, 1)]) (30 * (nf (s.new [(0, 240)]) q).2)).factd (tlin 30 (nf (s.new [(0, 240)]) q).1 [(s.nx, -1)]) (-30 * (nf (s.new [(0, 240)]) q).2)).seth ((321, e) :: (322, e) :: (323, .c 0) :: (324, .c 0) :: (325, .c 0) :: (327, .i s.nx 0) :: (328, q) :: s.hl) else s
  | _, _ => s
def hr39 (s : Sy) : Sy := s.seth (qdel s.hl)
def hr43 (s : Sy) : Sy := s.seth (qdel2 s.hl)
def hr40 (K : QK) (p r : AV) (s : Sy) : Sy := match mget s.me K.r (pl s p) with
  | some c => bif c.isI && ((eqAV s p (pl s p) && leAV s p (.c 7)) && (le3 s 30 p (-1) r 0 (.c 0) 0 && le3 s 1 r (-30) p (-1) c (-1))) then s.seth ((326, r) :: s.hl) else s
  | none => s
def hr41 (K : QK) (s : Sy) : Sy := match lk s.hl 326 with
  | some r => match mget s.me K.s (pl s r), mget s.me K.e (pl s r) with
    | some a, some b => bif (a.isI && b.isI) && eqAV s r (pl s r) then (((s.below (.c 0) a).below a b).below b (shA a 1300)).seth ((312, a) :: (313, b) :: (314, .c 0) :: hdel 326 s.hl) else s
    | _, _ => s
  | none => s
def hr42 (K : QK) (s : Sy) : Sy := match lk s.hl 312, lk s.hl 313, lk s.hl 314 with
  | some k, some t, some h => match mget s.me K.c (pl s k) with
    | some c => bif (c.isI && eqAV s k (pl s k)) && leAV s (shA k 1) t then
        (bif Nat.beq (qcl s c) 0 then s.seth (qmap [(312, shA k 1), (314, shA h 1)] s.hl)
        else bif Nat.beq (qcl s c) 1 then (s.below (.c 1) h).seth (qmap [(312, shA k 1)] s.hl)
        else bif Nat.beq (qcl s c) 2 then (s.below (.c 2) h).seth (qmap [(312, shA k 1), (314, shA h (-1))] s.hl)
        else s) else s
    | none => s
  | _, _, _ => s
section H24
variable {T : Jx} {G : Gl} {cs : List Cp} {s : Sy} {ρ : List Int} {σ : zS} {K : QK}
theorem qcl_ok {J : Jt} (ho : Ok J s ρ σ) {a : AV} (ha : a.isI = true) {y : Int32} (hx : ev ρ a = some y.toInt) {n : Nat} (h : Nat.beq (qcl s a) n = true) (hn : n < 3) : qop y.toInt = n := by
  have e := Nat.eq_of_beq_eq_true h
  have hd := dom_i ho ha hx
  unfold qcl at e
  cases h0 : dsub (dom s a) [(-2147483648, 4), (6, 6), (15, 15)] with
  | true =>
    rw [h0] at e
    rw [← e]
    obtain ⟨p, hp, h1, h2⟩ := dsub_in h0 hd
    rcases List.mem_cons.mp hp with rfl | hp
    · exact qop0 (by dsimp only at h1 h2; omega)
    rcases List.mem_cons.mp hp with rfl | hp
    · exact qop0 (by dsimp only at h1 h2; omega)
    rcases List.mem_cons.mp hp with rfl | hp
    · exact qop0 (by dsimp only at h1 h2; omega)
    · cases hp
  | false =>
    rw [h0] at e
    simp only [cond_false] at e
    cases h1 : dsub (dom s a) [(5, 5), (7, 7), (14, 14), (16, 16)] with
    | true =>
      rw [h1] at e
      rw [← e]
      obtain ⟨p, hp, h2, h3⟩ := dsub_in h1 hd
      rcases List.mem_cons.mp hp with rfl | hp
      · exact qop1 (by dsimp only at h2 h3; omega)
      rcases List.mem_cons.mp hp with rfl | hp
      · exact qop1 (by dsimp only at h2 h3; omega)
      rcases List.mem_cons.mp hp with rfl | hp
      · exact qop1 (by dsimp only at h2 h3; omega)
      rcases List.mem_cons.mp hp with rfl | hp
      · exact qop1 (by dsimp only at h2 h3; omega)
      · cases hp
    | false =>
      rw [h1] at e
      simp only [cond_false] at e
      cases h2 : dsub (dom s a) [(8, 13), (17, 2147483647)] with
      | true =>
        rw [h2] at e
        rw [← e]
        obtain ⟨p, hp, h3, h4⟩ := dsub_in h2 hd
        rcases List.mem_cons.mp hp with rfl | hp
        · exact qop2 (by dsimp only at h3 h4; omega)
        rcases List.mem_cons.mp hp with rfl | hp
        · exact qop2 (by dsimp only at h3 h4; omega)
        · cases hp
      | false =>
        rw [h2] at e
        have e : 3 = n := e
        omega
theorem Jf_re (hq : QH T G cs K) {H H' : List (Nat × Int)} (hl : ∀ u, qtg u = false → lk H' u = lk H u) (hJ : Jf T G (cS cs) H σ) (hn : qS K H' σ) : Jf T G (cS cs) H' σ := by
  obtain ⟨hwf, hc, hm, hu⟩ := hq
  refine ⟨hJ.1, fun r R hr j hj hq2 => ?_, fun c q => ?_⟩
  · have hr0 : qtg r = false := by
      cases e : qtg r with
      | false => rfl
      | true =>
        have h1 := (hc _ hm).big r e
        have h2 := (wf_row hwf hr).1
        omega
    exact hJ.2.1 r R hr j hj (by rw [← hl r hr0]; exact hq2)
  by_cases e : ∃ t, qtg t = true ∧ c.tg t = true
  · obtain ⟨t, e1, e2⟩ := e
    rw [hu c q t e1 e2]
    exact hn
  · exact (hc c q).dep H H' σ σ (fun u hu2 => hl u (by
      cases e3 : qtg u with
      | false => rfl
      | true => exact absurd ⟨u, e3, hu2⟩ e)) (fun _ _ => rfl) (hJ.2.2 c q)
theorem q_re (hq : QH T G cs K) {s1 : Sy} {ρ1 : List Int} {H H' : List (Nat × Int)} (ho1 : Ok (Jf T G (cS cs)) s1 ρ1 σ) (i2 : Jf T G (cS cs) H σ) {hl' : List (Nat × AV)} (hh : Hl ρ1 hl' H') (hl : ∀ u, qtg u = false → lk H' u = lk H u) (hS : qS K H' σ) : Ok (Jf T G (cS cs)) (s1.seth hl') ρ1 σ := ⟨ho1.len, ho1.env, ho1.me, ho1.cg, ho1.df, ho1.fa, H', hh, Jf_re hq hl i2 hS⟩
theorem QH.S (hq : QH T G cs K) {H : List (Nat × Int)} (i2 : Jf T G (cS cs) H σ) : qS K H σ := i2.2.2 _ hq.2.2.1
/-- the seven tags take other values -/
theorem q_upd (hq : QH T G cs K) {s1 : Sy} {hl : List (Nat × AV)} {H : List (Nat × Int)} (ho1 : Ok (Jf T G (cS cs)) s1 ρ σ) (i1 : Hl ρ hl H) (i2 : Jf T G (cS cs) H σ) {f e h w b n q : Int} (a1 : lk H 321 = some f) (a2 : lk H 322 = some e) (a3 : lk H 323 = some h) (a4 : lk H 324 = some w) (a5 : lk H 325 = some b) (a6 : lk H 327 = some n) (a7 : lk H 328 = some q) {l : List (Nat × AV)} (L : List (Nat × Int)) (hlL : Hl ρ l L) (hL : (L.all fun e => qtg e.1) = true) (hN : lk L 326 = none ∧ lk L 312 = none ∧ lk L 313 = none ∧ lk L 314 = none ∧ lk L 341 = none) (h7 : Q7 (Pp σ K.c) (Pp σ K.s) (Pp σ K.e) (Pp σ K.w) ((lk L 321).getD f) ((lk L 322).getD e) ((lk L 323).getD h) ((lk L 324).getD w) ((lk L 325).getD b) ((lk L 327).getD n) ((lk L 328).getD q)) : Ok (Jf T G (cS cs)) (s1.seth (qmap l hl)) ρ σ := by
  obtain ⟨s0, sz, s8, s7, s5, s6⟩ := hq.S i2
  refine q_re hq ho1 i2 (Hl_qmap hlL i1) (fun u hu => lk_qne (lk_off hL hu)) ⟨s0, fun q => sz ?_, fun P q => s8 P ?_, q7_of (lk_qm a1) (lk_qm a2) (lk_qm a3) (lk_qm a4) (lk_qm a5) (lk_qm a6) (lk_qm a7) h7, fun r hr => s5 r ?_, fun k t h x y z => s6 k t h ?_ ?_ ?_⟩
  · rw [← lk_qne (H := H) hN.2.2.2.2]; exact q
  · rw [← lk_qne (H := H) hN.2.2.2.2]; exact q
  · rw [← lk_qne (H := H) hN.1]; exact hr
  · rw [← lk_qne (H := H) hN.2.1]; exact x
  · rw [← lk_qne (H := H) hN.2.2.1]; exact y
  · rw [← lk_qne (H := H) hN.2.2.2.1]; exact z
theorem hr31_ok (hq : QH T G cs K) (ho : Ok (Jf T G (cS cs)) s ρ σ) : ∃ s', hr31 K s = some s' ∧ Ok (Jf T G (cS cs)) s' ρ σ := by
  unfold hr31
  split
  · rename_i a hg
    obtain ⟨H, i1, i2⟩ := ho.inv
    obtain ⟨s0, sz, s8, s7, s5, s6⟩ := hq.S i2
    obtain ⟨zf, ze, zh, zw, zb, zn, zq, a1, a2, a3, a4, a5, a6, a7⟩ := qget_ok i1 hg
    have h7 := s7 zf ze zh zw zb zn zq a1.1 a2.1 a3.1 a4.1 a5.1 a6.1 a7.1
    have hB := Q7_B h7
    have ho1 := below_ok (below_ok ho (a := .c 0) (x := 0) rfl a5.2 hB.1) a5.2 a4.2 hB.2
    split
    · rename_i c hm
      cases hb : c.isI && eqAV s (shA a.w (-1)) (pl s (shA a.w (-1))) with
      | false => exact ⟨_, rfl, ho1⟩
      | true =>
        rw [Bool.and_eq_true] at hb
        obtain ⟨j', f1, _⟩ := ho.me _ (mget_mem hm)
        have ej := eqAV_ok ho hb.2 (shA_ev a4.2) f1
        have ec := me_at ho hm f1 hb.1
        obtain ⟨_, _, _, ⟨_, d2, _⟩⟩ := h7
        have h5 : 5 ≤ (σ.1 K.w j').toInt := qop_pos (d2 j' (by omega))
        obtain ⟨s', e1, e2⟩ := refd_ok ho1 ec (dom_i ho1 hb.1 ec) (d := [(5, 2147483647)]) ⟨_, List.mem_cons_self .., h5, Int32.toInt_le _⟩
        exact ⟨s', e1, e2⟩
    · exact ⟨_, rfl, ho1⟩
  · exact ⟨s, rfl, ho⟩
theorem hr32_ok (hq : QH T G cs K) (ho : Ok (Jf T G (cS cs)) s ρ σ) : Ok (Jf T G (cS cs)) (hr32 K s) ρ σ := by
  unfold hr32
  split
  · rename_i a hg
    obtain ⟨H, i1, i2⟩ := ho.inv
    obtain ⟨s0, sz, s8, s7, s5, s6⟩ := hq.S i2
    obtain ⟨zf, ze, zh, zw, zb, zn, zq, a1, a2, a3, a4, a5, a6, a7⟩ := qget_ok i1 hg
    have h7 := s7 zf ze zh zw zb zn zq a1.1 a2.1 a3.1 a4.1 a5.1 a6.1 a7.1
    split
    · rename_i c hm
      cases hb : c.isI && eqAV s (shA a.w (-1)) (pl s (shA a.w (-1))) with
      | false => exact ho
      | true =>
        rw [Bool.and_eq_true] at hb
        simp only [cond_true]
        obtain ⟨j', f1, _⟩ := ho.me _ (mget_mem hm)
        have ej := eqAV_ok ho hb.2 (shA_ev a4.2) f1
        have ec := me_at ho hm f1 hb.1
        have ew : (zw - 1).toNat = j' := by omega
        have ev4 : ev ρ (shA a.w (-1)) = some (zw - 1) := by rw [shA_ev a4.2]; exact congrArg some (by omega)
        have ev5 : ev ρ (shA a.b (-1)) = some (zb - 1) := by rw [shA_ev a5.2]; exact congrArg some (by omega)
        cases c1 : Nat.beq (qcl s c) 1 with
        | true =>
          have ho1 := qcl_ok ho hb.1 ec c1 (by decide)
          have h8 : Q7 (Pp σ K.c) (Pp σ K.s) (Pp σ K.e) (Pp σ K.w) zf ze zh (zw - 1) zb zn zq := Q7_pop h7 (by omega) (by rw [ew, show qop (Pp σ K.w j') = 1 from ho1, if_neg (by decide)]; omega)
          have hB := Q7_B h8
          exact q_upd hq (below_ok ho a5.2 ev4 hB.2) i1 i2 a1.1 a2.1 a3.1 a4.1 a5.1 a6.1 a7.1 [(324, zw - 1)] ⟨⟨rfl, ev4⟩, trivial⟩ rfl ⟨rfl, rfl, rfl, rfl, rfl⟩ h8
        | false =>
          simp only [cond_false]
          cases c2 : Nat.beq (qcl s c) 2 with
          | true =>
            have ho1 := qcl_ok ho hb.1 ec c2 (by decide)
            have h8 : Q7 (Pp σ K.c) (Pp σ K.s) (Pp σ K.e) (Pp σ K.w) zf ze zh (zw - 1) (zb - 1) zn zq := Q7_pop h7 (by omega) (by rw [ew, show qop (Pp σ K.w j') = 2 from ho1, if_pos rfl]; omega)
            have hB := Q7_B h8
            exact q_upd hq (below_ok (below_ok ho (a := .c 0) (x := 0) rfl ev5 hB.1) ev5 ev4 hB.2) i1 i2 a1.1 a2.1 a3.1 a4.1 a5.1 a6.1 a7.1 [(324, zw - 1), (325, zb - 1)] ⟨⟨rfl, ev4⟩, ⟨rfl, ev5⟩, trivial⟩ rfl ⟨rfl, rfl, rfl, rfl, rfl⟩ h8
          | false => exact ho
    · exact ho
  · exact ho
theorem hr33_ok (hq : QH T G cs K) (ho : Ok (Jf T G (cS cs)) s ρ σ) : Ok (Jf T G (cS cs)) (hr33 K s) ρ σ := by
  unfold hr33
  split
  · rename_i a hg
    obtain ⟨H, i1, i2⟩ := ho.inv
    obtain ⟨s0, sz, s8, s7, s5, s6⟩ := hq.S i2
    obtain ⟨zf, ze, zh, zw, zb, zn, zq, a1, a2, a3, a4, a5, a6, a7⟩ := qget_ok i1 hg
    have h7 := s7 zf ze zh zw zb zn zq a1.1 a2.1 a3.1 a4.1 a5.1 a6.1 a7.1
    split
    · rename_i c hm
      cases hb : c.isI && eqAV s a.e (pl s a.e) with
      | false => exact ho
      | true =>
        rw [Bool.and_eq_true] at hb
        simp only [cond_true]
        obtain ⟨j', f1, _⟩ := ho.me _ (mget_mem hm)
        have ej := eqAV_ok ho hb.2 a2.2 f1
        have ec := me_at ho hm f1 hb.1
        have ew : ze.toNat = j' := by omega
        have ev2 : ev ρ (shA a.e 1) = some (ze + 1) := shA_ev a2.2
        cases c0 : Nat.beq (qcl s c) 0 with
        | true =>
          have ho1 : qop (Pp σ K.c ze.toNat) = 0 := by rw [ew]; exact qcl_ok ho hb.1 ec c0 (by decide)
          exact q_upd hq ho i1 i2 a1.1 a2.1 a3.1 a4.1 a5.1 a6.1 a7.1 [(322, ze + 1), (323, zh + 1)] ⟨⟨rfl, ev2⟩, ⟨rfl, shA_ev a3.2⟩, trivial⟩ rfl ⟨rfl, rfl, rfl, rfl, rfl⟩ (Q7_app h7 (qst0 ho1))
        | false =>
          simp only [cond_false]
          cases c1 : Nat.beq (qcl s c) 1 && leAV s (.c 1) a.h with
          | true =>
            rw [Bool.and_eq_true] at c1
            have ho1 : qop (Pp σ K.c ze.toNat) = 1 := by rw [ew]; exact qcl_ok ho hb.1 ec c1.1 (by decide)
            have hle := leAV_ok ho c1.2 (x := 1) rfl a3.2
            exact q_upd hq ho i1 i2 a1.1 a2.1 a3.1 a4.1 a5.1 a6.1 a7.1 [(322, ze + 1)] ⟨⟨rfl, ev2⟩, trivial⟩ rfl ⟨rfl, rfl, rfl, rfl, rfl⟩ (Q7_app h7 (qst1 ho1 hle))
          | false =>
            simp only [cond_false]
            cases c2 : Nat.beq (qcl s c) 2 && leAV s (.c 2) a.h with
            | true =>
              rw [Bool.and_eq_true] at c2
              have ho1 : qop (Pp σ K.c ze.toNat) = 2 := by rw [ew]; exact qcl_ok ho hb.1 ec c2.1 (by decide)
              have hle := leAV_ok ho c2.2 (x := 2) rfl a3.2
              have ev3 : ev ρ (shA a.h (-1)) = some (zh - 1) := by rw [shA_ev a3.2]; exact congrArg some (by omega)
              exact q_upd hq ho i1 i2 a1.1 a2.1 a3.1 a4.1 a5.1 a6.1 a7.1 [(322, ze + 1), (323, zh - 1)] ⟨⟨rfl, ev2⟩, ⟨rfl, ev3⟩, trivial⟩ rfl ⟨rfl, rfl, rfl, rfl, rfl⟩ (Q7_app h7 (qst2 ho1 hle))
            | false => exact ho
    · exact ho
  · exact ho
theorem hr38_ok (hq : QH T G cs K) (ho : Ok (Jf T G (cS cs)) s ρ σ) : Ok (Jf T G (cS cs)) (hr38 K s) ρ σ := by
  unfold hr38
  split
  · rename_i a hg
    obtain ⟨H, i1, i2⟩ := ho.inv
    obtain ⟨s0, sz, s8, s7, s5, s6⟩ := hq.S i2
    obtain ⟨zf, ze, zh, zw, zb, zn, zq, a1, a2, a3, a4, a5, a6, a7⟩ := qget_ok i1 hg
    have h7 := s7 zf ze zh zw zb zn zq a1.1 a2.1 a3.1 a4.1 a5.1 a6.1 a7.1
    split
    · rename_i c hm
      cases hb : c.isI && eqAV s a.w (pl s a.w) with
      | false => exact ho
      | true =>
        rw [Bool.and_eq_true] at hb
        simp only [cond_true]
        obtain ⟨j', f1, _⟩ := ho.me _ (mget_mem hm)
        have ej := eqAV_ok ho hb.2 a4.2 f1
        have ec := me_at ho hm f1 hb.1
        have ew : zw.toNat = j' := by omega
        have ev4 : ev ρ (shA a.w 1) = some (zw + 1) := shA_ev a4.2
        cases c1 : Nat.beq (qcl s c) 1 with
        | true =>
          have ho1 : qop (Pp σ K.w zw.toNat) = 1 := by rw [ew]; exact qcl_ok ho hb.1 ec c1 (by decide)
          exact q_upd hq ho i1 i2 a1.1 a2.1 a3.1 a4.1 a5.1 a6.1 a7.1 [(324, zw + 1)] ⟨⟨rfl, ev4⟩, trivial⟩ rfl ⟨rfl, rfl, rfl, rfl, rfl⟩ (Q7_push h7 (by rw [ho1]; decide) (by rw [ho1, if_neg (by decide)]; exact (Int.add_zero zb).symm))
        | false =>
          simp only [cond_false]
          cases c2 : Nat.beq (qcl s c) 2 with
          | true =>
            have ho1 : qop (Pp σ K.w zw.toNat) = 2 := by rw [ew]; exact qcl_ok ho hb.1 ec c2 (by decide)
            exact q_upd hq ho i1 i2 a1.1 a2.1 a3.1 a4.1 a5.1 a6.1 a7.1 [(324, zw + 1), (325, zb + 1)] ⟨⟨rfl, ev4⟩, ⟨rfl, shA_ev a5.2⟩, trivial⟩ rfl ⟨rfl, rfl, rfl, rfl, rfl⟩ (Q7_push h7 (by rw [ho1]; decide) (by rw [ho1, if_pos rfl]; rfl))
          | false => exact ho
    · exact ho
  · exact ho
theorem hr34_ok (hq : QH T G cs K) (ho : Ok (Jf T G (cS cs)) s ρ σ) : Ok (Jf T G (cS cs)) (hr34 s) ρ σ := by
  unfold hr34
  split
  · rename_i a hg
    obtain ⟨H, i1, i2⟩ := ho.inv
    obtain ⟨s0, sz, s8, s7, s5, s6⟩ := hq.S i2
    obtain ⟨zf, ze, zh, zw, zb, zn, zq, a1, a2, a3, a4, a5, a6, a7⟩ := qget_ok i1 hg
    have h7 := s7 zf ze zh zw zb zn zq a1.1 a2.1 a3.1 a4.1 a5.1 a6.1 a7.1
    exact q_upd hq ho i1 i2 a1.1 a2.1 a3.1 a4.1 a5.1 a6.1 a7.1 [(324, 0), (325, 0)] ⟨⟨rfl, rfl⟩, ⟨rfl, rfl⟩, trivial⟩ rfl ⟨rfl, rfl, rfl, rfl, rfl⟩ (Q7_zero h7)
  · exact ho
theorem hr35_ok (hq : QH T G cs K) (ho : Ok (Jf T G (cS cs)) s ρ σ) : Ok (Jf T G (cS cs)) (hr35 s) ρ σ := by
  unfold hr35
  split
  · rename_i a hg
    obtain ⟨H, i1, i2⟩ := ho.inv
    obtain ⟨s0, sz, s8, s7, s5, s6⟩ := hq.S i2
    obtain ⟨zf, ze, zh, zw, zb, zn, zq, a1, a2, a3, a4, a5, a6, a7⟩ := qget_ok i1 hg
    have h7 := s7 zf ze zh zw zb zn zq a1.1 a2.1 a3.1 a4.1 a5.1 a6.1 a7.1
    exact q_upd hq ho i1 i2 a1.1 a2.1 a3.1 a4.1 a5.1 a6.1 a7.1 [(321, ze), (323, 0)] ⟨⟨rfl, a2.2⟩, ⟨rfl, rfl⟩, trivial⟩ rfl ⟨rfl, rfl, rfl, rfl, rfl⟩ (Q7_rule h7)
  · exact ho
theorem hr36_ok (hq : QH T G cs K) {r : AV} {zr : Int} (er : ev ρ r = some zr) (ho : Ok (Jf T G (cS cs)) s ρ σ) : Ok (Jf T G (cS cs)) (hr36 K r s) ρ σ := by
  unfold hr36
  split
  · rename_i a hg
    obtain ⟨H, i1, i2⟩ := ho.inv
    obtain ⟨s0, sz, s8, s7, s5, s6⟩ := hq.S i2
    obtain ⟨zf, ze, zh, zw, zb, zn, zq, a1, a2, a3, a4, a5, a6, a7⟩ := qget_ok i1 hg
    have h7 := s7 zf ze zh zw zb zn zq a1.1 a2.1 a3.1 a4.1 a5.1 a6.1 a7.1
    split
    · rename_i x y hx hy
      cases hb : (x.isI && y.isI) && (((eqAV s a.n r && eqAV s r (pl s r)) && leAV s a.e (shA a.f 1300)) && (eqAV s x a.f && eqAV s y a.e)) with
      | false => exact ho
      | true =>
        simp only [Bool.and_eq_true] at hb
        obtain ⟨⟨b1, b2⟩, ⟨⟨b0, b3⟩, b4⟩, b5, b6⟩ := hb
        obtain ⟨j', f1, _⟩ := ho.me _ (mget_mem hx)
        have en := eqAV_ok ho b0 a6.2 er
        have ej := eqAV_ok ho b3 er f1
        have ew : zn.toNat = j' := by omega
        have c1 := eqAV_ok ho b5 (me_at ho hx f1 b1) a1.2
        have c2 := eqAV_ok ho b6 (me_at ho hy f1 b2) a2.2
        have c3 := leAV_ok ho b4 a2.2 (shA_ev a1.2)
        have h8 : Q7 (Pp σ K.c) (Pp σ K.s) (Pp σ K.e) (Pp σ K.w) zf ze zh zw zb (zn + 1) zq := Q7_done h7 (by rw [ew]; exact c1) (by rw [ew]; exact c2) (by omega) (by omega)
        exact q_upd hq ho i1 i2 a1.1 a2.1 a3.1 a4.1 a5.1 a6.1 a7.1 [(327, zn + 1)] ⟨⟨rfl, shA_ev a6.2⟩, trivial⟩ rfl ⟨rfl, rfl, rfl, rfl, rfl⟩ h8
    · exact ho
  · exact ho
theorem hr37_ok (hq : QH T G cs K) {jC : Nat} (ho : Ok (Jf T G (cS cs)) s ρ σ) : ∃ ρ', Pre ρ ρ' ∧ Ok (Jf T G (cS cs)) (hr37 K jC s) ρ' σ := by
  unfold hr37
  split
  · rename_i q e hm1 hm2
    cases hb : (q.isI && e.isI) && ((le3 s 1 e (-1300) q 0 (.c 0) 0 && le3 s 1300 q (-1) e 0 (.c 0) 0) && (leAV s (.c 0) q && leAV s q (.c 8))) with
    | false => exact ⟨ρ, Pre.rf, ho⟩
    | true =>
      simp only [Bool.and_eq_true] at hb
      obtain ⟨⟨b1, b2⟩, ⟨b3, b4⟩, b5, b6⟩ := hb
      obtain ⟨H, i1, i2⟩ := ho.inv
      obtain ⟨s0, sz, s8, s7, s5, s6⟩ := hq.S i2
      have eq := me_at ho hm1 (j := K.p) rfl b1
      have ee := me_at ho hm2 (j := jC) rfl b2
      obtain ⟨zq, hz⟩ : ∃ z, z = (σ.1 K.f K.p).toInt := ⟨_, rfl⟩
      rw [← hz] at eq
      obtain ⟨ze, hze⟩ : ∃ z, z = (σ.1 K.f jC).toInt := ⟨_, rfl⟩
      rw [← hze] at ee
      have c1 := le3_ok ho b3 ee eq (w := 0) rfl
      have c2 := le3_ok ho b4 eq ee (w := 0) rfl
      have c3 := leAV_ok ho b5 (x := 0) rfl eq
      have c4 := leAV_ok ho b6 eq (y := 8) rfl
      have hn := ho.new (x := 30 * zq) (d := [(0, 240)]) ⟨_, List.mem_cons_self .., by dsimp only; omega, by dsimp only; omega⟩
      have hp : Pre ρ (ρ ++ [30 * zq]) := ⟨_, rfl⟩
      obtain ⟨v, n1, n2⟩ := nf_ok hn (ev.mono hp eq)
      have t1 : tvo (ρ ++ [30 * zq]) [(s.nx, 1)] = some (30 * zq) := by
        simp only [tvo, ho.new_at (x := 30 * zq)]
        exact congrArg some (by omega)
      have t2 : tvo (ρ ++ [30 * zq]) [(s.nx, -1)] = some (-(30 * zq)) := by
        simp only [tvo, ho.new_at (x := 30 * zq)]
        exact congrArg some (by omega)
      have f1 := factd_ok hn (tlin_ok (w := -30) n1 t1) (c := 30 * (nf (s.new [(0, 240)]) q).2) (by omega)
      have f2 := factd_ok f1 (tlin_ok (w := 30) n1 t2) (c := -30 * (nf (s.new [(0, 240)]) q).2) (by omega)
      refine ⟨ρ ++ [30 * zq], hp, ?_⟩
      have hoff : ∀ u, u < 321 ∨ 328 < u ∨ u = 326 → lk ((321, ze) :: (322, ze) :: (323, 0) :: (324, 0) :: (325, 0) :: (327, 30 * zq) :: (328, zq) :: H) u = lk H u := fun u hu => by
        rw [lk_cons, if_neg (by omega), lk_cons, if_neg (by omega), lk_cons, if_neg (by omega), lk_cons, if_neg (by omega), lk_cons, if_neg (by omega), lk_cons, if_neg (by omega), lk_cons, if_neg (by omega)]
      refine q_re hq (H' := (321, ze) :: (322, ze) :: (323, 0) :: (324, 0) :: (325, 0) :: (327, 30 * zq) :: (328, zq) :: H) f2 i2 ⟨⟨rfl, ev.mono hp ee⟩, ⟨rfl, ev.mono hp ee⟩, ⟨rfl, rfl⟩, ⟨rfl, rfl⟩, ⟨rfl, rfl⟩, ⟨rfl, ho.new_i⟩, ⟨rfl, ev.mono hp eq⟩, i1.mono hp⟩ (fun u hu => hoff u (by have := qtg_off hu; omega)) ⟨s0, fun q => sz ?_, fun P q => s8 P ?_, q7_of rfl rfl rfl rfl rfl rfl rfl (Q7_open (by omega) (by omega) rfl), fun r hr => s5 r ?_, fun k t h x y z => s6 k t h ?_ ?_ ?_⟩
      · rw [← hoff 341 (by omega)]; exact q
      · rw [← hoff 341 (by omega)]; exact q
      · rw [← hoff 326 (by omega)]; exact hr
      · rw [← hoff 312 (by omega)]; exact x
      · rw [← hoff 313 (by omega)]; exact y
      · rw [← hoff 314 (by omega)]; exact z
  · exact ⟨ρ, Pre.rf, ho⟩
theorem hr39_ok (hq : QH T G cs K) (ho : Ok (Jf T G (cS cs)) s ρ σ) : Ok (Jf T G (cS cs)) (hr39 s) ρ σ := by
  obtain ⟨H, i1, i2⟩ := ho.inv
  obtain ⟨s0, sz, s8, s7, s5, s6⟩ := hq.S i2
  refine q_re hq ho i2 (qdel_Hl i1) (fun u hu => lk_qdel (by have := qtg_off hu; omega)) ⟨s0, fun q => sz ?_, fun P q => s8 P ?_, fun f e h w B N P q => ?_, fun r hr => s5 r ?_, fun k t h x y z => s6 k t h ?_ ?_ ?_⟩
  · rw [← lk_qdel (H := H) (u := 341) (by omega)]; exact q
  · rw [← lk_qdel (H := H) (u := 341) (by omega)]; exact q
  · unfold qdel at q
    rw [lk_hdel, if_pos rfl] at q
    cases q
  · rw [← lk_qdel (H := H) (u := 326) (by omega)]; exact hr
  · rw [← lk_qdel (H := H) (u := 312) (by omega)]; exact x
  · rw [← lk_qdel (H := H) (u := 313) (by omega)]; exact y
  · rw [← lk_qdel (H := H) (u := 314) (by omega)]; exact z
theorem qtg_off2 {u : Nat} (h : qtg u = false) : u ≠ 312 ∧ u ≠ 313 ∧ u ≠ 314 ∧ u ≠ 326 := by
  refine ⟨?_, ?_, ?_, ?_⟩ <;> (intro e; rw [e] at h; exact absurd h (by decide))
theorem lk_qdel2 {H : List (Nat × Int)} {u : Nat} (h : u ≠ 312 ∧ u ≠ 313 ∧ u ≠ 314 ∧ u ≠ 326) : lk (qdel2 H) u = lk H u := by
  unfold qdel2
  rw [lk_hdel, if_neg h.1, lk_hdel, if_neg h.2.1, lk_hdel, if_neg h.2.2.1, lk_hdel, if_neg h.2.2.2]
theorem hr43_ok (hq : QH T G cs K) (ho : Ok (Jf T G (cS cs)) s ρ σ) : Ok (Jf T G (cS cs)) (hr43 s) ρ σ := by
  obtain ⟨H, i1, i2⟩ := ho.inv
  obtain ⟨s0, sz, s8, s7, s5, s6⟩ := hq.S i2
  refine q_re hq ho i2 (H' := qdel2 H) (hl' := qdel2 s.hl) i1.del.del.del.del (fun u hu => lk_qdel2 (qtg_off2 hu)) ⟨s0, fun q => sz ?_, fun P q => s8 P ?_, ?_, fun r hr => ?_, fun k t h x => ?_⟩
  · rw [← lk_qdel2 (H := H) (u := 341) (by decide)]; exact q
  · rw [← lk_qdel2 (H := H) (u := 341) (by decide)]; exact q
  · rw [lk_qdel2 (u := 321) (by decide), lk_qdel2 (u := 322) (by decide), lk_qdel2 (u := 323) (by decide), lk_qdel2 (u := 324) (by decide), lk_qdel2 (u := 325) (by decide), lk_qdel2 (u := 327) (by decide), lk_qdel2 (u := 328) (by decide)]
    exact s7
  · unfold qdel2 at hr
    rw [lk_hdel, if_neg (by decide), lk_hdel, if_neg (by decide), lk_hdel, if_neg (by decide), lk_hdel, if_pos rfl] at hr
    cases hr
  · unfold qdel2 at x
    rw [lk_hdel, if_pos rfl] at x
    cases x
theorem hr40_ok (hq : QH T G cs K) {p r : AV} {zp zr : Int} (ep : ev ρ p = some zp) (er : ev ρ r = some zr) (ho : Ok (Jf T G (cS cs)) s ρ σ) : Ok (Jf T G (cS cs)) (hr40 K p r s) ρ σ := by
  unfold hr40
  split
  · rename_i c hm1
    cases hb : c.isI && ((eqAV s p (pl s p) && leAV s p (.c 7)) && (le3 s 30 p (-1) r 0 (.c 0) 0 && le3 s 1 r (-30) p (-1) c (-1))) with
    | false => exact ho
    | true =>
      simp only [Bool.and_eq_true] at hb
      obtain ⟨b1, ⟨b3, b4⟩, b5, b6⟩ := hb
      obtain ⟨H, i1, i2⟩ := ho.inv
      obtain ⟨s0, sz, s8, s7, s5, s6⟩ := hq.S i2
      obtain ⟨j', f1, _⟩ := ho.me _ (mget_mem hm1)
      have ej := eqAV_ok ho b3 ep f1
      have ec := me_at ho hm1 f1 b1
      have c1 := leAV_ok ho b4 ep (y := 7) rfl
      have c2 := le3_ok ho b5 ep er (w := 0) rfl
      have c3 := le3_ok ho b6 er ep ec
      have hg := s0 j' (zr - 30 * zp).toNat (by omega) (by show _ < (σ.1 K.r j').toInt; omega)
      rw [show 30 * j' + (zr - 30 * zp).toNat = zr.toNat by omega] at hg
      have hoff : ∀ u, u ≠ 326 → lk ((326, zr) :: H) u = lk H u := fun u hu => by rw [lk_cons, if_neg hu]
      refine q_re hq ho i2 (H' := (326, zr) :: H) ⟨⟨rfl, er⟩, i1⟩ (fun u hu => hoff u (qtg_off2 hu).2.2.2) ⟨s0, fun q => sz ?_, fun P q => s8 P ?_, ?_, fun r' hr => ?_, ?_⟩
      · rw [← hoff 341 (by decide)]; exact q
      · rw [← hoff 341 (by decide)]; exact q
      · rw [hoff 321 (by decide), hoff 322 (by decide), hoff 323 (by decide), hoff 324 (by decide), hoff 325 (by decide), hoff 327 (by decide), hoff 328 (by decide)]
        exact s7
      · rw [lk_cons, if_pos rfl] at hr
        cases hr
        exact ⟨by omega, hg.1⟩
      · rw [hoff 312 (by decide), hoff 313 (by decide), hoff 314 (by decide)]
        exact s6
  · exact ho
theorem hr41_ok (hq : QH T G cs K) (ho : Ok (Jf T G (cS cs)) s ρ σ) : Ok (Jf T G (cS cs)) (hr41 K s) ρ σ := by
  unfold hr41
  split
  · rename_i r hr
    split
    · rename_i a b hm1 hm2
      cases hb : (a.isI && b.isI) && eqAV s r (pl s r) with
      | false => exact ho
      | true =>
        simp only [Bool.and_eq_true] at hb
        obtain ⟨⟨b1, b2⟩, b3⟩ := hb
        obtain ⟨H, i1, i2⟩ := ho.inv
        obtain ⟨s0, sz, s8, s7, s5, s6⟩ := hq.S i2
        obtain ⟨zr, r1, r2⟩ := hl_get i1 hr
        obtain ⟨j', f1, _⟩ := ho.me _ (mget_mem hm1)
        have ej := eqAV_ok ho b3 r2 f1
        have ea := me_at ho hm1 f1 b1
        have eb := me_at ho hm2 f1 b2
        obtain ⟨g0, g1, g2, g3, g4⟩ := s5 zr r1
        rw [show zr.toNat = j' by omega] at g1 g2 g3 g4
        have ho1 := below_ok (below_ok (below_ok ho (a := .c 0) (x := 0) rfl ea g1) ea eb g2) eb (show ev ρ (shA a 1300) = some ((σ.1 K.s j').toInt + 1300) from shA_ev ea) g3
        have hoff : ∀ u, u < 312 ∨ (314 < u ∧ u ≠ 326) → lk ((312, (σ.1 K.s j').toInt) :: (313, (σ.1 K.e j').toInt) :: (314, 0) :: hdel 326 H) u = lk H u := fun u hu => by
          rw [lk_cons, if_neg (by omega), lk_cons, if_neg (by omega), lk_cons, if_neg (by omega), lk_hdel, if_neg (by omega)]
        refine q_re hq ho1 i2 (H' := (312, (σ.1 K.s j').toInt) :: (313, (σ.1 K.e j').toInt) :: (314, 0) :: hdel 326 H) ⟨⟨rfl, ea⟩, ⟨rfl, eb⟩, ⟨rfl, rfl⟩, i1.del⟩ (fun u hu => hoff u (by have := qtg_off2 hu; omega)) ⟨s0, fun q => sz ?_, fun P q => s8 P ?_, ?_, fun r' hr' => ?_, fun k t h x y z => ?_⟩
        · rw [← hoff 341 (by omega)]; exact q
        · rw [← hoff 341 (by omega)]; exact q
        · rw [hoff 321 (by omega), hoff 322 (by omega), hoff 323 (by omega), hoff 324 (by omega), hoff 325 (by omega), hoff 327 (by omega), hoff 328 (by omega)]
          exact s7
        · rw [lk_cons, if_neg (by decide), lk_cons, if_neg (by decide), lk_cons, if_neg (by decide), lk_hdel, if_pos rfl] at hr'
          cases hr'
        · rw [lk_cons, if_pos rfl] at x
          rw [lk_cons, if_neg (by decide), lk_cons, if_pos rfl] at y
          rw [lk_cons, if_neg (by decide), lk_cons, if_neg (by decide), lk_cons, if_pos rfl] at z
          cases x; cases y; cases z
          exact ⟨g1, g2, g4⟩
    · exact ho
  · exact ho
/-- a place of code, its end and the height there take other values -/
theorem q_upd2 (hq : QH T G cs K) {s1 : Sy} {hl : List (Nat × AV)} {H : List (Nat × Int)} (ho1 : Ok (Jf T G (cS cs)) s1 ρ σ) (i1 : Hl ρ hl H) (i2 : Jf T G (cS cs) H σ) {k t h : Int} (a1 : lk H 312 = some k) (a2 : lk H 313 = some t) (a3 : lk H 314 = some h) {l : List (Nat × AV)} (L : List (Nat × Int)) (hlL : Hl ρ l L) (hL : (L.all fun e => qtg e.1) = true) (hN : ∀ u, u = 326 ∨ u = 321 ∨ u = 322 ∨ u = 323 ∨ u = 324 ∨ u = 325 ∨ u = 327 ∨ u = 328 ∨ u = 341 → lk L u = none) (h6 : 0 ≤ (lk L 312).getD k ∧ (lk L 312).getD k ≤ (lk L 313).getD t ∧ qrun (Pp σ K.c) ((lk L 313).getD t - (lk L 312).getD k).toNat ((lk L 312).getD k).toNat ((lk L 314).getD h) ≠ none) : Ok (Jf T G (cS cs)) (s1.seth (qmap l hl)) ρ σ := by
  obtain ⟨s0, sz, s8, s7, s5, s6⟩ := hq.S i2
  refine q_re hq ho1 i2 (Hl_qmap hlL i1) (fun u hu => lk_qne (lk_off hL hu)) ⟨s0, fun q => sz ?_, fun P q => s8 P ?_, ?_, ?_, fun k' t' h' x y z => ?_⟩
  · rw [← lk_qne (H := H) (hN 341 (by omega))]; exact q
  · rw [← lk_qne (H := H) (hN 341 (by omega))]; exact q
  · rw [lk_qne (hN 321 (by omega)), lk_qne (hN 322 (by omega)), lk_qne (hN 323 (by omega)), lk_qne (hN 324 (by omega)), lk_qne (hN 325 (by omega)), lk_qne (hN 327 (by omega)), lk_qne (hN 328 (by omega))]
    exact s7
  · rw [lk_qne (hN 326 (by omega))]
    exact s5
  · rw [lk_qm a1] at x
    rw [lk_qm a2] at y
    rw [lk_qm a3] at z
    cases x; cases y; cases z
    exact h6
theorem hr42_ok (hq : QH T G cs K) (ho : Ok (Jf T G (cS cs)) s ρ σ) : Ok (Jf T G (cS cs)) (hr42 K s) ρ σ := by
  unfold hr42
  split
  · rename_i k t h hk ht hh
    split
    · rename_i c hm
      cases hb : (c.isI && eqAV s k (pl s k)) && leAV s (shA k 1) t with
      | false => exact ho
      | true =>
        simp only [Bool.and_eq_true] at hb
        obtain ⟨⟨b1, b2⟩, b3⟩ := hb
        simp only [cond_true]
        obtain ⟨H, i1, i2⟩ := ho.inv
        obtain ⟨s0, sz, s8, s7, s5, s6⟩ := hq.S i2
        obtain ⟨zk, k1, k2⟩ := hl_get i1 hk
        obtain ⟨zt, t1, t2⟩ := hl_get i1 ht
        obtain ⟨zh, h1, h2⟩ := hl_get i1 hh
        obtain ⟨j', f1, _⟩ := ho.me _ (mget_mem hm)
        have ej := eqAV_ok ho b2 k2 f1
        have ec := me_at ho hm f1 b1
        have hlt := leAV_ok ho b3 (shA_ev k2) t2
        obtain ⟨g1, g2, g3⟩ := s6 zk zt zh k1 t1 h1
        rw [show (zt - zk).toNat = (zt - (zk + 1)).toNat + 1 by omega] at g3
        have g4 : (qst (Pp σ K.c zk.toNat) zh).bind (fun h' => qrun (Pp σ K.c) (zt - (zk + 1)).toNat (zk.toNat + 1) h') ≠ none := g3
        rw [show zk.toNat + 1 = (zk + 1).toNat by omega] at g4
        have hN : ∀ {a b : Int} (u : Nat), u = 326 ∨ u = 321 ∨ u = 322 ∨ u = 323 ∨ u = 324 ∨ u = 325 ∨ u = 327 ∨ u = 328 ∨ u = 341 → lk [(312, a), (314, b)] u = none := fun u hu => by
          rcases hu with e | e | e | e | e | e | e | e | e <;> (subst e; rfl)
        have hN1 : ∀ {a : Int} (u : Nat), u = 326 ∨ u = 321 ∨ u = 322 ∨ u = 323 ∨ u = 324 ∨ u = 325 ∨ u = 327 ∨ u = 328 ∨ u = 341 → lk [(312, a)] u = none := fun u hu => by
          rcases hu with e | e | e | e | e | e | e | e | e <;> (subst e; rfl)
        have ek : ev ρ (shA k 1) = some (zk + 1) := shA_ev k2
        have ew : zk.toNat = j' := by omega
        cases c0 : Nat.beq (qcl s c) 0 with
        | true =>
          have ho1 : qop (Pp σ K.c zk.toNat) = 0 := by rw [ew]; exact qcl_ok ho b1 ec c0 (by decide)
          rw [qst0 ho1] at g4
          exact q_upd2 hq ho i1 i2 k1 t1 h1 [(312, zk + 1), (314, zh + 1)] ⟨⟨rfl, ek⟩, ⟨rfl, shA_ev h2⟩, trivial⟩ rfl hN ⟨by show 0 ≤ zk + 1; omega, hlt, g4⟩
        | false =>
          simp only [cond_false]
          cases c1 : Nat.beq (qcl s c) 1 with
          | true =>
            have ho1 : qop (Pp σ K.c zk.toNat) = 1 := by rw [ew]; exact qcl_ok ho b1 ec c1 (by decide)
            have hle : 1 ≤ zh := qst1n ho1 (fun e => g4 (by rw [e]; rfl))
            rw [qst1 ho1 hle] at g4
            exact q_upd2 hq (below_ok ho (a := .c 1) (x := 1) rfl h2 hle) i1 i2 k1 t1 h1 [(312, zk + 1)] ⟨⟨rfl, ek⟩, trivial⟩ rfl hN1 ⟨by show 0 ≤ zk + 1; omega, hlt, g4⟩
          | false =>
            simp only [cond_false]
            cases c2 : Nat.beq (qcl s c) 2 with
            | true =>
              have ho1 : qop (Pp σ K.c zk.toNat) = 2 := by rw [ew]; exact qcl_ok ho b1 ec c2 (by decide)
              have hle : 2 ≤ zh := qst2n ho1 (fun e => g4 (by rw [e]; rfl))
              rw [qst2 ho1 hle] at g4
              have ev3 : ev ρ (shA h (-1)) = some (zh - 1) := by rw [shA_ev h2]; exact congrArg some (by omega)
              exact q_upd2 hq (below_ok ho (a := .c 2) (x := 2) rfl h2 hle) i1 i2 k1 t1 h1 [(312, zk + 1), (314, zh - 1)] ⟨⟨rfl, ek⟩, ⟨rfl, ev3⟩, trivial⟩ rfl hN ⟨by show 0 ≤ zk + 1; omega, hlt, g4⟩
            | false => exact ho
    · exact ho
  · exact ho
end H24
/-! ===== sums by fives ===== -/
def d5 (w : Int) : Bool := ile (w % 5) 0
def h30f (f : Lf) (c : Int) (s : Sy) : Sy := bif f.any (fun t => d5 t.2) then (match tub s (tlin (-1) (f.filter fun t => !(d5 t.2)) []) 0 with
  | some u => s.factd ((f.filter fun t => d5 t.2).map fun t => (t.1, t.2 / 5)) ((c + u) / 5)
  | none => s) else s
def h30 : List (Lf × Int) → Sy → Sy
  | [], s => s
  | e :: r, s => h30 r (h30f e.1 e.2 s)
theorem five_ok {ρ : List Int} : ∀ {f : Lf} {v : Int}, tvo ρ f = some v → ∃ g r, tvo ρ ((f.filter fun t => d5 t.2).map fun t => (t.1, t.2 / 5)) = some g ∧ tvo ρ (f.filter fun t => !(d5 t.2)) = some r ∧ v = 5 * g + r
  | [], v, hv => ⟨0, 0, rfl, rfl, by cases Option.some.inj hv; rfl⟩
  | t :: f, v, hv => by
    unfold tvo at hv
    cases h1 : ρ[t.1]? with
    | none => rw [h1] at hv; cases hv
    | some x =>
      rw [h1] at hv
      cases h2 : tvo ρ f with
      | none => rw [h2] at hv; cases hv
      | some y =>
        rw [h2] at hv
        have hv : t.2 * x + y = v := Option.some.inj hv
        obtain ⟨g, r, e1, e2, e3⟩ := five_ok h2
        cases hd : d5 t.2 with
        | true =>
          refine ⟨t.2 / 5 * x + g, r, ?_, ?_, ?_⟩
          · simp only [List.filter, hd, List.map, tvo, h1, e1]
          · simp only [List.filter, hd, Bool.not_true, e2]
          · unfold d5 at hd
            have h3 := ile_iff.mp hd
            have h4 : t.2 = 5 * (t.2 / 5) := by omega
            have h5 : t.2 * x = 5 * (t.2 / 5 * x) := by rw [← Int.mul_assoc, ← h4]
            omega
        | false =>
          refine ⟨g, t.2 * x + r, ?_, ?_, by omega⟩
          · simp only [List.filter, hd, e1]
          · simp only [List.filter, hd, Bool.not_false, tvo, h1, e2]
theorem h30_ok {J : Jt} {ρ : List Int} {σ : zS} : ∀ {l : List (Lf × Int)} {s : Sy}, Ok J s ρ σ → (∀ e ∈ l, ∃ v, tvo ρ e.1 = some v ∧ v ≤ e.2) → Ok J (h30 l s) ρ σ
  | [], s, ho, _ => ho
  | e :: r, s, ho, hl => by
    unfold h30
    refine h30_ok ?_ (fun e' he' => hl e' (List.mem_cons_of_mem e he'))
    obtain ⟨v, v1, v2⟩ := hl e (List.mem_cons_self ..)
    unfold h30f
    cases e.1.any (fun t => d5 t.2) with
    | false => exact ho
    | true =>
      simp only [cond_true]
      split
      · rename_i u hu
        obtain ⟨g, q, e1, e2, e3⟩ := five_ok v1
        have h1 := tub_ok ho hu (neg_tvo e2)
        exact factd_ok ho e1 (by omega)
      · exact ho
/-! ===== sums that are seen, kept ===== -/
/-- e + w (or e alone) + c is at most 1300 q + a field -/
def hr44 (K : QK) (b : Bool) (j c : Nat) (s : Sy) : Sy := match qget s.hl, mget s.me K.f (.c (j : Int)) with
  | some a, some v => bif v.isI && leq s (tlin 1 (nf s a.e).1 (tlin (bif b then 1 else 0) (nf s a.w).1 (tlin (-1300) (nf s a.q).1 (tlin (-1) (nf s v).1 [])))) (-(c : Int) - (nf s a.e).2 - (bif b then (nf s a.w).2 else 0) + 1300 * (nf s a.q).2 + (nf s v).2) then s.factd (tlin 1 (nf s a.e).1 (tlin (bif b then 1 else 0) (nf s a.w).1 (tlin (-1300) (nf s a.q).1 (tlin (-1) (nf s v).1 [])))) (-(c : Int) - (nf s a.e).2 - (bif b then (nf s a.w).2 else 0) + 1300 * (nf s a.q).2 + (nf s v).2) else s
  | _, _ => s
theorem hr44_ok {J : Jt} {s : Sy} {ρ : List Int} {σ : zS} {K : QK} {b : Bool} {j c : Nat} (ho : Ok J s ρ σ) : Ok J (hr44 K b j c s) ρ σ := by
  unfold hr44
  split
  · rename_i a v hg hm
    cases hb : v.isI && leq s (tlin 1 (nf s a.e).1 (tlin (bif b then 1 else 0) (nf s a.w).1 (tlin (-1300) (nf s a.q).1 (tlin (-1) (nf s v).1 [])))) (-(c : Int) - (nf s a.e).2 - (bif b then (nf s a.w).2 else 0) + 1300 * (nf s a.q).2 + (nf s v).2) with
    | false => exact ho
    | true =>
      rw [Bool.and_eq_true] at hb
      obtain ⟨H, i1, _⟩ := ho.inv
      obtain ⟨zf, ze, zh, zw, zb, zn, zq, a1, a2, a3, a4, a5, a6, a7⟩ := qget_ok i1 hg
      obtain ⟨_, e1, _⟩ := nf_ok ho a2.2
      obtain ⟨_, e2, _⟩ := nf_ok ho a4.2
      obtain ⟨_, e3, _⟩ := nf_ok ho a7.2
      obtain ⟨_, e4, _⟩ := nf_ok ho (me_at ho hm (j := j) rfl hb.1)
      have t := tlin_ok (w := 1) e1 (tlin_ok (w := bif b then 1 else 0) e2 (tlin_ok (w := -1300) e3 (tlin_ok (w := -1) e4 (f := []) (v := 0) rfl)))
      exact factd_ok ho t (leq_ok ho hb.2 t)
  · exact ho
/-- sums of two numbers, put together -/
def h45b (f : Lf) (c : Int) : List (Lf × Int) → Sy → Sy
  | [], s => s
  | e :: r, s => h45b f c r (bif (Nat.beq e.1.length 2 && Nat.beq (nonz (tlin 1 e.1 f)).length 2) && !(leqd s 1 (nonz (tlin 1 e.1 f)) (c + e.2)) then s.factd (nonz (tlin 1 e.1 f)) (c + e.2) else s)
def h45a (l : List (Lf × Int)) : List (Lf × Int) → Sy → Sy
  | [], s => s
  | e :: r, s => h45a l r (bif Nat.beq e.1.length 2 then h45b e.1 e.2 l s else s)
theorem h45b_ok {J : Jt} {ρ : List Int} {σ : zS} {f : Lf} {c v : Int} (hv : tvo ρ f = some v) (hc : v ≤ c) : ∀ {l : List (Lf × Int)} {s : Sy}, Ok J s ρ σ → (∀ e ∈ l, ∃ v, tvo ρ e.1 = some v ∧ v ≤ e.2) → Ok J (h45b f c l s) ρ σ
  | [], s, ho, _ => ho
  | e :: r, s, ho, hl => by
    unfold h45b
    refine h45b_ok hv hc ?_ (fun e' he' => hl e' (List.mem_cons_of_mem e he'))
    obtain ⟨w, w1, w2⟩ := hl e (List.mem_cons_self ..)
    cases (Nat.beq e.1.length 2 && Nat.beq (nonz (tlin 1 e.1 f)).length 2) && !(leqd s 1 (nonz (tlin 1 e.1 f)) (c + e.2)) with
    | false => exact ho
    | true => exact factd_ok ho (nonz_ok (tlin_ok (w := 1) w1 hv)) (by omega)
theorem h45a_ok {J : Jt} {ρ : List Int} {σ : zS} {l0 : List (Lf × Int)} (h0 : ∀ e ∈ l0, ∃ v, tvo ρ e.1 = some v ∧ v ≤ e.2) : ∀ {l : List (Lf × Int)} {s : Sy}, Ok J s ρ σ → (∀ e ∈ l, ∃ v, tvo ρ e.1 = some v ∧ v ≤ e.2) → Ok J (h45a l0 l s) ρ σ
  | [], s, ho, _ => ho
  | e :: r, s, ho, hl => by
    unfold h45a
    refine h45a_ok h0 ?_ (fun e' he' => hl e' (List.mem_cons_of_mem e he'))
    obtain ⟨w, w1, w2⟩ := hl e (List.mem_cons_self ..)
    cases Nat.beq e.1.length 2 with
    | false => exact ho
    | true => exact h45b_ok w1 w2 ho h0
end
