noncomputable section
section P11
variable {E : xV} {Y : Nat → xY} {G : Gx} {J : Jt} {D : Nat → Bool} {w : List Nat} {σ0 : zS}
/-
theorem HX_wL9 (h : HObL9 G J) : HObL9 (Gw G w) (Jw J w σ0) := HOk_w0 h
-/
theorem HX_wL9 (h : HObL9 G J) : HObL9 (Gw G w) (Jw J w σ0) := ⟨HOk_w0 h.1, fun H σ t o b r q => ⟨h.2.1 H σ t o b r q.1, q.2⟩, fun H σ t o b c r q => ⟨h.2.2.1 H σ t o b c r q.1, q.2⟩, fun H σ x y v r q => ⟨h.2.2.2 H σ x y v r q.1, q.2⟩⟩
end P11
noncomputable def chk1EL9 (G : Gx) (D : Nat → Bool) (n z : Nat) (q : Ct) (w : List Nat) (hn : Hn9) (lb : List Lb) (sc : Sct) (an : List A1) (big : Nat) : Bool := entOk G z q.ar && walkPL9 (Gw G w) (D, (hn, (lb, sc))) (kt1 (Gw G w) q an ([], (big : Int))) n q.kn.sy [] [⟨z, 0, argLv 0 q.ar, []⟩]
noncomputable def chk1AL9 (G : Gx) (D : Nat → Bool) (n : Nat) (q : Ct) (w : List Nat) (hn : Hn9) (lb : List Lb) (sc : Sct) (an : List A1) (a : A1) : Bool := walkPL9 (Gw G w) (D, (hn, (lb, sc))) (kt1 (Gw G w) q an a.2.2) n a.2.1.sy [] a.1
section P12
variable {E : xV} {Y : Nat → xY} {G : Gx} {J : Jt} {D : Nat → Bool} {q : Ct} {w : List Nat} {hn : Hn9} {lb : List Lb} {sc : Sct} {an : List A1} {ρ0 : List Int} {σ0 : zS}
theorem all1_okL9 (hG : GxOk Y G) (hJ : POk G.g G.P J) (hX : HObL9 G J) (hT : ScT E Y (Jw J w σ0) (D, (hn, (lb, sc)))) (hl : ρ0.length = q.kn.ks.length) (ht : Tp ρ0 0 q.kn.ks) {n : Nat} (h : ∀ a ∈ an, chk1AL9 G D n q w hn lb sc an a = true) : ∀ N : Nat, I1 E Y (Jw J w σ0) D an ρ0 (Ks J q w ρ0 σ0) (N : Int)
  | 0 => fun a _ ρ σ cs m _ _ _ _ q1 q2 => by omega
  | N + 1 => fun a ha ρ σ cs m k1 k2 k3 k4 k5 k6 => by
    have ih := all1_okL9 hG hJ hX hT hl ht h N
    refine walkP_okL9 (E := E) (Y := Y) (G := Gw G w) (V := (D, (hn, (lb, sc)))) (Q := fun cs rv σ => SS E Y D cs rv σ (Ks J q w ρ0 σ0)) (ρ1 := ρ) hG (POk_w hJ) (HX_wL9 hX) SS.ql hT (kt1_ok (POk_w hJ) hl ht k1 k4 (fun b hb ρ' σ' cs' m' g1 g2 g3 g4 g5 g6 => ih b hb ρ' σ' cs' m' g1 g2 g3 g4 g5 (by omega))) n a.2.1.sy [] a.1 ρ σ cs (h a ha) Pre.rf k2.1 (fun e he => by cases he) k3
theorem root1_okL9 (hG : GxOk Y G) (hJ : POk G.g G.P J) (hX : HObL9 G J) (hT : ∀ σ0, ScT E Y (Jw J w σ0) (D, (hn, (lb, sc)))) {n z big : Nat} (hE : chk1EL9 G D n z q w hn lb sc an big = true) (hA : ∀ a ∈ an, chk1AL9 G D n q w hn lb sc an a = true) : ScOk E Y D J z q w := by
  intro ρ σ av hko ha
  have hl : ρ.length = q.kn.ks.length := hko.1.len
  unfold chk1EL9 at hE
  rw [Bool.and_eq_true] at hE
  have hI := all1_okL9 (E := E) (Y := Y) (J := J) (σ0 := σ) (ρ0 := ρ) (q := q) hG hJ hX (hT σ) hl hko.2 hA big
  have hk0 : Ok (Jw J w σ) q.kn.sy ρ σ := hko.1.addw (fun _ _ => ⟨rfl, rfl⟩)
  have hs := walkP_okL9 (E := E) (Y := Y) (G := Gw G w) (V := (D, (hn, (lb, sc)))) (Q := fun cs rv σ' => SS E Y D cs rv σ' (Ks J q w ρ σ)) (ρ1 := ρ) hG (POk_w hJ) (HX_wL9 hX) SS.ql (hT σ) (kt1_ok (mu0 := ([], (big : Int))) (M := 0) (POk_w hJ) hl hko.2 Pre.rf rfl (fun b hb ρ' σ' cs' m' g1 g2 g3 g4 g5 g6 => hI b hb ρ' σ' cs' m' g1 g2 g3 g4 g5 (by dsimp only at g6; omega))) n q.kn.sy [] [⟨z, 0, argLv 0 q.ar, []⟩] ρ σ [(z, (0, (lv_args 0 av, [])))] hE.2 Pre.rf hk0 (fun e he => by cases he) ⟨⟨⟨rfl, rfl⟩, argLv_ok ha, trivial⟩, trivial⟩
  obtain ⟨r, σ', hx, hk⟩ := hs
  exact ⟨r, σ', hx, hk⟩
end P12
end
