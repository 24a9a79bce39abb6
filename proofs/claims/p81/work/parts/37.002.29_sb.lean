noncomputable section
theorem bit_kL9 {o : Int32} {n : Nat} (hn : o.toInt = (n : Int)) (h : n < 6) : o = Int32.ofNat n := by
  have key : ∀ n, n < 6 → (Int32.ofNat n).toInt = (n : Int) := by decide
  exact Int32.toInt_inj.mp (hn.trans (key n h).symm)
theorem bit_oneL9 : ∀ n, n < 6 → ∀ m, m < 6 → bitN ((1 : Int32) <<< (Int32.ofNat n &&& 31)) m = decide (m = n) := by decide +kernel
theorem bit_m1L9 : ∀ m, m < 6 → bitN (-1 : Int32) m = true := by decide +kernel
theorem bit_smL9 : ∀ n, n < 6 → ((Int32.ofNat n &&& 31).toBitVec.smod 32#32).toNat = n := by decide +kernel
theorem bit_rdL9 {x o : Int32} {n : Nat} (hn : o.toInt = (n : Int)) (h : n < 6) : (Bo.i .iand (Bo.i .ishr x o) 1).toInt = b2i (bitN x n) := by
  rw [bit_kL9 hn h]
  show (x.toBitVec.sshiftRight ((Int32.ofNat n &&& 31).toBitVec.smod 32#32).toNat &&& 1#32).toInt = _
  rw [bit_smL9 n h, and_one, BitVec.getLsbD_sshiftRight]
  have e : n + 0 < 32 := by omega
  rw [if_pos e]
  rfl
theorem bit_stL9 {x o : Int32} {n m : Nat} (hn : o.toInt = (n : Int)) (h : n < 6) (hm : m < 6) : bitN (Bo.i .ior x (Bo.i .ishl 1 o)) m = (bitN x m || decide (m = n)) := by
  rw [bit_kL9 hn h]
  show bitN (x ||| (1 : Int32) <<< (Int32.ofNat n &&& 31)) m = _
  rw [bit_or, bit_oneL9 n h m hm]
theorem bit_clL9 {x o : Int32} {n m : Nat} (hn : o.toInt = (n : Int)) (h : n < 6) (hm : m < 6) : bitN (Bo.i .iand x (Bo.i .ixor (Bo.i .ishl 1 o) (-1))) m = (bitN x m && !(decide (m = n))) := by
  rw [bit_kL9 hn h]
  show bitN (x &&& ((1 : Int32) <<< (Int32.ofNat n &&& 31) ^^^ (-1))) m = _
  rw [bit_and, bit_xor, bit_oneL9 n h m hm, bit_m1L9 m hm, Bool.xor_true]
noncomputable def ini (a o : Nat) : Int := if a = 5 ∨ (a = 1 ∧ o = 0) then 1 else 0
theorem ini_ok : ∀ a, a < 6 → ∀ o, o < 6 → a ≠ o → (if 6 * a + o = 6 then (1 : Int) else if 30 ≤ 6 * a + o ∧ 6 * a + o < 35 then 1 else 0) = ini a o := by decide
noncomputable def efB (kH kF jB : Nat) (H : List (Nat × Int)) (σ : zS) (a o : Nat) : Int := if (σ.1 kF jB).toInt = 1 ∧ lk H 820 = none then (σ.1 kH (6 * a + o)).toInt else ini a o
noncomputable def R840L9 (t o b : Int) : Prop := ∃ x : Int32, x.toInt = t ∧ ∀ n : Nat, o = (n : Int) → n < 6 → b = b2i (bitN x n)
noncomputable def R843L9 (t o w c : Int) : Prop := ∃ x y : Int32, x.toInt = t ∧ y.toInt = w ∧ ∀ n : Nat, o = (n : Int) → n < 6 → ∀ m, m < 6 → b2i (bitN y m) = if m = n then c else b2i (bitN x m)
theorem R840L9.at {t o b : Int} (h : R840L9 t o b) {x : Int32} {n : Nat} (hx : x.toInt = t) (hn : o = (n : Int)) (h6 : n < 6) : b = b2i (bitN x n) := by
  obtain ⟨y, e, q⟩ := h
  have : y = x := Int32.toInt_inj.mp (e.trans hx.symm)
  subst this
  exact q n hn h6
theorem R843L9.at {t o w c : Int} (h : R843L9 t o w c) {x y : Int32} {n : Nat} (hx : x.toInt = t) (hy : y.toInt = w) (hn : o = (n : Int)) (h6 : n < 6) : ∀ m, m < 6 → b2i (bitN y m) = if m = n then c else b2i (bitN x m) := by
  obtain ⟨x', y', e1, e2, q⟩ := h
  have h1 : x' = x := Int32.toInt_inj.mp (e1.trans hx.symm)
  have h2 : y' = y := Int32.toInt_inj.mp (e2.trans hy.symm)
  subst h1
  subst h2
  exact q n hn h6
/-- the rows; 820; the open place -/
noncomputable def bS1 (kT kH kF jB : Nat) (H : List (Nat × Int)) (σ : zS) : Prop :=
  (∀ a o : Nat, a < 6 → o < 6 → a ≠ o → ¬ (lk H 821 = some (a : Int) ∧ lk H 822 = some (o : Int)) → b2i (bitN (σ.1 kT a) o) = efB kH kF jB H σ a o) ∧
  (lk H 820 = none → (σ.1 kF jB).toInt ≠ 1 → ∀ i : Nat, i < 36 → (σ.1 kH i).toInt = 0) ∧
  (∀ n, lk H 820 = some n → (σ.1 kF jB).toInt = 1 ∧ (0 ≤ n ∧ n ≤ 5) ∧ ∀ i : Nat, i < 36 → (σ.1 kH i).toInt = if 30 ≤ (i : Int) ∧ (i : Int) < 30 + n then 1 else 0) ∧
  ∀ p q, lk H 821 = some p → lk H 822 = some q → ∃ a o : Nat, p = (a : Int) ∧ q = (o : Int) ∧ a < 6 ∧ o < 6 ∧ a ≠ o ∧ (∀ c, lk H 823 = some c → b2i (bitN (σ.1 kT a) o) = c) ∧ ∀ v, lk H 824 = some v → efB kH kF jB H σ a o = v
noncomputable def bS2 (H : List (Nat × Int)) : Prop := (∀ t o b, lk H 840 = some t → lk H 841 = some o → lk H 842 = some b → R840L9 t o b) ∧ ∀ t o w c, lk H 843 = some t → lk H 844 = some o → lk H 845 = some w → lk H 846 = some c → R843L9 t o w c
noncomputable def bS9 (kT kH kF jB : Nat) (H : List (Nat × Int)) (σ : zS) : Prop := bS1 kT kH kF jB H σ ∧ bS2 H
noncomputable def bt9L9 (t : Nat) : Bool := Nat.ble 820 t && Nat.ble t 846
theorem bt9_no {u : Nat} (h : bt9L9 u = false) : ¬ (820 ≤ u ∧ u ≤ 846) := fun q => by
  have : bt9L9 u = true := by
    show (Nat.ble 820 u && Nat.ble u 846) = true
    rw [Bool.and_eq_true]
    exact ⟨Nat.ble_eq_true_of_le q.1, Nat.ble_eq_true_of_le q.2⟩
  rw [this] at h
  cases h
noncomputable def eq6 (s : Sy) (p a o : AV) : Bool := sle s [(p, 1), (a, -6), (o, -1)] 0 && sle s [(p, -1), (a, 6), (o, 1)] 0
theorem eq6_ok {J : Jt} {s : Sy} {ρ : List Int} {σ : zS} (ho : Ok J s ρ σ) {p a o : AV} {x y z : Int} (hp : ev ρ p = some x) (ha : ev ρ a = some y) (hz : ev ρ o = some z) (h : eq6 s p a o = true) : x = 6 * y + z := by
  have h : (sle s [(p, 1), (a, -6), (o, -1)] 0 && sle s [(p, -1), (a, 6), (o, 1)] 0) = true := h
  rw [Bool.and_eq_true] at h
  have g1 := sle_ok ho h.1 (evs3 hp ha hz)
  have g2 := sle_ok ho h.2 (evs3 hp ha hz)
  rw [smv3 hp ha hz] at g1 g2
  omega
noncomputable def bwF (kF jB : Nat) (s : Sy) (hl : List (Nat × AV)) (v : AV) : Option (List (Nat × AV)) := match mget s.me kF (.c (jB : Int)) with
  | some b => bif b.isI && eqA s v (.c 1) then (bif eqA s b (.c 1) then some hl else bif eqA s b (.c 0) && !(isS (lk hl 820)) then some ((820, .c 0) :: hl) else none) else none
  | none => none
noncomputable def bwH (kF jB : Nat) (s : Sy) (hl : List (Nat × AV)) (p v : AV) : Option (List (Nat × AV)) := match lk hl 820 with
  | some n => bif eqA s v (.c 1) then (bif eqA s p (shA n 30) && (leAV s n (.c 4) && leAV s (.c 0) n) then some (hup 820 (shA n 1) hl) else bif eqA s p (.c 6) && leAV s (.c 5) n then some (hdel 820 hl) else none) else none
  | none => match mget s.me kF (.c (jB : Int)) with
    | some b => (match lk hl 821, lk hl 822, lk hl 823 with
      | some a, some o, some c => bif (b.isI && eqA s b (.c 1)) && (eq6 s p a o && eqA s v c) then some (hdel 821 (hdel 822 (hdel 823 (hdel 824 hl)))) else none
      | _, _, _ => none)
    | none => none
noncomputable def bwT (kT : Nat) (s : Sy) (hl : List (Nat × AV)) (p v : AV) : Option (List (Nat × AV)) := match oth s kT p, lk hl 843, lk hl 844 with
  | some t, some t2, some o => (match lk hl 845, lk hl 846 with
    | some w, some c => (match lk hl 840, lk hl 841, lk hl 842 with
      | some t3, some o3, some b => bif ((!(isS (lk hl 820)) && !(isS (lk hl 821))) && ((eqA s t t2 && eqA s v w) && (eqA s t t3 && eqA s o o3))) && (((leAV s (.c 0) p && leAV s p (.c 5)) && (leAV s (.c 0) o && leAV s o (.c 5))) && (leAV s (shA p 1) o || leAV s (shA o 1) p)) then some ((821, p) :: (822, o) :: (823, c) :: (824, b) :: hdel 840 (hdel 841 (hdel 842 (hdel 843 (hdel 844 (hdel 845 (hdel 846 hl))))))) else none
      | _, _, _ => none)
    | _, _ => none)
  | _, _, _ => none
noncomputable def bw9 (kT kH kF jB : Nat) (s : Sy) (hl : List (Nat × AV)) (k : Nat) (p v : AV) : Option (List (Nat × AV)) :=
  bif Nat.beq k kF then (match p with
    | .inr (.inl (.ofNat j)) => bif Nat.beq j jB then bwF kF jB s hl v else some hl
    | _ => none)
  else bif Nat.beq k kH then bwH kF jB s hl p v else bwT kT s hl p v
section WB
variable {J : Jt} {s : Sy} {ρ : List Int} {σ : zS} {kT kH kF jB : Nat}
theorem hlg9 {hl : List (Nat × AV)} {H : List (Nat × Int)} (hh : Hl ρ hl H) {t : Nat} {a : AV} (h : lk hl t = some a) : ∃ z, lk H t = some z ∧ ev ρ a = some z := by
  rcases hh.lkp (t := t) with ⟨q1, _⟩ | ⟨a', z, q1, q2, q3⟩
  · rw [q1] at h; cases h
  · rw [q1] at h
    cases Option.some.inj h
    exact ⟨z, q2, q3⟩
theorem hln9 {hl : List (Nat × AV)} {H : List (Nat × Int)} (hh : Hl ρ hl H) {t : Nat} (h : (!(isS (lk hl t))) = true) : lk H t = none := by
  rcases hh.lkp (t := t) with ⟨_, q2⟩ | ⟨a, z, q1, _, _⟩
  · exact q2
  · rw [q1] at h; cases h
theorem bwF_ok {j : Nat} {v : AV} {x : Int32} {hl hl' : List (Nat × AV)} {H : List (Nat × Int)} (d1 : kF ≠ kT) (d2 : kF ≠ kH) (ho : Ok J s ρ σ) (hj : j = jB) (hx : ev ρ v = some x.toInt) (hw : bwF kF jB s hl v = some hl') (hh : Hl ρ hl H) (hS : bS9 kT kH kF jB H σ) : ∃ H', Hl ρ hl' H' ∧ bS9 kT kH kF jB H' (zI σ kF j x) ∧ ∀ u, bt9L9 u = false → lk H' u = lk H u := by
  subst hj
  have rT : (zI σ kF j x).1 kT = σ.1 kT := zI_row d1.symm
  have rH : (zI σ kF j x).1 kH = σ.1 kH := zI_row d2.symm
  have rF : (zI σ kF j x).1 kF j = x := zI_at
  obtain ⟨⟨s1, s2, s3, s4⟩, s5⟩ := hS
  unfold bwF at hw
  split at hw
  · rename_i b hb
    cases hc : b.isI && eqA s v (.c 1) with
    | false => rw [hc] at hw; cases hw
    | true =>
      rw [hc] at hw
      simp only [cond_true] at hw
      rw [Bool.and_eq_true] at hc
      have eb : ev ρ b = some (σ.1 kF j).toInt := me_at ho hb rfl hc.1
      have ex : x.toInt = 1 := eqA_ok ho hc.2 hx (y := 1) rfl
      cases e1 : eqA s b (.c 1) with
      | true =>
        rw [e1] at hw
        cases Option.some.inj hw
        have e2 : (σ.1 kF j).toInt = 1 := eqA_ok ho e1 eb (y := 1) rfl
        have ef : ∀ a o, efB kH kF j H (zI σ kF j x) a o = efB kH kF j H σ a o := fun a o => by
          unfold efB
          rw [rF, rH, ex, e2]
        refine ⟨H, hh, ⟨⟨fun a o h1 h2 h3 h4 => ?_, fun h1 h2 => ?_, fun n h1 => ?_, fun p q h1 h2 => ?_⟩, s5⟩, fun _ _ => rfl⟩
        · rw [rT, ef]; exact s1 a o h1 h2 h3 h4
        · rw [rF] at h2; exact absurd ex h2
        · rw [rF, rH]
          exact ⟨ex, (s3 n h1).2⟩
        · obtain ⟨a, o, g1, g2, g3, g4, g5, g6, g7⟩ := s4 p q h1 h2
          exact ⟨a, o, g1, g2, g3, g4, g5, fun c h => by rw [rT]; exact g6 c h, fun v h => by rw [ef]; exact g7 v h⟩
      | false =>
        rw [e1] at hw
        simp only [cond_false] at hw
        cases e2 : eqA s b (.c 0) && !(isS (lk hl 820)) with
        | false => rw [e2] at hw; cases hw
        | true =>
          rw [e2] at hw
          cases Option.some.inj hw
          rw [Bool.and_eq_true] at e2
          have e3 : (σ.1 kF j).toInt = 0 := eqA_ok ho e2.1 eb (y := 0) rfl
          have no := hln9 hh e2.2
          have l : ∀ u, u ≠ 820 → lk ((820, (0 : Int)) :: H) u = lk H u := fun u hu => by rw [lk_cons, if_neg hu]
          have l0 : lk ((820, (0 : Int)) :: H) 820 = some 0 := by rw [lk_cons, if_pos rfl]
          have ef : ∀ a o, efB kH kF j ((820, 0) :: H) (zI σ kF j x) a o = efB kH kF j H σ a o := fun a o => by
            unfold efB
            rw [if_neg (by rw [l0]; rintro ⟨_, q⟩; cases q), if_neg (by rw [e3]; rintro ⟨q, _⟩; cases q)]
          refine ⟨(820, 0) :: H, ⟨⟨rfl, rfl⟩, hh⟩, ⟨⟨fun a o h1 h2 h3 h4 => ?_, fun h1 => ?_, fun n h1 => ?_, fun p q h1 h2 => ?_⟩, ?_⟩, fun u hu => l u (fun e => bt9_no hu (by omega))⟩
          · rw [l 821 (by decide), l 822 (by decide)] at h4
            rw [rT, ef]; exact s1 a o h1 h2 h3 h4
          · rw [l0] at h1; cases h1
          · rw [l0] at h1
            have en := Option.some.inj h1
            rw [rF, rH]
            refine ⟨ex, by omega, fun i hi => ?_⟩
            rw [s2 no (by omega) i hi, if_neg (by omega)]
          · rw [l 821 (by decide)] at h1
            rw [l 822 (by decide)] at h2
            obtain ⟨a, o, g1, g2, g3, g4, g5, g6, g7⟩ := s4 p q h1 h2
            exact ⟨a, o, g1, g2, g3, g4, g5, fun c h => by rw [l 823 (by decide)] at h; rw [rT]; exact g6 c h, fun v h => by rw [l 824 (by decide)] at h; rw [ef]; exact g7 v h⟩
          · unfold bS2
            rw [l 840 (by decide), l 841 (by decide), l 842 (by decide), l 843 (by decide), l 844 (by decide), l 845 (by decide), l 846 (by decide)]
            exact s5
  · cases hw
theorem bwH_ok {j : Nat} {p v : AV} {x : Int32} {hl hl' : List (Nat × AV)} {H : List (Nat × Int)} (d1 : kH ≠ kT) (d2 : kH ≠ kF) (ho : Ok J s ρ σ) (hp : ev ρ p = some (j : Int)) (hx : ev ρ v = some x.toInt) (hw : bwH kF jB s hl p v = some hl') (hh : Hl ρ hl H) (hS : bS9 kT kH kF jB H σ) : ∃ H', Hl ρ hl' H' ∧ bS9 kT kH kF jB H' (zI σ kH j x) ∧ ∀ u, bt9L9 u = false → lk H' u = lk H u := by
  have rT : (zI σ kH j x).1 kT = σ.1 kT := zI_row d1.symm
  have rF : (zI σ kH j x).1 kF = σ.1 kF := zI_row d2.symm
  have rH : (zI σ kH j x).1 kH j = x := zI_at
  have nH : ∀ i, i ≠ j → (zI σ kH j x).1 kH i = σ.1 kH i := fun i h => zI_ne (by rintro ⟨_, q⟩; exact h q)
  obtain ⟨⟨s1, s2, s3, s4⟩, s5⟩ := hS
  unfold bwH at hw
  split at hw
  · rename_i n hn
    obtain ⟨zn, n1, n2⟩ := hlg9 hh hn
    obtain ⟨g1, ⟨g2, g3⟩, g4⟩ := s3 zn n1
    cases hc : eqA s v (.c 1) with
    | false => rw [hc] at hw; cases hw
    | true =>
      rw [hc] at hw
      simp only [cond_true] at hw
      have ex : x.toInt = 1 := eqA_ok ho hc hx (y := 1) rfl
      cases e1 : eqA s p (shA n 30) && (leAV s n (.c 4) && leAV s (.c 0) n) with
      | true =>
        rw [e1] at hw
        cases Option.some.inj hw
        simp only [Bool.and_eq_true] at e1
        have ej := eqA_ok ho e1.1 hp (shA_ev n2)
        have e4 := leAV_ok ho e1.2.1 n2 (y := 4) rfl
        have l : ∀ u, u ≠ 820 → lk (hup 820 (zn + 1) H) u = lk H u := fun u hu => lk_hup_ne hu
        have l0 : lk (hup 820 (zn + 1) H) 820 = some (zn + 1) := lk_hup_at n1
        have ef : ∀ a o, efB kH kF jB (hup 820 (zn + 1) H) (zI σ kH j x) a o = efB kH kF jB H σ a o := fun a o => by
          unfold efB
          rw [if_neg (by rw [l0]; rintro ⟨_, q⟩; cases q), if_neg (by rw [n1]; rintro ⟨_, q⟩; cases q)]
        refine ⟨hup 820 (zn + 1) H, hh.up (shA_ev n2), ⟨⟨fun a o h1 h2 h3 h4 => ?_, fun h1 => ?_, fun m h1 => ?_, fun p' q h1 h2 => ?_⟩, ?_⟩, fun u hu => l u (fun e => bt9_no hu (by omega))⟩
        · rw [l 821 (by decide), l 822 (by decide)] at h4
          rw [rT, ef]; exact s1 a o h1 h2 h3 h4
        · rw [l0] at h1; cases h1
        · rw [l0] at h1
          have em := Option.some.inj h1
          rw [rF]
          refine ⟨g1, by omega, fun i hi => ?_⟩
          by_cases e : i = j
          · rw [e, rH, ex, if_pos (by omega)]
          · rw [nH i e, g4 i hi]
            by_cases h : 30 ≤ (i : Int) ∧ (i : Int) < 30 + zn
            · rw [if_pos h, if_pos (by omega)]
            · rw [if_neg h, if_neg (by omega)]
        · rw [l 821 (by decide)] at h1
          rw [l 822 (by decide)] at h2
          obtain ⟨a, o, q1, q2, q3, q4, q5, q6, q7⟩ := s4 p' q h1 h2
          exact ⟨a, o, q1, q2, q3, q4, q5, fun c h => by rw [l 823 (by decide)] at h; rw [rT]; exact q6 c h, fun v h => by rw [l 824 (by decide)] at h; rw [ef]; exact q7 v h⟩
        · unfold bS2
          rw [l 840 (by decide), l 841 (by decide), l 842 (by decide), l 843 (by decide), l 844 (by decide), l 845 (by decide), l 846 (by decide)]
          exact s5
      | false =>
        rw [e1] at hw
        simp only [cond_false] at hw
        cases e2 : eqA s p (.c 6) && leAV s (.c 5) n with
        | false => rw [e2] at hw; cases hw
        | true =>
          rw [e2] at hw
          cases Option.some.inj hw
          rw [Bool.and_eq_true] at e2
          have ej := eqA_ok ho e2.1 hp (y := 6) rfl
          have e5 := leAV_ok ho e2.2 (x := 5) rfl n2
          have l : ∀ u, u ≠ 820 → lk (hdel 820 H) u = lk H u := fun u hu => by rw [lk_hdel, if_neg hu]
          have l0 : lk (hdel 820 H) 820 = none := by rw [lk_hdel, if_pos rfl]
          have ef : ∀ a o, a < 6 → o < 6 → a ≠ o → efB kH kF jB (hdel 820 H) (zI σ kH j x) a o = efB kH kF jB H σ a o := fun a o h1 h2 h3 => by
            unfold efB
            rw [if_pos (by rw [l0, rF]; exact ⟨g1, rfl⟩), if_neg (by rw [n1]; rintro ⟨_, q⟩; cases q), ← ini_ok a h1 o h2 h3]
            by_cases e : 6 * a + o = j
            · rw [e, rH, ex, if_pos (by omega)]
            · rw [nH _ e, g4 _ (by omega), if_neg (show ¬ 6 * a + o = 6 by omega)]
              by_cases h : 30 ≤ 6 * a + o ∧ 6 * a + o < 35
              · rw [if_pos h, if_pos (by omega)]
              · rw [if_neg h, if_neg (by omega)]
          refine ⟨hdel 820 H, hh.del, ⟨⟨fun a o h1 h2 h3 h4 => ?_, fun h1 h2 => ?_, fun m h1 => ?_, fun p' q h1 h2 => ?_⟩, ?_⟩, fun u hu => l u (fun e => bt9_no hu (by omega))⟩
          · rw [l 821 (by decide), l 822 (by decide)] at h4
            rw [rT, ef a o h1 h2 h3]; exact s1 a o h1 h2 h3 h4
          · rw [rF] at h2; exact absurd g1 h2
          · rw [l0] at h1; cases h1
          · rw [l 821 (by decide)] at h1
            rw [l 822 (by decide)] at h2
            obtain ⟨a, o, q1, q2, q3, q4, q5, q6, q7⟩ := s4 p' q h1 h2
            exact ⟨a, o, q1, q2, q3, q4, q5, fun c h => by rw [l 823 (by decide)] at h; rw [rT]; exact q6 c h, fun v h => by rw [l 824 (by decide)] at h; rw [ef a o q3 q4 q5]; exact q7 v h⟩
          · unfold bS2
            rw [l 840 (by decide), l 841 (by decide), l 842 (by decide), l 843 (by decide), l 844 (by decide), l 845 (by decide), l 846 (by decide)]
            exact s5
  · rename_i hn
    have no : lk H 820 = none := hln9 hh (by rw [hn]; rfl)
    split at hw
    · rename_i b hb
      split at hw
      · rename_i a o c qa qo qc
        cases hc : (b.isI && eqA s b (.c 1)) && (eq6 s p a o && eqA s v c) with
        | false => rw [hc] at hw; cases hw
        | true =>
          rw [hc] at hw
          cases Option.some.inj hw
          simp only [Bool.and_eq_true] at hc
          obtain ⟨⟨c1, c2⟩, c3, c4⟩ := hc
          have eb : ev ρ b = some (σ.1 kF jB).toInt := me_at ho hb rfl c1
          have g1 : (σ.1 kF jB).toInt = 1 := eqA_ok ho c2 eb (y := 1) rfl
          obtain ⟨za, a1, a2⟩ := hlg9 hh qa
          obtain ⟨zo, o1, o2⟩ := hlg9 hh qo
          obtain ⟨zc, k1, k2⟩ := hlg9 hh qc
          have ej := eq6_ok ho hp a2 o2 c3
          have ec := eqA_ok ho c4 hx k2
          obtain ⟨A, O, q1, q2, q3, q4, q5, q6, q7⟩ := s4 za zo a1 o1
          have l : ∀ u, u ≠ 821 → u ≠ 822 → u ≠ 823 → u ≠ 824 → lk (hdel 821 (hdel 822 (hdel 823 (hdel 824 H)))) u = lk H u := fun u h1 h2 h3 h4 => by rw [lk_hdel, if_neg h1, lk_hdel, if_neg h2, lk_hdel, if_neg h3, lk_hdel, if_neg h4]
          have l1 : lk (hdel 821 (hdel 822 (hdel 823 (hdel 824 H)))) 821 = none := by rw [lk_hdel, if_pos rfl]
          have l0 : lk (hdel 821 (hdel 822 (hdel 823 (hdel 824 H)))) 820 = none := by rw [l 820 (by decide) (by decide) (by decide) (by decide)]; exact no
          refine ⟨hdel 821 (hdel 822 (hdel 823 (hdel 824 H))), (((hh.del).del).del).del, ⟨⟨fun a' o' h1 h2 h3 _ => ?_, fun _ h2 => ?_, fun m h1 => ?_, fun p' q h1 _ => ?_⟩, ?_⟩, fun u hu => ?_⟩
          · rw [rT]
            unfold efB
            rw [if_pos (by rw [l0, rF]; exact ⟨g1, rfl⟩)]
            by_cases e : 6 * a' + o' = j
            · have e1 : a' = A := by omega
              have e2 : o' = O := by omega
              rw [e, rH, ec, e1, e2]
              exact q6 zc k1
            · rw [nH _ e]
              have old := s1 a' o' h1 h2 h3 (by
                rintro ⟨r1, r2⟩
                rw [a1] at r1
                rw [o1] at r2
                have r1 := Option.some.inj r1
                have r2 := Option.some.inj r2
                omega)
              unfold efB at old
              rw [if_pos ⟨g1, no⟩] at old
              exact old
          · rw [rF] at h2; exact absurd g1 h2
          · rw [l0] at h1; cases h1
          · rw [l1] at h1; cases h1
          · have l' : ∀ u, 840 ≤ u → lk (hdel 821 (hdel 822 (hdel 823 (hdel 824 H)))) u = lk H u := fun u h => l u (by omega) (by omega) (by omega) (by omega)
            unfold bS2
            rw [l' 840 (by omega), l' 841 (by omega), l' 842 (by omega), l' 843 (by omega), l' 844 (by omega), l' 845 (by omega), l' 846 (by omega)]
            exact s5
          · have := bt9_no hu
            exact l u (by omega) (by omega) (by omega) (by omega)
      · cases hw
    · cases hw
theorem bwT_ok {j : Nat} {p v : AV} {x : Int32} {hl hl' : List (Nat × AV)} {H : List (Nat × Int)} (d1 : kT ≠ kH) (d2 : kT ≠ kF) (ho : Ok J s ρ σ) (hp : ev ρ p = some (j : Int)) (hx : ev ρ v = some x.toInt) (hw : bwT kT s hl p v = some hl') (hh : Hl ρ hl H) (hS : bS9 kT kH kF jB H σ) : ∃ H', Hl ρ hl' H' ∧ bS9 kT kH kF jB H' (zI σ kT j x) ∧ ∀ u, bt9L9 u = false → lk H' u = lk H u := by
  have rH : (zI σ kT j x).1 kH = σ.1 kH := zI_row d1.symm
  have rF : (zI σ kT j x).1 kF = σ.1 kF := zI_row d2.symm
  have rT : (zI σ kT j x).1 kT j = x := zI_at
  have nT : ∀ i, i ≠ j → (zI σ kT j x).1 kT i = σ.1 kT i := fun i h => zI_ne (by rintro ⟨_, q⟩; exact h q)
  obtain ⟨⟨s1, s2, s3, s4⟩, s5, s6⟩ := hS
  unfold bwT at hw
  split at hw
  · rename_i t t2 o ht qt2 qo
    split at hw
    · rename_i w c qw qc
      split at hw
      · rename_i t3 o3 b qt3 qo3 qb
        cases hc : ((!(isS (lk hl 820)) && !(isS (lk hl 821))) && ((eqA s t t2 && eqA s v w) && (eqA s t t3 && eqA s o o3))) && (((leAV s (.c 0) p && leAV s p (.c 5)) && (leAV s (.c 0) o && leAV s o (.c 5))) && (leAV s (shA p 1) o || leAV s (shA o 1) p)) with
        | false => rw [hc] at hw; cases hw
        | true =>
          rw [hc] at hw
          cases Option.some.inj hw
          simp only [Bool.and_eq_true, Bool.or_eq_true] at hc
          obtain ⟨⟨⟨c1, c2⟩, ⟨c3, c4⟩, c5, c6⟩, ⟨⟨c7, c8⟩, c9, c10⟩, c11⟩ := hc
          have no0 := hln9 hh c1
          have no1 := hln9 hh c2
          obtain ⟨zt2, t21, t22⟩ := hlg9 hh qt2
          obtain ⟨zo, o1, o2⟩ := hlg9 hh qo
          obtain ⟨zw, w1, w2⟩ := hlg9 hh qw
          obtain ⟨zc, k1, k2⟩ := hlg9 hh qc
          obtain ⟨zt3, t31, t32⟩ := hlg9 hh qt3
          obtain ⟨zo3, o31, o32⟩ := hlg9 hh qo3
          obtain ⟨zb, b1, b2⟩ := hlg9 hh qb
          have et : ev ρ t = some (σ.1 kT j).toInt := (oth_ok ho ht hp).2
          have f1 := eqA_ok ho c3 et t22
          have f2 := eqA_ok ho c4 hx w2
          have f3 := eqA_ok ho c5 et t32
          have f4 := eqA_ok ho c6 o2 o32
          have f5 := leAV_ok ho c8 hp (y := 5) rfl
          have f6 := leAV_ok ho c9 (x := 0) rfl o2
          have f7 := leAV_ok ho c10 o2 (y := 5) rfl
          have ne : (j : Int) ≠ zo := by
            rcases c11 with h | h
            · have := leAV_ok ho h (shA_ev hp) o2
              omega
            · have := leAV_ok ho h (shA_ev o2) hp
              omega
          obtain ⟨n, hn⟩ : ∃ n : Nat, zo = (n : Int) := ⟨zo.toNat, by omega⟩
          have up := (s6 zt2 zo zw zc t21 o1 w1 k1).at (x := σ.1 kT j) (y := x) (n := n) f1 f2 hn (by omega)
          have rd := (s5 zt3 zo3 zb t31 o31 b1).at (x := σ.1 kT j) (n := n) f3 (by omega) (by omega)
          have l0 : ∀ u, u ≠ 821 → u ≠ 822 → u ≠ 823 → u ≠ 824 → ¬ (840 ≤ u ∧ u ≤ 846) → lk ((821, (j : Int)) :: (822, zo) :: (823, zc) :: (824, zb) :: hdel 840 (hdel 841 (hdel 842 (hdel 843 (hdel 844 (hdel 845 (hdel 846 H))))))) u = lk H u := fun u h1 h2 h3 h4 h5 => by
            rw [lk_cons, if_neg h1, lk_cons, if_neg h2, lk_cons, if_neg h3, lk_cons, if_neg h4, lk_hdel, if_neg (by omega), lk_hdel, if_neg (by omega), lk_hdel, if_neg (by omega), lk_hdel, if_neg (by omega), lk_hdel, if_neg (by omega), lk_hdel, if_neg (by omega), lk_hdel, if_neg (by omega)]
          have l20 : lk ((821, (j : Int)) :: (822, zo) :: (823, zc) :: (824, zb) :: hdel 840 (hdel 841 (hdel 842 (hdel 843 (hdel 844 (hdel 845 (hdel 846 H))))))) 820 = lk H 820 := l0 820 (by decide) (by decide) (by decide) (by decide) (by decide)
          have l21 : lk ((821, (j : Int)) :: (822, zo) :: (823, zc) :: (824, zb) :: hdel 840 (hdel 841 (hdel 842 (hdel 843 (hdel 844 (hdel 845 (hdel 846 H))))))) 821 = some (j : Int) := by rw [lk_cons, if_pos rfl]
          have l22 : lk ((821, (j : Int)) :: (822, zo) :: (823, zc) :: (824, zb) :: hdel 840 (hdel 841 (hdel 842 (hdel 843 (hdel 844 (hdel 845 (hdel 846 H))))))) 822 = some zo := by rw [lk_cons, if_neg (by decide), lk_cons, if_pos rfl]
          have l23 : lk ((821, (j : Int)) :: (822, zo) :: (823, zc) :: (824, zb) :: hdel 840 (hdel 841 (hdel 842 (hdel 843 (hdel 844 (hdel 845 (hdel 846 H))))))) 823 = some zc := by rw [lk_cons, if_neg (by decide), lk_cons, if_neg (by decide), lk_cons, if_pos rfl]
          have l24 : lk ((821, (j : Int)) :: (822, zo) :: (823, zc) :: (824, zb) :: hdel 840 (hdel 841 (hdel 842 (hdel 843 (hdel 844 (hdel 845 (hdel 846 H))))))) 824 = some zb := by rw [lk_cons, if_neg (by decide), lk_cons, if_neg (by decide), lk_cons, if_neg (by decide), lk_cons, if_pos rfl]
          have l40 : lk ((821, (j : Int)) :: (822, zo) :: (823, zc) :: (824, zb) :: hdel 840 (hdel 841 (hdel 842 (hdel 843 (hdel 844 (hdel 845 (hdel 846 H))))))) 840 = none := by rw [lk_cons, if_neg (by decide), lk_cons, if_neg (by decide), lk_cons, if_neg (by decide), lk_cons, if_neg (by decide), lk_hdel, if_pos rfl]
          have l43 : lk ((821, (j : Int)) :: (822, zo) :: (823, zc) :: (824, zb) :: hdel 840 (hdel 841 (hdel 842 (hdel 843 (hdel 844 (hdel 845 (hdel 846 H))))))) 843 = none := by rw [lk_cons, if_neg (by decide), lk_cons, if_neg (by decide), lk_cons, if_neg (by decide), lk_cons, if_neg (by decide), lk_hdel, if_neg (by decide), lk_hdel, if_neg (by decide), lk_hdel, if_neg (by decide), lk_hdel, if_pos rfl]
          refine ⟨(821, (j : Int)) :: (822, zo) :: (823, zc) :: (824, zb) :: hdel 840 (hdel 841 (hdel 842 (hdel 843 (hdel 844 (hdel 845 (hdel 846 H)))))), ⟨⟨rfl, hp⟩, ⟨rfl, o2⟩, ⟨rfl, k2⟩, ⟨rfl, b2⟩, ((((((hh.del).del).del).del).del).del).del⟩, ?_, fun u hu => ?_⟩
          · generalize ((821, (j : Int)) :: (822, zo) :: (823, zc) :: (824, zb) :: hdel 840 (hdel 841 (hdel 842 (hdel 843 (hdel 844 (hdel 845 (hdel 846 H))))))) = H' at l20 l21 l22 l23 l24 l40 l43
            have ef : ∀ a o, efB kH kF jB H' (zI σ kT j x) a o = efB kH kF jB H σ a o := fun a o => by
              unfold efB
              rw [l20, rF, rH]
            have all : ∀ a o : Nat, a < 6 → o < 6 → a ≠ o → b2i (bitN (σ.1 kT a) o) = efB kH kF jB H σ a o := fun a o h1 h2 h3 => s1 a o h1 h2 h3 (by rintro ⟨q, _⟩; rw [no1] at q; cases q)
            refine ⟨⟨fun a o h1 h2 h3 h4 => ?_, fun h1 h2 => ?_, fun m h1 => ?_, fun p' q h1 h2 => ?_⟩, fun t o b h1 => ?_, fun t o w c h1 => ?_⟩
            · rw [ef, ← all a o h1 h2 h3]
              by_cases e : a = j
              · rw [e, rT, up o h2]
                by_cases e2 : o = n
                · exact absurd ⟨by rw [l21, e], by rw [l22, hn, e2]⟩ h4
                · rw [if_neg e2]
              · rw [nT a e]
            · rw [l20] at h1
              rw [rF] at h2
              rw [rH]
              exact s2 h1 h2
            · rw [l20, no0] at h1; cases h1
            · rw [l21] at h1
              rw [l22] at h2
              refine ⟨j, n, (Option.some.inj h1).symm, by rw [← hn]; exact (Option.some.inj h2).symm, by omega, by omega, by omega, fun c h => ?_, fun v h => ?_⟩
              · rw [l23] at h
                rw [rT, up n (by omega), if_pos rfl]
                exact Option.some.inj h
              · rw [l24] at h
                rw [ef, ← all j n (by omega) (by omega) (by omega), ← rd]
                exact Option.some.inj h
            · rw [l40] at h1; cases h1
            · rw [l43] at h1; cases h1
          · have := bt9_no hu
            exact l0 u (by omega) (by omega) (by omega) (by omega) (by omega)
      · cases hw
    · cases hw
  · cases hw
end WB
end
