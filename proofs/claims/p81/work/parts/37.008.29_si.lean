noncomputable section
section L48
variable {T : Jx} {G : Gl} {cs : List Cp} {s : Sy} {ρ : List Int} {σ : zS} {kT kH kF jB kE kP kC : Nat} {RW : List Nat} {W : List (Nat × List Ru)}
noncomputable def h209 (q o : AV) (s : Sy) : Sy := bif (q.isI && o.isI) && ((!(isS (lk s.hl 855)) && !(isS (lk s.hl 856))) && (!(isS (lk s.hl 861)) && !(isS (lk s.hl 862)))) then (s.new [(0, 1)]).seth ((855, q) :: (861, o) :: (862, .i s.nx 0) :: s.hl) else s
theorem h209_ok (hP : PH T G cs (cC9 kT kH kF jB kE)) {a b : AV} {x y : Int} (ha : ev ρ a = some x) (hb : ev ρ b = some y) (ho : Ok (Jf T G (cS cs)) s ρ σ) : ∃ ρ', Pre ρ ρ' ∧ Ok (Jf T G (cS cs)) (h209 a b s) ρ' σ := by
  unfold h209
  cases hc : (a.isI && b.isI) && ((!(isS (lk s.hl 855)) && !(isS (lk s.hl 856))) && (!(isS (lk s.hl 861)) && !(isS (lk s.hl 862)))) with
  | false => exact ⟨ρ, Pre.rf, ho⟩
  | true =>
    simp only [Bool.and_eq_true] at hc
    obtain ⟨H, i1, i2⟩ := ho.inv
    have n6 := no_tag i1 hc.2.1.2
    obtain ⟨hB, ⟨g0, g1, g2, g3⟩, g4⟩ := (i2.2.2 _ hP.2.2.1 : cS9b kT kH kF jB kE H σ)
    obtain ⟨r, hr0, hr1⟩ : ∃ r : Int, (r = 0 ∨ r = 1) ∧ (r = 1 ↔ Wp (Eb kT σ) 6 x.toNat y.toNat) := by
      by_cases h : Wp (Eb kT σ) 6 x.toNat y.toNat
      · exact ⟨1, Or.inr rfl, fun _ => h, fun _ => rfl⟩
      · exact ⟨0, Or.inl rfl, fun e => (by cases e), fun q => absurd q h⟩
    have hq := ho.new (x := r) (d := [(0, 1)]) ⟨_, List.mem_cons_self .., by dsimp only; omega, by dsimp only; omega⟩
    have hp : Pre ρ (ρ ++ [r]) := ⟨_, rfl⟩
    have l : ∀ u, u ≠ 855 → u ≠ 861 → u ≠ 862 → lk ((855, x) :: (861, y) :: (862, r) :: H) u = lk H u := fun u h1 h2 h3 => by rw [lk_cons, if_neg h1, lk_cons, if_neg h2, lk_cons, if_neg h3]
    have l5 : lk ((855, x) :: (861, y) :: (862, r) :: H) 855 = some x := by rw [lk_cons, if_pos rfl]
    have la : lk ((855, x) :: (861, y) :: (862, r) :: H) 861 = some y := by rw [lk_cons, if_neg (by decide), lk_cons, if_pos rfl]
    have lb : lk ((855, x) :: (861, y) :: (862, r) :: H) 862 = some r := by rw [lk_cons, if_neg (by decide), lk_cons, if_neg (by decide), lk_cons, if_pos rfl]
    refine ⟨ρ ++ [r], hp, c_hint hP hq i2 (H' := (855, x) :: (861, y) :: (862, r) :: H) ⟨⟨rfl, ev.mono hp ha⟩, ⟨rfl, ev.mono hp hb⟩, ⟨rfl, ho.new_i⟩, i1.mono hp⟩ (fun u hu => l u (by omega) (by omega) (by omega)) ⟨bS9_k (fun u hu => l u (by omega) (by omega) (by omega)) hB, ?_⟩⟩
    unfold cC
    rw [l5, la, lb, l 850 (by decide) (by decide) (by decide), l 851 (by decide) (by decide) (by decide), l 852 (by decide) (by decide) (by decide), l 853 (by decide) (by decide) (by decide), l 847 (by decide) (by decide) (by decide), l 848 (by decide) (by decide) (by decide), l 849 (by decide) (by decide) (by decide), l 856 (by decide) (by decide) (by decide), l 857 (by decide) (by decide) (by decide), l 858 (by decide) (by decide) (by decide), l 859 (by decide) (by decide) (by decide), l 860 (by decide) (by decide) (by decide)]
    refine ⟨⟨g0, g1, g2, g3⟩, fun _ _ _ h => (by rw [n6] at h; cases h), g4.2.1, fun _ _ _ _ h => (by rw [n6] at h; cases h), fun q c d h1 h2 h3 Q O e1 e2 hO => ?_⟩
    have h1 := Option.some.inj h1
    have h2 := Option.some.inj h2
    have h3 := Option.some.inj h3
    have eQ : x.toNat = Q := by omega
    have eO : y.toNat = O := by omega
    rw [eQ, eO] at hr1
    rw [← h3]
    exact ⟨hr0, hr1⟩
theorem rsM_at {k : Nat} (h : RW.any (Nat.beq k) = true) : rsM RW σ k = fun j => (σ.1 k j).toInt := by
  funext j
  show (bif RW.any (Nat.beq k) then (σ.1 k j).toInt else 0) = _
  rw [h]; rfl
theorem bt6_of {x : Int32} {g : Nat} : bt6 x.toInt g = bitN x g := by unfold bt6; rw [Int32.ofInt_toInt]
theorem Hd_of (h : RW.any (Nat.beq 15) = true) {a b : Nat} : Hd (rsM RW σ) a b ↔ Wp (Eb 15 σ) 6 a b := by
  have e : (fun x y => x < 6 ∧ y < 6 ∧ bt6 (rsM RW σ 15 x) y = true) = Eb 15 σ := by
    funext x y
    rw [rsM_at h]
    show (x < 6 ∧ y < 6 ∧ bt6 (σ.1 15 x).toInt y = true) = (x < 6 ∧ y < 6 ∧ bitN (σ.1 15 x) y = true)
    rw [bt6_of]
  unfold Hd
  rw [e]
theorem hins3 {lo hi t1 t2 t3 : Nat} {a b c : Int} {H : List (Nat × Int)} (h1 : inTg lo hi t1 = true) (h2 : inTg lo hi t2 = true) (h3 : inTg lo hi t3 = true) : rsT lo hi (hins t3 c (hins t2 b (hins t1 a H))) = set1 t3 (some c) (set1 t2 (some b) (set1 t1 (some a) (rsT lo hi H))) := by
  rw [rsT_set h3 (fun u => lk_hins), rsT_set h2 (fun u => lk_hins), rsT_set h1 (fun u => lk_hins)]
theorem out3 {lo hi t1 t2 t3 : Nat} {a b c : Int} {H : List (Nat × Int)} (h1 : inTg lo hi t1 = true) (h2 : inTg lo hi t2 = true) (h3 : inTg lo hi t3 = true) {u : Nat} (hu : inTg lo hi u = false) : lk (hins t3 c (hins t2 b (hins t1 a H))) u = lk H u := by
  have ne : ∀ {t : Nat}, inTg lo hi t = true → u ≠ t := fun h e => by rw [e, h] at hu; cases hu
  rw [lk_hins, if_neg (ne h3), lk_hins, if_neg (ne h2), lk_hins, if_neg (ne h1)]
noncomputable def h206 (s : Sy) : Sy := match lk s.hl 855, lk s.hl 861, lk s.hl 862 with
  | some q, some o, some b => bif ((!(isS (lk s.hl 890)) && !(isS (lk s.hl 891))) && !(isS (lk s.hl 892))) && ((leAV s (.c 0) q && leAV s q (.c 5)) && (leAV s (.c 0) o && leAV s o (.c 5))) then s.seth (hins 892 b (hins 891 o (hins 890 q s.hl))) else s
  | _, _, _ => s
theorem h206_ok (hC : PH T G cs (cC9 15 kH kF jB kE)) (hP : PH T G cs (cR 870 999 RW SL W)) (hr : RW.any (Nat.beq 15) = true) (ho : Ok (Jf T G (cS cs)) s ρ σ) : Ok (Jf T G (cS cs)) (h206 s) ρ σ := by
  unfold h206
  split
  · rename_i q o b qq qo qb
    cases hc : ((!(isS (lk s.hl 890)) && !(isS (lk s.hl 891))) && !(isS (lk s.hl 892))) && ((leAV s (.c 0) q && leAV s q (.c 5)) && (leAV s (.c 0) o && leAV s o (.c 5))) with
    | false => exact ho
    | true =>
      simp only [Bool.and_eq_true] at hc
      obtain ⟨H, i1, i2⟩ := ho.inv
      obtain ⟨zq, t1, t2⟩ := tag_get ho i1 qq
      obtain ⟨zo, o1, o2⟩ := tag_get ho i1 qo
      obtain ⟨zb, b1, b2⟩ := tag_get ho i1 qb
      have f1 := leAV_ok ho hc.2.1.1 (x := 0) rfl t2
      have f2 := leAV_ok ho hc.2.1.2 t2 (y := 5) rfl
      have f3 := leAV_ok ho hc.2.2.1 (x := 0) rfl o2
      have f4 := leAV_ok ho hc.2.2.2 o2 (y := 5) rfl
      obtain ⟨_, _, g4⟩ := (i2.2.2 _ hC.2.2.1 : cS9b 15 kH kF jB kE H σ)
      obtain ⟨k1, k2⟩ := g4.2.2.2 zq zo zb t1 o1 b1 zq.toNat zo.toNat (by omega) (by omega) (by omega)
      refine ph_set hP ho i2 (H' := hins 892 zb (hins 891 zo (hins 890 zq H))) (Hl.ins b2 (Hl.ins o2 (Hl.ins t2 i1))) (fun u hu => out3 rfl rfl rfl hu) ?_
      obtain ⟨⟨hA, hZ, hG⟩, hK, hW, hQ, hB⟩ := (i2.2.2 _ hP.2.2.1 : SL (rsT 870 999 H) (rsM RW σ))
      show SL (rsT 870 999 _) (rsM RW σ)
      rw [hins3 rfl rfl rfl]
      refine ⟨⟨hA, hZ, hG⟩, hK, hW, hQ, fun q' o' b' h1 h2 h3 => ?_, hB.2⟩
      have h1 := Option.some.inj (show some zq = some q' from h1)
      have h2 := Option.some.inj (show some zo = some o' from h2)
      have h3 := Option.some.inj (show some zb = some b' from h3)
      rw [← h1, ← h2, ← h3]
      exact ⟨zq.toNat, zo.toNat, by omega, by omega, k1, k2.trans (Hd_of hr).symm⟩
  · exact ho
noncomputable def h207 (s : Sy) : Sy := match lk s.hl 530, lk s.hl 531, lk s.hl 533 with
  | some z, some q, some r => bif (!(isS (lk s.hl 893)) && !(isS (lk s.hl 894))) && !(isS (lk s.hl 895)) then s.seth (hins 895 r (hins 894 q (hins 893 z s.hl))) else s
  | _, _, _ => s
theorem h207_ok (hC : PH T G cs (cw9 11 13)) (hP : PH T G cs (cR 870 999 RW SL W)) (hr : RW.any (Nat.beq 11) = true) (hr2 : RW.any (Nat.beq 13) = true) (ho : Ok (Jf T G (cS cs)) s ρ σ) : Ok (Jf T G (cS cs)) (h207 s) ρ σ := by
  unfold h207
  split
  · rename_i z q r qz qq qr
    cases hc : (!(isS (lk s.hl 893)) && !(isS (lk s.hl 894))) && !(isS (lk s.hl 895)) with
    | false => exact ho
    | true =>
      obtain ⟨H, i1, i2⟩ := ho.inv
      obtain ⟨zz, t1, t2⟩ := tag_get ho i1 qz
      obtain ⟨zq, o1, o2⟩ := tag_get ho i1 qq
      obtain ⟨zr, b1, b2⟩ := tag_get ho i1 qr
      obtain ⟨k1, k2⟩ := (i2.2.2 _ hC.2.2.1 : wS 11 13 H σ).2 zz zq zr t1 o1 b1
      refine ph_set hP ho i2 (H' := hins 895 zr (hins 894 zq (hins 893 zz H))) (Hl.ins b2 (Hl.ins o2 (Hl.ins t2 i1))) (fun u hu => out3 rfl rfl rfl hu) ?_
      obtain ⟨⟨hA, hZ, hG⟩, hK, hW, hQ, hB⟩ := (i2.2.2 _ hP.2.2.1 : SL (rsT 870 999 H) (rsM RW σ))
      show SL (rsT 870 999 _) (rsM RW σ)
      rw [hins3 rfl rfl rfl]
      refine ⟨⟨hA, hZ, hG⟩, hK, hW, hQ, hB.1, fun z' q' r' h1 h2 h3 => ?_⟩
      have h1 := Option.some.inj (show some zz = some z' from h1)
      have h2 := Option.some.inj (show some zq = some q' from h2)
      have h3 := Option.some.inj (show some zr = some r' from h3)
      rw [← h1, ← h2, ← h3]
      refine ⟨k1, ?_⟩
      unfold Und
      rw [rsM_at hr, rsM_at hr2]
      exact k2
  · exact ho
noncomputable def h210 (t kO kM kF jB : Nat) (p : AV) (s : Sy) : Sy := match mget s.me kF (.c (jB : Int)) with
  | some b => bif ((b.isI && eqA s b (.c 1)) && (!(isS (lk s.hl t)) && !(isS (lk s.hl 595)))) && ((leAV s (.c 0) p && leAV s p (.c 39)) && eqA s p (pl s p)) then (match mget s.me kO (pl s p), mget s.me kM (pl s p) with
    | some v, none => bif v.isI then s.add kM (pl s p) v else s
    | none, some w => bif w.isI then s.add kO (pl s p) w else s
    | _, _ => s) else s
  | none => s
theorem h210_ok {t kO kM kF jB : Nat} (hE : ∀ H σ, Jf T G (cS cs) H σ → eS t kO 1 kM 1 39 H σ) (hK : ck kO 0 (-4) ∈ cs) (hV : cv9 kM kF jB ∈ cs) {p : AV} {z : Int} (hz : ev ρ p = some z) (ho : Ok (Jf T G (cS cs)) s ρ σ) : Ok (Jf T G (cS cs)) (h210 t kO kM kF jB p s) ρ σ := by
  unfold h210
  split
  · rename_i b hb
    cases hc : ((b.isI && eqA s b (.c 1)) && (!(isS (lk s.hl t)) && !(isS (lk s.hl 595)))) && ((leAV s (.c 0) p && leAV s p (.c 39)) && eqA s p (pl s p)) with
    | false => exact ho
    | true =>
      simp only [Bool.and_eq_true] at hc
      obtain ⟨⟨⟨c1, c2⟩, c3, c4⟩, ⟨c5, c6⟩, c7⟩ := hc
      obtain ⟨H, i1, i2⟩ := ho.inv
      have n1 := no_tag i1 c3
      have n2 := no_tag i1 c4
      have f5 := leAV_ok ho c5 (x := 0) rfl hz
      have f6 := leAV_ok ho c6 hz (y := 39) rfl
      obtain ⟨y, hy⟩ := pl_ev (s := s) hz
      have ey := eqA_ok ho c7 hz hy
      have hbv := eqA_ok ho c2 (me_at ho hb rfl c1) (y := 1) rfl
      have hj : ev ρ (pl s p) = some ((z.toNat : Nat) : Int) := hy.trans (congrArg some (by omega))
      have eq : σ.1 kO z.toNat = σ.1 kM z.toNat := by
        by_cases e : z.toNat = 0
        · rw [e]
          have a1 : (σ.1 kO 0).toInt = -4 := i2.2.2 _ hK
          have a2 : (σ.1 kM 0).toInt = -4 := (i2.2.2 _ hV : vS9 kM kF jB H σ) hbv n2
          exact Int32.toInt_inj.mp (a1.trans a2.symm)
        · have := (hE H σ i2).1 n1 (z.toNat - 1) (by omega)
          rw [show 1 + (z.toNat - 1) = z.toNat by omega] at this
          exact this
      simp only [cond_true]
      split
      · rename_i v hv _
        cases hi : v.isI with
        | false => exact ho
        | true => exact ho.addm ⟨z.toNat, hj, Or.inl ⟨hi, by rw [← eq]; exact me_at ho hv hj hi⟩⟩
      · rename_i w _ hw
        cases hi : w.isI with
        | false => exact ho
        | true => exact ho.addm ⟨z.toNat, hj, Or.inl ⟨hi, by rw [eq]; exact me_at ho hw hj hi⟩⟩
      · exact ho
  · exact ho
end L48
end
