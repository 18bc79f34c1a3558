theorem E.told {σ τ : ST} {n : Nat} {N : Int} (hE : E σ τ n N) : E (up2 σ 4 1 0) (up2 τ 18 2 0) n N := by
  obtain ⟨⟨a1, a2, a3⟩, a4, ⟨b1, b2, b3, b4, b5⟩, a5, a6, a7, a8, a9, a10, a11, aV⟩ := id hE
  unfold E
  simp (disch := omega) only [up2_self, up2_at, up2_ne]
  exact ⟨⟨a1, a2, a3⟩, trivial, ⟨b1, b2, b3, b4, b5⟩, a5, a6, a7, a8, a9, a10, a11, fun i hi => (aV i hi).cg (fun c _ _ => by simp (disch := omega) only [up2_ne]) (fun c hc => by simp (disch := omega) only [up2_ne]) (by simp (disch := omega) only [up2_self, up2_at, up2_ne]; omega)⟩

set_option maxHeartbeats 1000000 in
theorem p_rest {σ τ σ1 τ1 : ST} {n : Nat} {N r1 r2 v i : Int} (hE : E σ τ n N) (hM : MS τ) (hN : N < 900000) (hc : (((0 ≤ v ∧ v < n) ∧ 0 ≤ i) ∧ ∃ ρ, DrC σ ρ v (σ 0 6) ∧ ((0 ≤ rtC ρ i ∧ r1 = rtC ρ i ∧ σ1 = ρ) ∨ (rtC ρ i = -1 ∧ r1 = -1000002 ∧ σ1 = fd ρ 5 2))) ∨ (¬ ((0 ≤ v ∧ v < n) ∧ 0 ≤ i) ∧ r1 = -1000001 ∧ σ1 = fd σ 5 1)) (hm : (((0 ≤ v ∧ v < τ 18 1) ∧ 0 ≤ i) ∧ ∃ ρ, FrM τ ρ ∧ RowOK (τ 20) (τ 18 0) (ρ 28) (ρ 18 18) ∧ ((0 ≤ rtM ρ v i ∧ r2 = rtM ρ v i ∧ τ1 = ρ) ∨ (rtM ρ v i = -1 ∧ r2 = -1000002 ∧ τ1 = fd ρ 27 2))) ∨ (¬ ((0 ≤ v ∧ v < τ 18 1) ∧ 0 ≤ i) ∧ r2 = -1000001 ∧ τ1 = fd τ 27 1)) : Step σ1 τ1 n N r1 r2 := by
  obtain ⟨⟨a1, a2, a3⟩, a4, ⟨b1, b2, b3, b4, b5⟩, a5, a6, a7, a8, a9, a10, a11, aV⟩ := id hE
  rcases hc with hc | hc <;> rcases hm with hm | hm
  · skip
    obtain ⟨c0, ρ, hd, hc⟩ := hc
    obtain ⟨m0, ρ', hf, hr, hm⟩ := hm
    have hv : 0 ≤ v ∧ v < n := by omega
    have hE2 := hE.scr0 hd.fr hf
    have hM2 := hf.ms hM
    obtain ⟨g1, g2, g3, g4, g5, g6, g7, g8, g9⟩ := dw_draw hE hM hv hd hf hr
    have e : rtC ρ i = rtM ρ' v i := by
      unfold rtC rtM
      rw [← g1]
      refine restT_cg g4 g5 (fun k k0 k1 => ?_) g2.1 i
      unfold vlC vlM
      rw [g3 k k0 k1, ← g1, lenT_cg g4 g5 (by omega)]
    rw [e] at hc
    rcases hc with ⟨c1, c2, c3⟩ | ⟨c1, c2, c3⟩ <;> rcases hm with ⟨m1, m2, m3⟩ | ⟨m1, m2, m3⟩
    · rw [c3, m3]; exact ⟨by omega, hE2.mono, hM2⟩
    · exfalso; omega
    · exfalso; omega
    · rw [c3, m3]; exact Step.fnd hE2 hM2 hN _ (by omega)
  · exfalso; omega
  · exfalso; omega
  · skip
    obtain ⟨-, c1, c2⟩ := hc
    obtain ⟨-, m1, m2⟩ := hm
    rw [c2, m2]
    exact Step.fnd hE hM hN _ (by omega)

set_option maxHeartbeats 1000000 in
theorem p_cue {σ τ σ1 τ1 : ST} {n : Nat} {N r1 r2 v b : Int} (hE : E σ τ n N) (hM : MS τ) (hN : N < 900000) (hc : (((0 ≤ v ∧ v < n) ∧ 0 ≤ b ∧ b < σ 1 3) ∧ ∃ ρ, DrC σ ρ v (σ 0 6) ∧ ((∃ k, 0 ≤ k ∧ k < ρ 2 3 ∧ ρ 9 k = b ∧ 0 ≤ cuC ρ n k ∧ r1 = cuC ρ n k ∧ σ1 = ρ) ∨ ((∀ k, 0 ≤ k → k < ρ 2 3 → ρ 9 k = b → cuC ρ n k < 0) ∧ r1 = -1000002 ∧ σ1 = fd ρ 5 2))) ∨ (¬ ((0 ≤ v ∧ v < n) ∧ 0 ≤ b ∧ b < σ 1 3) ∧ r1 = -1000001 ∧ σ1 = fd σ 5 1)) (hm : (((0 ≤ v ∧ v < τ 18 1) ∧ 0 ≤ b ∧ b < τ 18 0) ∧ ∃ ρ, FrM τ ρ ∧ RowOK (τ 20) (τ 18 0) (ρ 28) (ρ 18 18) ∧ ((∃ k, 0 ≤ k ∧ k < ρ 18 18 ∧ ρ 28 k = b ∧ 0 ≤ cueM ρ v k ∧ r2 = cueM ρ v k ∧ τ1 = ρ) ∨ ((∀ k, 0 ≤ k → k < ρ 18 18 → ρ 28 k = b → cueM ρ v k < 0) ∧ r2 = -1000002 ∧ τ1 = fd ρ 27 2))) ∨ (¬ ((0 ≤ v ∧ v < τ 18 1) ∧ 0 ≤ b ∧ b < τ 18 0) ∧ r2 = -1000001 ∧ τ1 = fd τ 27 1)) : Step σ1 τ1 n N r1 r2 := by
  obtain ⟨⟨a1, a2, a3⟩, a4, ⟨b1, b2, b3, b4, b5⟩, a5, a6, a7, a8, a9, a10, a11, aV⟩ := id hE
  rcases hc with hc | hc <;> rcases hm with hm | hm
  · skip
    obtain ⟨c0, ρ, hd, hc⟩ := hc
    obtain ⟨m0, ρ', hf, hr, hm⟩ := hm
    have hv : 0 ≤ v ∧ v < n := by omega
    have hE2 := hE.scr0 hd.fr hf
    have hM2 := hf.ms hM
    obtain ⟨g1, g2, g3, g4, g5, g6, g7, g8, g9⟩ := dw_draw hE hM hv hd hf hr
    have uq : ∀ k j, 0 ≤ k → k < ρ 2 3 → 0 ≤ j → j < ρ 2 3 → ρ 9 k = ρ 9 j → k = j := fun k j k0 k1 j0 j1 e => by
      rcases (show k < j ∨ k = j ∨ j < k by omega) with h | h | h
      · have := g8 k j k0 h j1; omega
      · exact h
      · have := g8 j k j0 h k1; omega
    rcases hc with ⟨k, k0, k1, k2, k3, c2, c3⟩ | ⟨c1, c2, c3⟩ <;> rcases hm with ⟨j, j0, j1, j2, j3, m2, m3⟩ | ⟨m1, m2, m3⟩
    · rw [← g1] at j1
      have e := uq k j k0 k1 j0 j1 (by rw [k2, g3 j j0 j1, j2])
      subst e
      rw [c3, m3]
      exact ⟨by rw [c2, m2, g7 k k0 k1], hE2.mono, hM2⟩
    · exfalso
      have := m1 k k0 (by omega) (by rw [← g3 k k0 k1, k2])
      have := g7 k k0 k1
      omega
    · exfalso
      rw [← g1] at j1
      have := c1 j j0 j1 (by rw [g3 j j0 j1, j2])
      have := g7 j j0 j1
      omega
    · rw [c3, m3]; exact Step.fnd hE2 hM2 hN _ (by omega)
  · exfalso; omega
  · exfalso; omega
  · skip
    obtain ⟨-, c1, c2⟩ := hc
    obtain ⟨-, m1, m2⟩ := hm
    rw [c2, m2]
    exact Step.fnd hE hM hN _ (by omega)

set_option maxHeartbeats 1000000 in
theorem p_pages {σ τ σ1 τ1 : ST} {n : Nat} {N r1 r2 v w : Int} (hE : E σ τ n N) (hM : MS τ) (hN : N < 900000) (hc : (((0 ≤ v ∧ v < n) ∧ 0 ≤ w ∧ w ≤ 1) ∧ ∃ τ, PlR σ τ n v ∧ ((τ 15 0 = 0 ∧ r1 = -1000002 ∧ σ1 = fd τ 5 2) ∨ (¬ τ 15 0 = 0 ∧ w = 0 ∧ r1 = τ 15 0 ∧ σ1 = τ) ∨ (¬ τ 15 0 = 0 ∧ w = 1 ∧ r1 = τ 14 0 ∧ σ1 = τ))) ∨ (¬ ((0 ≤ v ∧ v < n) ∧ 0 ≤ w ∧ w ≤ 1) ∧ r1 = -1000001 ∧ σ1 = fd σ 5 1)) (hm : (((0 ≤ v ∧ v < τ 18 1) ∧ 0 ≤ w ∧ w ≤ 1) ∧ ∃ ρ, FPm τ ρ v ∧ ((ρ 18 18 = 0 ∧ r2 = -1000002 ∧ τ1 = fd ρ 27 2) ∨ (0 < ρ 18 18 ∧ w = 0 ∧ r2 = ρ 30 0 ∧ τ1 = ρ) ∨ (0 < ρ 18 18 ∧ w = 1 ∧ r2 = ρ 29 0 ∧ τ1 = ρ))) ∨ (¬ ((0 ≤ v ∧ v < τ 18 1) ∧ 0 ≤ w ∧ w ≤ 1) ∧ r2 = -1000001 ∧ τ1 = fd τ 27 1)) : Step σ1 τ1 n N r1 r2 := by
  obtain ⟨⟨a1, a2, a3⟩, a4, ⟨b1, b2, b3, b4, b5⟩, a5, a6, a7, a8, a9, a10, a11, aV⟩ := id hE
  rcases hc with hc | hc <;> rcases hm with hm | hm
  · skip
    obtain ⟨c0, ρ, hd, hc⟩ := hc
    obtain ⟨m0, ρ', hf, hm⟩ := hm
    have hv : 0 ≤ v ∧ v < n := by omega
    obtain ⟨⟨g1, g2, g3, g4, g5, g6, g7, g8, g9⟩, ⟨q1, q2, q3, q4, q5, q6, q7, q8, q9, q10, q11⟩, hfr⟩ := dw_plan hE hM hv hd hf
    have hE2 := hE.scr0 hfr hf.1
    have hM2 := hf.1.ms hM
    rcases hc with ⟨c1, c2, c3⟩ | ⟨c1, c4, c2, c3⟩ | ⟨c1, c4, c2, c3⟩ <;> rcases hm with ⟨m1, m2, m3⟩ | ⟨m1, m4, m2, m3⟩ | ⟨m1, m4, m2, m3⟩ <;> first
      | (exfalso; omega)
      | (rw [c3, m3]; exact Step.fnd hE2 hM2 hN _ (by omega))
      | (rw [c3, m3]; exact ⟨by omega, hE2.mono, hM2⟩)
  · exfalso; omega
  · exfalso; omega
  · skip
    obtain ⟨-, c1, c2⟩ := hc
    obtain ⟨-, m1, m2⟩ := hm
    rw [c2, m2]
    exact Step.fnd hE hM hN _ (by omega)

set_option maxHeartbeats 1000000 in
theorem p_page {σ τ σ1 τ1 : ST} {n : Nat} {N r1 r2 v i : Int} (hE : E σ τ n N) (hM : MS τ) (hN : N < 900000) (hc : (((0 ≤ v ∧ v < n) ∧ 0 ≤ i) ∧ ∃ τ, PlR σ τ n v ∧ ((walkF (Zc τ) (τ 2 3) i.toNat < τ 2 3 ∧ r1 = τ 9 (walkF (Zc τ) (τ 2 3) i.toNat) ∧ σ1 = τ) ∨ (¬ walkF (Zc τ) (τ 2 3) i.toNat < τ 2 3 ∧ r1 = -1000002 ∧ σ1 = fd τ 5 2))) ∨ (¬ ((0 ≤ v ∧ v < n) ∧ 0 ≤ i) ∧ r1 = -1000001 ∧ σ1 = fd σ 5 1)) (hm : (((0 ≤ v ∧ v < τ 18 1) ∧ 0 ≤ i) ∧ ∃ ρ, FPm τ ρ v ∧ ((walkF (ρ 31) (ρ 18 18) i.toNat < ρ 18 18 ∧ r2 = ρ 28 (walkF (ρ 31) (ρ 18 18) i.toNat) ∧ τ1 = ρ) ∨ (¬ walkF (ρ 31) (ρ 18 18) i.toNat < ρ 18 18 ∧ r2 = -1000002 ∧ τ1 = fd ρ 27 2))) ∨ (¬ ((0 ≤ v ∧ v < τ 18 1) ∧ 0 ≤ i) ∧ r2 = -1000001 ∧ τ1 = fd τ 27 1)) : Step σ1 τ1 n N r1 r2 := by
  obtain ⟨⟨a1, a2, a3⟩, a4, ⟨b1, b2, b3, b4, b5⟩, a5, a6, a7, a8, a9, a10, a11, aV⟩ := id hE
  rcases hc with hc | hc <;> rcases hm with hm | hm
  · skip
    obtain ⟨c0, ρ, hd, hc⟩ := hc
    obtain ⟨m0, ρ', hf, hm⟩ := hm
    have hv : 0 ≤ v ∧ v < n := by omega
    obtain ⟨⟨g1, g2, g3, g4, g5, g6, g7, g8, g9⟩, ⟨q1, q2, q3, q4, q5, q6, q7, q8, q9, q10, q11⟩, hfr⟩ := dw_plan hE hM hv hd hf
    have hE2 := hE.scr0 hfr hf.1
    have hM2 := hf.1.ms hM
    rw [q3] at hc
    have wp := (walk_mono q5 g2.1 i.toNat).1
    rw [q3] at wp
    rcases hc with ⟨c1, c2, c3⟩ | ⟨c1, c2, c3⟩ <;> rcases hm with ⟨m1, m2, m3⟩ | ⟨m1, m2, m3⟩
    · rw [c3, m3]; exact ⟨by rw [c2, m2, g3 _ wp c1], hE2.mono, hM2⟩
    · exfalso; omega
    · exfalso; omega
    · rw [c3, m3]; exact Step.fnd hE2 hM2 hN _ (by omega)
  · exfalso; omega
  · exfalso; omega
  · skip
    obtain ⟨-, c1, c2⟩ := hc
    obtain ⟨-, m1, m2⟩ := hm
    rw [c2, m2]
    exact Step.fnd hE hM hN _ (by omega)

set_option maxHeartbeats 1000000 in
theorem p_free {σ τ σ1 τ1 : ST} {n : Nat} {N r1 r2 v i : Int} (hE : E σ τ n N) (hM : MS τ) (hN : N < 900000) (hc : (((0 ≤ v ∧ v < n) ∧ 0 ≤ i) ∧ ∃ τ, PlR σ τ n v ∧ (((walkF (Zc τ) (τ 2 3) i.toNat < τ 2 3 ∧ walkF (Zc τ) (τ 2 3) i.toNat + Zc τ (walkF (Zc τ) (τ 2 3) i.toNat) < τ 2 3) ∧ r1 = τ 12 (walkF (Zc τ) (τ 2 3) i.toNat + Zc τ (walkF (Zc τ) (τ 2 3) i.toNat)) ∧ σ1 = τ) ∨ (¬ (walkF (Zc τ) (τ 2 3) i.toNat < τ 2 3 ∧ walkF (Zc τ) (τ 2 3) i.toNat + Zc τ (walkF (Zc τ) (τ 2 3) i.toNat) < τ 2 3) ∧ r1 = -1000002 ∧ σ1 = fd τ 5 2))) ∨ (¬ ((0 ≤ v ∧ v < n) ∧ 0 ≤ i) ∧ r1 = -1000001 ∧ σ1 = fd σ 5 1)) (hm : (((0 ≤ v ∧ v < τ 18 1) ∧ 0 ≤ i) ∧ ∃ ρ, FPm τ ρ v ∧ (((walkF (ρ 31) (ρ 18 18) i.toNat < ρ 18 18 ∧ walkF (ρ 31) (ρ 18 18) i.toNat + ρ 31 (walkF (ρ 31) (ρ 18 18) i.toNat) < ρ 18 18) ∧ r2 = frM ρ v (walkF (ρ 31) (ρ 18 18) i.toNat + ρ 31 (walkF (ρ 31) (ρ 18 18) i.toNat)) ∧ τ1 = ρ) ∨ (¬ (walkF (ρ 31) (ρ 18 18) i.toNat < ρ 18 18 ∧ walkF (ρ 31) (ρ 18 18) i.toNat + ρ 31 (walkF (ρ 31) (ρ 18 18) i.toNat) < ρ 18 18) ∧ r2 = -1000002 ∧ τ1 = fd ρ 27 2))) ∨ (¬ ((0 ≤ v ∧ v < τ 18 1) ∧ 0 ≤ i) ∧ r2 = -1000001 ∧ τ1 = fd τ 27 1)) : Step σ1 τ1 n N r1 r2 := by
  obtain ⟨⟨a1, a2, a3⟩, a4, ⟨b1, b2, b3, b4, b5⟩, a5, a6, a7, a8, a9, a10, a11, aV⟩ := id hE
  rcases hc with hc | hc <;> rcases hm with hm | hm
  · skip
    obtain ⟨c0, ρ, hd, hc⟩ := hc
    obtain ⟨m0, ρ', hf, hm⟩ := hm
    have hv : 0 ≤ v ∧ v < n := by omega
    obtain ⟨⟨g1, g2, g3, g4, g5, g6, g7, g8, g9⟩, ⟨q1, q2, q3, q4, q5, q6, q7, q8, q9, q10, q11⟩, hfr⟩ := dw_plan hE hM hv hd hf
    have hE2 := hE.scr0 hfr hf.1
    have hM2 := hf.1.ms hM
    rw [q3] at hc
    have wp := (walk_mono q5 g2.1 i.toNat).1
    rw [q3] at wp
    have zq := q4 (walkF (ρ' 31) (ρ' 18 18) i.toNat) wp
    have zp := q5 (walkF (ρ' 31) (ρ' 18 18) i.toNat) wp
    rcases hc with ⟨c1, c2, c3⟩ | ⟨c1, c2, c3⟩ <;> rcases hm with ⟨m1, m2, m3⟩ | ⟨m1, m2, m3⟩
    · have zq := zq c1.1
      have zp := zp c1.1
      rw [c3, m3]; exact ⟨by rw [c2, m2, q6 _ (by omega) c1.2, zq], hE2.mono, hM2⟩
    · exfalso
      have zq := zq c1.1
      omega
    · exfalso
      have zq := zq (by omega)
      omega
    · rw [c3, m3]; exact Step.fnd hE2 hM2 hN _ (by omega)
  · exfalso; omega
  · exfalso; omega
  · skip
    obtain ⟨-, c1, c2⟩ := hc
    obtain ⟨-, m1, m2⟩ := hm
    rw [c2, m2]
    exact Step.fnd hE hM hN _ (by omega)

set_option maxHeartbeats 1000000 in
theorem p_systems {σ τ σ1 τ1 : ST} {n : Nat} {N r1 r2 v i : Int} (hE : E σ τ n N) (hM : MS τ) (hN : N < 900000) (hc : (((0 ≤ v ∧ v < n) ∧ 0 ≤ i) ∧ ∃ τ τ2, PlR σ τ n v ∧ AgF τ τ2 ∧ ((walkF (Zc τ) (τ 2 3) i.toNat < τ 2 3 ∧ r1 = syC τ (walkF (Zc τ) (τ 2 3) i.toNat) (Zc τ (walkF (Zc τ) (τ 2 3) i.toNat)) ∧ σ1 = τ2) ∨ (¬ walkF (Zc τ) (τ 2 3) i.toNat < τ 2 3 ∧ r1 = -1000002 ∧ σ1 = fd τ2 5 2))) ∨ (¬ ((0 ≤ v ∧ v < n) ∧ 0 ≤ i) ∧ r1 = -1000001 ∧ σ1 = fd σ 5 1)) (hm : (((0 ≤ v ∧ v < τ 18 1) ∧ 0 ≤ i) ∧ ∃ ρ, FPm τ ρ v ∧ ((walkF (ρ 31) (ρ 18 18) i.toNat < ρ 18 18 ∧ r2 = syM ρ v (walkF (ρ 31) (ρ 18 18) i.toNat) (ρ 31 (walkF (ρ 31) (ρ 18 18) i.toNat)) ∧ τ1 = ρ) ∨ (¬ walkF (ρ 31) (ρ 18 18) i.toNat < ρ 18 18 ∧ r2 = -1000002 ∧ τ1 = fd ρ 27 2))) ∨ (¬ ((0 ≤ v ∧ v < τ 18 1) ∧ 0 ≤ i) ∧ r2 = -1000001 ∧ τ1 = fd τ 27 1)) : Step σ1 τ1 n N r1 r2 := by
  obtain ⟨⟨a1, a2, a3⟩, a4, ⟨b1, b2, b3, b4, b5⟩, a5, a6, a7, a8, a9, a10, a11, aV⟩ := id hE
  rcases hc with hc | hc <;> rcases hm with hm | hm
  · skip
    obtain ⟨c0, ρ, ρ2, hd, hag, hc⟩ := hc
    obtain ⟨m0, ρ', hf, hm⟩ := hm
    have hv : 0 ≤ v ∧ v < n := by omega
    obtain ⟨⟨g1, g2, g3, g4, g5, g6, g7, g8, g9⟩, ⟨q1, q2, q3, q4, q5, q6, q7, q8, q9, q10, q11⟩, hfr⟩ := dw_plan hE hM hv hd hf
    have hE2 := hE.scr0 (hfr.tr (fun c x1 x2 x3 x4 x5 x6 x7 x8 x9 x10 => hag c x7 x8 x9 x10)) hf.1
    have hM2 := hf.1.ms hM
    rw [q3] at hc
    have wp := (walk_mono q5 g2.1 i.toNat).1
    rw [q3] at wp
    have zq := q4 (walkF (ρ' 31) (ρ' 18 18) i.toNat) wp
    have zp := q5 (walkF (ρ' 31) (ρ' 18 18) i.toNat) wp
    rcases hc with ⟨c1, c2, c3⟩ | ⟨c1, c2, c3⟩ <;> rcases hm with ⟨m1, m2, m3⟩ | ⟨m1, m2, m3⟩
    · have zq := zq c1
      have zp := zp c1
      rw [c3, m3]; exact ⟨by rw [c2, m2, q7 _ _ wp zp.1 zp.2, zq], hE2.mono, hM2⟩
    · exfalso; omega
    · exfalso; omega
    · rw [c3, m3]; exact Step.fnd hE2 hM2 hN _ (by omega)
  · exfalso; omega
  · exfalso; omega
  · skip
    obtain ⟨-, c1, c2⟩ := hc
    obtain ⟨-, m1, m2⟩ := hm
    rw [c2, m2]
    exact Step.fnd hE hM hN _ (by omega)

set_option maxHeartbeats 1000000 in
theorem p_check {σ τ σ1 τ1 : ST} {n : Nat} {N r1 r2 v : Int} (hE : E σ τ n N) (hM : MS τ) (hN : N < 900000) (hc : ((0 ≤ v ∧ v < n) ∧ DrC (up2 σ 4 1 0) σ1 v (σ 0 6) ∧ r1 = ckC σ1 (σ 4 1)) ∨ (¬ (0 ≤ v ∧ v < n) ∧ r1 = -1000001 ∧ σ1 = fd (up2 σ 4 1 0) 5 1)) (hm : ((0 ≤ v ∧ v < τ 18 1) ∧ FrM (up2 τ 18 2 0) τ1 ∧ RowOK (τ 20) (τ 18 0) (τ1 28) (τ1 18 18) ∧ r2 = ckM τ1 v (τ 18 2)) ∨ (¬ (0 ≤ v ∧ v < τ 18 1) ∧ r2 = -1000001 ∧ τ1 = fd (up2 τ 18 2 0) 27 1)) : Step σ1 τ1 n N r1 r2 := by
  obtain ⟨⟨a1, a2, a3⟩, a4, ⟨b1, b2, b3, b4, b5⟩, a5, a6, a7, a8, a9, a10, a11, aV⟩ := id hE
  have hE0 := hE.told
  have hM0 := hM.w0
  rcases hc with hc | hc <;> rcases hm with hm | hm
  · obtain ⟨c0, hd, c1⟩ := hc
    obtain ⟨m0, hf, hr, m1⟩ := hm
    have hE2 := hE0.scr0 hd.fr hf
    have hM2 := hf.ms hM0
    obtain ⟨g1, g2, g3, g4, g5, g6, g7, g8, g9⟩ := dw_draw hE0 hM0 c0 hd hf (by rw [up2_ne (by decide), up2_at (by decide)]; exact hr)
    refine ⟨?_, hE2.mono, hM2⟩
    rw [c1, m1, a4]
    unfold ckC ckM
    rw [← g1]
    exact chkF_cg g4 g5 hE2.2.2.2.2.2.2.2.1 _ 0 0 (Int.le_refl _) (by omega)
  · exfalso; omega
  · exfalso; omega
  · obtain ⟨-, c1, c2⟩ := hc
    obtain ⟨-, m1, m2⟩ := hm
    rw [c2, m2]
    exact Step.fnd hE0 hM0 hN _ (by omega)

set_option maxHeartbeats 1000000 in
theorem p_voice {σ τ σ1 τ1 : ST} {a a' : Nat → Nat} {n n' : Nat} {N r1 r2 x y : Int} (hE : E σ τ n N) (hM : MS τ) (hN : N < 900000) (hc : VoP a n σ x y r1 σ1 a' n') (hm : (((x = 2 ∧ -11 ≤ y ∧ y ≤ 11) ∨ ((x = 0 ∨ x = 1) ∧ y = 0)) ∧ τ 18 1 < 6 ∧ r2 = τ 18 1 ∧ τ1 = up2 (up2 (up2 (up2 τ 21 (τ 18 1) x) 22 (τ 18 1) y) 23 (τ 18 1) 1) 18 1 (τ 18 1 + 1)) ∨ (((x = 2 ∧ -11 ≤ y ∧ y ≤ 11) ∨ ((x = 0 ∨ x = 1) ∧ y = 0)) ∧ τ 18 1 = 6 ∧ r2 = -1000004 ∧ τ1 = fd τ 27 4) ∨ (¬ ((x = 2 ∧ -11 ≤ y ∧ y ≤ 11) ∨ ((x = 0 ∨ x = 1) ∧ y = 0)) ∧ r2 = -1000001 ∧ τ1 = fd τ 27 1)) : Step σ1 τ1 n' N r1 r2 := by
  obtain ⟨⟨a1, a2, a3⟩, a4, ⟨b1, b2, b3, b4, b5⟩, a5, a6, a7, a8, a9, a10, a11, aV⟩ := id hE
  obtain ⟨hb, hvn, hwt, hky, hdu, hwd, hli, hne, hse, hmk, hkd, hsh, hos, hpl, hld, hF, hlp, hpo⟩ := id hM
  obtain ⟨-, hc⟩ := hc
  rcases hc with ⟨c0, c3, c1, c4, c2⟩ | ⟨c0, c3, c1, c4, c2⟩ | ⟨c0, c1, c4, c2⟩ <;> rcases hm with ⟨m0, m3, m1, m2⟩ | ⟨m0, m3, m1, m2⟩ | ⟨m0, m1, m2⟩
  · rw [c2, m2, c4, a3]
    unfold vOk at c0
    refine ⟨by omega, ?_, (((hM.upA (by omega)).upA (by omega)).upA (by omega)).up18 (by omega)⟩
    have sl : ∀ c, c < 39 → sV σ n x y c = σ c := fun c hc => sV_lt (by omega)
    unfold E
    simp (disch := omega) only [up2_self, up2_at, up2_ne, sl]
    refine ⟨⟨a1, by omega, by omega⟩, a4, ⟨b1, b2, b3, b4, b5⟩, fun j => ⟨(a5 j).1, by have := (a5 j).2; omega⟩, a6, a7, a8, a9, fun j hj => a10 j (by omega), fun j hj => a11 j (by omega), fun i hi => ?_⟩
    by_cases e : i = n
    · subst e
      unfold VE
      simp (disch := omega) only [up2_self, up2_at, up2_ne]
      rw [sV_at, sV_gt (by omega), sV_gt (by omega), sV_gt (by omega), sV_gt (by omega)]
      have h32 := a11 i (Int.le_refl _)
      refine ⟨⟨rfl, rfl, rfl, h32.symm⟩, fun b b0 b1 => ?_, fun _ _ => ⟨rfl, rfl⟩, fun q => by omega⟩
      have := a10 (40 * i + b) (by omega)
      exact ⟨this.1.symm, this.2.symm⟩
    · obtain ⟨v1, v2, v3, v4⟩ := aV i (by omega)
      unfold VE
      simp (disch := omega) only [up2_self, up2_at, up2_ne]
      rw [sV_lt (by omega), sV_lt (by omega), sV_lt (by omega), sV_lt (by omega), sV_lt (by omega)]
      exact ⟨v1, v2, v3, v4⟩
  · exfalso; omega
  · exfalso; exact m0 c0
  · exfalso; omega
  · rw [c2, m2, c4]; exact Step.fnd hE hM hN _ (by omega)
  · exfalso; exact m0 c0
  · exfalso; exact c0 m0
  · exfalso; exact c0 m0
  · rw [c2, m2, c4]; exact Step.fnd hE hM hN _ (by omega)
