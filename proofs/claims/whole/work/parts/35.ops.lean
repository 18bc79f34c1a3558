set_option maxHeartbeats 1000000 in
theorem p_key {σ τ σ1 τ1 : ST} {n : Nat} {N r1 r2 x : Int} (hE : E σ τ n N) (hM : MS τ) (hN : N < 900000) (hc : ((-7 ≤ x ∧ x ≤ 7) ∧ r1 = σ 0 5 ∧ σ1 = up2 σ 0 5 x) ∨ (¬ (-7 ≤ x ∧ x ≤ 7) ∧ r1 = -1000001 ∧ σ1 = fd σ 5 1)) (hm : ((-7 ≤ x ∧ x ≤ 7) ∧ r2 = τ 18 3 ∧ τ1 = up2 τ 18 3 x) ∨ (¬ (-7 ≤ x ∧ x ≤ 7) ∧ r2 = -1000001 ∧ τ1 = fd τ 27 1)) : Step σ1 τ1 n N r1 r2 := by
  obtain ⟨⟨a1, a2, a3⟩, a4, ⟨b1, b2, b3, b4, b5⟩, a5, a6, a7, a8, a9, a10, a11, aV⟩ := id hE
  obtain ⟨hb, hvn, hwt, hky, hdu, hwd, hli, hne, hse, hmk, hkd, hsh, hos, hpl, hld, hF, hlp, hpo⟩ := id hM
  rcases hc with hc | hc <;> rcases hm with hm | hm
  · obtain ⟨c0, c1, c2⟩ := hc
    obtain ⟨m0, m1, m2⟩ := hm
    rw [c2, m2]
    refine ⟨by omega, ?_, hM.up18 (by omega)⟩
    unfold E
    simp (disch := omega) only [up2_self, up2_at, up2_ne]
    exact ⟨⟨a1, a2, a3⟩, a4, ⟨by first | trivial | exact b1, by first | trivial | exact b2, by first | trivial | exact b3, by first | trivial | exact b4, by first | trivial | exact b5⟩, fun j => ⟨(a5 j).1, by have := (a5 j).2; omega⟩, a6, a7, a8, a9, a10, a11, fun i hi => (aV i hi).cg (fun c _ _ => by simp (disch := omega) only [up2_ne]) (fun c hc => by simp (disch := omega) only [up2_ne]) (by simp (disch := omega) only [up2_self, up2_at, up2_ne]; omega)⟩
  · exfalso; omega
  · exfalso; omega
  · skip
    obtain ⟨-, c1, c2⟩ := hc
    obtain ⟨-, m1, m2⟩ := hm
    rw [c2, m2]
    exact Step.fnd hE hM hN _ (by omega)

set_option maxHeartbeats 1000000 in
theorem p_due {σ τ σ1 τ1 : ST} {n : Nat} {N r1 r2 x : Int} (hE : E σ τ n N) (hM : MS τ) (hN : N < 900000) (hc : ((1 ≤ x ∧ x ≤ 20) ∧ r1 = σ 0 6 ∧ σ1 = up2 σ 0 6 x) ∨ (¬ (1 ≤ x ∧ x ≤ 20) ∧ r1 = -1000001 ∧ σ1 = fd σ 5 1)) (hm : ((1 ≤ x ∧ x ≤ 20) ∧ r2 = τ 18 4 ∧ τ1 = up2 τ 18 4 x) ∨ (¬ (1 ≤ x ∧ x ≤ 20) ∧ r2 = -1000001 ∧ τ1 = fd τ 27 1)) : Step σ1 τ1 n N r1 r2 := by
  obtain ⟨⟨a1, a2, a3⟩, a4, ⟨b1, b2, b3, b4, b5⟩, a5, a6, a7, a8, a9, a10, a11, aV⟩ := id hE
  obtain ⟨hb, hvn, hwt, hky, hdu, hwd, hli, hne, hse, hmk, hkd, hsh, hos, hpl, hld, hF, hlp, hpo⟩ := id hM
  rcases hc with hc | hc <;> rcases hm with hm | hm
  · obtain ⟨c0, c1, c2⟩ := hc
    obtain ⟨m0, m1, m2⟩ := hm
    rw [c2, m2]
    refine ⟨by omega, ?_, hM.up18 (by omega)⟩
    unfold E
    simp (disch := omega) only [up2_self, up2_at, up2_ne]
    exact ⟨⟨a1, a2, a3⟩, a4, ⟨by first | trivial | exact b1, by first | trivial | exact b2, by first | trivial | exact b3, by first | trivial | exact b4, by first | trivial | exact b5⟩, fun j => ⟨(a5 j).1, by have := (a5 j).2; omega⟩, a6, a7, a8, a9, a10, a11, fun i hi => (aV i hi).cg (fun c _ _ => by simp (disch := omega) only [up2_ne]) (fun c hc => by simp (disch := omega) only [up2_ne]) (by simp (disch := omega) only [up2_self, up2_at, up2_ne]; omega)⟩
  · exfalso; omega
  · exfalso; omega
  · skip
    obtain ⟨-, c1, c2⟩ := hc
    obtain ⟨-, m1, m2⟩ := hm
    rw [c2, m2]
    exact Step.fnd hE hM hN _ (by omega)

set_option maxHeartbeats 1000000 in
theorem p_need {σ τ σ1 τ1 : ST} {n : Nat} {N r1 r2 x : Int} (hE : E σ τ n N) (hM : MS τ) (hN : N < 900000) (hc : ((0 ≤ x ∧ x ≤ 60) ∧ r1 = σ 0 9 ∧ σ1 = up2 σ 0 9 x) ∨ (¬ (0 ≤ x ∧ x ≤ 60) ∧ r1 = -1000001 ∧ σ1 = fd σ 5 1)) (hm : ((0 ≤ x ∧ x ≤ 60) ∧ r2 = τ 18 7 ∧ τ1 = up2 τ 18 7 x) ∨ (¬ (0 ≤ x ∧ x ≤ 60) ∧ r2 = -1000001 ∧ τ1 = fd τ 27 1)) : Step σ1 τ1 n N r1 r2 := by
  obtain ⟨⟨a1, a2, a3⟩, a4, ⟨b1, b2, b3, b4, b5⟩, a5, a6, a7, a8, a9, a10, a11, aV⟩ := id hE
  obtain ⟨hb, hvn, hwt, hky, hdu, hwd, hli, hne, hse, hmk, hkd, hsh, hos, hpl, hld, hF, hlp, hpo⟩ := id hM
  rcases hc with hc | hc <;> rcases hm with hm | hm
  · obtain ⟨c0, c1, c2⟩ := hc
    obtain ⟨m0, m1, m2⟩ := hm
    rw [c2, m2]
    refine ⟨by omega, ?_, hM.up18 (by omega)⟩
    unfold E
    simp (disch := omega) only [up2_self, up2_at, up2_ne]
    exact ⟨⟨a1, a2, a3⟩, a4, ⟨by first | trivial | exact b1, by first | trivial | exact b2, by first | trivial | exact b3, by first | trivial | exact b4, by first | trivial | exact b5⟩, fun j => ⟨(a5 j).1, by have := (a5 j).2; omega⟩, a6, a7, a8, a9, a10, a11, fun i hi => (aV i hi).cg (fun c _ _ => by simp (disch := omega) only [up2_ne]) (fun c hc => by simp (disch := omega) only [up2_ne]) (by simp (disch := omega) only [up2_self, up2_at, up2_ne]; omega)⟩
  · exfalso; omega
  · exfalso; omega
  · skip
    obtain ⟨-, c1, c2⟩ := hc
    obtain ⟨-, m1, m2⟩ := hm
    rw [c2, m2]
    exact Step.fnd hE hM hN _ (by omega)

set_option maxHeartbeats 1000000 in
theorem p_paper {σ τ σ1 τ1 : ST} {n : Nat} {N r1 r2 x y : Int} (hE : E σ τ n N) (hM : MS τ) (hN : N < 900000) (hc : (((21 ≤ x ∧ x ≤ 60) ∧ (1 ≤ y ∧ y ≤ 8)) ∧ r1 = 1 ∧ σ1 = up2 (up2 σ 0 7 x) 0 8 y) ∨ (¬ ((21 ≤ x ∧ x ≤ 60) ∧ (1 ≤ y ∧ y ≤ 8)) ∧ r1 = -1000001 ∧ σ1 = fd σ 5 1)) (hm : (((21 ≤ x ∧ x ≤ 60) ∧ (1 ≤ y ∧ y ≤ 8)) ∧ r2 = 1 ∧ τ1 = up2 (up2 τ 18 5 x) 18 6 y) ∨ (¬ ((21 ≤ x ∧ x ≤ 60) ∧ (1 ≤ y ∧ y ≤ 8)) ∧ r2 = -1000001 ∧ τ1 = fd τ 27 1)) : Step σ1 τ1 n N r1 r2 := by
  obtain ⟨⟨a1, a2, a3⟩, a4, ⟨b1, b2, b3, b4, b5⟩, a5, a6, a7, a8, a9, a10, a11, aV⟩ := id hE
  obtain ⟨hb, hvn, hwt, hky, hdu, hwd, hli, hne, hse, hmk, hkd, hsh, hos, hpl, hld, hF, hlp, hpo⟩ := id hM
  rcases hc with hc | hc <;> rcases hm with hm | hm
  · obtain ⟨c0, c1, c2⟩ := hc
    obtain ⟨m0, m1, m2⟩ := hm
    rw [c2, m2]
    refine ⟨by omega, ?_, (hM.up18 (by omega)).up18 (by omega)⟩
    unfold E
    simp (disch := omega) only [up2_self, up2_at, up2_ne]
    exact ⟨⟨a1, a2, a3⟩, a4, ⟨by first | trivial | exact b1, by first | trivial | exact b2, by first | trivial | exact b3, by first | trivial | exact b4, by first | trivial | exact b5⟩, fun j => ⟨(a5 j).1, by have := (a5 j).2; omega⟩, a6, a7, a8, a9, a10, a11, fun i hi => (aV i hi).cg (fun c _ _ => by simp (disch := omega) only [up2_ne]) (fun c hc => by simp (disch := omega) only [up2_ne]) (by simp (disch := omega) only [up2_self, up2_at, up2_ne]; omega)⟩
  · exfalso; omega
  · exfalso; omega
  · skip
    obtain ⟨-, c1, c2⟩ := hc
    obtain ⟨-, m1, m2⟩ := hm
    rw [c2, m2]
    exact Step.fnd hE hM hN _ (by omega)

set_option maxHeartbeats 1000000 in
theorem p_bar {σ τ σ1 τ1 : ST} {n : Nat} {N r1 r2 x : Int} (hE : E σ τ n N) (hM : MS τ) (hN : N < 900000) (hc : ((1 ≤ x ∧ x ≤ 60) ∧ σ 1 3 < 40 ∧ r1 = σ 1 3 ∧ σ1 = up2 (up2 σ 6 (σ 1 3) x) 1 3 (σ 1 3 + 1)) ∨ ((1 ≤ x ∧ x ≤ 60) ∧ σ 1 3 = 40 ∧ r1 = -1000004 ∧ σ1 = fd σ 5 4) ∨ (¬ (1 ≤ x ∧ x ≤ 60) ∧ r1 = -1000001 ∧ σ1 = fd σ 5 1)) (hm : ((1 ≤ x ∧ x ≤ 60) ∧ τ 18 0 < 40 ∧ r2 = τ 18 0 ∧ τ1 = up2 (up2 (up2 τ 19 (τ 18 0) x) 20 (τ 18 0) 0) 18 0 (τ 18 0 + 1)) ∨ ((1 ≤ x ∧ x ≤ 60) ∧ τ 18 0 = 40 ∧ r2 = -1000004 ∧ τ1 = fd τ 27 4) ∨ (¬ (1 ≤ x ∧ x ≤ 60) ∧ r2 = -1000001 ∧ τ1 = fd τ 27 1)) : Step σ1 τ1 n N r1 r2 := by
  obtain ⟨⟨a1, a2, a3⟩, a4, ⟨b1, b2, b3, b4, b5⟩, a5, a6, a7, a8, a9, a10, a11, aV⟩ := id hE
  obtain ⟨hb, hvn, hwt, hky, hdu, hwd, hli, hne, hse, hmk, hkd, hsh, hos, hpl, hld, hF, hlp, hpo⟩ := id hM
  rcases hc with hc | hc | hc <;> rcases hm with hm | hm | hm
  · obtain ⟨c0, c3, c1, c2⟩ := hc
    obtain ⟨m0, m3, m1, m2⟩ := hm
    rw [c2, m2, a1]
    refine ⟨by omega, ?_, ((hM.upA (by omega)).upA (by omega)).up18 (by omega)⟩
    unfold E
    simp (disch := omega) only [up2_self, up2_at, up2_ne]
    refine ⟨⟨trivial, a2, a3⟩, a4, ⟨b1, b2, b3, b4, b5⟩, fun j => ⟨(a5 j).1, by have := (a5 j).2; omega⟩, fun j => ?_, fun j => ?_, fun j hj => ?_, a9, a10, a11, fun i hi => (aV i hi).cg (fun c _ _ => by simp (disch := omega) only [up2_ne]) (fun c hc => by simp (disch := omega) only [up2_ne]) (by simp (disch := omega) only [up2_self, up2_at, up2_ne]; omega)⟩
    · rw [up2_c, up2_c]; simp only [a6]
    · rw [up2_c]
      by_cases e : j = τ 18 0
      · simp only [e, if_true]; rw [a7]; exact a8 _ (Int.le_refl _)
      · simp only [e, if_false]; exact a7 j
    · rw [up2_c]
      simp only [show ¬ j = τ 18 0 by omega, if_false]
      exact a8 j (by omega)
  · exfalso; omega
  · exfalso; omega
  · exfalso; omega
  · obtain ⟨-, -, c1, c2⟩ := hc
    obtain ⟨-, -, m1, m2⟩ := hm
    rw [c2, m2]
    exact Step.fnd hE hM hN _ (by omega)
  · exfalso; omega
  · exfalso; omega
  · exfalso; omega
  · skip
    obtain ⟨-, c1, c2⟩ := hc
    obtain ⟨-, m1, m2⟩ := hm
    rw [c2, m2]
    exact Step.fnd hE hM hN _ (by omega)

set_option maxHeartbeats 1000000 in
theorem p_sign {σ τ σ1 τ1 : ST} {n : Nat} {N r1 r2 b m : Int} (hE : E σ τ n N) (hM : MS τ) (hN : N < 900000) (hc : (((0 ≤ b ∧ b < σ 1 3) ∧ 0 ≤ m ∧ m ≤ 7) ∧ r1 = σ 7 b ∧ σ1 = up2 σ 7 b m) ∨ (¬ ((0 ≤ b ∧ b < σ 1 3) ∧ 0 ≤ m ∧ m ≤ 7) ∧ r1 = -1000001 ∧ σ1 = fd σ 5 1)) (hm : (((0 ≤ b ∧ b < τ 18 0) ∧ 0 ≤ m ∧ m ≤ 7) ∧ r2 = τ 20 b ∧ τ1 = up2 τ 20 b m) ∨ (¬ ((0 ≤ b ∧ b < τ 18 0) ∧ 0 ≤ m ∧ m ≤ 7) ∧ r2 = -1000001 ∧ τ1 = fd τ 27 1)) : Step σ1 τ1 n N r1 r2 := by
  obtain ⟨⟨a1, a2, a3⟩, a4, ⟨b1, b2, b3, b4, b5⟩, a5, a6, a7, a8, a9, a10, a11, aV⟩ := id hE
  obtain ⟨hb, hvn, hwt, hky, hdu, hwd, hli, hne, hse, hmk, hkd, hsh, hos, hpl, hld, hF, hlp, hpo⟩ := id hM
  rcases hc with hc | hc <;> rcases hm with hm | hm
  · obtain ⟨c0, c1, c2⟩ := hc
    obtain ⟨m0, m1, m2⟩ := hm
    rw [c2, m2]
    refine ⟨by rw [c1, m1, a7], ?_, hM.upA (by omega)⟩
    unfold E
    simp (disch := omega) only [up2_self, up2_at, up2_ne]
    refine ⟨⟨a1, a2, a3⟩, a4, ⟨b1, b2, b3, b4, b5⟩, fun j => ⟨(a5 j).1, by have := (a5 j).2; omega⟩, a6, fun j => ?_, fun j hj => ?_, a9, a10, a11, fun i hi => (aV i hi).cg (fun c _ _ => by simp (disch := omega) only [up2_ne]) (fun c hc => by simp (disch := omega) only [up2_ne]) (by simp (disch := omega) only [up2_self, up2_at, up2_ne]; omega)⟩
    · rw [up2_c, up2_c]; simp only [a7]
    · rw [up2_at (by omega)]; exact a8 j hj
  · exfalso; omega
  · exfalso; omega
  · skip
    obtain ⟨-, c1, c2⟩ := hc
    obtain ⟨-, m1, m2⟩ := hm
    rw [c2, m2]
    exact Step.fnd hE hM hN _ (by omega)

set_option maxHeartbeats 1000000 in
theorem p_cut {σ τ σ1 τ1 : ST} {n : Nat} {N r1 r2 x y z : Int} (hE : E σ τ n N) (hM : MS τ) (hN : N < 900000) (hc : (((0 ≤ x ∧ x < σ 1 3) ∧ (0 ≤ y ∧ y < σ 1 3) ∧ x ≤ y ∧ 0 ≤ z ∧ z ≤ 1) ∧ CutI 7 σ σ1 z x (y + 1) r1) ∨ (¬ ((0 ≤ x ∧ x < σ 1 3) ∧ (0 ≤ y ∧ y < σ 1 3) ∧ x ≤ y ∧ 0 ≤ z ∧ z ≤ 1) ∧ r1 = -1000001 ∧ σ1 = fd σ 5 1)) (hm : (((0 ≤ x ∧ x < τ 18 0) ∧ (0 ≤ y ∧ y < τ 18 0) ∧ x ≤ y ∧ 0 ≤ z ∧ z ≤ 1) ∧ CutI 20 τ τ1 z x (y + 1) r2) ∨ (¬ ((0 ≤ x ∧ x < τ 18 0) ∧ (0 ≤ y ∧ y < τ 18 0) ∧ x ≤ y ∧ 0 ≤ z ∧ z ≤ 1) ∧ r2 = -1000001 ∧ τ1 = fd τ 27 1)) : Step σ1 τ1 n N r1 r2 := by
  obtain ⟨⟨a1, a2, a3⟩, a4, ⟨b1, b2, b3, b4, b5⟩, a5, a6, a7, a8, a9, a10, a11, aV⟩ := id hE
  obtain ⟨hb, hvn, hwt, hky, hdu, hwd, hli, hne, hse, hmk, hkd, hsh, hos, hpl, hld, hF, hlp, hpo⟩ := id hM
  rcases hc with hc | hc <;> rcases hm with hm | hm
  · obtain ⟨c0, c1, c2, c3, c4⟩ := hc
    obtain ⟨m0, m1, m2, m3, m4⟩ := hm
    have e7 : σ 7 = τ 20 := funext a7
    have hq : ∀ j, 0 ≤ τ1 20 j ∧ τ1 20 j ≤ 7 := fun j => by
      rw [m4 j]
      have := hmk j
      split <;> omega
    refine ⟨by rw [c2, m2, e7], ?_, ?_⟩
    · unfold E
      rw [c3 0 (by decide), c3 1 (by decide), c3 4 (by decide), c3 5 (by decide), c3 6 (by decide), c3 17 (by decide), m3 18 (by decide), m3 19 (by decide), m3 24 (by decide), m3 25 (by decide), m3 26 (by decide), m3 27 (by decide), m3 32 (by decide)]
      refine ⟨⟨a1, a2, a3⟩, a4, ⟨b1, b2, b3, b4, b5⟩, fun j => ⟨(a5 j).1, by have := (a5 j).2; omega⟩, a6, fun j => ?_, fun j hj => ?_, a9, a10, a11, fun i hi => (aV i hi).cg (fun c _ _ => c3 c (by omega)) (fun c hc => m3 c (by omega)) (by rw [m3 18 (by decide)]; exact Int.le_refl _)⟩
      · rw [c4 j, m4 j, e7]
      · rw [m4 j, if_neg (by omega)]; exact a8 j hj
    · unfold MS
      rw [m3 18 (by decide), m3 19 (by decide), m3 21 (by decide), m3 22 (by decide), m3 23 (by decide), m3 24 (by decide), m3 25 (by decide), m3 27 (by decide), m3 32 (by decide), m3 33 (by decide)]
      exact ⟨hb, hvn, hwt, hky, hdu, hwd, hli, hne, hse, hq, hkd, hsh, hos, hpl, hld, hF, hlp, hpo⟩
  · exfalso; omega
  · exfalso; omega
  · skip
    obtain ⟨-, c1, c2⟩ := hc
    obtain ⟨-, m1, m2⟩ := hm
    rw [c2, m2]
    exact Step.fnd hE hM hN _ (by omega)

set_option maxHeartbeats 1000000 in
theorem p_stage {σ τ σ1 τ1 : ST} {n : Nat} {N r1 r2 v m : Int} (hE : E σ τ n N) (hM : MS τ) (hN : N < 900000) (hc : (((0 ≤ v ∧ v < n) ∧ 0 ≤ m ∧ m ≤ 1) ∧ r1 = σ (39 + 5 * v.toNat) 4 ∧ σ1 = up2 σ (39 + 5 * v.toNat) 4 m) ∨ (¬ ((0 ≤ v ∧ v < n) ∧ 0 ≤ m ∧ m ≤ 1) ∧ r1 = -1000001 ∧ σ1 = fd σ 5 1)) (hm : (((0 ≤ v ∧ v < τ 18 1) ∧ 0 ≤ m ∧ m ≤ 1) ∧ r2 = τ 23 v ∧ τ1 = up2 τ 23 v m) ∨ (¬ ((0 ≤ v ∧ v < τ 18 1) ∧ 0 ≤ m ∧ m ≤ 1) ∧ r2 = -1000001 ∧ τ1 = fd τ 27 1)) : Step σ1 τ1 n N r1 r2 := by
  obtain ⟨⟨a1, a2, a3⟩, a4, ⟨b1, b2, b3, b4, b5⟩, a5, a6, a7, a8, a9, a10, a11, aV⟩ := id hE
  obtain ⟨hb, hvn, hwt, hky, hdu, hwd, hli, hne, hse, hmk, hkd, hsh, hos, hpl, hld, hF, hlp, hpo⟩ := id hM
  rcases hc with hc | hc <;> rcases hm with hm | hm
  · obtain ⟨c0, c1, c2⟩ := hc
    obtain ⟨m0, m1, m2⟩ := hm
    have ev : ((v.toNat : Nat) : Int) = v := by omega
    have hv := aV v.toNat (by omega)
    rw [c2, m2]
    refine ⟨by rw [c1, m1, hv.1.2.2.1, ev], ?_, hM.upA (by omega)⟩
    unfold E
    simp (disch := omega) only [up2_self, up2_at, up2_ne]
    refine ⟨⟨a1, a2, a3⟩, a4, ⟨b1, b2, b3, b4, b5⟩, fun j => ⟨(a5 j).1, by have := (a5 j).2; omega⟩, a6, a7, a8, a9, a10, a11, fun i hi => ?_⟩
    obtain ⟨⟨v1, v2, v3, v4⟩, v5, v6, v7⟩ := aV i hi
    unfold VE
    simp (disch := omega) only [up2_ne]
    refine ⟨?_, v5, v6, v7⟩
    by_cases e : i = v.toNat
    · subst e
      rw [ev] at v1 v2 v4 ⊢
      rw [up2_self, up2_self, up2_at (by decide), up2_at (by decide), up2_at (by decide)]
      exact ⟨v1, v2, rfl, v4⟩
    · rw [up2_ne (by omega), up2_at (by omega)]
      exact ⟨v1, v2, v3, v4⟩
  · exfalso; omega
  · exfalso; omega
  · skip
    obtain ⟨-, c1, c2⟩ := hc
    obtain ⟨-, m1, m2⟩ := hm
    rw [c2, m2]
    exact Step.fnd hE hM hN _ (by omega)

set_option maxHeartbeats 1000000 in
theorem p_notes {σ τ σ1 τ1 : ST} {n : Nat} {N r1 r2 v b m q : Int} (hE : E σ τ n N) (hM : MS τ) (hN : N < 900000) (hc : (((0 ≤ v ∧ v < n) ∧ (0 ≤ b ∧ b < σ 1 3) ∧ (0 ≤ m ∧ m ≤ 16) ∧ 0 ≤ q ∧ q ≤ 9 ∧ (m = 0 → q = 0)) ∧ r1 = σ (40 + 5 * v.toNat) b ∧ σ1 = up2 (up2 σ (40 + 5 * v.toNat) b m) (41 + 5 * v.toNat) b q) ∨ (¬ ((0 ≤ v ∧ v < n) ∧ (0 ≤ b ∧ b < σ 1 3) ∧ (0 ≤ m ∧ m ≤ 16) ∧ 0 ≤ q ∧ q ≤ 9 ∧ (m = 0 → q = 0)) ∧ r1 = -1000001 ∧ σ1 = fd σ 5 1)) (hm : (((0 ≤ v ∧ v < τ 18 1) ∧ (0 ≤ b ∧ b < τ 18 0) ∧ (0 ≤ m ∧ m ≤ 16) ∧ 0 ≤ q ∧ q ≤ 9 ∧ (m = 0 → q = 0)) ∧ r2 = τ 24 (40 * v + b) ∧ τ1 = up2 (up2 τ 24 (40 * v + b) m) 25 (40 * v + b) q) ∨ (¬ ((0 ≤ v ∧ v < τ 18 1) ∧ (0 ≤ b ∧ b < τ 18 0) ∧ (0 ≤ m ∧ m ≤ 16) ∧ 0 ≤ q ∧ q ≤ 9 ∧ (m = 0 → q = 0)) ∧ r2 = -1000001 ∧ τ1 = fd τ 27 1)) : Step σ1 τ1 n N r1 r2 := by
  obtain ⟨⟨a1, a2, a3⟩, a4, ⟨b1, b2, b3, b4, b5⟩, a5, a6, a7, a8, a9, a10, a11, aV⟩ := id hE
  obtain ⟨hb, hvn, hwt, hky, hdu, hwd, hli, hne, hse, hmk, hkd, hsh, hos, hpl, hld, hF, hlp, hpo⟩ := id hM
  rcases hc with hc | hc <;> rcases hm with hm | hm
  · obtain ⟨c0, c1, c2⟩ := hc
    obtain ⟨m0, m1, m2⟩ := hm
    have ev : ((v.toNat : Nat) : Int) = v := by omega
    have hv := aV v.toNat (by omega)
    rw [c2, m2]
    refine ⟨by rw [c1, m1, (hv.2.1 b (by omega) (by omega)).1, ev], ?_, (hM.upA (by omega)).upA (by omega)⟩
    unfold E
    simp (disch := omega) only [up2_ne]
    refine ⟨⟨a1, a2, a3⟩, a4, ⟨b1, b2, b3, b4, b5⟩, fun j => ⟨(a5 j).1, by have := (a5 j).2; omega⟩, a6, a7, a8, a9, fun j hj => ?_, a11, fun i hi => ?_⟩
    · rw [up2_at (by omega), up2_at (by omega)]; exact a10 j hj
    · obtain ⟨v1, v5, v6, v7⟩ := aV i hi
      unfold VE
      simp (disch := omega) only [up2_ne]
      by_cases e : i = v.toNat
      · subst e
        rw [ev] at v1 v5 v7 ⊢
        try simp (disch := omega) only [up2_ne]
        refine ⟨v1, fun d d0 d1 => ?_, fun d hd => ?_, v7⟩
        · obtain ⟨w1, w2⟩ := v5 d d0 d1
          rw [up2_c, up2_c, up2_c, up2_c]
          by_cases e : d = b
          · subst e
            simp only [if_true]
            exact ⟨trivial, trivial⟩
          · simp only [e, if_false, show ¬ 40 * v + d = 40 * v + b by omega]
            simp (disch := omega) only [up2_ne]
            exact ⟨w1, w2⟩
        · rw [up2_at (by omega), up2_at (by omega), up2_ne (by omega)]; exact v6 d hd
      · simp (disch := omega) only [up2_ne]
        refine ⟨v1, fun d d0 d1 => ?_, v6, v7⟩
        rw [up2_at (by omega), up2_at (by omega)]; exact v5 d d0 d1
  · exfalso; omega
  · exfalso; omega
  · skip
    obtain ⟨-, c1, c2⟩ := hc
    obtain ⟨-, m1, m2⟩ := hm
    rw [c2, m2]
    exact Step.fnd hE hM hN _ (by omega)

set_option maxHeartbeats 1000000 in
theorem p_written {σ τ σ1 τ1 : ST} {n : Nat} {N r1 r2 v : Int} (hE : E σ τ n N) (hM : MS τ) (hN : N < 900000) (hc : ((0 ≤ v ∧ v < n) ∧ r1 = (σ 0 5 + 7 * σ (39 + 5 * v.toNat) 1 + 6) % 12 - 6 ∧ σ1 = σ) ∨ (¬ (0 ≤ v ∧ v < n) ∧ r1 = -1000001 ∧ σ1 = fd σ 5 1)) (hm : ((0 ≤ v ∧ v < τ 18 1) ∧ r2 = (τ 18 3 + 7 * τ 22 v + 6) % 12 - 6 ∧ τ1 = τ) ∨ (¬ (0 ≤ v ∧ v < τ 18 1) ∧ r2 = -1000001 ∧ τ1 = fd τ 27 1)) : Step σ1 τ1 n N r1 r2 := by
  obtain ⟨⟨a1, a2, a3⟩, a4, ⟨b1, b2, b3, b4, b5⟩, a5, a6, a7, a8, a9, a10, a11, aV⟩ := id hE
  obtain ⟨hb, hvn, hwt, hky, hdu, hwd, hli, hne, hse, hmk, hkd, hsh, hos, hpl, hld, hF, hlp, hpo⟩ := id hM
  rcases hc with hc | hc <;> rcases hm with hm | hm
  · obtain ⟨c0, c1, c2⟩ := hc
    obtain ⟨m0, m1, m2⟩ := hm
    have ev : ((v.toNat : Nat) : Int) = v := by omega
    have hv := aV v.toNat (by omega)
    rw [c2, m2]
    exact ⟨by rw [c1, m1, hv.1.2.1, ev, b1], hE.mono, hM⟩
  · exfalso; omega
  · exfalso; omega
  · skip
    obtain ⟨-, c1, c2⟩ := hc
    obtain ⟨-, m1, m2⟩ := hm
    rw [c2, m2]
    exact Step.fnd hE hM hN _ (by omega)

set_option maxHeartbeats 1000000 in
theorem p_as {σ τ σ1 τ1 : ST} {n : Nat} {N r1 r2 v k : Int} (hE : E σ τ n N) (hM : MS τ) (hN : N < 900000) (hc : ((0 ≤ v ∧ v < n) ∧ (0 ≤ k ∧ k ≤ 2) ∧ (k = 0 ∨ σ (39 + 5 * v.toNat) 0 = k) ∧ r1 = σ (39 + 5 * v.toNat) 1 ∧ σ1 = σ) ∨ ((0 ≤ v ∧ v < n) ∧ (0 ≤ k ∧ k ≤ 2) ∧ ¬ (k = 0 ∨ σ (39 + 5 * v.toNat) 0 = k) ∧ r1 = -1000005 ∧ σ1 = fd σ 5 5) ∨ (¬ ((0 ≤ v ∧ v < n) ∧ (0 ≤ k ∧ k ≤ 2)) ∧ r1 = -1000001 ∧ σ1 = fd σ 5 1)) (hm : ((0 ≤ v ∧ v < τ 18 1) ∧ (0 ≤ k ∧ k ≤ 2) ∧ (k = 0 ∨ τ 21 v = k) ∧ r2 = τ 22 v ∧ τ1 = τ) ∨ ((0 ≤ v ∧ v < τ 18 1) ∧ (0 ≤ k ∧ k ≤ 2) ∧ ¬ (k = 0 ∨ τ 21 v = k) ∧ r2 = -1000005 ∧ τ1 = fd τ 27 5) ∨ (¬ ((0 ≤ v ∧ v < τ 18 1) ∧ (0 ≤ k ∧ k ≤ 2)) ∧ r2 = -1000001 ∧ τ1 = fd τ 27 1)) : Step σ1 τ1 n N r1 r2 := by
  obtain ⟨⟨a1, a2, a3⟩, a4, ⟨b1, b2, b3, b4, b5⟩, a5, a6, a7, a8, a9, a10, a11, aV⟩ := id hE
  obtain ⟨hb, hvn, hwt, hky, hdu, hwd, hli, hne, hse, hmk, hkd, hsh, hos, hpl, hld, hF, hlp, hpo⟩ := id hM
  have ev : (0 ≤ v ∧ v < n) → σ (39 + 5 * v.toNat) 0 = τ 21 v ∧ σ (39 + 5 * v.toNat) 1 = τ 22 v := fun h => by
    have hv := (aV v.toNat (by omega)).1
    rw [show ((v.toNat : Nat) : Int) = v by omega] at hv
    exact ⟨hv.1, hv.2.1⟩
  rcases hc with ⟨c0, c3, c4, c1, c2⟩ | ⟨c0, c3, c4, c1, c2⟩ | ⟨c0, c1, c2⟩ <;> rcases hm with ⟨m0, m3, m4, m1, m2⟩ | ⟨m0, m3, m4, m1, m2⟩ | ⟨m0, m1, m2⟩
  · rw [c2, m2]; exact ⟨by rw [c1, m1, (ev c0).2], hE.mono, hM⟩
  · exfalso; rw [(ev c0).1] at c4; exact m4 c4
  · exfalso; omega
  · exfalso; rw [(ev c0).1] at c4; exact c4 m4
  · rw [c2, m2]; exact Step.fnd hE hM hN _ (by omega)
  · exfalso; omega
  · exfalso; omega
  · exfalso; omega
  · rw [c2, m2]; exact Step.fnd hE hM hN _ (by omega)

set_option maxHeartbeats 1000000 in
theorem p_tell {σ τ σ1 τ1 : ST} {n : Nat} {N r1 r2 x : Int} (hE : E σ τ n N) (hM : MS τ) (hN : N < 900000) (hc : (σ 4 1 < 40 ∧ r1 = σ 4 1 + 1 ∧ σ1 = up2 (up2 σ 17 (σ 4 1) x) 4 1 (σ 4 1 + 1)) ∨ (σ 4 1 = 40 ∧ r1 = -1000004 ∧ σ1 = fd σ 5 4)) (hm : (τ 18 2 < 40 ∧ r2 = τ 18 2 + 1 ∧ τ1 = up2 (up2 τ 26 (τ 18 2) x) 18 2 (τ 18 2 + 1)) ∨ (τ 18 2 = 40 ∧ r2 = -1000004 ∧ τ1 = fd τ 27 4)) : Step σ1 τ1 n N r1 r2 := by
  obtain ⟨⟨a1, a2, a3⟩, a4, ⟨b1, b2, b3, b4, b5⟩, a5, a6, a7, a8, a9, a10, a11, aV⟩ := id hE
  obtain ⟨hb, hvn, hwt, hky, hdu, hwd, hli, hne, hse, hmk, hkd, hsh, hos, hpl, hld, hF, hlp, hpo⟩ := id hM
  rcases hc with hc | hc <;> rcases hm with hm | hm
  · obtain ⟨c0, c1, c2⟩ := hc
    obtain ⟨m0, m1, m2⟩ := hm
    rw [c2, m2, a4]
    refine ⟨by omega, ?_, (hM.upA (by omega)).up18 (by omega)⟩
    unfold E
    simp (disch := omega) only [up2_self, up2_at, up2_ne]
    refine ⟨⟨a1, a2, a3⟩, trivial, ⟨b1, b2, b3, b4, b5⟩, fun j => ⟨(a5 j).1, by have := (a5 j).2; omega⟩, a6, a7, a8, fun j => ?_, a10, a11, fun i hi => (aV i hi).cg (fun c _ _ => by simp (disch := omega) only [up2_ne]) (fun c hc => by simp (disch := omega) only [up2_ne]) (by simp (disch := omega) only [up2_self, up2_at, up2_ne]; omega)⟩
    rw [up2_c, up2_c]; simp only [a9]
  · exfalso; omega
  · exfalso; omega
  · skip
    obtain ⟨-, c1, c2⟩ := hc
    obtain ⟨-, m1, m2⟩ := hm
    rw [c2, m2]
    exact Step.fnd hE hM hN _ (by omega)

set_option maxHeartbeats 1000000 in
theorem p_found {σ τ σ1 τ1 : ST} {n : Nat} {N r1 r2 k : Int} (hE : E σ τ n N) (hM : MS τ) (hN : N < 900000) (hc : ((1 ≤ k ∧ k ≤ 5) ∧ r1 = σ 5 k ∧ σ1 = σ) ∨ (¬ (1 ≤ k ∧ k ≤ 5) ∧ r1 = -1000001 ∧ σ1 = fd σ 5 1)) (hm : ((1 ≤ k ∧ k ≤ 5) ∧ r2 = τ 27 k ∧ τ1 = τ) ∨ (¬ (1 ≤ k ∧ k ≤ 5) ∧ r2 = -1000001 ∧ τ1 = fd τ 27 1)) : Step σ1 τ1 n N r1 r2 := by
  obtain ⟨⟨a1, a2, a3⟩, a4, ⟨b1, b2, b3, b4, b5⟩, a5, a6, a7, a8, a9, a10, a11, aV⟩ := id hE
  obtain ⟨hb, hvn, hwt, hky, hdu, hwd, hli, hne, hse, hmk, hkd, hsh, hos, hpl, hld, hF, hlp, hpo⟩ := id hM
  rcases hc with hc | hc <;> rcases hm with hm | hm
  · obtain ⟨c0, c1, c2⟩ := hc
    obtain ⟨m0, m1, m2⟩ := hm
    rw [c2, m2]
    exact ⟨by rw [c1, m1, (a5 k).1], hE.mono, hM⟩
  · exfalso; omega
  · exfalso; omega
  · skip
    obtain ⟨-, c1, c2⟩ := hc
    obtain ⟨-, m1, m2⟩ := hm
    rw [c2, m2]
    exact Step.fnd hE hM hN _ (by omega)

set_option maxHeartbeats 1000000 in
theorem p_count {σ τ σ1 τ1 : ST} {n : Nat} {N r1 r2 w : Int} (hE : E σ τ n N) (hM : MS τ) (hN : N < 900000) (hc : (w = 0 ∧ r1 = σ 1 3 ∧ σ1 = σ) ∨ (w = 1 ∧ r1 = n ∧ σ1 = σ) ∨ (w = 2 ∧ r1 = σ 1 3 - cntN (σ 7) (σ 1 3).toNat ∧ σ1 = σ) ∨ (w = 3 ∧ r1 = secN (σ 7) (σ 6) (σ 1 3).toNat ∧ σ1 = σ) ∨ (w = 4 ∧ r1 = σ 4 1 ∧ σ1 = σ) ∨ (w = 5 ∧ r1 = laidN (fun o => σ (39 + 5 * o.toNat) 7) n ∧ σ1 = σ) ∨ (¬ (0 ≤ w ∧ w ≤ 5) ∧ r1 = -1000001 ∧ σ1 = fd σ 5 1)) (hm : (w = 0 ∧ r2 = τ 18 0 ∧ τ1 = τ) ∨ (w = 1 ∧ r2 = τ 18 1 ∧ τ1 = τ) ∨ (w = 2 ∧ r2 = τ 18 0 - cntN (τ 20) (τ 18 0).toNat ∧ τ1 = τ) ∨ (w = 3 ∧ r2 = secN (τ 20) (τ 19) (τ 18 0).toNat ∧ τ1 = τ) ∨ (w = 4 ∧ r2 = τ 18 2 ∧ τ1 = τ) ∨ (w = 5 ∧ r2 = laidN (τ 32) (τ 18 1).toNat ∧ τ1 = τ) ∨ (¬ (0 ≤ w ∧ w ≤ 5) ∧ r2 = -1000001 ∧ τ1 = fd τ 27 1)) : Step σ1 τ1 n N r1 r2 := by
  obtain ⟨⟨a1, a2, a3⟩, a4, ⟨b1, b2, b3, b4, b5⟩, a5, a6, a7, a8, a9, a10, a11, aV⟩ := id hE
  obtain ⟨hb, hvn, hwt, hky, hdu, hwd, hli, hne, hse, hmk, hkd, hsh, hos, hpl, hld, hF, hlp, hpo⟩ := id hM
  have e7 : σ 7 = τ 20 := funext a7
  have e6 : σ 6 = τ 19 := funext a6
  have el : laidN (fun o => σ (39 + 5 * o.toNat) 7) n = laidN (τ 32) (τ 18 1).toNat := by
    rw [show (τ 18 1).toNat = n by omega]
    have : ∀ k : Nat, k ≤ n → laidN (fun o => σ (39 + 5 * o.toNat) 7) k = laidN (τ 32) k := by
      intro k
      induction k with
      | zero => intro _; rfl
      | succ k ih =>
        intro hk
        unfold laidN
        rw [ih (by omega)]
        have := (aV k (by omega)).1.2.2.2
        simp only [show ((k : Int)).toNat = k by omega, this]
    exact this n (Nat.le_refl _)
  rcases hc with ⟨c0, c1, c2⟩ | ⟨c0, c1, c2⟩ | ⟨c0, c1, c2⟩ | ⟨c0, c1, c2⟩ | ⟨c0, c1, c2⟩ | ⟨c0, c1, c2⟩ | ⟨c0, c1, c2⟩ <;> rcases hm with ⟨m0, m1, m2⟩ | ⟨m0, m1, m2⟩ | ⟨m0, m1, m2⟩ | ⟨m0, m1, m2⟩ | ⟨m0, m1, m2⟩ | ⟨m0, m1, m2⟩ | ⟨m0, m1, m2⟩ <;> first
    | (exfalso; omega)
    | (rw [c2, m2]; exact Step.fnd hE hM hN _ (by omega))
    | (rw [c2, m2]; refine ⟨?_, hE.mono, hM⟩; first | omega | (rw [c1, m1, el]; done) | (rw [c1, m1, e7, a1]; done) | (rw [c1, m1, e7, e6, a1]; done))
