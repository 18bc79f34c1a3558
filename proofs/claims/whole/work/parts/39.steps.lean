theorem MS.cf {σ τ : ST} (h : MS σ) (hc : ∀ c, 18 ≤ c → c ≤ 37 → τ c = σ c) : MS τ := by
  unfold MS
  rw [hc 18 (by decide) (by decide), hc 19 (by decide) (by decide), hc 20 (by decide) (by decide), hc 21 (by decide) (by decide), hc 22 (by decide) (by decide), hc 23 (by decide) (by decide), hc 24 (by decide) (by decide), hc 25 (by decide) (by decide), hc 27 (by decide) (by decide), hc 32 (by decide) (by decide), hc 33 (by decide) (by decide)]
  exact h
theorem E.cf {σ τ : ST} {n : Nat} {N : Int} (h : E σ σ n N) (hc : ∀ c, 18 ≤ c → c ≤ 37 → τ c = σ c) : E σ τ n N := h.cg (Int.le_refl _) (fun _ _ => rfl) (fun k _ => by rw [hc 18 (by decide) (by decide)]) (fun c q => hc c (by omega) (by omega))
theorem E.mf {σ τ : ST} {n : Nat} {N : Int} (h : E σ τ n N) (hc : ∀ c, (c < 18 ∨ 37 < c) → τ c = σ c) : E τ τ n N := h.cg (Int.le_refl _) (fun c q => hc c (by omega)) (fun _ _ => rfl) (fun _ _ => rfl)
theorem PlR.fr {σ τ : ST} {n : Nat} {v : Int} (h : PlR σ τ n v) : FrC σ τ := by
  obtain ⟨ρ, hd, ha, -⟩ := h
  exact hd.fr.tr ha.fr
theorem FrM.out {σ τ : ST} (h : FrM σ τ) {c : Nat} (hc : c < 18 ∨ 37 < c) : τ c = σ c := h.1 c (by omega) (by omega) (by omega) (by omega) (by omega) (by omega)
set_option maxHeartbeats 1000000 in
theorem q_bar {σ σ1 : ST} {n : Nat} {N r1 x : Int} (hE : E σ σ n N) (hM : MS σ) (hN : N < 900000) (hc : ((1 ≤ x ∧ x ≤ 60) ∧ σ 1 3 < 40 ∧ r1 = σ 1 3 ∧ σ1 = up2 (up2 σ 6 (σ 1 3) x) 1 3 (σ 1 3 + 1)) ∨ ((1 ≤ x ∧ x ≤ 60) ∧ σ 1 3 = 40 ∧ r1 = -1000004 ∧ σ1 = fd σ 5 4) ∨ (¬ (1 ≤ x ∧ x ≤ 60) ∧ r1 = -1000001 ∧ σ1 = fd σ 5 1)) : MS σ1 ∧ ∀ (r2 : Int) (σ2 : ST), (((1 ≤ x ∧ x ≤ 60) ∧ σ1 18 0 < 40 ∧ r2 = σ1 18 0 ∧ σ2 = up2 (up2 (up2 σ1 19 (σ1 18 0) x) 20 (σ1 18 0) 0) 18 0 (σ1 18 0 + 1)) ∨ ((1 ≤ x ∧ x ≤ 60) ∧ σ1 18 0 = 40 ∧ r2 = -1000004 ∧ σ2 = fd σ1 27 4) ∨ (¬ (1 ≤ x ∧ x ≤ 60) ∧ r2 = -1000001 ∧ σ2 = fd σ1 27 1)) → r1 = r2 ∧ E σ2 σ2 n (N + 1) ∧ MS σ2 := by
  have cf : ∀ c, 18 ≤ c → c ≤ 37 → σ1 c = σ c := by
    rcases hc with ⟨-, -, -, e⟩ | ⟨-, -, -, e⟩ | ⟨-, -, e⟩ <;> (intro c h1 h2; first | (rw [e]; done) | (rw [e]; simp (disch := omega) only [fd, up2_ne]; done))
  refine ⟨hM.cf cf, fun r2 σ2 hm => ?_⟩
  have mf : ∀ c, (c < 18 ∨ 37 < c) → σ2 c = σ1 c := by
      rcases hm with ⟨-, -, -, e⟩ | ⟨-, -, -, e⟩ | ⟨-, -, e⟩ <;> (intro c h1; first | (rw [e]; done) | (rw [e]; simp (disch := omega) only [fd, up2_ne]; done))
  obtain ⟨h1, h2, h3⟩ := p_bar (hE.cf cf) (hM.cf cf) hN hc hm
  exact ⟨h1, h2.mf mf, h3⟩

set_option maxHeartbeats 1000000 in
theorem q_as {σ σ1 : ST} {n : Nat} {N r1 v k : Int} (hE : E σ σ n N) (hM : MS σ) (hN : N < 900000) (hc : ((0 ≤ v ∧ v < n) ∧ (0 ≤ k ∧ k ≤ 2) ∧ (k = 0 ∨ σ (39 + 5 * v.toNat) 0 = k) ∧ r1 = σ (39 + 5 * v.toNat) 1 ∧ σ1 = σ) ∨ ((0 ≤ v ∧ v < n) ∧ (0 ≤ k ∧ k ≤ 2) ∧ ¬ (k = 0 ∨ σ (39 + 5 * v.toNat) 0 = k) ∧ r1 = -1000005 ∧ σ1 = fd σ 5 5) ∨ (¬ ((0 ≤ v ∧ v < n) ∧ (0 ≤ k ∧ k ≤ 2)) ∧ r1 = -1000001 ∧ σ1 = fd σ 5 1)) : MS σ1 ∧ ∀ (r2 : Int) (σ2 : ST), (((0 ≤ v ∧ v < σ1 18 1) ∧ (0 ≤ k ∧ k ≤ 2) ∧ (k = 0 ∨ σ1 21 v = k) ∧ r2 = σ1 22 v ∧ σ2 = σ1) ∨ ((0 ≤ v ∧ v < σ1 18 1) ∧ (0 ≤ k ∧ k ≤ 2) ∧ ¬ (k = 0 ∨ σ1 21 v = k) ∧ r2 = -1000005 ∧ σ2 = fd σ1 27 5) ∨ (¬ ((0 ≤ v ∧ v < σ1 18 1) ∧ (0 ≤ k ∧ k ≤ 2)) ∧ r2 = -1000001 ∧ σ2 = fd σ1 27 1)) → r1 = r2 ∧ E σ2 σ2 n (N + 1) ∧ MS σ2 := by
  have cf : ∀ c, 18 ≤ c → c ≤ 37 → σ1 c = σ c := by
    rcases hc with ⟨-, -, -, -, e⟩ | ⟨-, -, -, -, e⟩ | ⟨-, -, e⟩ <;> (intro c h1 h2; first | (rw [e]; done) | (rw [e]; simp (disch := omega) only [fd, up2_ne]; done))
  refine ⟨hM.cf cf, fun r2 σ2 hm => ?_⟩
  have mf : ∀ c, (c < 18 ∨ 37 < c) → σ2 c = σ1 c := by
      rcases hm with ⟨-, -, -, -, e⟩ | ⟨-, -, -, -, e⟩ | ⟨-, -, e⟩ <;> (intro c h1; first | (rw [e]; done) | (rw [e]; simp (disch := omega) only [fd, up2_ne]; done))
  obtain ⟨h1, h2, h3⟩ := p_as (hE.cf cf) (hM.cf cf) hN hc hm
  exact ⟨h1, h2.mf mf, h3⟩

set_option maxHeartbeats 1000000 in
theorem q_notes {σ σ1 : ST} {n : Nat} {N r1 v b m q : Int} (hE : E σ σ n N) (hM : MS σ) (hN : N < 900000) (hc : (((0 ≤ v ∧ v < n) ∧ (0 ≤ b ∧ b < σ 1 3) ∧ (0 ≤ m ∧ m ≤ 16) ∧ 0 ≤ q ∧ q ≤ 9 ∧ (m = 0 → q = 0)) ∧ r1 = σ (40 + 5 * v.toNat) b ∧ σ1 = up2 (up2 σ (40 + 5 * v.toNat) b m) (41 + 5 * v.toNat) b q) ∨ (¬ ((0 ≤ v ∧ v < n) ∧ (0 ≤ b ∧ b < σ 1 3) ∧ (0 ≤ m ∧ m ≤ 16) ∧ 0 ≤ q ∧ q ≤ 9 ∧ (m = 0 → q = 0)) ∧ r1 = -1000001 ∧ σ1 = fd σ 5 1)) : MS σ1 ∧ ∀ (r2 : Int) (σ2 : ST), ((((0 ≤ v ∧ v < σ1 18 1) ∧ (0 ≤ b ∧ b < σ1 18 0) ∧ (0 ≤ m ∧ m ≤ 16) ∧ 0 ≤ q ∧ q ≤ 9 ∧ (m = 0 → q = 0)) ∧ r2 = σ1 24 (40 * v + b) ∧ σ2 = up2 (up2 σ1 24 (40 * v + b) m) 25 (40 * v + b) q) ∨ (¬ ((0 ≤ v ∧ v < σ1 18 1) ∧ (0 ≤ b ∧ b < σ1 18 0) ∧ (0 ≤ m ∧ m ≤ 16) ∧ 0 ≤ q ∧ q ≤ 9 ∧ (m = 0 → q = 0)) ∧ r2 = -1000001 ∧ σ2 = fd σ1 27 1)) → r1 = r2 ∧ E σ2 σ2 n (N + 1) ∧ MS σ2 := by
  have cf : ∀ c, 18 ≤ c → c ≤ 37 → σ1 c = σ c := by
    rcases hc with ⟨-, -, e⟩ | ⟨-, -, e⟩ <;> (intro c h1 h2; first | (rw [e]; done) | (rw [e]; simp (disch := omega) only [fd, up2_ne]; done))
  refine ⟨hM.cf cf, fun r2 σ2 hm => ?_⟩
  have mf : ∀ c, (c < 18 ∨ 37 < c) → σ2 c = σ1 c := by
      rcases hm with ⟨-, -, e⟩ | ⟨-, -, e⟩ <;> (intro c h1; first | (rw [e]; done) | (rw [e]; simp (disch := omega) only [fd, up2_ne]; done))
  obtain ⟨h1, h2, h3⟩ := p_notes (hE.cf cf) (hM.cf cf) hN hc hm
  exact ⟨h1, h2.mf mf, h3⟩

set_option maxHeartbeats 1000000 in
theorem q_sign {σ σ1 : ST} {n : Nat} {N r1 b m : Int} (hE : E σ σ n N) (hM : MS σ) (hN : N < 900000) (hc : (((0 ≤ b ∧ b < σ 1 3) ∧ 0 ≤ m ∧ m ≤ 7) ∧ r1 = σ 7 b ∧ σ1 = up2 σ 7 b m) ∨ (¬ ((0 ≤ b ∧ b < σ 1 3) ∧ 0 ≤ m ∧ m ≤ 7) ∧ r1 = -1000001 ∧ σ1 = fd σ 5 1)) : MS σ1 ∧ ∀ (r2 : Int) (σ2 : ST), ((((0 ≤ b ∧ b < σ1 18 0) ∧ 0 ≤ m ∧ m ≤ 7) ∧ r2 = σ1 20 b ∧ σ2 = up2 σ1 20 b m) ∨ (¬ ((0 ≤ b ∧ b < σ1 18 0) ∧ 0 ≤ m ∧ m ≤ 7) ∧ r2 = -1000001 ∧ σ2 = fd σ1 27 1)) → r1 = r2 ∧ E σ2 σ2 n (N + 1) ∧ MS σ2 := by
  have cf : ∀ c, 18 ≤ c → c ≤ 37 → σ1 c = σ c := by
    rcases hc with ⟨-, -, e⟩ | ⟨-, -, e⟩ <;> (intro c h1 h2; first | (rw [e]; done) | (rw [e]; simp (disch := omega) only [fd, up2_ne]; done))
  refine ⟨hM.cf cf, fun r2 σ2 hm => ?_⟩
  have mf : ∀ c, (c < 18 ∨ 37 < c) → σ2 c = σ1 c := by
      rcases hm with ⟨-, -, e⟩ | ⟨-, -, e⟩ <;> (intro c h1; first | (rw [e]; done) | (rw [e]; simp (disch := omega) only [fd, up2_ne]; done))
  obtain ⟨h1, h2, h3⟩ := p_sign (hE.cf cf) (hM.cf cf) hN hc hm
  exact ⟨h1, h2.mf mf, h3⟩

set_option maxHeartbeats 1000000 in
theorem q_cut {σ σ1 : ST} {n : Nat} {N r1 x y z : Int} (hE : E σ σ n N) (hM : MS σ) (hN : N < 900000) (hc : (((0 ≤ x ∧ x < σ 1 3) ∧ (0 ≤ y ∧ y < σ 1 3) ∧ x ≤ y ∧ 0 ≤ z ∧ z ≤ 1) ∧ CutI 7 σ σ1 z x (y + 1) r1) ∨ (¬ ((0 ≤ x ∧ x < σ 1 3) ∧ (0 ≤ y ∧ y < σ 1 3) ∧ x ≤ y ∧ 0 ≤ z ∧ z ≤ 1) ∧ r1 = -1000001 ∧ σ1 = fd σ 5 1)) : MS σ1 ∧ ∀ (r2 : Int) (σ2 : ST), ((((0 ≤ x ∧ x < σ1 18 0) ∧ (0 ≤ y ∧ y < σ1 18 0) ∧ x ≤ y ∧ 0 ≤ z ∧ z ≤ 1) ∧ CutI 20 σ1 σ2 z x (y + 1) r2) ∨ (¬ ((0 ≤ x ∧ x < σ1 18 0) ∧ (0 ≤ y ∧ y < σ1 18 0) ∧ x ≤ y ∧ 0 ≤ z ∧ z ≤ 1) ∧ r2 = -1000001 ∧ σ2 = fd σ1 27 1)) → r1 = r2 ∧ E σ2 σ2 n (N + 1) ∧ MS σ2 := by
  have cf : ∀ c, 18 ≤ c → c ≤ 37 → σ1 c = σ c := by
    rcases hc with ⟨-, -, -, h3, -⟩ | ⟨-, -, e⟩
    · intro c h1 h2; exact h3 c (by omega)
    · intro c h1 h2; first | (rw [e]; done) | (rw [e]; simp (disch := omega) only [fd, up2_ne]; done)
  refine ⟨hM.cf cf, fun r2 σ2 hm => ?_⟩
  have mf : ∀ c, (c < 18 ∨ 37 < c) → σ2 c = σ1 c := by
      rcases hm with ⟨-, -, -, h3, -⟩ | ⟨-, -, e⟩
      · intro c h1; exact h3 c (by omega)
      · intro c h1; first | (rw [e]; done) | (rw [e]; simp (disch := omega) only [fd, up2_ne]; done)
  obtain ⟨h1, h2, h3⟩ := p_cut (hE.cf cf) (hM.cf cf) hN hc hm
  exact ⟨h1, h2.mf mf, h3⟩

set_option maxHeartbeats 1000000 in
theorem q_stage {σ σ1 : ST} {n : Nat} {N r1 v m : Int} (hE : E σ σ n N) (hM : MS σ) (hN : N < 900000) (hc : (((0 ≤ v ∧ v < n) ∧ 0 ≤ m ∧ m ≤ 1) ∧ r1 = σ (39 + 5 * v.toNat) 4 ∧ σ1 = up2 σ (39 + 5 * v.toNat) 4 m) ∨ (¬ ((0 ≤ v ∧ v < n) ∧ 0 ≤ m ∧ m ≤ 1) ∧ r1 = -1000001 ∧ σ1 = fd σ 5 1)) : MS σ1 ∧ ∀ (r2 : Int) (σ2 : ST), ((((0 ≤ v ∧ v < σ1 18 1) ∧ 0 ≤ m ∧ m ≤ 1) ∧ r2 = σ1 23 v ∧ σ2 = up2 σ1 23 v m) ∨ (¬ ((0 ≤ v ∧ v < σ1 18 1) ∧ 0 ≤ m ∧ m ≤ 1) ∧ r2 = -1000001 ∧ σ2 = fd σ1 27 1)) → r1 = r2 ∧ E σ2 σ2 n (N + 1) ∧ MS σ2 := by
  have cf : ∀ c, 18 ≤ c → c ≤ 37 → σ1 c = σ c := by
    rcases hc with ⟨-, -, e⟩ | ⟨-, -, e⟩ <;> (intro c h1 h2; first | (rw [e]; done) | (rw [e]; simp (disch := omega) only [fd, up2_ne]; done))
  refine ⟨hM.cf cf, fun r2 σ2 hm => ?_⟩
  have mf : ∀ c, (c < 18 ∨ 37 < c) → σ2 c = σ1 c := by
      rcases hm with ⟨-, -, e⟩ | ⟨-, -, e⟩ <;> (intro c h1; first | (rw [e]; done) | (rw [e]; simp (disch := omega) only [fd, up2_ne]; done))
  obtain ⟨h1, h2, h3⟩ := p_stage (hE.cf cf) (hM.cf cf) hN hc hm
  exact ⟨h1, h2.mf mf, h3⟩

set_option maxHeartbeats 1000000 in
theorem q_rest {σ σ1 : ST} {n : Nat} {N r1 v i : Int} (hE : E σ σ n N) (hM : MS σ) (hN : N < 900000) (hc : (((0 ≤ v ∧ v < n) ∧ 0 ≤ i) ∧ ∃ ρ, DrC σ ρ v (σ 0 6) ∧ ((0 ≤ rtC ρ i ∧ r1 = rtC ρ i ∧ σ1 = ρ) ∨ (rtC ρ i = -1 ∧ r1 = -1000002 ∧ σ1 = fd ρ 5 2))) ∨ (¬ ((0 ≤ v ∧ v < n) ∧ 0 ≤ i) ∧ r1 = -1000001 ∧ σ1 = fd σ 5 1)) : MS σ1 ∧ ∀ (r2 : Int) (σ2 : ST), ((((0 ≤ v ∧ v < σ1 18 1) ∧ 0 ≤ i) ∧ ∃ ρ, FrM σ1 ρ ∧ RowOK (σ1 20) (σ1 18 0) (ρ 28) (ρ 18 18) ∧ ((0 ≤ rtM ρ v i ∧ r2 = rtM ρ v i ∧ σ2 = ρ) ∨ (rtM ρ v i = -1 ∧ r2 = -1000002 ∧ σ2 = fd ρ 27 2))) ∨ (¬ ((0 ≤ v ∧ v < σ1 18 1) ∧ 0 ≤ i) ∧ r2 = -1000001 ∧ σ2 = fd σ1 27 1)) → r1 = r2 ∧ E σ2 σ2 n (N + 1) ∧ MS σ2 := by
  have cf : ∀ c, 18 ≤ c → c ≤ 37 → σ1 c = σ c := by
    rcases hc with ⟨-, ρ, hd, ⟨-, -, e⟩ | ⟨-, -, e⟩⟩ | ⟨-, -, e⟩
    · have hfr := hd.fr; intro c h1 h2; rw [e]; first | exact hfr.toV (by omega) | (simp (disch := omega) only [fd, up2_ne]; exact hfr.toV (by omega))
    · have hfr := hd.fr; intro c h1 h2; rw [e]; first | exact hfr.toV (by omega) | (simp (disch := omega) only [fd, up2_ne]; exact hfr.toV (by omega))
    · intro c h1 h2; first | (rw [e]; done) | (rw [e]; simp (disch := omega) only [fd, up2_ne]; done)
  refine ⟨hM.cf cf, fun r2 σ2 hm => ?_⟩
  have mf : ∀ c, (c < 18 ∨ 37 < c) → σ2 c = σ1 c := by
      rcases hm with ⟨-, ρ, hf, -, ⟨-, -, e⟩ | ⟨-, -, e⟩⟩ | ⟨-, -, e⟩
      · intro c h1; rw [e]; first | exact hf.out h1 | (simp (disch := omega) only [fd, up2_ne]; exact hf.out h1)
      · intro c h1; rw [e]; first | exact hf.out h1 | (simp (disch := omega) only [fd, up2_ne]; exact hf.out h1)
      · intro c h1; first | (rw [e]; done) | (rw [e]; simp (disch := omega) only [fd, up2_ne]; done)
  obtain ⟨h1, h2, h3⟩ := p_rest (hE.cf cf) (hM.cf cf) hN hc hm
  exact ⟨h1, h2.mf mf, h3⟩

set_option maxHeartbeats 1000000 in
theorem q_cue {σ σ1 : ST} {n : Nat} {N r1 v b : Int} (hE : E σ σ n N) (hM : MS σ) (hN : N < 900000) (hc : (((0 ≤ v ∧ v < n) ∧ 0 ≤ b ∧ b < σ 1 3) ∧ ∃ ρ, DrC σ ρ v (σ 0 6) ∧ ((∃ k, 0 ≤ k ∧ k < ρ 2 3 ∧ ρ 9 k = b ∧ 0 ≤ cuC ρ n k ∧ r1 = cuC ρ n k ∧ σ1 = ρ) ∨ ((∀ k, 0 ≤ k → k < ρ 2 3 → ρ 9 k = b → cuC ρ n k < 0) ∧ r1 = -1000002 ∧ σ1 = fd ρ 5 2))) ∨ (¬ ((0 ≤ v ∧ v < n) ∧ 0 ≤ b ∧ b < σ 1 3) ∧ r1 = -1000001 ∧ σ1 = fd σ 5 1)) : MS σ1 ∧ ∀ (r2 : Int) (σ2 : ST), ((((0 ≤ v ∧ v < σ1 18 1) ∧ 0 ≤ b ∧ b < σ1 18 0) ∧ ∃ ρ, FrM σ1 ρ ∧ RowOK (σ1 20) (σ1 18 0) (ρ 28) (ρ 18 18) ∧ ((∃ k, 0 ≤ k ∧ k < ρ 18 18 ∧ ρ 28 k = b ∧ 0 ≤ cueM ρ v k ∧ r2 = cueM ρ v k ∧ σ2 = ρ) ∨ ((∀ k, 0 ≤ k → k < ρ 18 18 → ρ 28 k = b → cueM ρ v k < 0) ∧ r2 = -1000002 ∧ σ2 = fd ρ 27 2))) ∨ (¬ ((0 ≤ v ∧ v < σ1 18 1) ∧ 0 ≤ b ∧ b < σ1 18 0) ∧ r2 = -1000001 ∧ σ2 = fd σ1 27 1)) → r1 = r2 ∧ E σ2 σ2 n (N + 1) ∧ MS σ2 := by
  have cf : ∀ c, 18 ≤ c → c ≤ 37 → σ1 c = σ c := by
    rcases hc with ⟨-, ρ, hd, ⟨k, -, -, -, -, -, e⟩ | ⟨-, -, e⟩⟩ | ⟨-, -, e⟩
    · have hfr := hd.fr; intro c h1 h2; rw [e]; first | exact hfr.toV (by omega) | (simp (disch := omega) only [fd, up2_ne]; exact hfr.toV (by omega))
    · have hfr := hd.fr; intro c h1 h2; rw [e]; first | exact hfr.toV (by omega) | (simp (disch := omega) only [fd, up2_ne]; exact hfr.toV (by omega))
    · intro c h1 h2; first | (rw [e]; done) | (rw [e]; simp (disch := omega) only [fd, up2_ne]; done)
  refine ⟨hM.cf cf, fun r2 σ2 hm => ?_⟩
  have mf : ∀ c, (c < 18 ∨ 37 < c) → σ2 c = σ1 c := by
      rcases hm with ⟨-, ρ, hf, -, ⟨k, -, -, -, -, -, e⟩ | ⟨-, -, e⟩⟩ | ⟨-, -, e⟩
      · intro c h1; rw [e]; first | exact hf.out h1 | (simp (disch := omega) only [fd, up2_ne]; exact hf.out h1)
      · intro c h1; rw [e]; first | exact hf.out h1 | (simp (disch := omega) only [fd, up2_ne]; exact hf.out h1)
      · intro c h1; first | (rw [e]; done) | (rw [e]; simp (disch := omega) only [fd, up2_ne]; done)
  obtain ⟨h1, h2, h3⟩ := p_cue (hE.cf cf) (hM.cf cf) hN hc hm
  exact ⟨h1, h2.mf mf, h3⟩

set_option maxHeartbeats 1000000 in
theorem q_key {σ σ1 : ST} {n : Nat} {N r1 x : Int} (hE : E σ σ n N) (hM : MS σ) (hN : N < 900000) (hc : ((-7 ≤ x ∧ x ≤ 7) ∧ r1 = σ 0 5 ∧ σ1 = up2 σ 0 5 x) ∨ (¬ (-7 ≤ x ∧ x ≤ 7) ∧ r1 = -1000001 ∧ σ1 = fd σ 5 1)) : MS σ1 ∧ ∀ (r2 : Int) (σ2 : ST), (((-7 ≤ x ∧ x ≤ 7) ∧ r2 = σ1 18 3 ∧ σ2 = up2 σ1 18 3 x) ∨ (¬ (-7 ≤ x ∧ x ≤ 7) ∧ r2 = -1000001 ∧ σ2 = fd σ1 27 1)) → r1 = r2 ∧ E σ2 σ2 n (N + 1) ∧ MS σ2 := by
  have cf : ∀ c, 18 ≤ c → c ≤ 37 → σ1 c = σ c := by
    rcases hc with ⟨-, -, e⟩ | ⟨-, -, e⟩ <;> (intro c h1 h2; first | (rw [e]; done) | (rw [e]; simp (disch := omega) only [fd, up2_ne]; done))
  refine ⟨hM.cf cf, fun r2 σ2 hm => ?_⟩
  have mf : ∀ c, (c < 18 ∨ 37 < c) → σ2 c = σ1 c := by
      rcases hm with ⟨-, -, e⟩ | ⟨-, -, e⟩ <;> (intro c h1; first | (rw [e]; done) | (rw [e]; simp (disch := omega) only [fd, up2_ne]; done))
  obtain ⟨h1, h2, h3⟩ := p_key (hE.cf cf) (hM.cf cf) hN hc hm
  exact ⟨h1, h2.mf mf, h3⟩

set_option maxHeartbeats 1000000 in
theorem q_written {σ σ1 : ST} {n : Nat} {N r1 v : Int} (hE : E σ σ n N) (hM : MS σ) (hN : N < 900000) (hc : ((0 ≤ v ∧ v < n) ∧ r1 = (σ 0 5 + 7 * σ (39 + 5 * v.toNat) 1 + 6) % 12 - 6 ∧ σ1 = σ) ∨ (¬ (0 ≤ v ∧ v < n) ∧ r1 = -1000001 ∧ σ1 = fd σ 5 1)) : MS σ1 ∧ ∀ (r2 : Int) (σ2 : ST), (((0 ≤ v ∧ v < σ1 18 1) ∧ r2 = (σ1 18 3 + 7 * σ1 22 v + 6) % 12 - 6 ∧ σ2 = σ1) ∨ (¬ (0 ≤ v ∧ v < σ1 18 1) ∧ r2 = -1000001 ∧ σ2 = fd σ1 27 1)) → r1 = r2 ∧ E σ2 σ2 n (N + 1) ∧ MS σ2 := by
  have cf : ∀ c, 18 ≤ c → c ≤ 37 → σ1 c = σ c := by
    rcases hc with ⟨-, -, e⟩ | ⟨-, -, e⟩ <;> (intro c h1 h2; first | (rw [e]; done) | (rw [e]; simp (disch := omega) only [fd, up2_ne]; done))
  refine ⟨hM.cf cf, fun r2 σ2 hm => ?_⟩
  have mf : ∀ c, (c < 18 ∨ 37 < c) → σ2 c = σ1 c := by
      rcases hm with ⟨-, -, e⟩ | ⟨-, -, e⟩ <;> (intro c h1; first | (rw [e]; done) | (rw [e]; simp (disch := omega) only [fd, up2_ne]; done))
  obtain ⟨h1, h2, h3⟩ := p_written (hE.cf cf) (hM.cf cf) hN hc hm
  exact ⟨h1, h2.mf mf, h3⟩

set_option maxHeartbeats 1000000 in
theorem q_due {σ σ1 : ST} {n : Nat} {N r1 x : Int} (hE : E σ σ n N) (hM : MS σ) (hN : N < 900000) (hc : ((1 ≤ x ∧ x ≤ 20) ∧ r1 = σ 0 6 ∧ σ1 = up2 σ 0 6 x) ∨ (¬ (1 ≤ x ∧ x ≤ 20) ∧ r1 = -1000001 ∧ σ1 = fd σ 5 1)) : MS σ1 ∧ ∀ (r2 : Int) (σ2 : ST), (((1 ≤ x ∧ x ≤ 20) ∧ r2 = σ1 18 4 ∧ σ2 = up2 σ1 18 4 x) ∨ (¬ (1 ≤ x ∧ x ≤ 20) ∧ r2 = -1000001 ∧ σ2 = fd σ1 27 1)) → r1 = r2 ∧ E σ2 σ2 n (N + 1) ∧ MS σ2 := by
  have cf : ∀ c, 18 ≤ c → c ≤ 37 → σ1 c = σ c := by
    rcases hc with ⟨-, -, e⟩ | ⟨-, -, e⟩ <;> (intro c h1 h2; first | (rw [e]; done) | (rw [e]; simp (disch := omega) only [fd, up2_ne]; done))
  refine ⟨hM.cf cf, fun r2 σ2 hm => ?_⟩
  have mf : ∀ c, (c < 18 ∨ 37 < c) → σ2 c = σ1 c := by
      rcases hm with ⟨-, -, e⟩ | ⟨-, -, e⟩ <;> (intro c h1; first | (rw [e]; done) | (rw [e]; simp (disch := omega) only [fd, up2_ne]; done))
  obtain ⟨h1, h2, h3⟩ := p_due (hE.cf cf) (hM.cf cf) hN hc hm
  exact ⟨h1, h2.mf mf, h3⟩

set_option maxHeartbeats 1000000 in
theorem q_paper {σ σ1 : ST} {n : Nat} {N r1 x y : Int} (hE : E σ σ n N) (hM : MS σ) (hN : N < 900000) (hc : (((21 ≤ x ∧ x ≤ 60) ∧ (1 ≤ y ∧ y ≤ 8)) ∧ r1 = 1 ∧ σ1 = up2 (up2 σ 0 7 x) 0 8 y) ∨ (¬ ((21 ≤ x ∧ x ≤ 60) ∧ (1 ≤ y ∧ y ≤ 8)) ∧ r1 = -1000001 ∧ σ1 = fd σ 5 1)) : MS σ1 ∧ ∀ (r2 : Int) (σ2 : ST), ((((21 ≤ x ∧ x ≤ 60) ∧ (1 ≤ y ∧ y ≤ 8)) ∧ r2 = 1 ∧ σ2 = up2 (up2 σ1 18 5 x) 18 6 y) ∨ (¬ ((21 ≤ x ∧ x ≤ 60) ∧ (1 ≤ y ∧ y ≤ 8)) ∧ r2 = -1000001 ∧ σ2 = fd σ1 27 1)) → r1 = r2 ∧ E σ2 σ2 n (N + 1) ∧ MS σ2 := by
  have cf : ∀ c, 18 ≤ c → c ≤ 37 → σ1 c = σ c := by
    rcases hc with ⟨-, -, e⟩ | ⟨-, -, e⟩ <;> (intro c h1 h2; first | (rw [e]; done) | (rw [e]; simp (disch := omega) only [fd, up2_ne]; done))
  refine ⟨hM.cf cf, fun r2 σ2 hm => ?_⟩
  have mf : ∀ c, (c < 18 ∨ 37 < c) → σ2 c = σ1 c := by
      rcases hm with ⟨-, -, e⟩ | ⟨-, -, e⟩ <;> (intro c h1; first | (rw [e]; done) | (rw [e]; simp (disch := omega) only [fd, up2_ne]; done))
  obtain ⟨h1, h2, h3⟩ := p_paper (hE.cf cf) (hM.cf cf) hN hc hm
  exact ⟨h1, h2.mf mf, h3⟩

set_option maxHeartbeats 1000000 in
theorem q_need {σ σ1 : ST} {n : Nat} {N r1 x : Int} (hE : E σ σ n N) (hM : MS σ) (hN : N < 900000) (hc : ((0 ≤ x ∧ x ≤ 60) ∧ r1 = σ 0 9 ∧ σ1 = up2 σ 0 9 x) ∨ (¬ (0 ≤ x ∧ x ≤ 60) ∧ r1 = -1000001 ∧ σ1 = fd σ 5 1)) : MS σ1 ∧ ∀ (r2 : Int) (σ2 : ST), (((0 ≤ x ∧ x ≤ 60) ∧ r2 = σ1 18 7 ∧ σ2 = up2 σ1 18 7 x) ∨ (¬ (0 ≤ x ∧ x ≤ 60) ∧ r2 = -1000001 ∧ σ2 = fd σ1 27 1)) → r1 = r2 ∧ E σ2 σ2 n (N + 1) ∧ MS σ2 := by
  have cf : ∀ c, 18 ≤ c → c ≤ 37 → σ1 c = σ c := by
    rcases hc with ⟨-, -, e⟩ | ⟨-, -, e⟩ <;> (intro c h1 h2; first | (rw [e]; done) | (rw [e]; simp (disch := omega) only [fd, up2_ne]; done))
  refine ⟨hM.cf cf, fun r2 σ2 hm => ?_⟩
  have mf : ∀ c, (c < 18 ∨ 37 < c) → σ2 c = σ1 c := by
      rcases hm with ⟨-, -, e⟩ | ⟨-, -, e⟩ <;> (intro c h1; first | (rw [e]; done) | (rw [e]; simp (disch := omega) only [fd, up2_ne]; done))
  obtain ⟨h1, h2, h3⟩ := p_need (hE.cf cf) (hM.cf cf) hN hc hm
  exact ⟨h1, h2.mf mf, h3⟩

set_option maxHeartbeats 1000000 in
theorem q_pages {σ σ1 : ST} {n : Nat} {N r1 v w : Int} (hE : E σ σ n N) (hM : MS σ) (hN : N < 900000) (hc : (((0 ≤ v ∧ v < n) ∧ 0 ≤ w ∧ w ≤ 1) ∧ ∃ τ, PlR σ τ n v ∧ ((τ 15 0 = 0 ∧ r1 = -1000002 ∧ σ1 = fd τ 5 2) ∨ (¬ τ 15 0 = 0 ∧ w = 0 ∧ r1 = τ 15 0 ∧ σ1 = τ) ∨ (¬ τ 15 0 = 0 ∧ w = 1 ∧ r1 = τ 14 0 ∧ σ1 = τ))) ∨ (¬ ((0 ≤ v ∧ v < n) ∧ 0 ≤ w ∧ w ≤ 1) ∧ r1 = -1000001 ∧ σ1 = fd σ 5 1)) : MS σ1 ∧ ∀ (r2 : Int) (σ2 : ST), ((((0 ≤ v ∧ v < σ1 18 1) ∧ 0 ≤ w ∧ w ≤ 1) ∧ ∃ ρ, FPm σ1 ρ v ∧ ((ρ 18 18 = 0 ∧ r2 = -1000002 ∧ σ2 = fd ρ 27 2) ∨ (0 < ρ 18 18 ∧ w = 0 ∧ r2 = ρ 30 0 ∧ σ2 = ρ) ∨ (0 < ρ 18 18 ∧ w = 1 ∧ r2 = ρ 29 0 ∧ σ2 = ρ))) ∨ (¬ ((0 ≤ v ∧ v < σ1 18 1) ∧ 0 ≤ w ∧ w ≤ 1) ∧ r2 = -1000001 ∧ σ2 = fd σ1 27 1)) → r1 = r2 ∧ E σ2 σ2 n (N + 1) ∧ MS σ2 := by
  have cf : ∀ c, 18 ≤ c → c ≤ 37 → σ1 c = σ c := by
    rcases hc with ⟨-, ρ, hd, ⟨-, -, e⟩ | ⟨-, -, -, e⟩ | ⟨-, -, -, e⟩⟩ | ⟨-, -, e⟩
    · have hfr := hd.fr; intro c h1 h2; rw [e]; first | exact hfr.toV (by omega) | (simp (disch := omega) only [fd, up2_ne]; exact hfr.toV (by omega))
    · have hfr := hd.fr; intro c h1 h2; rw [e]; first | exact hfr.toV (by omega) | (simp (disch := omega) only [fd, up2_ne]; exact hfr.toV (by omega))
    · have hfr := hd.fr; intro c h1 h2; rw [e]; first | exact hfr.toV (by omega) | (simp (disch := omega) only [fd, up2_ne]; exact hfr.toV (by omega))
    · intro c h1 h2; first | (rw [e]; done) | (rw [e]; simp (disch := omega) only [fd, up2_ne]; done)
  refine ⟨hM.cf cf, fun r2 σ2 hm => ?_⟩
  have mf : ∀ c, (c < 18 ∨ 37 < c) → σ2 c = σ1 c := by
      rcases hm with ⟨-, ρ, ⟨hf, -, -⟩, ⟨-, -, e⟩ | ⟨-, -, -, e⟩ | ⟨-, -, -, e⟩⟩ | ⟨-, -, e⟩
      · intro c h1; rw [e]; first | exact hf.out h1 | (simp (disch := omega) only [fd, up2_ne]; exact hf.out h1)
      · intro c h1; rw [e]; first | exact hf.out h1 | (simp (disch := omega) only [fd, up2_ne]; exact hf.out h1)
      · intro c h1; rw [e]; first | exact hf.out h1 | (simp (disch := omega) only [fd, up2_ne]; exact hf.out h1)
      · intro c h1; first | (rw [e]; done) | (rw [e]; simp (disch := omega) only [fd, up2_ne]; done)
  obtain ⟨h1, h2, h3⟩ := p_pages (hE.cf cf) (hM.cf cf) hN hc hm
  exact ⟨h1, h2.mf mf, h3⟩

set_option maxHeartbeats 1000000 in
theorem q_page {σ σ1 : ST} {n : Nat} {N r1 v i : Int} (hE : E σ σ n N) (hM : MS σ) (hN : N < 900000) (hc : (((0 ≤ v ∧ v < n) ∧ 0 ≤ i) ∧ ∃ τ, PlR σ τ n v ∧ ((walkF (Zc τ) (τ 2 3) i.toNat < τ 2 3 ∧ r1 = τ 9 (walkF (Zc τ) (τ 2 3) i.toNat) ∧ σ1 = τ) ∨ (¬ walkF (Zc τ) (τ 2 3) i.toNat < τ 2 3 ∧ r1 = -1000002 ∧ σ1 = fd τ 5 2))) ∨ (¬ ((0 ≤ v ∧ v < n) ∧ 0 ≤ i) ∧ r1 = -1000001 ∧ σ1 = fd σ 5 1)) : MS σ1 ∧ ∀ (r2 : Int) (σ2 : ST), ((((0 ≤ v ∧ v < σ1 18 1) ∧ 0 ≤ i) ∧ ∃ ρ, FPm σ1 ρ v ∧ ((walkF (ρ 31) (ρ 18 18) i.toNat < ρ 18 18 ∧ r2 = ρ 28 (walkF (ρ 31) (ρ 18 18) i.toNat) ∧ σ2 = ρ) ∨ (¬ walkF (ρ 31) (ρ 18 18) i.toNat < ρ 18 18 ∧ r2 = -1000002 ∧ σ2 = fd ρ 27 2))) ∨ (¬ ((0 ≤ v ∧ v < σ1 18 1) ∧ 0 ≤ i) ∧ r2 = -1000001 ∧ σ2 = fd σ1 27 1)) → r1 = r2 ∧ E σ2 σ2 n (N + 1) ∧ MS σ2 := by
  have cf : ∀ c, 18 ≤ c → c ≤ 37 → σ1 c = σ c := by
    rcases hc with ⟨-, ρ, hd, ⟨-, -, e⟩ | ⟨-, -, e⟩⟩ | ⟨-, -, e⟩
    · have hfr := hd.fr; intro c h1 h2; rw [e]; first | exact hfr.toV (by omega) | (simp (disch := omega) only [fd, up2_ne]; exact hfr.toV (by omega))
    · have hfr := hd.fr; intro c h1 h2; rw [e]; first | exact hfr.toV (by omega) | (simp (disch := omega) only [fd, up2_ne]; exact hfr.toV (by omega))
    · intro c h1 h2; first | (rw [e]; done) | (rw [e]; simp (disch := omega) only [fd, up2_ne]; done)
  refine ⟨hM.cf cf, fun r2 σ2 hm => ?_⟩
  have mf : ∀ c, (c < 18 ∨ 37 < c) → σ2 c = σ1 c := by
      rcases hm with ⟨-, ρ, ⟨hf, -, -⟩, ⟨-, -, e⟩ | ⟨-, -, e⟩⟩ | ⟨-, -, e⟩
      · intro c h1; rw [e]; first | exact hf.out h1 | (simp (disch := omega) only [fd, up2_ne]; exact hf.out h1)
      · intro c h1; rw [e]; first | exact hf.out h1 | (simp (disch := omega) only [fd, up2_ne]; exact hf.out h1)
      · intro c h1; first | (rw [e]; done) | (rw [e]; simp (disch := omega) only [fd, up2_ne]; done)
  obtain ⟨h1, h2, h3⟩ := p_page (hE.cf cf) (hM.cf cf) hN hc hm
  exact ⟨h1, h2.mf mf, h3⟩

set_option maxHeartbeats 1000000 in
theorem q_free {σ σ1 : ST} {n : Nat} {N r1 v i : Int} (hE : E σ σ n N) (hM : MS σ) (hN : N < 900000) (hc : (((0 ≤ v ∧ v < n) ∧ 0 ≤ i) ∧ ∃ τ, PlR σ τ n v ∧ (((walkF (Zc τ) (τ 2 3) i.toNat < τ 2 3 ∧ walkF (Zc τ) (τ 2 3) i.toNat + Zc τ (walkF (Zc τ) (τ 2 3) i.toNat) < τ 2 3) ∧ r1 = τ 12 (walkF (Zc τ) (τ 2 3) i.toNat + Zc τ (walkF (Zc τ) (τ 2 3) i.toNat)) ∧ σ1 = τ) ∨ (¬ (walkF (Zc τ) (τ 2 3) i.toNat < τ 2 3 ∧ walkF (Zc τ) (τ 2 3) i.toNat + Zc τ (walkF (Zc τ) (τ 2 3) i.toNat) < τ 2 3) ∧ r1 = -1000002 ∧ σ1 = fd τ 5 2))) ∨ (¬ ((0 ≤ v ∧ v < n) ∧ 0 ≤ i) ∧ r1 = -1000001 ∧ σ1 = fd σ 5 1)) : MS σ1 ∧ ∀ (r2 : Int) (σ2 : ST), ((((0 ≤ v ∧ v < σ1 18 1) ∧ 0 ≤ i) ∧ ∃ ρ, FPm σ1 ρ v ∧ (((walkF (ρ 31) (ρ 18 18) i.toNat < ρ 18 18 ∧ walkF (ρ 31) (ρ 18 18) i.toNat + ρ 31 (walkF (ρ 31) (ρ 18 18) i.toNat) < ρ 18 18) ∧ r2 = frM ρ v (walkF (ρ 31) (ρ 18 18) i.toNat + ρ 31 (walkF (ρ 31) (ρ 18 18) i.toNat)) ∧ σ2 = ρ) ∨ (¬ (walkF (ρ 31) (ρ 18 18) i.toNat < ρ 18 18 ∧ walkF (ρ 31) (ρ 18 18) i.toNat + ρ 31 (walkF (ρ 31) (ρ 18 18) i.toNat) < ρ 18 18) ∧ r2 = -1000002 ∧ σ2 = fd ρ 27 2))) ∨ (¬ ((0 ≤ v ∧ v < σ1 18 1) ∧ 0 ≤ i) ∧ r2 = -1000001 ∧ σ2 = fd σ1 27 1)) → r1 = r2 ∧ E σ2 σ2 n (N + 1) ∧ MS σ2 := by
  have cf : ∀ c, 18 ≤ c → c ≤ 37 → σ1 c = σ c := by
    rcases hc with ⟨-, ρ, hd, ⟨-, -, e⟩ | ⟨-, -, e⟩⟩ | ⟨-, -, e⟩
    · have hfr := hd.fr; intro c h1 h2; rw [e]; first | exact hfr.toV (by omega) | (simp (disch := omega) only [fd, up2_ne]; exact hfr.toV (by omega))
    · have hfr := hd.fr; intro c h1 h2; rw [e]; first | exact hfr.toV (by omega) | (simp (disch := omega) only [fd, up2_ne]; exact hfr.toV (by omega))
    · intro c h1 h2; first | (rw [e]; done) | (rw [e]; simp (disch := omega) only [fd, up2_ne]; done)
  refine ⟨hM.cf cf, fun r2 σ2 hm => ?_⟩
  have mf : ∀ c, (c < 18 ∨ 37 < c) → σ2 c = σ1 c := by
      rcases hm with ⟨-, ρ, ⟨hf, -, -⟩, ⟨-, -, e⟩ | ⟨-, -, e⟩⟩ | ⟨-, -, e⟩
      · intro c h1; rw [e]; first | exact hf.out h1 | (simp (disch := omega) only [fd, up2_ne]; exact hf.out h1)
      · intro c h1; rw [e]; first | exact hf.out h1 | (simp (disch := omega) only [fd, up2_ne]; exact hf.out h1)
      · intro c h1; first | (rw [e]; done) | (rw [e]; simp (disch := omega) only [fd, up2_ne]; done)
  obtain ⟨h1, h2, h3⟩ := p_free (hE.cf cf) (hM.cf cf) hN hc hm
  exact ⟨h1, h2.mf mf, h3⟩

set_option maxHeartbeats 1000000 in
theorem q_systems {σ σ1 : ST} {n : Nat} {N r1 v i : Int} (hE : E σ σ n N) (hM : MS σ) (hN : N < 900000) (hc : (((0 ≤ v ∧ v < n) ∧ 0 ≤ i) ∧ ∃ τ τ2, PlR σ τ n v ∧ AgF τ τ2 ∧ ((walkF (Zc τ) (τ 2 3) i.toNat < τ 2 3 ∧ r1 = syC τ (walkF (Zc τ) (τ 2 3) i.toNat) (Zc τ (walkF (Zc τ) (τ 2 3) i.toNat)) ∧ σ1 = τ2) ∨ (¬ walkF (Zc τ) (τ 2 3) i.toNat < τ 2 3 ∧ r1 = -1000002 ∧ σ1 = fd τ2 5 2))) ∨ (¬ ((0 ≤ v ∧ v < n) ∧ 0 ≤ i) ∧ r1 = -1000001 ∧ σ1 = fd σ 5 1)) : MS σ1 ∧ ∀ (r2 : Int) (σ2 : ST), ((((0 ≤ v ∧ v < σ1 18 1) ∧ 0 ≤ i) ∧ ∃ ρ, FPm σ1 ρ v ∧ ((walkF (ρ 31) (ρ 18 18) i.toNat < ρ 18 18 ∧ r2 = syM ρ v (walkF (ρ 31) (ρ 18 18) i.toNat) (ρ 31 (walkF (ρ 31) (ρ 18 18) i.toNat)) ∧ σ2 = ρ) ∨ (¬ walkF (ρ 31) (ρ 18 18) i.toNat < ρ 18 18 ∧ r2 = -1000002 ∧ σ2 = fd ρ 27 2))) ∨ (¬ ((0 ≤ v ∧ v < σ1 18 1) ∧ 0 ≤ i) ∧ r2 = -1000001 ∧ σ2 = fd σ1 27 1)) → r1 = r2 ∧ E σ2 σ2 n (N + 1) ∧ MS σ2 := by
  have cf : ∀ c, 18 ≤ c → c ≤ 37 → σ1 c = σ c := by
    rcases hc with ⟨-, ρ, ρ2, hd, hag, ⟨-, -, e⟩ | ⟨-, -, e⟩⟩ | ⟨-, -, e⟩
    · have hfr := hd.fr.tr (fun c x1 x2 x3 x4 x5 x6 x7 x8 x9 x10 => hag c x7 x8 x9 x10); intro c h1 h2; rw [e]; first | exact hfr.toV (by omega) | (simp (disch := omega) only [fd, up2_ne]; exact hfr.toV (by omega))
    · have hfr := hd.fr.tr (fun c x1 x2 x3 x4 x5 x6 x7 x8 x9 x10 => hag c x7 x8 x9 x10); intro c h1 h2; rw [e]; first | exact hfr.toV (by omega) | (simp (disch := omega) only [fd, up2_ne]; exact hfr.toV (by omega))
    · intro c h1 h2; first | (rw [e]; done) | (rw [e]; simp (disch := omega) only [fd, up2_ne]; done)
  refine ⟨hM.cf cf, fun r2 σ2 hm => ?_⟩
  have mf : ∀ c, (c < 18 ∨ 37 < c) → σ2 c = σ1 c := by
      rcases hm with ⟨-, ρ, ⟨hf, -, -⟩, ⟨-, -, e⟩ | ⟨-, -, e⟩⟩ | ⟨-, -, e⟩
      · intro c h1; rw [e]; first | exact hf.out h1 | (simp (disch := omega) only [fd, up2_ne]; exact hf.out h1)
      · intro c h1; rw [e]; first | exact hf.out h1 | (simp (disch := omega) only [fd, up2_ne]; exact hf.out h1)
      · intro c h1; first | (rw [e]; done) | (rw [e]; simp (disch := omega) only [fd, up2_ne]; done)
  obtain ⟨h1, h2, h3⟩ := p_systems (hE.cf cf) (hM.cf cf) hN hc hm
  exact ⟨h1, h2.mf mf, h3⟩

set_option maxHeartbeats 1000000 in
theorem q_lay {σ σ1 : ST} {n : Nat} {N r1 v : Int} (hE : E σ σ n N) (hM : MS σ) (hN : N < 900000) (hc : ((0 ≤ v ∧ v < n) ∧ ∃ τ, PlR σ τ n v ∧ ((τ 15 0 = 0 ∧ r1 = -1000002 ∧ σ1 = fd τ 5 2) ∨ (¬ τ 15 0 = 0 ∧ r1 = τ 15 0 ∧ KpC τ σ1 v.toNat))) ∨ (¬ (0 ≤ v ∧ v < n) ∧ r1 = -1000001 ∧ σ1 = fd σ 5 1)) : MS σ1 ∧ ∀ (r2 : Int) (σ2 : ST), (((0 ≤ v ∧ v < σ1 18 1) ∧ ∃ ρ, FPm σ1 ρ v ∧ ((ρ 18 18 = 0 ∧ r2 = -1000002 ∧ σ2 = fd ρ 27 2) ∨ (0 < ρ 18 18 ∧ LayM ρ v σ2 r2))) ∨ (¬ (0 ≤ v ∧ v < σ1 18 1) ∧ r2 = -1000001 ∧ σ2 = fd σ1 27 1)) → r1 = r2 ∧ E σ2 σ2 n (N + 1) ∧ MS σ2 := by
  have cf : ∀ c, 18 ≤ c → c ≤ 37 → σ1 c = σ c := by
    rcases hc with ⟨-, ρ, hd, ⟨-, -, e⟩ | ⟨-, -, e⟩⟩ | ⟨-, -, e⟩
    · have hfr := hd.fr; intro c h1 h2; rw [e]; first | exact hfr.toV (by omega) | (simp (disch := omega) only [fd, up2_ne]; exact hfr.toV (by omega))
    · have hfr := hd.fr; intro c h1 h2; rw [e.1 c (by omega) (by omega) (by omega)]; exact hfr.toV (by omega)
    · intro c h1 h2; first | (rw [e]; done) | (rw [e]; simp (disch := omega) only [fd, up2_ne]; done)
  refine ⟨hM.cf cf, fun r2 σ2 hm => ?_⟩
  have mf : ∀ c, (c < 18 ∨ 37 < c) → σ2 c = σ1 c := by
      rcases hm with ⟨-, ρ, ⟨hf, -, -⟩, ⟨-, -, e⟩ | ⟨-, -, -, -, -, T, ⟨t1, -⟩, e⟩⟩ | ⟨-, -, e⟩
      · intro c h1; rw [e]; first | exact hf.out h1 | (simp (disch := omega) only [fd, up2_ne]; exact hf.out h1)
      · intro c h1; rw [e, up2_ne (by omega), t1 c (by omega) (by omega) (by omega) (by omega)]; exact hf.out h1
      · intro c h1; first | (rw [e]; done) | (rw [e]; simp (disch := omega) only [fd, up2_ne]; done)
  obtain ⟨h1, h2, h3⟩ := p_lay (hE.cf cf) (hM.cf cf) hN hc hm
  exact ⟨h1, h2.mf mf, h3⟩

set_option maxHeartbeats 1000000 in
theorem q_stale {σ σ1 : ST} {n : Nat} {N r1 v : Int} (hE : E σ σ n N) (hM : MS σ) (hN : N < 900000) (hc : ((0 ≤ v ∧ v < n) ∧ σ (39 + 5 * v.toNat) 7 = 0 ∧ r1 = -1000002 ∧ σ1 = fd σ 5 2) ∨ ((0 ≤ v ∧ v < n) ∧ 0 < σ (39 + 5 * v.toNat) 7 ∧ r1 = (stpF (σ (42 + 5 * v.toNat)) (σ (43 + 5 * v.toNat)) (mkC σ v.toNat) (σ (39 + 5 * v.toNat) 7) 40).1 ∧ σ1 = σ) ∨ (¬ (0 ≤ v ∧ v < n) ∧ r1 = -1000001 ∧ σ1 = fd σ 5 1)) : MS σ1 ∧ ∀ (r2 : Int) (σ2 : ST), (((0 ≤ v ∧ v < σ1 18 1) ∧ σ1 32 v = 0 ∧ r2 = -1000002 ∧ σ2 = fd σ1 27 2) ∨ ((0 ≤ v ∧ v < σ1 18 1) ∧ 0 < σ1 32 v ∧ (∀ c, c ≠ 37 → σ2 c = σ1 c) ∧ StF σ1 v (σ2 37) (σ1 18 0) ∧ r2 = sumF (σ2 37) (σ1 32 v).toNat) ∨ (¬ (0 ≤ v ∧ v < σ1 18 1) ∧ r2 = -1000001 ∧ σ2 = fd σ1 27 1)) → r1 = r2 ∧ E σ2 σ2 n (N + 1) ∧ MS σ2 := by
  have cf : ∀ c, 18 ≤ c → c ≤ 37 → σ1 c = σ c := by
    rcases hc with ⟨-, -, -, e⟩ | ⟨-, -, -, e⟩ | ⟨-, -, e⟩ <;> (intro c h1 h2; first | (rw [e]; done) | (rw [e]; simp (disch := omega) only [fd, up2_ne]; done))
  refine ⟨hM.cf cf, fun r2 σ2 hm => ?_⟩
  have mf : ∀ c, (c < 18 ∨ 37 < c) → σ2 c = σ1 c := by
      rcases hm with ⟨-, -, -, e⟩ | ⟨-, -, h3, -⟩ | ⟨-, -, e⟩
      · intro c h1; first | (rw [e]; done) | (rw [e]; simp (disch := omega) only [fd, up2_ne]; done)
      · intro c h1; exact h3 c (by omega)
      · intro c h1; first | (rw [e]; done) | (rw [e]; simp (disch := omega) only [fd, up2_ne]; done)
  obtain ⟨h1, h2, h3⟩ := p_stale (hE.cf cf) (hM.cf cf) hN hc hm
  exact ⟨h1, h2.mf mf, h3⟩

set_option maxHeartbeats 1000000 in
theorem q_tell {σ σ1 : ST} {n : Nat} {N r1 x : Int} (hE : E σ σ n N) (hM : MS σ) (hN : N < 900000) (hc : (σ 4 1 < 40 ∧ r1 = σ 4 1 + 1 ∧ σ1 = up2 (up2 σ 17 (σ 4 1) x) 4 1 (σ 4 1 + 1)) ∨ (σ 4 1 = 40 ∧ r1 = -1000004 ∧ σ1 = fd σ 5 4)) : MS σ1 ∧ ∀ (r2 : Int) (σ2 : ST), ((σ1 18 2 < 40 ∧ r2 = σ1 18 2 + 1 ∧ σ2 = up2 (up2 σ1 26 (σ1 18 2) x) 18 2 (σ1 18 2 + 1)) ∨ (σ1 18 2 = 40 ∧ r2 = -1000004 ∧ σ2 = fd σ1 27 4)) → r1 = r2 ∧ E σ2 σ2 n (N + 1) ∧ MS σ2 := by
  have cf : ∀ c, 18 ≤ c → c ≤ 37 → σ1 c = σ c := by
    rcases hc with ⟨-, -, e⟩ | ⟨-, -, e⟩ <;> (intro c h1 h2; first | (rw [e]; done) | (rw [e]; simp (disch := omega) only [fd, up2_ne]; done))
  refine ⟨hM.cf cf, fun r2 σ2 hm => ?_⟩
  have mf : ∀ c, (c < 18 ∨ 37 < c) → σ2 c = σ1 c := by
      rcases hm with ⟨-, -, e⟩ | ⟨-, -, e⟩ <;> (intro c h1; first | (rw [e]; done) | (rw [e]; simp (disch := omega) only [fd, up2_ne]; done))
  obtain ⟨h1, h2, h3⟩ := p_tell (hE.cf cf) (hM.cf cf) hN hc hm
  exact ⟨h1, h2.mf mf, h3⟩

set_option maxHeartbeats 1000000 in
theorem q_check {σ σ1 : ST} {n : Nat} {N r1 v : Int} (hE : E σ σ n N) (hM : MS σ) (hN : N < 900000) (hc : ((0 ≤ v ∧ v < n) ∧ DrC (up2 σ 4 1 0) σ1 v (σ 0 6) ∧ r1 = ckC σ1 (σ 4 1)) ∨ (¬ (0 ≤ v ∧ v < n) ∧ r1 = -1000001 ∧ σ1 = fd (up2 σ 4 1 0) 5 1)) : MS σ1 ∧ ∀ (r2 : Int) (σ2 : ST), (((0 ≤ v ∧ v < σ1 18 1) ∧ FrM (up2 σ1 18 2 0) σ2 ∧ RowOK (σ1 20) (σ1 18 0) (σ2 28) (σ2 18 18) ∧ r2 = ckM σ2 v (σ1 18 2)) ∨ (¬ (0 ≤ v ∧ v < σ1 18 1) ∧ r2 = -1000001 ∧ σ2 = fd (up2 σ1 18 2 0) 27 1)) → r1 = r2 ∧ E σ2 σ2 n (N + 1) ∧ MS σ2 := by
  have cf : ∀ c, 18 ≤ c → c ≤ 37 → σ1 c = σ c := by
    rcases hc with ⟨-, hd, -⟩ | ⟨-, -, e⟩
    · intro c h1 h2; rw [hd.fr.toV (by omega), up2_ne (by omega)]
    · intro c h1 h2; first | (rw [e]; done) | (rw [e]; simp (disch := omega) only [fd, up2_ne]; done)
  refine ⟨hM.cf cf, fun r2 σ2 hm => ?_⟩
  have mf : ∀ c, (c < 18 ∨ 37 < c) → σ2 c = σ1 c := by
      rcases hm with ⟨-, hf, -⟩ | ⟨-, -, e⟩
      · intro c h1; rw [hf.out h1, up2_ne (by omega)]
      · intro c h1; first | (rw [e]; done) | (rw [e]; simp (disch := omega) only [fd, up2_ne]; done)
  obtain ⟨h1, h2, h3⟩ := p_check (hE.cf cf) (hM.cf cf) hN hc hm
  exact ⟨h1, h2.mf mf, h3⟩

set_option maxHeartbeats 1000000 in
theorem q_count {σ σ1 : ST} {n : Nat} {N r1 w : Int} (hE : E σ σ n N) (hM : MS σ) (hN : N < 900000) (hc : (w = 0 ∧ r1 = σ 1 3 ∧ σ1 = σ) ∨ (w = 1 ∧ r1 = n ∧ σ1 = σ) ∨ (w = 2 ∧ r1 = σ 1 3 - cntN (σ 7) (σ 1 3).toNat ∧ σ1 = σ) ∨ (w = 3 ∧ r1 = secN (σ 7) (σ 6) (σ 1 3).toNat ∧ σ1 = σ) ∨ (w = 4 ∧ r1 = σ 4 1 ∧ σ1 = σ) ∨ (w = 5 ∧ r1 = laidN (fun o => σ (39 + 5 * o.toNat) 7) n ∧ σ1 = σ) ∨ (¬ (0 ≤ w ∧ w ≤ 5) ∧ r1 = -1000001 ∧ σ1 = fd σ 5 1)) : MS σ1 ∧ ∀ (r2 : Int) (σ2 : ST), ((w = 0 ∧ r2 = σ1 18 0 ∧ σ2 = σ1) ∨ (w = 1 ∧ r2 = σ1 18 1 ∧ σ2 = σ1) ∨ (w = 2 ∧ r2 = σ1 18 0 - cntN (σ1 20) (σ1 18 0).toNat ∧ σ2 = σ1) ∨ (w = 3 ∧ r2 = secN (σ1 20) (σ1 19) (σ1 18 0).toNat ∧ σ2 = σ1) ∨ (w = 4 ∧ r2 = σ1 18 2 ∧ σ2 = σ1) ∨ (w = 5 ∧ r2 = laidN (σ1 32) (σ1 18 1).toNat ∧ σ2 = σ1) ∨ (¬ (0 ≤ w ∧ w ≤ 5) ∧ r2 = -1000001 ∧ σ2 = fd σ1 27 1)) → r1 = r2 ∧ E σ2 σ2 n (N + 1) ∧ MS σ2 := by
  have cf : ∀ c, 18 ≤ c → c ≤ 37 → σ1 c = σ c := by
    rcases hc with ⟨-, -, e⟩ | ⟨-, -, e⟩ | ⟨-, -, e⟩ | ⟨-, -, e⟩ | ⟨-, -, e⟩ | ⟨-, -, e⟩ | ⟨-, -, e⟩ <;> (intro c h1 h2; first | (rw [e]; done) | (rw [e]; simp (disch := omega) only [fd, up2_ne]; done))
  refine ⟨hM.cf cf, fun r2 σ2 hm => ?_⟩
  have mf : ∀ c, (c < 18 ∨ 37 < c) → σ2 c = σ1 c := by
      rcases hm with ⟨-, -, e⟩ | ⟨-, -, e⟩ | ⟨-, -, e⟩ | ⟨-, -, e⟩ | ⟨-, -, e⟩ | ⟨-, -, e⟩ | ⟨-, -, e⟩ <;> (intro c h1; first | (rw [e]; done) | (rw [e]; simp (disch := omega) only [fd, up2_ne]; done))
  obtain ⟨h1, h2, h3⟩ := p_count (hE.cf cf) (hM.cf cf) hN hc hm
  exact ⟨h1, h2.mf mf, h3⟩

set_option maxHeartbeats 1000000 in
theorem q_found {σ σ1 : ST} {n : Nat} {N r1 k : Int} (hE : E σ σ n N) (hM : MS σ) (hN : N < 900000) (hc : ((1 ≤ k ∧ k ≤ 5) ∧ r1 = σ 5 k ∧ σ1 = σ) ∨ (¬ (1 ≤ k ∧ k ≤ 5) ∧ r1 = -1000001 ∧ σ1 = fd σ 5 1)) : MS σ1 ∧ ∀ (r2 : Int) (σ2 : ST), (((1 ≤ k ∧ k ≤ 5) ∧ r2 = σ1 27 k ∧ σ2 = σ1) ∨ (¬ (1 ≤ k ∧ k ≤ 5) ∧ r2 = -1000001 ∧ σ2 = fd σ1 27 1)) → r1 = r2 ∧ E σ2 σ2 n (N + 1) ∧ MS σ2 := by
  have cf : ∀ c, 18 ≤ c → c ≤ 37 → σ1 c = σ c := by
    rcases hc with ⟨-, -, e⟩ | ⟨-, -, e⟩ <;> (intro c h1 h2; first | (rw [e]; done) | (rw [e]; simp (disch := omega) only [fd, up2_ne]; done))
  refine ⟨hM.cf cf, fun r2 σ2 hm => ?_⟩
  have mf : ∀ c, (c < 18 ∨ 37 < c) → σ2 c = σ1 c := by
      rcases hm with ⟨-, -, e⟩ | ⟨-, -, e⟩ <;> (intro c h1; first | (rw [e]; done) | (rw [e]; simp (disch := omega) only [fd, up2_ne]; done))
  obtain ⟨h1, h2, h3⟩ := p_found (hE.cf cf) (hM.cf cf) hN hc hm
  exact ⟨h1, h2.mf mf, h3⟩
set_option maxHeartbeats 1000000 in
theorem q_voice {σ σ1 : ST} {a a' : Nat → Nat} {n n' : Nat} {N r1 x y : Int} (hE : E σ σ n N) (hM : MS σ) (hN : N < 900000) (hc : VoP a n σ x y r1 σ1 a' n') : MS σ1 ∧ ∀ (r2 : Int) (σ2 : ST), ((((x = 2 ∧ -11 ≤ y ∧ y ≤ 11) ∨ ((x = 0 ∨ x = 1) ∧ y = 0)) ∧ σ1 18 1 < 6 ∧ r2 = σ1 18 1 ∧ σ2 = up2 (up2 (up2 (up2 σ1 21 (σ1 18 1) x) 22 (σ1 18 1) y) 23 (σ1 18 1) 1) 18 1 (σ1 18 1 + 1)) ∨ (((x = 2 ∧ -11 ≤ y ∧ y ≤ 11) ∨ ((x = 0 ∨ x = 1) ∧ y = 0)) ∧ σ1 18 1 = 6 ∧ r2 = -1000004 ∧ σ2 = fd σ1 27 4) ∨ (¬ ((x = 2 ∧ -11 ≤ y ∧ y ≤ 11) ∨ ((x = 0 ∨ x = 1) ∧ y = 0)) ∧ r2 = -1000001 ∧ σ2 = fd σ1 27 1)) → r1 = r2 ∧ E σ2 σ2 n' (N + 1) ∧ MS σ2 := by
  have cf : ∀ c, 18 ≤ c → c ≤ 37 → σ1 c = σ c := by
    rcases hc.2 with ⟨-, -, -, -, e⟩ | ⟨-, -, -, -, e⟩ | ⟨-, -, -, e⟩
    · intro c h1 h2; rw [e, up2_ne (by omega), sV_lt (by omega)]
    · intro c h1 h2; first | (rw [e]; done) | (rw [e]; simp (disch := omega) only [fd, up2_ne]; done)
    · intro c h1 h2; first | (rw [e]; done) | (rw [e]; simp (disch := omega) only [fd, up2_ne]; done)
  refine ⟨hM.cf cf, fun r2 σ2 hm => ?_⟩
  have mf : ∀ c, (c < 18 ∨ 37 < c) → σ2 c = σ1 c := by
      rcases hm with ⟨-, -, -, e⟩ | ⟨-, -, -, e⟩ | ⟨-, -, e⟩ <;> (intro c h1; first | (rw [e]; done) | (rw [e]; simp (disch := omega) only [fd, up2_ne]; done))
  obtain ⟨h1, h2, h3⟩ := p_voice (hE.cf cf) (hM.cf cf) hN hc hm
  exact ⟨h1, h2.mf mf, h3⟩
