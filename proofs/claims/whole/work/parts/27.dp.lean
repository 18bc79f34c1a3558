section DPX
variable {sy : Int → Int → Int} {lines : Int} {bt : Int → Int} {many : Int} {B G Z : Int → Int}
/-- one row of the table of pages -/
theorem dp_row (h : DPOK sy lines bt many B G Z) (h1 : ∀ i, 0 ≤ i → i < many → sy i 1 ≤ lines) {i : Int} (h0 : 0 ≤ i) (hi : i < many) : (1 ≤ Z i ∧ i + Z i ≤ many ∧ Z i ≤ farT (sy i) lines (many - i) 0) ∧ B i = B (i + Z i) + bt (i + Z i) ∧ G i = G (i + Z i) + 1 := by
  have h2 := h.2.2 i h0 hi
  have h3 : 1 ≤ farT (sy i) lines (many - i) 0 := by
    rw [farT_t (by omega) (h1 i h0 hi)]
    have := farT_bd (sy := sy i) (lines := lines) (rest := many - i) (k := 0 + 1) (by omega)
    omega
  have h4 := farT_bd (sy := sy i) (lines := lines) (rest := many - i) (k := 0) (by omega)
  have h5 := bestF_in (fun m => B (i + m) + bt (i + m)) (fun m => G (i + m) + 1) (farT (sy i) lines (many - i) 0).toNat (by omega)
  rw [← h2] at h5
  obtain ⟨a1, a2, a3, a4⟩ := h5
  have a1' : 1 ≤ Z i := a1
  have a2' : Z i ≤ ((farT (sy i) lines (many - i) 0).toNat : Int) := a2
  exact ⟨⟨a1', by omega, by omega⟩, a3, a4⟩
theorem dp_z (h : DPOK sy lines bt many B G Z) (h1 : ∀ i, 0 ≤ i → i < many → sy i 1 ≤ lines) : ∀ i, 0 ≤ i → i < many → 1 ≤ Z i ∧ i + Z i ≤ many := fun i h0 hi => ⟨(dp_row h h1 h0 hi).1.1, (dp_row h h1 h0 hi).1.2.1⟩
theorem dp_bd (h : DPOK sy lines bt many B G Z) (h1 : ∀ i, 0 ≤ i → i < many → sy i 1 ≤ lines) (hbt : ∀ j, 0 ≤ bt j ∧ bt j ≤ 1) : ∀ (f : Nat) (i : Int), 0 ≤ i → i ≤ many → many - i ≤ f → (0 ≤ B i ∧ B i ≤ many - i) ∧ (0 ≤ G i ∧ G i ≤ many - i) ∧ (i < many → 1 ≤ G i)
  | 0, i, a1, a2, a3 => by
    have hm : i = many := by omega
    subst hm
    rw [h.1, h.2.1]
    omega
  | f + 1, i, a1, a2, a3 => by
    by_cases hm : i = many
    · subst hm
      rw [h.1, h.2.1]
      omega
    · obtain ⟨⟨b1, b2, -⟩, b3, b4⟩ := dp_row h h1 a1 (by omega)
      have ih := dp_bd h h1 hbt f (i + Z i) (by omega) b2 (by omega)
      have hb := hbt (i + Z i)
      omega
theorem dp_walk (h : DPOK sy lines bt many B G Z) (h1 : ∀ i, 0 ≤ i → i < many → sy i 1 ≤ lines) (h0 : 0 ≤ many) : ∀ k : Nat, (k : Int) ≤ G 0 → G (walkF Z many k) = G 0 - k
  | 0, _ => by
    show G 0 = G 0 - ((0 : Nat) : Int)
    omega
  | k + 1, hk => by
    have ih := dp_walk h h1 h0 k (by omega)
    have hw := walk_mono (dp_z h h1) h0 k
    have hlt : walkF Z many k < many := by
      rcases (show walkF Z many k < many ∨ walkF Z many k = many by omega) with q | q
      · exact q
      · rw [q, h.2.1] at ih; omega
    have hr := (dp_row h h1 hw.1 hlt).2.2
    unfold walkF
    rw [if_pos hlt]
    omega
theorem dp_lt (h : DPOK sy lines bt many B G Z) (h1 : ∀ i, 0 ≤ i → i < many → sy i 1 ≤ lines) (h0 : 0 ≤ many) {k : Nat} (hk : (k : Int) < G 0) : walkF Z many k < many := by
  have h2 := dp_walk h h1 h0 k (by omega)
  have hw := walk_mono (dp_z h h1) h0 k
  rcases (show walkF Z many k < many ∨ walkF Z many k = many by omega) with q | q
  · exact q
  · rw [q, h.2.1] at h2; omega
theorem dp_end (h : DPOK sy lines bt many B G Z) (h1 : ∀ i, 0 ≤ i → i < many → sy i 1 ≤ lines) (hbt : ∀ j, 0 ≤ bt j ∧ bt j ≤ 1) (h0 : 0 ≤ many) : walkF Z many (G 0).toNat = many := by
  have hb := dp_bd h h1 hbt (many.toNat + 1) 0 (Int.le_refl _) h0 (by omega)
  have h2 := dp_walk h h1 h0 (G 0).toNat (by omega)
  have hw := walk_mono (dp_z h h1) h0 (G 0).toNat
  rcases (show walkF Z many (G 0).toNat < many ∨ walkF Z many (G 0).toNat = many by omega) with q | q
  · have h3 := dp_bd h h1 hbt (many.toNat + 1) (walkF Z many (G 0).toNat) hw.1 hw.2.1 (by omega)
    omega
  · exact q
end DPX
theorem ans1 {σ : ST} : ans σ (-1000001) = fd σ 5 1 := by unfold ans; rw [if_pos (by decide)]; rfl
theorem ans2 {σ : ST} : ans σ (-1000002) = fd σ 5 2 := by unfold ans; rw [if_pos (by decide)]; rfl
theorem ans4 {σ : ST} : ans σ (-1000004) = fd σ 5 4 := by unfold ans; rw [if_pos (by decide)]; rfl
theorem ans5 {σ : ST} : ans σ (-1000005) = fd σ 5 5 := by unfold ans; rw [if_pos (by decide)]; rfl
/-- all that plan(voice) gives -/
theorem PlR.facts {σ τ : ST} {n : Nat} {v : Int} (h : PlR σ τ n v) (hC : CS σ n) (hv : 0 ≤ v ∧ v < n) : FrC σ τ ∧ CS τ n ∧ PIn τ ∧ WIn τ ∧ ((21 ≤ τ 3 8 ∧ τ 3 8 ≤ 60) ∧ (1 ≤ τ 3 9 ∧ τ 3 9 ≤ 8)) ∧ DPOK (syC τ) (τ 3 9) (btC τ) (τ 2 3) (τ 14) (τ 15) (Zc τ) ∧ (∀ i, 0 ≤ i → i < τ 2 3 → syC τ i 1 ≤ τ 3 9) ∧ RowOK (σ 7) (σ 1 3) (τ 9) (τ 2 3) ∧ ∀ p, 0 ≤ p → p < τ 2 3 → 0 ≤ τ 12 p ∧ τ 12 p ≤ 2400 := by
  obtain ⟨ρ, hd, ha, ⟨e7, e8, e9⟩, h11, h12, hdp, -⟩ := h
  have hC2 := hd.fr.cs hC
  have hI2 := hd.pin hC hv
  have hI := ha.pin hI2
  have e2 := ha.at2
  have e23 : τ 2 3 = ρ 2 3 := by rw [e2]
  have hW : WIn τ := by
    intro p p0 p1
    rw [e23] at p1
    rw [h11 p p0 p1]
    exact widC_bd hI2 p0 p1
  have hw := hC.2.2.2.2.2.1
  have hl := hC.2.2.2.2.2.2.1
  refine ⟨hd.fr.tr ha.fr, ha.fr.cs hC2, hI, hW, ⟨by omega, by omega⟩, by rw [e8, e23]; exact hdp, fun i i0 i1 => ?_, by rw [ha.at9, e23]; exact hd.2.2.2.1, fun p p0 p1 => ?_⟩
  · rw [syC_1 hW ⟨i0, i1⟩ (by omega)]; omega
  · rw [e23] at p1
    rw [h12 p p0 p1]
    exact freF_bd (P := ρ 10) (fun j => (hC2.2.2.2.2.2.2.2.2.2.1 _)) p0 (by omega) hI2.1.2
theorem PlR.sys {σ τ : ST} {n : Nat} {v : Int} (h : PlR σ τ n v) : SyR τ τ (-1) := by
  obtain ⟨ρ, -, -, -, -, -, -, hs⟩ := h
  exact hs
theorem fm_all : ∀ k : Fin 200, (0 ≤ ixor ((k.val : Int) - 100) 12 → ((k.val : Int) - 100).tmod 12 = ((k.val : Int) - 100) % 12) ∧ (¬ 0 ≤ ixor ((k.val : Int) - 100) 12 → (((k.val : Int) - 100).tmod 12 = 0 → ((k.val : Int) - 100) % 12 = 0) ∧ (¬ ((k.val : Int) - 100).tmod 12 = 0 → ((k.val : Int) - 100).tmod 12 + 12 = ((k.val : Int) - 100) % 12)) := by decide +kernel
theorem fm_at {x : Int} (h : -100 ≤ x ∧ x < 100) : (0 ≤ ixor x 12 → x.tmod 12 = x % 12) ∧ (¬ 0 ≤ ixor x 12 → (x.tmod 12 = 0 → x % 12 = 0) ∧ (¬ x.tmod 12 = 0 → x.tmod 12 + 12 = x % 12)) := by
  have := fm_all ⟨(x + 100).toNat, by omega⟩
  have e : (((x + 100).toNat : Nat) : Int) - 100 = x := by omega
  simp only [e] at this
  exact this
theorem tm_bd {x : Int} (h : -100 ≤ x ∧ x < 100) : -12 < x.tmod 12 ∧ x.tmod 12 < 12 := ⟨Int.lt_tmod_of_pos x (by decide), Int.tmod_lt_of_pos x (by decide)⟩
