theorem bestF_congr {cb cg cb2 cg2 : Int → Int} (h : ∀ m, 1 ≤ m → cb m = cb2 m ∧ cg m = cg2 m) : ∀ k : Nat, bestF cb cg k = bestF cb2 cg2 k
  | 0 => rfl
  | k + 1 => by
    have h1 := bestF_congr h k
    have h2 := h (k + 1) (by omega)
    unfold bestF
    rw [h1, h2.1, h2.2]
def DPI (sy : Int → Int → Int) (lines : Int) (bt : Int → Int) (many : Int) (B G Z : Int → Int) (i : Int) : Prop :=
  -1 ≤ i ∧ i < many ∧ B many = 0 ∧ G many = 0 ∧ (∀ j, i < j → j < many → (Z j, B j, G j) = bestF (fun m => B (j + m) + bt (j + m)) (fun m => G (j + m) + 1) (farT (sy j) lines (many - j) 0).toNat) ∧ ∀ j, i < j → j ≤ many → 0 ≤ B j ∧ B j ≤ many - j ∧ 0 ≤ G j ∧ G j ≤ many - j
def DPJ (sy : Int → Int → Int) (lines : Int) (bt : Int → Int) (many : Int) (B G Z B2 G2 Z2 : Int → Int) (i m : Int) : Prop :=
  1 ≤ m ∧ i + m ≤ many + 1 ∧ farT (sy i) lines (many - i) 0 = farT (sy i) lines (many - i) (m - 1) ∧ Z2 i = (bestF (fun m => B (i + m) + bt (i + m)) (fun m => G (i + m) + 1) (m - 1).toNat).1 ∧ (1 < m → B2 i = (bestF (fun m => B (i + m) + bt (i + m)) (fun m => G (i + m) + 1) (m - 1).toNat).2.1 ∧ G2 i = (bestF (fun m => B (i + m) + bt (i + m)) (fun m => G (i + m) + 1) (m - 1).toNat).2.2) ∧ ∀ j, j ≠ i → B2 j = B j ∧ G2 j = G j ∧ Z2 j = Z j
section DPS
variable {sy : Int → Int → Int} {lines : Int} {bt : Int → Int} {many : Int} {B G Z B2 G2 Z2 B3 G3 Z3 : Int → Int} {i m ib ip : Int}
theorem DPJ.start (h0 : i < many) (hz : Z2 i = 0) (ho : ∀ j, j ≠ i → Z2 j = Z j) : DPJ sy lines bt many B G Z B G Z2 i 1 :=
  ⟨by omega, by omega, rfl, hz, fun h => absurd h (by omega), fun j hj => ⟨rfl, rfl, ho j hj⟩⟩
theorem DPJ.keep (hJ : DPJ sy lines bt many B G Z B2 G2 Z2 i m) (h1 : i + m ≤ many) (h2 : sy i m ≤ lines) (e1 : ib = B (i + m) + bt (i + m)) (e2 : ip = G (i + m) + 1) (hz : 0 < Z2 i) (hc : B2 i < ib ∨ ib = B2 i ∧ G2 i ≤ ip) : DPJ sy lines bt many B G Z B2 G2 Z2 i (m + 1) := by
  obtain ⟨a1, a2, a3, a4, a5, a6⟩ := hJ
  have hm : 1 < m := by
    rcases (show m = 1 ∨ 1 < m by omega) with h | h
    · subst h; rw [a4] at hz; simp [bestF] at hz
    · exact h
  obtain ⟨b1, b2⟩ := a5 hm
  have key : bestF (fun m => B (i + m) + bt (i + m)) (fun m => G (i + m) + 1) (m + 1 - 1).toNat = bestF (fun m => B (i + m) + bt (i + m)) (fun m => G (i + m) + 1) (m - 1).toNat := by
    rw [show m + 1 - 1 = m by omega, bestF_s _ _ a1, if_pos]
    exact ⟨by omega, by rw [← b1, ← b2]; omega⟩
  refine ⟨by omega, by omega, ?_, by rw [key]; exact a4, fun _ => by rw [key]; exact ⟨b1, b2⟩, a6⟩
  rw [a3, farT_t (by omega) (by rw [show m - 1 + 1 = m by omega]; exact h2), show m - 1 + 1 = m + 1 - 1 by omega]
theorem DPJ.take (hJ : DPJ sy lines bt many B G Z B2 G2 Z2 i m) (h1 : i + m ≤ many) (h2 : sy i m ≤ lines) (e1 : ib = B (i + m) + bt (i + m)) (e2 : ip = G (i + m) + 1) (hc : ¬ (0 < Z2 i ∧ (B2 i < ib ∨ ib = B2 i ∧ G2 i ≤ ip))) (c1 : B3 i = ib) (c2 : G3 i = ip) (c3 : Z3 i = m) (c4 : ∀ j, j ≠ i → B3 j = B2 j ∧ G3 j = G2 j ∧ Z3 j = Z2 j) : DPJ sy lines bt many B G Z B3 G3 Z3 i (m + 1) := by
  obtain ⟨a1, a2, a3, a4, a5, a6⟩ := hJ
  have key : bestF (fun m => B (i + m) + bt (i + m)) (fun m => G (i + m) + 1) (m + 1 - 1).toNat = (m, B (i + m) + bt (i + m), G (i + m) + 1) := by
    rw [show m + 1 - 1 = m by omega, bestF_s _ _ a1, if_neg]
    intro q
    rcases (show m = 1 ∨ 1 < m by omega) with h | h
    · have q1 := q.1
      rw [← a4] at q1
      subst h
      rw [show (1 - 1 : Int).toNat = 0 by decide] at a4
      simp only [bestF] at a4
      omega
    · obtain ⟨b1, b2⟩ := a5 h
      have q1 := q.1
      have q2 := q.2
      rw [← a4] at q1
      rw [← b1, ← b2] at q2
      exact hc ⟨q1, by omega⟩
  refine ⟨by omega, by omega, ?_, by rw [key, c3], fun _ => by rw [key]; exact ⟨by rw [c1, e1], by rw [c2, e2]⟩, fun j hj => ?_⟩
  · rw [a3, farT_t (by omega) (by rw [show m - 1 + 1 = m by omega]; exact h2), show m - 1 + 1 = m + 1 - 1 by omega]
  · obtain ⟨d1, d2, d3⟩ := c4 j hj
    obtain ⟨f1, f2, f3⟩ := a6 j hj
    exact ⟨d1.trans f1, d2.trans f2, d3.trans f3⟩
theorem DPJ.takeS {τ : ST} (hJ : DPJ sy lines bt many B G Z (τ 29) (τ 30) (τ 31) i m) (h1 : i + m ≤ many) (h2 : sy i m ≤ lines) (e1 : ib = B (i + m) + bt (i + m)) (e2 : ip = G (i + m) + 1) (hc : ¬ (0 < τ 31 i ∧ (τ 29 i < ib ∨ ib = τ 29 i ∧ τ 30 i ≤ ip))) : DPJ sy lines bt many B G Z ((up2 (up2 (up2 τ 31 i m) 29 i ib) 30 i ip) 29) ((up2 (up2 (up2 τ 31 i m) 29 i ib) 30 i ip) 30) ((up2 (up2 (up2 τ 31 i m) 29 i ib) 30 i ip) 31) i (m + 1) := by
  have d1 : (29 : Nat) ≠ 30 := by decide
  have d2 : (31 : Nat) ≠ 30 := by decide
  have d3 : (31 : Nat) ≠ 29 := by decide
  have d4 : (29 : Nat) ≠ 31 := by decide
  have d5 : (30 : Nat) ≠ 29 := by decide
  have d6 : (30 : Nat) ≠ 31 := by decide
  refine hJ.take h1 h2 e1 e2 hc ?_ ?_ ?_ (fun j hj9 => ⟨?_, ?_, ?_⟩)
  · rw [up2_ne d1, up2_self]
  · rw [up2_self]
  · rw [up2_ne d2, up2_ne d3, up2_self]
  · rw [up2_ne d1, up2_at hj9, up2_ne d4]
  · rw [up2_at hj9, up2_ne d5, up2_ne d6]
  · rw [up2_ne d2, up2_ne d3, up2_at hj9]
theorem DPJ.done (hI : DPI sy lines bt many B G Z i) (hJ : DPJ sy lines bt many B G Z B2 G2 Z2 i m) (h0 : 0 ≤ i) (hx : ¬ (i + m ≤ many ∧ sy i m ≤ lines)) (h1 : sy i 1 ≤ lines) (hbt : ∀ j, 0 ≤ bt j ∧ bt j ≤ 1) : DPI sy lines bt many B2 G2 Z2 (i - 1) := by
  obtain ⟨a1, a2, a3, a4, a5, a6⟩ := hJ
  obtain ⟨i1, i2, i3, i4, i5, i6⟩ := hI
  have hm : 1 < m := by
    rcases (show m = 1 ∨ 1 < m by omega) with h | h
    · subst h; exact absurd ⟨by omega, h1⟩ hx
    · exact h
  obtain ⟨b1, b2⟩ := a5 hm
  have hfar : farT (sy i) lines (many - i) 0 = m - 1 := by
    rw [a3, farT_f]
    intro q
    rw [show m - 1 + 1 = m by omega] at q
    exact hx ⟨by omega, q.2⟩
  have hin := bestF_in (fun m => B (i + m) + bt (i + m)) (fun m => G (i + m) + 1) (m - 1).toNat (by omega)
  have hcong : ∀ j, i ≤ j → ∀ k : Nat, bestF (fun m => B (j + m) + bt (j + m)) (fun m => G (j + m) + 1) k = bestF (fun m => B2 (j + m) + bt (j + m)) (fun m => G2 (j + m) + 1) k := by
    intro j hj k
    refine bestF_congr (fun q hq => ?_) k
    obtain ⟨f1, f2, -⟩ := a6 (j + q) (by omega)
    exact ⟨by show B (j + q) + _ = B2 (j + q) + _; rw [f1], by show G (j + q) + 1 = G2 (j + q) + 1; rw [f2]⟩
  refine ⟨by omega, by omega, ?_, ?_, fun j h2 h3 => ?_, fun j h2 h3 => ?_⟩
  · rw [(a6 many (by omega)).1]; exact i3
  · rw [(a6 many (by omega)).2.1]; exact i4
  · by_cases hj : j = i
    · subst hj
      rw [← hcong j (Int.le_refl _), hfar, a4, b1, b2]
    · obtain ⟨f1, f2, f3⟩ := a6 j hj
      rw [f1, f2, f3, ← hcong j (by omega)]
      exact i5 j (by omega) h3
  · by_cases hj : j = i
    · subst hj
      rw [b1, b2, hin.2.2.1, hin.2.2.2]
      have h4 := i6 (j + (bestF (fun m => B (j + m) + bt (j + m)) (fun m => G (j + m) + 1) (m - 1).toNat).1) (by omega) (by omega)
      have h5 := hbt (j + (bestF (fun m => B (j + m) + bt (j + m)) (fun m => G (j + m) + 1) (m - 1).toNat).1)
      omega
    · obtain ⟨f1, f2, -⟩ := a6 j hj
      rw [f1, f2]
      exact i6 j (by omega) h3
theorem DPI.ok (h : DPI sy lines bt many B G Z (-1)) : DPOK sy lines bt many B G Z := ⟨h.2.2.1, h.2.2.2.1, fun i h1 h2 => h.2.2.2.2.1 i (by omega) h2⟩
theorem DPOK.step (h : DPOK sy lines bt many B G Z) (h1 : ∀ i, sy i 1 ≤ lines) {i : Int} (h0 : 0 ≤ i) (hi : i < many) : 1 ≤ Z i ∧ i + Z i ≤ many := by
  have h2 := h.2.2 i h0 hi
  have h3 : 1 ≤ farT (sy i) lines (many - i) 0 := by
    rw [farT_t (by omega) (h1 i)]
    have := farT_bd (sy := sy i) (lines := lines) (rest := many - i) (k := 0 + 1) (by omega)
    omega
  have h4 := farT_bd (sy := sy i) (lines := lines) (rest := many - i) (k := 0) (by omega)
  have h5 := bestF_in (fun m => B (i + m) + bt (i + m)) (fun m => G (i + m) + 1) (farT (sy i) lines (many - i) 0).toNat (by omega)
  rw [← h2] at h5
  simp only at h5
  omega
end DPS
def AgM (ρ τ : ST) : Prop := ∀ c, c ≠ 29 → c ≠ 30 → c ≠ 31 → τ c = ρ c
theorem AgM.up {ρ τ : ST} (h : AgM ρ τ) {c : Nat} (hc : c = 29 ∨ c = 30 ∨ c = 31) (k z : Int) : AgM ρ (up2 τ c k z) := fun d h1 h2 h3 => by rw [up2_ne (by omega)]; exact h d h1 h2 h3
theorem AgM.fr {ρ τ : ST} (h : AgM ρ τ) : FrM ρ τ := ⟨fun c _ _ h1 h2 h3 _ => h c h1 h2 h3, fun k _ => by rw [h 18 (by decide) (by decide) (by decide)]⟩
theorem AgM.ri {ρ τ : ST} (h : AgM ρ τ) (hI : RowIn ρ) : RowIn τ := by
  unfold RowIn
  rw [h 18 (by decide) (by decide) (by decide), h 28 (by decide) (by decide) (by decide)]
  exact hI
theorem agPm {ρ τ : ST} (h : AgM ρ τ) : Pm τ = Pm ρ := by
  funext v i
  show τ 24 (40 * v + τ 28 i) = ρ 24 (40 * v + ρ 28 i)
  rw [h 24 (by decide) (by decide) (by decide), h 28 (by decide) (by decide) (by decide)]
theorem agMm {ρ τ : ST} (h : AgM ρ τ) : Mm τ = Mm ρ := by
  funext i
  show τ 20 (τ 28 i) = ρ 20 (ρ 28 i)
  rw [h 20 (by decide) (by decide) (by decide), h 28 (by decide) (by decide) (by decide)]
theorem agSm {ρ τ : ST} (h : AgM ρ τ) : Sm τ = Sm ρ := by
  funext i
  show τ 19 (τ 28 i) = ρ 19 (ρ 28 i)
  rw [h 19 (by decide) (by decide) (by decide), h 28 (by decide) (by decide) (by decide)]
theorem agLm {ρ τ : ST} (h : AgM ρ τ) : Lm τ = Lm ρ := by
  funext o i
  show τ 25 (40 * o + τ 28 i) = ρ 25 (40 * o + ρ 28 i)
  rw [h 25 (by decide) (by decide) (by decide), h 28 (by decide) (by decide) (by decide)]
theorem ag18 {ρ τ : ST} (h : AgM ρ τ) : τ 18 = ρ 18 := h 18 (by decide) (by decide) (by decide)
theorem agcue {ρ τ : ST} (h : AgM ρ τ) : cueM τ = cueM ρ := by
  funext v i
  unfold cueM
  rw [agPm h, agLm h, h 23 (by decide) (by decide) (by decide), ag18 h]
theorem agwM {ρ τ : ST} (h : AgM ρ τ) : wM τ = wM ρ := by
  funext v i
  unfold wM
  rw [agPm h, agMm h, agcue h]
theorem agwfM {ρ τ : ST} (h : AgM ρ τ) : wfM τ = wfM ρ := by
  funext v i
  unfold wfM
  rw [agPm h, agMm h, agcue h]
theorem agsyM {ρ τ : ST} (h : AgM ρ τ) : syM τ = syM ρ := by
  funext v i m
  unfold syM
  rw [agwM h, agwfM h, ag18 h]
theorem agfrM {ρ τ : ST} (h : AgM ρ τ) : frM τ = frM ρ := by
  funext v i
  unfold frM
  rw [agPm h, agSm h, ag18 h]
theorem agndM {ρ τ : ST} (h : AgM ρ τ) : ndM τ = ndM ρ := by
  funext v
  unfold ndM
  rw [ag18 h, h 21 (by decide) (by decide) (by decide)]
theorem agbtM {ρ τ : ST} (h : AgM ρ τ) : btM τ = btM ρ := by
  funext v i
  unfold btM
  rw [agfrM h, agndM h, ag18 h]
theorem syM_1 {σ : ST} (hM : MS σ) (v i : Int) : syM σ v i 1 ≤ σ 18 6 := by
  have h1 := hM.2.2.2.2.2.1
  have h2 := hM.2.2.2.2.2.2.1
  have h3 := wfM_bd (v := v) hM i
  unfold syM
  rw [show (1 : Int).toNat = 0 + 1 by decide]
  unfold sysF
  simp only [sysF]
  rw [if_neg (by simp only [if_true]; rw [show i + ((0 : Nat) : Int) = i by omega]; omega)]
  simp only
  omega
theorem btM_bd (σ : ST) (v : Int) (j : Int) : 0 ≤ btM σ v j ∧ btM σ v j ≤ 1 := by
  unfold btM
  split <;> omega
set_option maxHeartbeats 4000000 in
set_option maxRecDepth 100000 in
theorem m_X6_findPages {a : Nat → Nat} {n : Nat} {σ : ST} {v : Int} (hM : MS σ) (hv : 0 ≤ v ∧ v < 6) : MV yX6_findPages cX6_findPages 6 (RM 4 99) a n σ [.ref (a 18), iv v] (fun σ1 => FrM σ σ1 ∧ RowOK (σ 20) (σ 18 0) (σ1 28) (σ1 18 18) ∧ DPOK (syM σ1 v) (σ1 18 6) (btM σ1 v) (σ1 18 18) (σ1 29) (σ1 30) (σ1 31)) := by
  refine MV.of (own := RX6) (by decide +kernel) rfl (Nat.le_of_ble_eq_true rfl) ?_
  intro κ C hret
  show J κ 0 0 a n σ [(0, .ref (a 18)), (1, iv v)] 0 []
  obtain ⟨hb, hvn, hwt, hky, hdu, hwd, hli, hne, hse, hmk, hkd, hsh, hos, hpl, hld, hF, hlp, hpo⟩ := id hM
  refine r_aload_n C dX6_findPages_0 0 rfl ?_
  refine r_callV0 18 C dX6_findPages_1 lkX6_116 (m_X6_findRow (by omega)) ⟨rfl, rfl, Nat.le_of_ble_eq_true rfl, Nat.le_of_ble_eq_true rfl⟩ ⟨Nat.zero_le _, Nat.zero_le _⟩ rc18 (Nat.le_of_ble_eq_true rfl) (fun ρ hr1 => ?_)
  obtain ⟨hfr, hro⟩ := hr1
  have hM2 := hfr.ms hM
  have hI := RowIn.of hro hb.1 hb.2
  have hrm := hI.2.1
  have hrm0 := hI.1
  have hli2 := hM2.2.2.2.2.2.2.1
  refine r_aload_n C dX6_findPages_4 0 rfl ?_
  refine gX6_53 C dX6_findPages_5 ?_
  refine r_aload_n C dX6_findPages_8 0 rfl ?_
  refine gX6_106 C dX6_findPages_9 (fun g3 => ?_)
  refine r_iconst C dX6_findPages_12 ?_
  refine r_iast 41 C dX6_findPages_13 (by omega) (fun _ _ => rfl) (by omega) (by omega) (by decide) (by omega) ?_
  refine r_aload_n C dX6_findPages_14 0 rfl ?_
  refine gX6_56 C dX6_findPages_15 ?_
  refine r_aload_n C dX6_findPages_18 0 rfl ?_
  refine gX6_106 C dX6_findPages_19 (fun g5 => ?_)
  rw [up2_ne (show (18 : Nat) ≠ 29 from by decide)] at g5 ⊢
  refine r_iconst C dX6_findPages_22 ?_
  refine r_iast 41 C dX6_findPages_23 (by omega) (fun _ _ => rfl) (by omega) (by omega) (by decide) (by omega) ?_
  refine r_aload_n C dX6_findPages_24 0 rfl ?_
  refine gX6_106 C dX6_findPages_25 (fun g6 => ?_)
  rw [up2_ne (show (18 : Nat) ≠ 30 from by decide)] at g6 ⊢
  rw [up2_ne (show (18 : Nat) ≠ 29 from by decide)] at g6 ⊢
  refine r_iconst C dX6_findPages_28 ?_
  refine r_isub C dX6_findPages_29 ?_
  refine r_istore_n C dX6_findPages_30 (by decide) (fun z_ => [(2, iv z_), (0, .ref (a 18)), (1, iv v)]) (fun _ => rfl) (fun i0 ei0 => ?_)
  have lp31 : ∀ (N : Nat) (i : Int) (τ : ST), (i + 1 : Int) < N → (AgM ρ τ ∧ DPI (syM ρ v) (ρ 18 6) (btM ρ v) (ρ 18 18) (τ 29) (τ 30) (τ 31) i) → J κ 0 0 a n τ [(0, .ref (a 18)), (1, iv v), (2, iv i)] 31 [] := by
    intro N
    induction N with
    | zero =>
      intro i τ hm31 hi31
      exact absurd hm31 (by have := hi31.2.1; omega)
    | succ N ih31 =>
      intro i τ hm31 hi31
      have hag := hi31.1
      have e18 := ag18 hag
      have em : τ 18 18 = ρ 18 18 := by rw [e18]
      have hi1 := hi31.2.1
      have hi2 := hi31.2.2.1
      refine r_iload_n C dX6_findPages_31 2 rfl ?_
      refine r_if_lt (tgt := 199) C dX6_findPages_32 (by decide) (by omega) (fun h7 => ?_) (fun h7 => ?_)
      · skip
        exact hret _ _ _ dX6_findPages_199 (by have hie : i = -1 := (by omega); subst hie; exact ⟨hfr.tr hag.fr, by rw [hag 28 (by decide) (by decide) (by decide), e18]; exact hro, by rw [agsyM hag, agbtM hag, e18]; exact DPI.ok hi31.2⟩)
      · skip
        refine r_aload_n C dX6_findPages_35 0 rfl ?_
        refine gX6_59 C dX6_findPages_36 ?_
        refine r_iload_n C dX6_findPages_39 2 rfl ?_
        refine r_iconst C dX6_findPages_40 ?_
        refine r_iast 41 C dX6_findPages_41 (by omega) (fun _ _ => rfl) (by omega) (by omega) (by decide) (by omega) ?_
        refine r_iconst C dX6_findPages_42 ?_
        refine r_istore_n C dX6_findPages_43 (by decide) (fun z_ => [(3, iv z_), (0, .ref (a 18)), (1, iv v), (2, iv i)]) (fun _ => rfl) (fun m0 em0 => ?_)
        have lp44 : ∀ (N : Nat) (m : Int) (τ2 : ST), (ρ 18 18 + 1 - i - m : Int) < N → (AgM ρ τ2 ∧ DPJ (syM ρ v) (ρ 18 6) (btM ρ v) (ρ 18 18) (τ 29) (τ 30) (τ 31) (τ2 29) (τ2 30) (τ2 31) i m) → J κ 0 0 a n τ2 [(0, .ref (a 18)), (1, iv v), (2, iv i), (3, iv m)] 44 [] := by
          intro N
          induction N with
          | zero =>
            intro m τ2 hm44 hi44
            exact absurd hm44 (by have := hi44.2.2.1; omega)
          | succ N ih44 =>
            intro m τ2 hm44 hi44
            have hag2 := hi44.1
            have hj := hi44.2
            have e18b := ag18 hag2
            have em2 : τ2 18 18 = ρ 18 18 := by rw [e18b]
            have el2 : τ2 18 6 = ρ 18 6 := by rw [e18b]
            have hm1 := hj.1
            have hm2 := hj.2.1
            have hMt := hag2.fr.ms hM2
            have hIt := hag2.ri hI
            refine r_iload_n C dX6_findPages_44 2 rfl ?_
            refine r_iload_n C dX6_findPages_45 3 rfl ?_
            refine r_iadd C dX6_findPages_46 ?_
            refine r_aload_n C dX6_findPages_47 0 rfl ?_
            refine gX6_106 C dX6_findPages_48 (fun g9 => ?_)
            refine r_icmp_gt (tgt := 193) C dX6_findPages_51 (by decide) (by omega) (by omega) (fun hgt => ?_) (fun hgt => ?_)
            · skip
              refine r_iinc C dX6_findPages_193 (by decide) 2 rfl (fun z_ => [(2, iv z_), (0, .ref (a 18)), (1, iv v), (3, iv m)]) (fun _ => rfl) (fun i2 ei2 => ?_)
              refine r_goto (tgt := 31) C dX6_findPages_196 (by decide) ?_
              refine r_sub [1, 2, 0] (L' := [(0, .ref (a 18)), (1, iv v), (2, iv i2)]) rfl ?_
              exact ih31 _ _ (by omega) (by rw [ei2, show i + -1 = i - 1 by omega]; exact ⟨hag2, DPJ.done hi31.2 hj (by omega) (by omega) (by have := syM_1 hM2 v i; exact this) (btM_bd ρ v)⟩)
            · skip
              refine r_aload_n C dX6_findPages_54 0 rfl ?_
              refine r_iload_n C dX6_findPages_55 1 rfl ?_
              refine r_iload_n C dX6_findPages_56 2 rfl ?_
              refine r_iload_n C dX6_findPages_57 2 rfl ?_
              refine r_iload_n C dX6_findPages_58 3 rfl ?_
              refine r_iadd C dX6_findPages_59 ?_
              refine r_callP3 18 C dX6_findPages_60 lkX6_136 (m_X6_systemsOf hMt hIt (by omega) (by omega)) ⟨rfl, rfl, Nat.le_of_ble_eq_true rfl, Nat.le_of_ble_eq_true rfl⟩ ⟨Nat.zero_le _, Nat.zero_le _⟩ rc18 (Nat.le_of_ble_eq_true rfl) (fun sy hsy => ?_)
              rw [agsyM hag2, show i + m - i = m by omega] at hsy
              have hsb := sysF_bd (wM ρ v) (wfM ρ v) (ρ 18 5) i (wM_bd hM2) (wfM_bd hM2) m.toNat
              have hsy2 : sy = (sysF (wM ρ v) (wfM ρ v) (ρ 18 5) i m.toNat).1 := hsy
              refine r_aload_n C dX6_findPages_63 0 rfl ?_
              refine gX6_16 C dX6_findPages_64 (fun g11 => ?_)
              refine r_icmp_gt (tgt := 193) C dX6_findPages_67 (by decide) (by omega) (by omega) (fun hln => ?_) (fun hln => ?_)
              · skip
                refine r_iinc C dX6_findPages_193 (by decide) 2 rfl (fun z_ => [(2, iv z_), (0, .ref (a 18)), (1, iv v), (3, iv m)]) (fun _ => rfl) (fun i2 ei2 => ?_)
                refine r_goto (tgt := 31) C dX6_findPages_196 (by decide) ?_
                refine r_sub [1, 2, 0] (L' := [(0, .ref (a 18)), (1, iv v), (2, iv i2)]) rfl ?_
                exact ih31 _ _ (by omega) (by rw [ei2, show i + -1 = i - 1 by omega]; exact ⟨hag2, DPJ.done hi31.2 hj (by omega) (by omega) (by have := syM_1 hM2 v i; exact this) (btM_bd ρ v)⟩)
              · skip
                have hbb := hi31.2.2.2.2.2.2 (i + m) (by omega) (by omega)
                have hne := hj.2.2.2.2.2 (i + m) (by omega)
                refine r_aload_n C dX6_findPages_70 0 rfl ?_
                refine gX6_53 C dX6_findPages_71 ?_
                refine r_iload_n C dX6_findPages_74 2 rfl ?_
                refine r_iload_n C dX6_findPages_75 3 rfl ?_
                refine r_iadd C dX6_findPages_76 ?_
                refine r_iald 41 C dX6_findPages_77 (by omega) (fun _ => rfl) (by omega) (by omega) (by decide) (fun g14 => ?_)
                refine r_iload_n C dX6_findPages_78 2 rfl ?_
                refine r_iload_n C dX6_findPages_79 3 rfl ?_
                refine r_iadd C dX6_findPages_80 ?_
                refine r_aload_n C dX6_findPages_81 0 rfl ?_
                refine gX6_106 C dX6_findPages_82 (fun g15 => ?_)
                refine r_icmp_ge (tgt := 103) C dX6_findPages_85 (by decide) (by omega) (by omega) (fun hmany => ?_) (fun hmany => ?_)
                · skip
                  refine r_iconst C dX6_findPages_103 ?_
                  refine r_iadd C dX6_findPages_104 ?_
                  refine r_istore C dX6_findPages_105 (by decide) (fun z_ => [(4, iv z_), (0, .ref (a 18)), (1, iv v), (2, iv i), (3, iv m)]) (fun _ => rfl) (fun ib eib => ?_)
                  refine r_aload_n C dX6_findPages_107 1 rfl ?_
                  refine gX6_56 C dX6_findPages_108 ?_
                  refine r_iload_n C dX6_findPages_111 3 rfl ?_
                  refine r_iload_n C dX6_findPages_112 4 rfl ?_
                  refine r_iadd C dX6_findPages_113 ?_
                  refine r_iald 41 C dX6_findPages_114 (by omega) (fun _ => rfl) (by omega) (by omega) (by decide) (fun g18 => ?_)
                  refine r_iconst C dX6_findPages_115 ?_
                  refine r_iadd C dX6_findPages_116 ?_
                  refine r_istore C dX6_findPages_117 (by decide) (fun z_ => [(5, iv z_), (4, iv ib), (0, .ref (a 18)), (1, iv v), (2, iv i), (3, iv m)]) (fun _ => rfl) (fun ip eip => ?_)
                  have hcb : ib = τ 29 (i + m) + btM ρ v (i + m) := by
                    unfold btM
                    try rw [agfrM hag2, agndM hag2] at hbd
                    first
                      | (rw [if_neg (by omega)]; omega)
                      | (rw [if_pos ⟨by omega, hbd⟩]; omega)
                      | (rw [if_neg (fun q => hbd q.2)]; omega)
                  have hcg : ip = τ 30 (i + m) + 1 := by omega
                  refine r_aload_n C dX6_findPages_119 2 rfl ?_
                  refine gX6_59 C dX6_findPages_120 ?_
                  refine r_iload_n C dX6_findPages_123 4 rfl ?_
                  refine r_iald 41 C dX6_findPages_124 (by omega) (fun _ => rfl) (by omega) (by omega) (by decide) (fun g20 => ?_)
                  refine r_if_le (tgt := 164) C dX6_findPages_125 (by decide) (by omega) (fun hz => ?_) (fun hz => ?_)
                  · skip
                    refine r_aload_n C dX6_findPages_164 2 rfl ?_
                    refine gX6_59 C dX6_findPages_165 ?_
                    refine r_iload_n C dX6_findPages_168 4 rfl ?_
                    refine r_iload_n C dX6_findPages_169 5 rfl ?_
                    refine r_iast 41 C dX6_findPages_170 (by omega) (fun _ _ => rfl) (by omega) (by omega) (by decide) (by omega) ?_
                    refine r_aload_n C dX6_findPages_171 2 rfl ?_
                    refine gX6_53 C dX6_findPages_172 ?_
                    refine r_iload_n C dX6_findPages_175 4 rfl ?_
                    refine r_iload C dX6_findPages_176 1 rfl ?_
                    refine r_iast 41 C dX6_findPages_178 (by omega) (fun _ _ => rfl) (by omega) (by omega) (by decide) (by omega) ?_
                    refine r_aload_n C dX6_findPages_179 2 rfl ?_
                    refine gX6_56 C dX6_findPages_180 ?_
                    refine r_iload_n C dX6_findPages_183 4 rfl ?_
                    refine r_iload C dX6_findPages_184 0 rfl ?_
                    refine r_iast 41 C dX6_findPages_186 (by omega) (fun _ _ => rfl) (by omega) (by omega) (by decide) (by omega) ?_
                    refine r_iinc C dX6_findPages_187 (by decide) 5 rfl (fun z_ => [(3, iv z_), (5, iv ip), (4, iv ib), (0, .ref (a 18)), (1, iv v), (2, iv i)]) (fun _ => rfl) (fun m3 em3 => ?_)
                    refine r_goto (tgt := 44) C dX6_findPages_190 (by decide) ?_
                    refine r_sub [3, 4, 5, 0] (L' := [(0, .ref (a 18)), (1, iv v), (2, iv i), (3, iv m3)]) rfl ?_
                    exact ih44 _ _ (by omega) (by subst em3; first | exact ⟨hag2, hj.keep (by omega) (by omega) hcb hcg (by omega) (by omega)⟩ | exact ⟨((hag2.up (Or.inr (Or.inr rfl)) _ _).up (Or.inl rfl) _ _).up (Or.inr (Or.inl rfl)) _ _, hj.takeS (by omega) (by omega) hcb hcg (by omega)⟩)
                  · skip
                    refine r_iload C dX6_findPages_128 1 rfl ?_
                    refine r_aload_n C dX6_findPages_130 2 rfl ?_
                    refine gX6_53 C dX6_findPages_131 ?_
                    refine r_iload_n C dX6_findPages_134 4 rfl ?_
                    refine r_iald 41 C dX6_findPages_135 (by omega) (fun _ => rfl) (by omega) (by omega) (by decide) (fun g26 => ?_)
                    refine r_icmp_gt (tgt := 187) C dX6_findPages_136 (by decide) (by omega) (by omega) (fun hb1 => ?_) (fun hb1 => ?_)
                    · skip
                      refine r_iinc C dX6_findPages_187 (by decide) 5 rfl (fun z_ => [(3, iv z_), (5, iv ip), (4, iv ib), (0, .ref (a 18)), (1, iv v), (2, iv i)]) (fun _ => rfl) (fun m3 em3 => ?_)
                      refine r_goto (tgt := 44) C dX6_findPages_190 (by decide) ?_
                      refine r_sub [3, 4, 5, 0] (L' := [(0, .ref (a 18)), (1, iv v), (2, iv i), (3, iv m3)]) rfl ?_
                      exact ih44 _ _ (by omega) (by subst em3; first | exact ⟨hag2, hj.keep (by omega) (by omega) hcb hcg (by omega) (by omega)⟩ | exact ⟨((hag2.up (Or.inr (Or.inr rfl)) _ _).up (Or.inl rfl) _ _).up (Or.inr (Or.inl rfl)) _ _, hj.takeS (by omega) (by omega) hcb hcg (by omega)⟩)
                    · skip
                      refine r_iload C dX6_findPages_139 1 rfl ?_
                      refine r_aload_n C dX6_findPages_141 2 rfl ?_
                      refine gX6_53 C dX6_findPages_142 ?_
                      refine r_iload_n C dX6_findPages_145 4 rfl ?_
                      refine r_iald 41 C dX6_findPages_146 (by omega) (fun _ => rfl) (by omega) (by omega) (by decide) (fun g29 => ?_)
                      refine r_icmp_ne (tgt := 164) C dX6_findPages_147 (by decide) (by omega) (by omega) (fun hb2 => ?_) (fun hb2 => ?_)
                      · skip
                        refine r_aload_n C dX6_findPages_164 2 rfl ?_
                        refine gX6_59 C dX6_findPages_165 ?_
                        refine r_iload_n C dX6_findPages_168 4 rfl ?_
                        refine r_iload_n C dX6_findPages_169 5 rfl ?_
                        refine r_iast 41 C dX6_findPages_170 (by omega) (fun _ _ => rfl) (by omega) (by omega) (by decide) (by omega) ?_
                        refine r_aload_n C dX6_findPages_171 2 rfl ?_
                        refine gX6_53 C dX6_findPages_172 ?_
                        refine r_iload_n C dX6_findPages_175 4 rfl ?_
                        refine r_iload C dX6_findPages_176 1 rfl ?_
                        refine r_iast 41 C dX6_findPages_178 (by omega) (fun _ _ => rfl) (by omega) (by omega) (by decide) (by omega) ?_
                        refine r_aload_n C dX6_findPages_179 2 rfl ?_
                        refine gX6_56 C dX6_findPages_180 ?_
                        refine r_iload_n C dX6_findPages_183 4 rfl ?_
                        refine r_iload C dX6_findPages_184 0 rfl ?_
                        refine r_iast 41 C dX6_findPages_186 (by omega) (fun _ _ => rfl) (by omega) (by omega) (by decide) (by omega) ?_
                        refine r_iinc C dX6_findPages_187 (by decide) 5 rfl (fun z_ => [(3, iv z_), (5, iv ip), (4, iv ib), (0, .ref (a 18)), (1, iv v), (2, iv i)]) (fun _ => rfl) (fun m3 em3 => ?_)
                        refine r_goto (tgt := 44) C dX6_findPages_190 (by decide) ?_
                        refine r_sub [3, 4, 5, 0] (L' := [(0, .ref (a 18)), (1, iv v), (2, iv i), (3, iv m3)]) rfl ?_
                        exact ih44 _ _ (by omega) (by subst em3; first | exact ⟨hag2, hj.keep (by omega) (by omega) hcb hcg (by omega) (by omega)⟩ | exact ⟨((hag2.up (Or.inr (Or.inr rfl)) _ _).up (Or.inl rfl) _ _).up (Or.inr (Or.inl rfl)) _ _, hj.takeS (by omega) (by omega) hcb hcg (by omega)⟩)
                      · skip
                        refine r_iload C dX6_findPages_150 0 rfl ?_
                        refine r_aload_n C dX6_findPages_152 2 rfl ?_
                        refine gX6_56 C dX6_findPages_153 ?_
                        refine r_iload_n C dX6_findPages_156 4 rfl ?_
                        refine r_iald 41 C dX6_findPages_157 (by omega) (fun _ => rfl) (by omega) (by omega) (by decide) (fun g35 => ?_)
                        refine r_icmp_lt (tgt := 164) C dX6_findPages_158 (by decide) (by omega) (by omega) (fun hb3 => ?_) (fun hb3 => ?_)
                        · skip
                          refine r_aload_n C dX6_findPages_164 2 rfl ?_
                          refine gX6_59 C dX6_findPages_165 ?_
                          refine r_iload_n C dX6_findPages_168 4 rfl ?_
                          refine r_iload_n C dX6_findPages_169 5 rfl ?_
                          refine r_iast 41 C dX6_findPages_170 (by omega) (fun _ _ => rfl) (by omega) (by omega) (by decide) (by omega) ?_
                          refine r_aload_n C dX6_findPages_171 2 rfl ?_
                          refine gX6_53 C dX6_findPages_172 ?_
                          refine r_iload_n C dX6_findPages_175 4 rfl ?_
                          refine r_iload C dX6_findPages_176 1 rfl ?_
                          refine r_iast 41 C dX6_findPages_178 (by omega) (fun _ _ => rfl) (by omega) (by omega) (by decide) (by omega) ?_
                          refine r_aload_n C dX6_findPages_179 2 rfl ?_
                          refine gX6_56 C dX6_findPages_180 ?_
                          refine r_iload_n C dX6_findPages_183 4 rfl ?_
                          refine r_iload C dX6_findPages_184 0 rfl ?_
                          refine r_iast 41 C dX6_findPages_186 (by omega) (fun _ _ => rfl) (by omega) (by omega) (by decide) (by omega) ?_
                          refine r_iinc C dX6_findPages_187 (by decide) 5 rfl (fun z_ => [(3, iv z_), (5, iv ip), (4, iv ib), (0, .ref (a 18)), (1, iv v), (2, iv i)]) (fun _ => rfl) (fun m3 em3 => ?_)
                          refine r_goto (tgt := 44) C dX6_findPages_190 (by decide) ?_
                          refine r_sub [3, 4, 5, 0] (L' := [(0, .ref (a 18)), (1, iv v), (2, iv i), (3, iv m3)]) rfl ?_
                          exact ih44 _ _ (by omega) (by subst em3; first | exact ⟨hag2, hj.keep (by omega) (by omega) hcb hcg (by omega) (by omega)⟩ | exact ⟨((hag2.up (Or.inr (Or.inr rfl)) _ _).up (Or.inl rfl) _ _).up (Or.inr (Or.inl rfl)) _ _, hj.takeS (by omega) (by omega) hcb hcg (by omega)⟩)
                        · skip
                          refine r_goto (tgt := 187) C dX6_findPages_161 (by decide) ?_
                          refine r_iinc C dX6_findPages_187 (by decide) 5 rfl (fun z_ => [(3, iv z_), (5, iv ip), (4, iv ib), (0, .ref (a 18)), (1, iv v), (2, iv i)]) (fun _ => rfl) (fun m3 em3 => ?_)
                          refine r_goto (tgt := 44) C dX6_findPages_190 (by decide) ?_
                          refine r_sub [3, 4, 5, 0] (L' := [(0, .ref (a 18)), (1, iv v), (2, iv i), (3, iv m3)]) rfl ?_
                          exact ih44 _ _ (by omega) (by subst em3; first | exact ⟨hag2, hj.keep (by omega) (by omega) hcb hcg (by omega) (by omega)⟩ | exact ⟨((hag2.up (Or.inr (Or.inr rfl)) _ _).up (Or.inl rfl) _ _).up (Or.inr (Or.inl rfl)) _ _, hj.takeS (by omega) (by omega) hcb hcg (by omega)⟩)
                · skip
                  refine r_aload_n C dX6_findPages_88 0 rfl ?_
                  refine r_iload_n C dX6_findPages_89 1 rfl ?_
                  refine r_iload_n C dX6_findPages_90 2 rfl ?_
                  refine r_iload_n C dX6_findPages_91 3 rfl ?_
                  refine r_iadd C dX6_findPages_92 ?_
                  refine r_callB2 18 C dX6_findPages_93 lkX6_140 (m_X6_isBad hMt hIt (by omega) (by omega)) ⟨rfl, rfl, Nat.le_of_ble_eq_true rfl, Nat.le_of_ble_eq_true rfl⟩ ⟨Nat.zero_le _, Nat.zero_le _⟩ rc18 (Nat.le_of_ble_eq_true rfl) (fun hbd => ?_) (fun hbd => ?_)
                  · skip
                    refine r_if_eq (tgt := 103) C dX6_findPages_96 (by decide) (by decide) (fun q => absurd q (by decide)) (fun _ => ?_)
                    refine r_iconst C dX6_findPages_99 ?_
                    refine r_goto (tgt := 104) C dX6_findPages_100 (by decide) ?_
                    refine r_iadd C dX6_findPages_104 ?_
                    refine r_istore C dX6_findPages_105 (by decide) (fun z_ => [(4, iv z_), (0, .ref (a 18)), (1, iv v), (2, iv i), (3, iv m)]) (fun _ => rfl) (fun ib eib => ?_)
                    refine r_aload_n C dX6_findPages_107 1 rfl ?_
                    refine gX6_56 C dX6_findPages_108 ?_
                    refine r_iload_n C dX6_findPages_111 3 rfl ?_
                    refine r_iload_n C dX6_findPages_112 4 rfl ?_
                    refine r_iadd C dX6_findPages_113 ?_
                    refine r_iald 41 C dX6_findPages_114 (by omega) (fun _ => rfl) (by omega) (by omega) (by decide) (fun g42 => ?_)
                    refine r_iconst C dX6_findPages_115 ?_
                    refine r_iadd C dX6_findPages_116 ?_
                    refine r_istore C dX6_findPages_117 (by decide) (fun z_ => [(5, iv z_), (4, iv ib), (0, .ref (a 18)), (1, iv v), (2, iv i), (3, iv m)]) (fun _ => rfl) (fun ip eip => ?_)
                    have hcb : ib = τ 29 (i + m) + btM ρ v (i + m) := by
                      unfold btM
                      try rw [agfrM hag2, agndM hag2] at hbd
                      first
                        | (rw [if_neg (by omega)]; omega)
                        | (rw [if_pos ⟨by omega, hbd⟩]; omega)
                        | (rw [if_neg (fun q => hbd q.2)]; omega)
                    have hcg : ip = τ 30 (i + m) + 1 := by omega
                    refine r_aload_n C dX6_findPages_119 2 rfl ?_
                    refine gX6_59 C dX6_findPages_120 ?_
                    refine r_iload_n C dX6_findPages_123 4 rfl ?_
                    refine r_iald 41 C dX6_findPages_124 (by omega) (fun _ => rfl) (by omega) (by omega) (by decide) (fun g44 => ?_)
                    refine r_if_le (tgt := 164) C dX6_findPages_125 (by decide) (by omega) (fun hz => ?_) (fun hz => ?_)
                    · skip
                      refine r_aload_n C dX6_findPages_164 2 rfl ?_
                      refine gX6_59 C dX6_findPages_165 ?_
                      refine r_iload_n C dX6_findPages_168 4 rfl ?_
                      refine r_iload_n C dX6_findPages_169 5 rfl ?_
                      refine r_iast 41 C dX6_findPages_170 (by omega) (fun _ _ => rfl) (by omega) (by omega) (by decide) (by omega) ?_
                      refine r_aload_n C dX6_findPages_171 2 rfl ?_
                      refine gX6_53 C dX6_findPages_172 ?_
                      refine r_iload_n C dX6_findPages_175 4 rfl ?_
                      refine r_iload C dX6_findPages_176 1 rfl ?_
                      refine r_iast 41 C dX6_findPages_178 (by omega) (fun _ _ => rfl) (by omega) (by omega) (by decide) (by omega) ?_
                      refine r_aload_n C dX6_findPages_179 2 rfl ?_
                      refine gX6_56 C dX6_findPages_180 ?_
                      refine r_iload_n C dX6_findPages_183 4 rfl ?_
                      refine r_iload C dX6_findPages_184 0 rfl ?_
                      refine r_iast 41 C dX6_findPages_186 (by omega) (fun _ _ => rfl) (by omega) (by omega) (by decide) (by omega) ?_
                      refine r_iinc C dX6_findPages_187 (by decide) 5 rfl (fun z_ => [(3, iv z_), (5, iv ip), (4, iv ib), (0, .ref (a 18)), (1, iv v), (2, iv i)]) (fun _ => rfl) (fun m3 em3 => ?_)
                      refine r_goto (tgt := 44) C dX6_findPages_190 (by decide) ?_
                      refine r_sub [3, 4, 5, 0] (L' := [(0, .ref (a 18)), (1, iv v), (2, iv i), (3, iv m3)]) rfl ?_
                      exact ih44 _ _ (by omega) (by subst em3; first | exact ⟨hag2, hj.keep (by omega) (by omega) hcb hcg (by omega) (by omega)⟩ | exact ⟨((hag2.up (Or.inr (Or.inr rfl)) _ _).up (Or.inl rfl) _ _).up (Or.inr (Or.inl rfl)) _ _, hj.takeS (by omega) (by omega) hcb hcg (by omega)⟩)
                    · skip
                      refine r_iload C dX6_findPages_128 1 rfl ?_
                      refine r_aload_n C dX6_findPages_130 2 rfl ?_
                      refine gX6_53 C dX6_findPages_131 ?_
                      refine r_iload_n C dX6_findPages_134 4 rfl ?_
                      refine r_iald 41 C dX6_findPages_135 (by omega) (fun _ => rfl) (by omega) (by omega) (by decide) (fun g50 => ?_)
                      refine r_icmp_gt (tgt := 187) C dX6_findPages_136 (by decide) (by omega) (by omega) (fun hb1 => ?_) (fun hb1 => ?_)
                      · skip
                        refine r_iinc C dX6_findPages_187 (by decide) 5 rfl (fun z_ => [(3, iv z_), (5, iv ip), (4, iv ib), (0, .ref (a 18)), (1, iv v), (2, iv i)]) (fun _ => rfl) (fun m3 em3 => ?_)
                        refine r_goto (tgt := 44) C dX6_findPages_190 (by decide) ?_
                        refine r_sub [3, 4, 5, 0] (L' := [(0, .ref (a 18)), (1, iv v), (2, iv i), (3, iv m3)]) rfl ?_
                        exact ih44 _ _ (by omega) (by subst em3; first | exact ⟨hag2, hj.keep (by omega) (by omega) hcb hcg (by omega) (by omega)⟩ | exact ⟨((hag2.up (Or.inr (Or.inr rfl)) _ _).up (Or.inl rfl) _ _).up (Or.inr (Or.inl rfl)) _ _, hj.takeS (by omega) (by omega) hcb hcg (by omega)⟩)
                      · skip
                        refine r_iload C dX6_findPages_139 1 rfl ?_
                        refine r_aload_n C dX6_findPages_141 2 rfl ?_
                        refine gX6_53 C dX6_findPages_142 ?_
                        refine r_iload_n C dX6_findPages_145 4 rfl ?_
                        refine r_iald 41 C dX6_findPages_146 (by omega) (fun _ => rfl) (by omega) (by omega) (by decide) (fun g53 => ?_)
                        refine r_icmp_ne (tgt := 164) C dX6_findPages_147 (by decide) (by omega) (by omega) (fun hb2 => ?_) (fun hb2 => ?_)
                        · skip
                          refine r_aload_n C dX6_findPages_164 2 rfl ?_
                          refine gX6_59 C dX6_findPages_165 ?_
                          refine r_iload_n C dX6_findPages_168 4 rfl ?_
                          refine r_iload_n C dX6_findPages_169 5 rfl ?_
                          refine r_iast 41 C dX6_findPages_170 (by omega) (fun _ _ => rfl) (by omega) (by omega) (by decide) (by omega) ?_
                          refine r_aload_n C dX6_findPages_171 2 rfl ?_
                          refine gX6_53 C dX6_findPages_172 ?_
                          refine r_iload_n C dX6_findPages_175 4 rfl ?_
                          refine r_iload C dX6_findPages_176 1 rfl ?_
                          refine r_iast 41 C dX6_findPages_178 (by omega) (fun _ _ => rfl) (by omega) (by omega) (by decide) (by omega) ?_
                          refine r_aload_n C dX6_findPages_179 2 rfl ?_
                          refine gX6_56 C dX6_findPages_180 ?_
                          refine r_iload_n C dX6_findPages_183 4 rfl ?_
                          refine r_iload C dX6_findPages_184 0 rfl ?_
                          refine r_iast 41 C dX6_findPages_186 (by omega) (fun _ _ => rfl) (by omega) (by omega) (by decide) (by omega) ?_
                          refine r_iinc C dX6_findPages_187 (by decide) 5 rfl (fun z_ => [(3, iv z_), (5, iv ip), (4, iv ib), (0, .ref (a 18)), (1, iv v), (2, iv i)]) (fun _ => rfl) (fun m3 em3 => ?_)
                          refine r_goto (tgt := 44) C dX6_findPages_190 (by decide) ?_
                          refine r_sub [3, 4, 5, 0] (L' := [(0, .ref (a 18)), (1, iv v), (2, iv i), (3, iv m3)]) rfl ?_
                          exact ih44 _ _ (by omega) (by subst em3; first | exact ⟨hag2, hj.keep (by omega) (by omega) hcb hcg (by omega) (by omega)⟩ | exact ⟨((hag2.up (Or.inr (Or.inr rfl)) _ _).up (Or.inl rfl) _ _).up (Or.inr (Or.inl rfl)) _ _, hj.takeS (by omega) (by omega) hcb hcg (by omega)⟩)
                        · skip
                          refine r_iload C dX6_findPages_150 0 rfl ?_
                          refine r_aload_n C dX6_findPages_152 2 rfl ?_
                          refine gX6_56 C dX6_findPages_153 ?_
                          refine r_iload_n C dX6_findPages_156 4 rfl ?_
                          refine r_iald 41 C dX6_findPages_157 (by omega) (fun _ => rfl) (by omega) (by omega) (by decide) (fun g59 => ?_)
                          refine r_icmp_lt (tgt := 164) C dX6_findPages_158 (by decide) (by omega) (by omega) (fun hb3 => ?_) (fun hb3 => ?_)
                          · skip
                            refine r_aload_n C dX6_findPages_164 2 rfl ?_
                            refine gX6_59 C dX6_findPages_165 ?_
                            refine r_iload_n C dX6_findPages_168 4 rfl ?_
                            refine r_iload_n C dX6_findPages_169 5 rfl ?_
                            refine r_iast 41 C dX6_findPages_170 (by omega) (fun _ _ => rfl) (by omega) (by omega) (by decide) (by omega) ?_
                            refine r_aload_n C dX6_findPages_171 2 rfl ?_
                            refine gX6_53 C dX6_findPages_172 ?_
                            refine r_iload_n C dX6_findPages_175 4 rfl ?_
                            refine r_iload C dX6_findPages_176 1 rfl ?_
                            refine r_iast 41 C dX6_findPages_178 (by omega) (fun _ _ => rfl) (by omega) (by omega) (by decide) (by omega) ?_
                            refine r_aload_n C dX6_findPages_179 2 rfl ?_
                            refine gX6_56 C dX6_findPages_180 ?_
                            refine r_iload_n C dX6_findPages_183 4 rfl ?_
                            refine r_iload C dX6_findPages_184 0 rfl ?_
                            refine r_iast 41 C dX6_findPages_186 (by omega) (fun _ _ => rfl) (by omega) (by omega) (by decide) (by omega) ?_
                            refine r_iinc C dX6_findPages_187 (by decide) 5 rfl (fun z_ => [(3, iv z_), (5, iv ip), (4, iv ib), (0, .ref (a 18)), (1, iv v), (2, iv i)]) (fun _ => rfl) (fun m3 em3 => ?_)
                            refine r_goto (tgt := 44) C dX6_findPages_190 (by decide) ?_
                            refine r_sub [3, 4, 5, 0] (L' := [(0, .ref (a 18)), (1, iv v), (2, iv i), (3, iv m3)]) rfl ?_
                            exact ih44 _ _ (by omega) (by subst em3; first | exact ⟨hag2, hj.keep (by omega) (by omega) hcb hcg (by omega) (by omega)⟩ | exact ⟨((hag2.up (Or.inr (Or.inr rfl)) _ _).up (Or.inl rfl) _ _).up (Or.inr (Or.inl rfl)) _ _, hj.takeS (by omega) (by omega) hcb hcg (by omega)⟩)
                          · skip
                            refine r_goto (tgt := 187) C dX6_findPages_161 (by decide) ?_
                            refine r_iinc C dX6_findPages_187 (by decide) 5 rfl (fun z_ => [(3, iv z_), (5, iv ip), (4, iv ib), (0, .ref (a 18)), (1, iv v), (2, iv i)]) (fun _ => rfl) (fun m3 em3 => ?_)
                            refine r_goto (tgt := 44) C dX6_findPages_190 (by decide) ?_
                            refine r_sub [3, 4, 5, 0] (L' := [(0, .ref (a 18)), (1, iv v), (2, iv i), (3, iv m3)]) rfl ?_
                            exact ih44 _ _ (by omega) (by subst em3; first | exact ⟨hag2, hj.keep (by omega) (by omega) hcb hcg (by omega) (by omega)⟩ | exact ⟨((hag2.up (Or.inr (Or.inr rfl)) _ _).up (Or.inl rfl) _ _).up (Or.inr (Or.inl rfl)) _ _, hj.takeS (by omega) (by omega) hcb hcg (by omega)⟩)
                  · skip
                    refine r_if_eq (tgt := 103) C dX6_findPages_96 (by decide) (by decide) (fun _ => ?_) (fun q => absurd q (by decide))
                    refine r_iconst C dX6_findPages_103 ?_
                    refine r_iadd C dX6_findPages_104 ?_
                    refine r_istore C dX6_findPages_105 (by decide) (fun z_ => [(4, iv z_), (0, .ref (a 18)), (1, iv v), (2, iv i), (3, iv m)]) (fun _ => rfl) (fun ib eib => ?_)
                    refine r_aload_n C dX6_findPages_107 1 rfl ?_
                    refine gX6_56 C dX6_findPages_108 ?_
                    refine r_iload_n C dX6_findPages_111 3 rfl ?_
                    refine r_iload_n C dX6_findPages_112 4 rfl ?_
                    refine r_iadd C dX6_findPages_113 ?_
                    refine r_iald 41 C dX6_findPages_114 (by omega) (fun _ => rfl) (by omega) (by omega) (by decide) (fun g66 => ?_)
                    refine r_iconst C dX6_findPages_115 ?_
                    refine r_iadd C dX6_findPages_116 ?_
                    refine r_istore C dX6_findPages_117 (by decide) (fun z_ => [(5, iv z_), (4, iv ib), (0, .ref (a 18)), (1, iv v), (2, iv i), (3, iv m)]) (fun _ => rfl) (fun ip eip => ?_)
                    have hcb : ib = τ 29 (i + m) + btM ρ v (i + m) := by
                      unfold btM
                      try rw [agfrM hag2, agndM hag2] at hbd
                      first
                        | (rw [if_neg (by omega)]; omega)
                        | (rw [if_pos ⟨by omega, hbd⟩]; omega)
                        | (rw [if_neg (fun q => hbd q.2)]; omega)
                    have hcg : ip = τ 30 (i + m) + 1 := by omega
                    refine r_aload_n C dX6_findPages_119 2 rfl ?_
                    refine gX6_59 C dX6_findPages_120 ?_
                    refine r_iload_n C dX6_findPages_123 4 rfl ?_
                    refine r_iald 41 C dX6_findPages_124 (by omega) (fun _ => rfl) (by omega) (by omega) (by decide) (fun g68 => ?_)
                    refine r_if_le (tgt := 164) C dX6_findPages_125 (by decide) (by omega) (fun hz => ?_) (fun hz => ?_)
                    · skip
                      refine r_aload_n C dX6_findPages_164 2 rfl ?_
                      refine gX6_59 C dX6_findPages_165 ?_
                      refine r_iload_n C dX6_findPages_168 4 rfl ?_
                      refine r_iload_n C dX6_findPages_169 5 rfl ?_
                      refine r_iast 41 C dX6_findPages_170 (by omega) (fun _ _ => rfl) (by omega) (by omega) (by decide) (by omega) ?_
                      refine r_aload_n C dX6_findPages_171 2 rfl ?_
                      refine gX6_53 C dX6_findPages_172 ?_
                      refine r_iload_n C dX6_findPages_175 4 rfl ?_
                      refine r_iload C dX6_findPages_176 1 rfl ?_
                      refine r_iast 41 C dX6_findPages_178 (by omega) (fun _ _ => rfl) (by omega) (by omega) (by decide) (by omega) ?_
                      refine r_aload_n C dX6_findPages_179 2 rfl ?_
                      refine gX6_56 C dX6_findPages_180 ?_
                      refine r_iload_n C dX6_findPages_183 4 rfl ?_
                      refine r_iload C dX6_findPages_184 0 rfl ?_
                      refine r_iast 41 C dX6_findPages_186 (by omega) (fun _ _ => rfl) (by omega) (by omega) (by decide) (by omega) ?_
                      refine r_iinc C dX6_findPages_187 (by decide) 5 rfl (fun z_ => [(3, iv z_), (5, iv ip), (4, iv ib), (0, .ref (a 18)), (1, iv v), (2, iv i)]) (fun _ => rfl) (fun m3 em3 => ?_)
                      refine r_goto (tgt := 44) C dX6_findPages_190 (by decide) ?_
                      refine r_sub [3, 4, 5, 0] (L' := [(0, .ref (a 18)), (1, iv v), (2, iv i), (3, iv m3)]) rfl ?_
                      exact ih44 _ _ (by omega) (by subst em3; first | exact ⟨hag2, hj.keep (by omega) (by omega) hcb hcg (by omega) (by omega)⟩ | exact ⟨((hag2.up (Or.inr (Or.inr rfl)) _ _).up (Or.inl rfl) _ _).up (Or.inr (Or.inl rfl)) _ _, hj.takeS (by omega) (by omega) hcb hcg (by omega)⟩)
                    · skip
                      refine r_iload C dX6_findPages_128 1 rfl ?_
                      refine r_aload_n C dX6_findPages_130 2 rfl ?_
                      refine gX6_53 C dX6_findPages_131 ?_
                      refine r_iload_n C dX6_findPages_134 4 rfl ?_
                      refine r_iald 41 C dX6_findPages_135 (by omega) (fun _ => rfl) (by omega) (by omega) (by decide) (fun g74 => ?_)
                      refine r_icmp_gt (tgt := 187) C dX6_findPages_136 (by decide) (by omega) (by omega) (fun hb1 => ?_) (fun hb1 => ?_)
                      · skip
                        refine r_iinc C dX6_findPages_187 (by decide) 5 rfl (fun z_ => [(3, iv z_), (5, iv ip), (4, iv ib), (0, .ref (a 18)), (1, iv v), (2, iv i)]) (fun _ => rfl) (fun m3 em3 => ?_)
                        refine r_goto (tgt := 44) C dX6_findPages_190 (by decide) ?_
                        refine r_sub [3, 4, 5, 0] (L' := [(0, .ref (a 18)), (1, iv v), (2, iv i), (3, iv m3)]) rfl ?_
                        exact ih44 _ _ (by omega) (by subst em3; first | exact ⟨hag2, hj.keep (by omega) (by omega) hcb hcg (by omega) (by omega)⟩ | exact ⟨((hag2.up (Or.inr (Or.inr rfl)) _ _).up (Or.inl rfl) _ _).up (Or.inr (Or.inl rfl)) _ _, hj.takeS (by omega) (by omega) hcb hcg (by omega)⟩)
                      · skip
                        refine r_iload C dX6_findPages_139 1 rfl ?_
                        refine r_aload_n C dX6_findPages_141 2 rfl ?_
                        refine gX6_53 C dX6_findPages_142 ?_
                        refine r_iload_n C dX6_findPages_145 4 rfl ?_
                        refine r_iald 41 C dX6_findPages_146 (by omega) (fun _ => rfl) (by omega) (by omega) (by decide) (fun g77 => ?_)
                        refine r_icmp_ne (tgt := 164) C dX6_findPages_147 (by decide) (by omega) (by omega) (fun hb2 => ?_) (fun hb2 => ?_)
                        · skip
                          refine r_aload_n C dX6_findPages_164 2 rfl ?_
                          refine gX6_59 C dX6_findPages_165 ?_
                          refine r_iload_n C dX6_findPages_168 4 rfl ?_
                          refine r_iload_n C dX6_findPages_169 5 rfl ?_
                          refine r_iast 41 C dX6_findPages_170 (by omega) (fun _ _ => rfl) (by omega) (by omega) (by decide) (by omega) ?_
                          refine r_aload_n C dX6_findPages_171 2 rfl ?_
                          refine gX6_53 C dX6_findPages_172 ?_
                          refine r_iload_n C dX6_findPages_175 4 rfl ?_
                          refine r_iload C dX6_findPages_176 1 rfl ?_
                          refine r_iast 41 C dX6_findPages_178 (by omega) (fun _ _ => rfl) (by omega) (by omega) (by decide) (by omega) ?_
                          refine r_aload_n C dX6_findPages_179 2 rfl ?_
                          refine gX6_56 C dX6_findPages_180 ?_
                          refine r_iload_n C dX6_findPages_183 4 rfl ?_
                          refine r_iload C dX6_findPages_184 0 rfl ?_
                          refine r_iast 41 C dX6_findPages_186 (by omega) (fun _ _ => rfl) (by omega) (by omega) (by decide) (by omega) ?_
                          refine r_iinc C dX6_findPages_187 (by decide) 5 rfl (fun z_ => [(3, iv z_), (5, iv ip), (4, iv ib), (0, .ref (a 18)), (1, iv v), (2, iv i)]) (fun _ => rfl) (fun m3 em3 => ?_)
                          refine r_goto (tgt := 44) C dX6_findPages_190 (by decide) ?_
                          refine r_sub [3, 4, 5, 0] (L' := [(0, .ref (a 18)), (1, iv v), (2, iv i), (3, iv m3)]) rfl ?_
                          exact ih44 _ _ (by omega) (by subst em3; first | exact ⟨hag2, hj.keep (by omega) (by omega) hcb hcg (by omega) (by omega)⟩ | exact ⟨((hag2.up (Or.inr (Or.inr rfl)) _ _).up (Or.inl rfl) _ _).up (Or.inr (Or.inl rfl)) _ _, hj.takeS (by omega) (by omega) hcb hcg (by omega)⟩)
                        · skip
                          refine r_iload C dX6_findPages_150 0 rfl ?_
                          refine r_aload_n C dX6_findPages_152 2 rfl ?_
                          refine gX6_56 C dX6_findPages_153 ?_
                          refine r_iload_n C dX6_findPages_156 4 rfl ?_
                          refine r_iald 41 C dX6_findPages_157 (by omega) (fun _ => rfl) (by omega) (by omega) (by decide) (fun g83 => ?_)
                          refine r_icmp_lt (tgt := 164) C dX6_findPages_158 (by decide) (by omega) (by omega) (fun hb3 => ?_) (fun hb3 => ?_)
                          · skip
                            refine r_aload_n C dX6_findPages_164 2 rfl ?_
                            refine gX6_59 C dX6_findPages_165 ?_
                            refine r_iload_n C dX6_findPages_168 4 rfl ?_
                            refine r_iload_n C dX6_findPages_169 5 rfl ?_
                            refine r_iast 41 C dX6_findPages_170 (by omega) (fun _ _ => rfl) (by omega) (by omega) (by decide) (by omega) ?_
                            refine r_aload_n C dX6_findPages_171 2 rfl ?_
                            refine gX6_53 C dX6_findPages_172 ?_
                            refine r_iload_n C dX6_findPages_175 4 rfl ?_
                            refine r_iload C dX6_findPages_176 1 rfl ?_
                            refine r_iast 41 C dX6_findPages_178 (by omega) (fun _ _ => rfl) (by omega) (by omega) (by decide) (by omega) ?_
                            refine r_aload_n C dX6_findPages_179 2 rfl ?_
                            refine gX6_56 C dX6_findPages_180 ?_
                            refine r_iload_n C dX6_findPages_183 4 rfl ?_
                            refine r_iload C dX6_findPages_184 0 rfl ?_
                            refine r_iast 41 C dX6_findPages_186 (by omega) (fun _ _ => rfl) (by omega) (by omega) (by decide) (by omega) ?_
                            refine r_iinc C dX6_findPages_187 (by decide) 5 rfl (fun z_ => [(3, iv z_), (5, iv ip), (4, iv ib), (0, .ref (a 18)), (1, iv v), (2, iv i)]) (fun _ => rfl) (fun m3 em3 => ?_)
                            refine r_goto (tgt := 44) C dX6_findPages_190 (by decide) ?_
                            refine r_sub [3, 4, 5, 0] (L' := [(0, .ref (a 18)), (1, iv v), (2, iv i), (3, iv m3)]) rfl ?_
                            exact ih44 _ _ (by omega) (by subst em3; first | exact ⟨hag2, hj.keep (by omega) (by omega) hcb hcg (by omega) (by omega)⟩ | exact ⟨((hag2.up (Or.inr (Or.inr rfl)) _ _).up (Or.inl rfl) _ _).up (Or.inr (Or.inl rfl)) _ _, hj.takeS (by omega) (by omega) hcb hcg (by omega)⟩)
                          · skip
                            refine r_goto (tgt := 187) C dX6_findPages_161 (by decide) ?_
                            refine r_iinc C dX6_findPages_187 (by decide) 5 rfl (fun z_ => [(3, iv z_), (5, iv ip), (4, iv ib), (0, .ref (a 18)), (1, iv v), (2, iv i)]) (fun _ => rfl) (fun m3 em3 => ?_)
                            refine r_goto (tgt := 44) C dX6_findPages_190 (by decide) ?_
                            refine r_sub [3, 4, 5, 0] (L' := [(0, .ref (a 18)), (1, iv v), (2, iv i), (3, iv m3)]) rfl ?_
                            exact ih44 _ _ (by omega) (by subst em3; first | exact ⟨hag2, hj.keep (by omega) (by omega) hcb hcg (by omega) (by omega)⟩ | exact ⟨((hag2.up (Or.inr (Or.inr rfl)) _ _).up (Or.inl rfl) _ _).up (Or.inr (Or.inl rfl)) _ _, hj.takeS (by omega) (by omega) hcb hcg (by omega)⟩)
        refine r_sub [1, 2, 3, 0] (L' := [(0, .ref (a 18)), (1, iv v), (2, iv i), (3, iv m0)]) rfl ?_
        exact lp44 ((ρ 18 18 - i : Int).toNat + 1) _ _ (by omega) (by subst em0; refine ⟨hag.up (Or.inr (Or.inr rfl)) _ _, ?_⟩; rw [up2_ne (show (29 : Nat) ≠ 31 by decide), up2_ne (show (30 : Nat) ≠ 31 by decide)]; exact DPJ.start (by omega) up2_self (fun j hj => up2_at hj))
  refine r_sub [1, 2, 0] (L' := [(0, .ref (a 18)), (1, iv v), (2, iv i0)]) rfl ?_
  exact lp31 ((ρ 18 18 : Int).toNat + 1) _ _ (by omega) (by subst ei0; refine ⟨(AgM.up (AgM.up (fun _ _ _ _ => rfl) (Or.inl rfl) _ _) (Or.inr (Or.inl rfl)) _ _), by omega, by omega, by rw [up2_ne (by decide), up2_self], by rw [up2_self], fun j h1 h2 => by omega, fun j h1 h2 => ?_⟩; have hj : j = ρ 18 18 := (by omega); subst hj; rw [up2_ne (by decide), up2_self, up2_self]; omega)
