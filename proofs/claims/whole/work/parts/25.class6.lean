theorem syr_cg {s τ : ST} {p : Int} (h : AgF s τ) (hR : SyR s τ p) : SyR τ τ p := by
  unfold SyR at *
  rw [afsy h, h.ag.at2]
  exact hR
theorem syr_cg2 {s τ ρ : ST} {p : Int} (h : AgF s τ) (hR : SyR τ ρ p) : SyR s ρ p := by
  unfold SyR at *
  rw [afsy h, h.ag.at2] at hR
  exact hR
def Zc (σ : ST) (j : Int) : Int := σ 16 j - j
/-- the walk over the pages: how many there are, and where it ends -/
def WkIn (σ : ST) : Prop := (0 ≤ σ 15 0 ∧ σ 15 0 ≤ 40) ∧ walkF (Zc σ) (σ 2 3) (σ 15 0).toNat = σ 2 3 ∧ ∀ k : Nat, (k : Int) < σ 15 0 → walkF (Zc σ) (σ 2 3) k < σ 2 3
/-- what the layout's plan() leaves -/
def PlC (σ τ : ST) (n : Nat) (w l d : Int) : Prop := AgC σ τ ∧ (τ 3 8 = w ∧ τ 3 9 = l ∧ τ 3 10 = d) ∧ (∀ p, 0 ≤ p → p < σ 2 3 → τ 11 p = widF (σ 10) (Mc σ) (cuC σ n) p False) ∧ (∀ p, 0 ≤ p → p < σ 2 3 → τ 12 p = freF (σ 10) (Sc σ) (σ 2 3) p) ∧ DPOK (syC τ) l (btC τ) (σ 2 3) (τ 14) (τ 15) (Zc τ) ∧ SyR τ τ (-1)
theorem widC_bd {σ : ST} {n : Nat} (hI : PIn σ) {p : Int} (h0 : 0 ≤ p) (h1 : p < σ 2 3) : 0 ≤ widF (σ 10) (Mc σ) (cuC σ n) p False ∧ widF (σ 10) (Mc σ) (cuC σ n) p False ≤ 21 := by
  have h := (hI.2 p h0 h1).2.2
  unfold widF
  split
  · split <;> omega
  · split <;> omega
set_option maxHeartbeats 4000000 in
set_option maxRecDepth 100000 in
theorem m_X0_plan {a : Nat → Nat} {n : Nat} {σ : ST} {w l d : Int} (hI : PIn σ) (hC : CS σ n) (hdu : 1 ≤ σ 2 5 ∧ σ 2 5 ≤ 20) (hw : 21 ≤ w ∧ w ≤ 60) (hl : 1 ≤ l ∧ l ≤ 8) (hd : 0 ≤ d ∧ d ≤ 60) : MV yX0_plan cX0_plan 6 (RM 4 92) a n σ [.ref (a 3), iv w, iv l, iv d] (fun σ1 => PlC σ σ1 n w l d) := by
  refine MV.of (own := RX0) (by decide +kernel) rfl (Nat.le_of_ble_eq_true rfl) ?_
  intro κ C hret
  show J κ 0 0 a n σ [(0, .ref (a 3)), (1, iv w), (2, iv l), (3, iv d)] 0 []
  obtain ⟨hsz, hpin⟩ := id hI
  refine r_aload_n C dX0_plan_0 0 rfl ?_
  refine r_iload_n C dX0_plan_1 1 rfl ?_
  refine pX0_37 C dX0_plan_2 (by omega) ?_
  refine r_aload_n C dX0_plan_5 0 rfl ?_
  refine r_iload_n C dX0_plan_6 2 rfl ?_
  refine pX0_41 C dX0_plan_7 (by omega) ?_
  refine r_aload_n C dX0_plan_10 0 rfl ?_
  refine r_iload_n C dX0_plan_11 3 rfl ?_
  refine pX0_44 C dX0_plan_12 (by omega) ?_
  refine r_st (fun ρ hρ => ?_)
  have hf0 : ∀ c, c ≠ 3 → ρ c = σ c := fun c hc => by rw [hρ, up2_ne hc, up2_ne hc, up2_ne hc]
  have ha0 : AgC σ ρ := AgC.one hf0 (by omega)
  have r37 : ρ 3 8 = w := by rw [hρ, up2_at (by decide), up2_at (by decide), up2_self]
  have r38 : ρ 3 9 = l := by rw [hρ, up2_at (by decide), up2_self]
  have r39 : ρ 3 10 = d := by rw [hρ, up2_self]
  have r25 : ρ 2 5 = σ 2 5 := by rw [hf0 2 (by decide)]
  refine r_aload_n C dX0_plan_15 0 rfl ?_
  refine r_callV0 3 C dX0_plan_16 lkX0_47 (m_X0_measure (ha0.pin hI) (ha0.fr.cs hC) (by omega)) ⟨rfl, rfl, Nat.le_of_ble_eq_true rfl, Nat.le_of_ble_eq_true rfl⟩ ⟨Nat.zero_le _, Nat.zero_le _⟩ rc3 (Nat.le_of_ble_eq_true rfl) (fun s1 hme => ?_)
  obtain ⟨hm1, hm2⟩ := hme
  have ha1 : AgC σ s1 := ha0.tr (AgC.one hm1 (by omega))
  refine r_aload_n C dX0_plan_19 0 rfl ?_
  refine r_callV0 3 C dX0_plan_20 lkX0_50 (m_X0_timeTurns (ha1.pin hI) (ha1.fr.cs hC).2.2.2.2.2.2.2.2.2.1) ⟨rfl, rfl, Nat.le_of_ble_eq_true rfl, Nat.le_of_ble_eq_true rfl⟩ ⟨Nat.zero_le _, Nat.zero_le _⟩ rc3 (Nat.le_of_ble_eq_true rfl) (fun s2 htt => ?_)
  obtain ⟨ht1, ht2⟩ := htt
  have ha2 : AgC σ s2 := ha1.tr (AgC.one ht1 (by omega))
  have q3 : s2 3 = ρ 3 := by rw [ht1 3 (by decide), hm1 3 (by decide)]
  have q37 : s2 3 8 = w := by rw [q3]; exact r37
  have q38 : s2 3 9 = l := by rw [q3]; exact r38
  have q39 : s2 3 10 = d := by rw [q3]; exact r39
  have q23 : s2 2 3 = σ 2 3 := by rw [ha2.at2]
  have q11 : ∀ p, 0 ≤ p → p < σ 2 3 → s2 11 p = widF (σ 10) (Mc σ) (cuC σ n) p False := by
    intro p p0 p1
    rw [ht1 11 (by decide), hm2 p p0 (by rw [ha0.at2]; exact p1), ha0.at10, acMc ha0, accu ha0]
  have q12 : ∀ p, 0 ≤ p → p < σ 2 3 → s2 12 p = freF (σ 10) (Sc σ) (σ 2 3) p := by
    intro p p0 p1
    rw [ht2 p p0 (by rw [ha1.at2]; exact p1), ha1.at10, acSc ha1, ha1.at2]
  have hI2 := ha2.pin hI
  have hW2 : WIn s2 := by
    intro p p0 p1
    rw [q23] at p1
    rw [q11 p p0 p1]
    exact widC_bd hI p0 p1
  refine r_aload_n C dX0_plan_23 0 rfl ?_
  refine gX0_9 C dX0_plan_24 ?_
  refine gX0_53 C dX0_plan_27 (fun g2 => ?_)
  refine r_istore C dX0_plan_30 (by decide) (fun z_ => [(4, iv z_), (0, .ref (a 3)), (1, iv w), (2, iv l), (3, iv d)]) (fun _ => rfl) (fun en een => ?_)
  refine r_aload_n C dX0_plan_32 1 rfl ?_
  refine gX0_25 C dX0_plan_33 ?_
  refine r_iload C dX0_plan_36 0 rfl ?_
  refine r_iconst C dX0_plan_38 ?_
  refine r_iast 41 C dX0_plan_39 (by omega) (fun _ _ => rfl) (by omega) (by omega) (by decide) (by omega) ?_
  refine r_aload_n C dX0_plan_40 1 rfl ?_
  refine gX0_28 C dX0_plan_41 ?_
  refine r_iload C dX0_plan_44 0 rfl ?_
  refine r_iconst C dX0_plan_46 ?_
  refine r_iast 41 C dX0_plan_47 (by omega) (fun _ _ => rfl) (by omega) (by omega) (by decide) (by omega) ?_
  refine r_aload_n C dX0_plan_48 1 rfl ?_
  refine gX0_31 C dX0_plan_49 ?_
  refine r_iload C dX0_plan_52 0 rfl ?_
  refine r_iload C dX0_plan_54 0 rfl ?_
  refine r_iast 41 C dX0_plan_56 (by omega) (fun _ _ => rfl) (by omega) (by omega) (by decide) (by omega) ?_
  refine r_iload C dX0_plan_57 0 rfl ?_
  refine r_iconst C dX0_plan_59 ?_
  refine r_isub C dX0_plan_60 ?_
  refine r_istore C dX0_plan_61 (by decide) (fun z_ => [(5, iv z_), (4, iv en), (0, .ref (a 3)), (1, iv w), (2, iv l), (3, iv d)]) (fun _ => rfl) (fun p0 ep0 => ?_)
  have lp63 : ∀ (N : Nat) (p : Int) (τ : ST), (p + 1 : Int) < N → (AgF s2 τ ∧ DPI (syC s2) (s2 3 9) (btC s2) (s2 2 3) (τ 14) (τ 15) (fun j => τ 16 j - j) p ∧ SyR s2 τ p) → J κ 0 0 a n τ [(0, .ref (a 3)), (1, iv w), (2, iv l), (3, iv d), (4, iv en), (5, iv p)] 63 [] := by
    intro N
    induction N with
    | zero =>
      intro p τ hm63 hi63
      exact absurd hm63 (by have := hi63.2.1.1; omega)
    | succ N ih63 =>
      intro p τ hm63 hi63
      have haf := hi63.1
      have hdp := hi63.2.1
      have hsr := hi63.2.2
      have hp0 := hdp.1
      have hp1 := hdp.2.1
      have e37 : τ 3 8 = w := by rw [haf.at3]; exact q37
      have e38 : τ 3 9 = l := by rw [haf.at3]; exact q38
      have e23 : τ 2 3 = σ 2 3 := by rw [haf.ag.at2]; exact q23
      refine r_iload C dX0_plan_63 5 rfl ?_
      refine r_if_lt (tgt := 80) C dX0_plan_65 (by decide) (by omega) (fun h6 => ?_) (fun h6 => ?_)
      · skip
        exact hret _ _ _ dX0_plan_80 (by have hpe : p = -1 := (by omega); subst hpe; refine ⟨ha2.tr haf.ag, ⟨by rw [haf.at3]; exact q37, by rw [haf.at3]; exact q38, by rw [haf.at3]; exact q39⟩, fun p p0 p1 => by rw [haf.at11]; exact q11 p p0 p1, fun p p0 p1 => by rw [haf.at12]; exact q12 p p0 p1, ?_, syr_cg haf hsr⟩; rw [afsy haf, afbt haf]; rw [q23, q38] at hdp; exact DPI.ok hdp)
      · skip
        refine r_aload_n C dX0_plan_68 0 rfl ?_
        refine r_iload C dX0_plan_69 5 rfl ?_
        refine r_callV1 3 C dX0_plan_71 lkX0_58 (m_X0_chooseFrom (haf.ag.pin hI2) (haf.win hW2) (by omega) (by omega) (by omega) (by rw [afsy haf, afbt haf, haf.at3, haf.ag.at2]; exact hdp) (syr_cg haf hsr)) ⟨rfl, rfl, Nat.le_of_ble_eq_true rfl, Nat.le_of_ble_eq_true rfl⟩ ⟨Nat.zero_le _, Nat.zero_le _⟩ rc3 (Nat.le_of_ble_eq_true rfl) (fun s4 hch => ?_)
        obtain ⟨hc1, hc2, hc3⟩ := hch
        have hsr4 := syr_cg2 haf hc3
        rw [afsy haf, afbt haf, haf.at3, haf.ag.at2] at hc2
        refine r_iinc C dX0_plan_74 (by decide) 5 rfl (fun z_ => [(5, iv z_), (0, .ref (a 3)), (1, iv w), (2, iv l), (3, iv d), (4, iv en)]) (fun _ => rfl) (fun p2 ep2 => ?_)
        refine r_goto (tgt := 63) C dX0_plan_77 (by decide) ?_
        refine r_sub [1, 2, 3, 4, 5, 0] (L' := [(0, .ref (a 3)), (1, iv w), (2, iv l), (3, iv d), (4, iv en), (5, iv p2)]) rfl ?_
        exact ih63 _ _ (by omega) (by rw [ep2, show p + -1 = p - 1 by omega]; exact ⟨haf.tr hc1, hc2, hsr4⟩)
  refine r_sub [2, 3, 4, 5, 1, 0] (L' := [(0, .ref (a 3)), (1, iv w), (2, iv l), (3, iv d), (4, iv en), (5, iv p0)]) rfl ?_
  exact lp63 ((en : Int).toNat + 1) _ _ (by omega) (by rw [ep0, een]; refine ⟨((AgF.rf.up (by decide) _ _).up (by decide) _ _).up (by decide) _ _, ⟨by omega, by omega, ?_, ?_, fun j h1 h2 => by omega, fun j h1 h2 => ?_⟩, fun j h1 h2 => by omega, up2_self⟩; (rw [up2_ne (show (14 : Nat) ≠ 16 by decide), up2_ne (show (14 : Nat) ≠ 15 by decide), up2_self]); (rw [up2_ne (show (15 : Nat) ≠ 16 by decide), up2_self]); (have hj : j = s2 2 3 := (by omega); subst hj; rw [up2_ne (show (14 : Nat) ≠ 16 by decide), up2_ne (show (14 : Nat) ≠ 15 by decide), up2_self, up2_ne (show (15 : Nat) ≠ 16 by decide), up2_self]; omega))

set_option maxHeartbeats 4000000 in
set_option maxRecDepth 100000 in
theorem m_X0_pageCount {a : Nat → Nat} {n : Nat} {σ : ST}  : MP yX0_pageCount cX0_pageCount 1 .int (RM 0 0) a n σ [.ref (a 3)] (fun r => r = σ 15 0 ∧ inR r) := by
  refine MI.of (own := RX0) (by decide +kernel) rfl (Nat.le_of_ble_eq_true rfl) ?_
  intro κ C hret
  show J κ 0 0 a n σ [(0, .ref (a 3))] 0 []
  refine r_aload_n C dX0_pageCount_0 0 rfl ?_
  refine gX0_28 C dX0_pageCount_1 ?_
  refine r_iconst C dX0_pageCount_4 ?_
  refine r_iald 41 C dX0_pageCount_5 (by omega) (fun _ => rfl) (by omega) (by omega) (by decide) (fun g2 => ?_)
  exact hret _ _ _ _ dX0_pageCount_6 ⟨rfl, by constructor; rfl; assumption⟩

set_option maxHeartbeats 4000000 in
set_option maxRecDepth 100000 in
theorem m_X0_badTurns {a : Nat → Nat} {n : Nat} {σ : ST}  : MP yX0_badTurns cX0_badTurns 1 .int (RM 0 0) a n σ [.ref (a 3)] (fun r => r = σ 14 0 ∧ inR r) := by
  refine MI.of (own := RX0) (by decide +kernel) rfl (Nat.le_of_ble_eq_true rfl) ?_
  intro κ C hret
  show J κ 0 0 a n σ [(0, .ref (a 3))] 0 []
  refine r_aload_n C dX0_badTurns_0 0 rfl ?_
  refine gX0_25 C dX0_badTurns_1 ?_
  refine r_iconst C dX0_badTurns_4 ?_
  refine r_iald 41 C dX0_badTurns_5 (by omega) (fun _ => rfl) (by omega) (by omega) (by decide) (fun g2 => ?_)
  exact hret _ _ _ _ dX0_badTurns_6 ⟨rfl, by constructor; rfl; assumption⟩

set_option maxHeartbeats 4000000 in
set_option maxRecDepth 100000 in
theorem m_X0_placeOfPage {a : Nat → Nat} {n : Nat} {σ : ST} {g : Int} (hI : PIn σ) (hz : ∀ i, 0 ≤ i → i < σ 2 3 → 1 ≤ Zc σ i ∧ i + Zc σ i ≤ σ 2 3) (hk : WkIn σ) (hg : inR g ∧ 0 ≤ g) : MP yX0_placeOfPage cX0_placeOfPage 4 .int (RM 1 20) a n σ [.ref (a 3), iv g] (fun r => r = walkF (Zc σ) (σ 2 3) g.toNat) := by
  refine MI.of (own := RX0) (by decide +kernel) rfl (Nat.le_of_ble_eq_true rfl) ?_
  intro κ C hret
  show J κ 0 0 a n σ [(0, .ref (a 3)), (1, iv g)] 0 []
  obtain ⟨hsz, hpin⟩ := id hI
  obtain ⟨hk1, hk2, hk3⟩ := id hk
  refine r_iload_n C dX0_placeOfPage_0 1 rfl ?_
  refine r_aload_n C dX0_placeOfPage_1 0 rfl ?_
  refine r_callP0 3 C dX0_placeOfPage_2 lkX0_91 m_X0_pageCount ⟨rfl, rfl, Nat.le_of_ble_eq_true rfl, Nat.le_of_ble_eq_true rfl⟩ ⟨Nat.zero_le _, Nat.zero_le _⟩ rc3 (Nat.le_of_ble_eq_true rfl) (fun pc hpc => ?_)
  obtain ⟨hpc, -⟩ := hpc
  refine r_icmp_lt (tgt := 16) C dX0_placeOfPage_5 (by decide) (by omega) (by omega) (fun h1 => ?_) (fun h1 => ?_)
  · skip
    refine r_iconst C dX0_placeOfPage_16 ?_
    refine r_istore_n C dX0_placeOfPage_17 (by decide) (fun z_ => [(2, iv z_), (0, .ref (a 3)), (1, iv g)]) (fun _ => rfl) (fun i0 ei0 => ?_)
    refine r_iconst C dX0_placeOfPage_18 ?_
    refine r_istore_n C dX0_placeOfPage_19 (by decide) (fun z_ => [(3, iv z_), (2, iv i0), (0, .ref (a 3)), (1, iv g)]) (fun _ => rfl) (fun k0 ek0 => ?_)
    have lp20 : ∀ (N : Nat) (i : Int) (k : Int), (g - k : Int) < N → (0 ≤ k ∧ k ≤ g ∧ 0 ≤ i ∧ i ≤ σ 2 3 ∧ i = walkF (Zc σ) (σ 2 3) k.toNat) → J κ 0 0 a n σ [(0, .ref (a 3)), (1, iv g), (2, iv i), (3, iv k)] 20 [] := by
      intro N
      induction N with
      | zero =>
        intro i k hm20 hi20
        exact absurd hm20 (by omega)
      | succ N ih20 =>
        intro i k hm20 hi20
        obtain ⟨hk0, hk9, hi0, hi1, hik⟩ := hi20
        refine r_iload_n C dX0_placeOfPage_20 3 rfl ?_
        refine r_iload_n C dX0_placeOfPage_21 1 rfl ?_
        refine r_icmp_ge (tgt := 38) C dX0_placeOfPage_22 (by decide) (by omega) (by omega) (fun h2 => ?_) (fun h2 => ?_)
        · skip
          refine r_iload_n C dX0_placeOfPage_38 2 rfl ?_
          exact hret _ _ _ _ dX0_placeOfPage_39 ⟨rfl, by first | (rw [show g = k by omega, ← hik]) | (have h9 := walkF_stay (Zc σ) (σ 2 3) (σ 15 0).toNat (by rw [hk2]; exact Int.le_refl _) (g.toNat - (σ 15 0).toNat); rw [show (σ 15 0).toNat + (g.toNat - (σ 15 0).toNat) = g.toNat by omega] at h9; rw [h9, hk2])⟩
        · skip
          have hlk := hk3 k.toNat (by omega)
          rw [← hik] at hlk
          have hzi := hz i (by omega) (by omega)
          unfold Zc at hzi
          refine r_aload_n C dX0_placeOfPage_25 0 rfl ?_
          refine gX0_31 C dX0_placeOfPage_26 ?_
          refine r_iload_n C dX0_placeOfPage_29 2 rfl ?_
          refine r_iald 41 C dX0_placeOfPage_30 (by omega) (fun _ => rfl) (by omega) (by omega) (by decide) (fun g4 => ?_)
          refine r_istore_n C dX0_placeOfPage_31 (by decide) (fun z_ => [(2, iv z_), (0, .ref (a 3)), (1, iv g), (3, iv k)]) (fun _ => rfl) (fun i2 ei2 => ?_)
          refine r_iinc C dX0_placeOfPage_32 (by decide) 3 rfl (fun z_ => [(3, iv z_), (2, iv i2), (0, .ref (a 3)), (1, iv g)]) (fun _ => rfl) (fun k2 ek2 => ?_)
          refine r_goto (tgt := 20) C dX0_placeOfPage_35 (by decide) ?_
          refine r_sub [2, 3, 1, 0] (L' := [(0, .ref (a 3)), (1, iv g), (2, iv i2), (3, iv k2)]) rfl ?_
          exact ih20 _ _ (by omega) (by subst ei2; subst ek2; refine ⟨by omega, by omega, by omega, by omega, ?_⟩; rw [walkF_s _ _ hk0, ← hik, if_pos hlk]; unfold Zc; omega)
    refine r_sub [2, 3, 1, 0] (L' := [(0, .ref (a 3)), (1, iv g), (2, iv i0), (3, iv k0)]) rfl ?_
    exact lp20 ((g : Int).toNat + 1) _ _ (by omega) (by subst ei0; subst ek0; exact ⟨by omega, by omega, by omega, by omega, rfl⟩)
  · skip
    refine r_aload_n C dX0_placeOfPage_8 0 rfl ?_
    refine gX0_9 C dX0_placeOfPage_9 ?_
    refine gX0_53 C dX0_placeOfPage_12 (fun g6 => ?_)
    exact hret _ _ _ _ dX0_placeOfPage_15 ⟨rfl, by first | (rw [show g = k by omega, ← hik]) | (have h9 := walkF_stay (Zc σ) (σ 2 3) (σ 15 0).toNat (by rw [hk2]; exact Int.le_refl _) (g.toNat - (σ 15 0).toNat); rw [show (σ 15 0).toNat + (g.toNat - (σ 15 0).toNat) = g.toNat by omega] at h9; rw [h9, hk2])⟩

set_option maxHeartbeats 4000000 in
set_option maxRecDepth 100000 in
theorem m_X0_firstBar {a : Nat → Nat} {n : Nat} {σ : ST} {g : Int} (hI : PIn σ) (hz : ∀ i, 0 ≤ i → i < σ 2 3 → 1 ≤ Zc σ i ∧ i + Zc σ i ≤ σ 2 3) (hk : WkIn σ) (hg : inR g ∧ 0 ≤ g) : MP yX0_firstBar cX0_firstBar 2 .int (RM 2 43) a n σ [.ref (a 3), iv g] (fun r => (walkF (Zc σ) (σ 2 3) g.toNat < σ 2 3 ∧ r = σ 9 (walkF (Zc σ) (σ 2 3) g.toNat)) ∨ (¬ walkF (Zc σ) (σ 2 3) g.toNat < σ 2 3 ∧ r = -1000002)) := by
  refine MI.of (own := RX0) (by decide +kernel) rfl (Nat.le_of_ble_eq_true rfl) ?_
  intro κ C hret
  show J κ 0 0 a n σ [(0, .ref (a 3)), (1, iv g)] 0 []
  obtain ⟨hsz, hpin⟩ := id hI
  have hwm := walk_mono hz hsz.1 g.toNat
  refine r_aload_n C dX0_firstBar_0 0 rfl ?_
  refine gX0_9 C dX0_firstBar_1 ?_
  refine r_aload_n C dX0_firstBar_4 0 rfl ?_
  refine r_iload_n C dX0_firstBar_5 1 rfl ?_
  refine r_callP1 3 C dX0_firstBar_6 lkX0_95 (m_X0_placeOfPage hI hz hk (by omega)) ⟨rfl, rfl, Nat.le_of_ble_eq_true rfl, Nat.le_of_ble_eq_true rfl⟩ ⟨Nat.zero_le _, Nat.zero_le _⟩ rc3 (Nat.le_of_ble_eq_true rfl) (fun pl hpl => ?_)
  refine r_callP1 2 C dX0_firstBar_9 lkX0_98 (m_X1_barAt hI (by omega)) ⟨rfl, rfl, Nat.le_of_ble_eq_true rfl, Nat.le_of_ble_eq_true rfl⟩ ⟨Nat.zero_le _, Nat.zero_le _⟩ rc2 (Nat.le_of_ble_eq_true rfl) (fun ba hba => ?_)
  exact hret _ _ _ _ dX0_firstBar_12 ⟨rfl, by rw [hpl] at hba; omega⟩

set_option maxHeartbeats 4000000 in
set_option maxRecDepth 100000 in
theorem m_X0_freeBehind {a : Nat → Nat} {n : Nat} {σ : ST} {g : Int} (hI : PIn σ) (hz : ∀ i, 0 ≤ i → i < σ 2 3 → 1 ≤ Zc σ i ∧ i + Zc σ i ≤ σ 2 3) (hk : WkIn σ) (he : σ 16 (σ 2 3) = σ 2 3) (hg : inR g ∧ 0 ≤ g) : MP yX0_freeBehind cX0_freeBehind 3 .int (RM 2 43) a n σ [.ref (a 3), iv g] (fun r => ((walkF (Zc σ) (σ 2 3) g.toNat < σ 2 3 ∧ walkF (Zc σ) (σ 2 3) g.toNat + Zc σ (walkF (Zc σ) (σ 2 3) g.toNat) < σ 2 3) ∧ r = σ 12 (walkF (Zc σ) (σ 2 3) g.toNat + Zc σ (walkF (Zc σ) (σ 2 3) g.toNat))) ∨ (¬ (walkF (Zc σ) (σ 2 3) g.toNat < σ 2 3 ∧ walkF (Zc σ) (σ 2 3) g.toNat + Zc σ (walkF (Zc σ) (σ 2 3) g.toNat) < σ 2 3) ∧ r = -1000002)) := by
  refine MI.of (own := RX0) (by decide +kernel) rfl (Nat.le_of_ble_eq_true rfl) ?_
  intro κ C hret
  show J κ 0 0 a n σ [(0, .ref (a 3)), (1, iv g)] 0 []
  obtain ⟨hsz, hpin⟩ := id hI
  have hwm := walk_mono hz hsz.1 g.toNat
  refine r_aload_n C dX0_freeBehind_0 0 rfl ?_
  refine gX0_31 C dX0_freeBehind_1 ?_
  refine r_aload_n C dX0_freeBehind_4 0 rfl ?_
  refine r_iload_n C dX0_freeBehind_5 1 rfl ?_
  refine r_callP1 3 C dX0_freeBehind_6 lkX0_95 (m_X0_placeOfPage hI hz hk (by omega)) ⟨rfl, rfl, Nat.le_of_ble_eq_true rfl, Nat.le_of_ble_eq_true rfl⟩ ⟨Nat.zero_le _, Nat.zero_le _⟩ rc3 (Nat.le_of_ble_eq_true rfl) (fun pl hpl => ?_)
  have hzi : (pl < σ 2 3 ∧ pl < σ 16 pl ∧ σ 16 pl ≤ σ 2 3) ∨ (pl = σ 2 3 ∧ σ 16 pl = σ 2 3) := by
    rcases (show pl < σ 2 3 ∨ pl = σ 2 3 by omega) with q | q
    · have h9 := hz pl (by omega) q
      unfold Zc at h9
      exact Or.inl (by omega)
    · exact Or.inr ⟨q, by rw [q]; exact he⟩
  refine r_iald 41 C dX0_freeBehind_9 (by omega) (fun _ => rfl) (by omega) (by omega) (by decide) (fun g2 => ?_)
  refine r_istore_n C dX0_freeBehind_10 (by decide) (fun z_ => [(2, iv z_), (0, .ref (a 3)), (1, iv g)]) (fun _ => rfl) (fun nx enx => ?_)
  refine r_iload_n C dX0_freeBehind_11 0 rfl ?_
  refine r_aload_n C dX0_freeBehind_12 1 rfl ?_
  refine gX0_9 C dX0_freeBehind_13 ?_
  refine gX0_53 C dX0_freeBehind_16 (fun g4 => ?_)
  refine r_icmp_ge (tgt := 31) C dX0_freeBehind_19 (by decide) (by omega) (by omega) (fun h5 => ?_) (fun h5 => ?_)
  · skip
    refine r_ldc (-1000002) C dX0_freeBehind_31 tw439 (by decide +kernel) ?_
    exact hret _ _ _ _ dX0_freeBehind_33 ⟨rfl, by rw [← hpl]; unfold Zc; first | exact Or.inr ⟨by omega, rfl⟩ | exact Or.inl ⟨by omega, by rw [show pl + (σ 16 pl - pl) = nx by omega]⟩⟩
  · skip
    refine r_aload_n C dX0_freeBehind_22 1 rfl ?_
    refine gX0_19 C dX0_freeBehind_23 ?_
    refine r_iload_n C dX0_freeBehind_26 0 rfl ?_
    refine r_iald 40 C dX0_freeBehind_27 (by omega) (fun _ => rfl) (by omega) (by omega) (by decide) (fun g7 => ?_)
    refine r_goto (tgt := 33) C dX0_freeBehind_28 (by decide) ?_
    exact hret _ _ _ _ dX0_freeBehind_33 ⟨rfl, by rw [← hpl]; unfold Zc; first | exact Or.inr ⟨by omega, rfl⟩ | exact Or.inl ⟨by omega, by rw [show pl + (σ 16 pl - pl) = nx by omega]⟩⟩

set_option maxHeartbeats 4000000 in
set_option maxRecDepth 100000 in
theorem m_X0_systemsOf {a : Nat → Nat} {n : Nat} {σ : ST} {g : Int} (hI : PIn σ) (hz : ∀ i, 0 ≤ i → i < σ 2 3 → 1 ≤ Zc σ i ∧ i + Zc σ i ≤ σ 2 3) (hk : WkIn σ) (hs : SyR σ σ (-1)) (hg : inR g ∧ 0 ≤ g) : MP yX0_systemsOf cX0_systemsOf 3 .int (RM 2 43) a n σ [.ref (a 3), iv g] (fun r => (walkF (Zc σ) (σ 2 3) g.toNat < σ 2 3 ∧ r = syC σ (walkF (Zc σ) (σ 2 3) g.toNat) (Zc σ (walkF (Zc σ) (σ 2 3) g.toNat))) ∨ (¬ walkF (Zc σ) (σ 2 3) g.toNat < σ 2 3 ∧ r = -1000002)) := by
  refine MI.of (own := RX0) (by decide +kernel) rfl (Nat.le_of_ble_eq_true rfl) ?_
  intro κ C hret
  show J κ 0 0 a n σ [(0, .ref (a 3)), (1, iv g)] 0 []
  obtain ⟨hsz, hpin⟩ := id hI
  have hwm := walk_mono hz hsz.1 g.toNat
  refine r_aload_n C dX0_systemsOf_0 0 rfl ?_
  refine r_iload_n C dX0_systemsOf_1 1 rfl ?_
  refine r_callP1 3 C dX0_systemsOf_2 lkX0_95 (m_X0_placeOfPage hI hz hk (by omega)) ⟨rfl, rfl, Nat.le_of_ble_eq_true rfl, Nat.le_of_ble_eq_true rfl⟩ ⟨Nat.zero_le _, Nat.zero_le _⟩ rc3 (Nat.le_of_ble_eq_true rfl) (fun pa hpa => ?_)
  refine r_istore_n C dX0_systemsOf_5 (by decide) (fun z_ => [(2, iv z_), (0, .ref (a 3)), (1, iv g)]) (fun _ => rfl) (fun pl epl => ?_)
  have hpe : pl = walkF (Zc σ) (σ 2 3) g.toNat := by omega
  refine r_iload_n C dX0_systemsOf_6 0 rfl ?_
  refine r_aload_n C dX0_systemsOf_7 1 rfl ?_
  refine gX0_9 C dX0_systemsOf_8 ?_
  refine gX0_53 C dX0_systemsOf_11 (fun g2 => ?_)
  refine r_icmp_ge (tgt := 26) C dX0_systemsOf_14 (by decide) (by omega) (by omega) (fun h3 => ?_) (fun h3 => ?_)
  · skip
    refine r_ldc (-1000002) C dX0_systemsOf_26 tw439 (by decide +kernel) ?_
    exact hret _ _ _ _ dX0_systemsOf_28 ⟨rfl, by rw [← hpe]; first | exact Or.inr ⟨by omega, rfl⟩ | exact Or.inl ⟨by omega, hs.1 pl (by omega) (by omega)⟩⟩
  · skip
    refine r_aload_n C dX0_systemsOf_17 1 rfl ?_
    refine gX0_34 C dX0_systemsOf_18 ?_
    refine r_iload_n C dX0_systemsOf_21 0 rfl ?_
    refine r_iald 40 C dX0_systemsOf_22 (by omega) (fun _ => rfl) (by omega) (by omega) (by decide) (fun g5 => ?_)
    refine r_goto (tgt := 28) C dX0_systemsOf_23 (by decide) ?_
    exact hret _ _ _ _ dX0_systemsOf_28 ⟨rfl, by rw [← hpe]; first | exact Or.inr ⟨by omega, rfl⟩ | exact Or.inl ⟨by omega, hs.1 pl (by omega) (by omega)⟩⟩

set_option maxHeartbeats 4000000 in
set_option maxRecDepth 100000 in
theorem m_X3_compare {a : Nat → Nat} {n : Nat} {σ : ST} {w : Int} (hI : PIn σ) (hk : ∀ j, 0 ≤ σ 7 j ∧ σ 7 j ≤ 7) (hw : 0 ≤ w ∧ w ≤ 40) : MP yX3_compare cX3_compare 6 .int (RM 4 87) a n σ [.ref (a 4), iv w, .ref (a 2)] (fun r => r = chkT (σ 10) (Mc σ) (σ 17) w (σ 2 3) 0 0 ∧ 0 ≤ r ∧ r ≤ 99) := by
  refine MI.of (own := RX3) (by decide +kernel) rfl (Nat.le_of_ble_eq_true rfl) ?_
  intro κ C hret
  show J κ 0 0 a n σ [(0, .ref (a 4)), (1, iv w), (2, .ref (a 2))] 0 []
  obtain ⟨hsz, hpin⟩ := id hI
  refine r_iconst C dX3_compare_0 ?_
  refine r_istore_n C dX3_compare_1 (by decide) (fun z_ => [(3, iv z_), (0, .ref (a 4)), (1, iv w), (2, .ref (a 2))]) (fun _ => rfl) (fun i0 ei0 => ?_)
  refine r_iconst C dX3_compare_2 ?_
  refine r_istore C dX3_compare_3 (by decide) (fun z_ => [(4, iv z_), (3, iv i0), (0, .ref (a 4)), (1, iv w), (2, .ref (a 2))]) (fun _ => rfl) (fun p0 ep0 => ?_)
  have lp5 : ∀ (N : Nat) (i : Int) (p : Int), (σ 2 3 - p : Int) < N → (0 ≤ i ∧ i ≤ p ∧ p ≤ σ 2 3 ∧ chkT (σ 10) (Mc σ) (σ 17) w (σ 2 3) i p = chkT (σ 10) (Mc σ) (σ 17) w (σ 2 3) 0 0) → J κ 0 0 a n σ [(0, .ref (a 4)), (1, iv w), (2, .ref (a 2)), (3, iv i), (4, iv p)] 5 [] := by
    intro N
    induction N with
    | zero =>
      intro i p hm5 hi5
      exact absurd hm5 (by omega)
    | succ N ih5 =>
      intro i p hm5 hi5
      obtain ⟨hi0, hi1, hp1, hck⟩ := hi5
      refine r_iload C dX3_compare_5 4 rfl ?_
      refine r_aload_n C dX3_compare_7 2 rfl ?_
      refine gX3_20 C dX3_compare_8 (fun g1 => ?_)
      refine r_icmp_ge (tgt := 94) C dX3_compare_11 (by decide) (by omega) (by omega) (fun h2 => ?_) (fun h2 => ?_)
      · skip
        refine r_iload_n C dX3_compare_94 3 rfl ?_
        refine r_iload_n C dX3_compare_95 1 rfl ?_
        refine r_icmp_ge (tgt := 104) C dX3_compare_96 (by decide) (by omega) (by omega) (fun h3 => ?_) (fun h3 => ?_)
        · skip
          refine r_iconst C dX3_compare_104 ?_
          exact hret _ _ _ _ dX3_compare_105 ⟨rfl, by first | (exfalso; omega) | (rw [chkT_e (by omega)] at hck; first | (rw [if_pos (by omega)] at hck; omega) | (rw [if_neg (by omega)] at hck; omega)) | (rw [if_pos (by first | exact Or.inl (by omega) | exact Or.inr hnw)] at hck; omega)⟩
        · skip
          refine r_bipush C dX3_compare_99 (by decide) ?_
          refine r_goto (tgt := 105) C dX3_compare_101 (by decide) ?_
          exact hret _ _ _ _ dX3_compare_105 ⟨rfl, by first | (exfalso; omega) | (rw [chkT_e (by omega)] at hck; first | (rw [if_pos (by omega)] at hck; omega) | (rw [if_neg (by omega)] at hck; omega)) | (rw [if_pos (by first | exact Or.inl (by omega) | exact Or.inr hnw)] at hck; omega)⟩
      · skip
        have hpp := hpin p (by omega) (by omega)
        have hlb := lenT_bd (P := σ 10) (M := Mc σ) (many := σ 2 3) (j := p + 1) (by omega)
        refine r_aload_n C dX3_compare_14 2 rfl ?_
        refine r_iload C dX3_compare_15 4 rfl ?_
        refine r_callB1 2 C dX3_compare_17 lkX3_25 (m_X1_plays hI (by omega)) ⟨rfl, rfl, Nat.le_of_ble_eq_true rfl, Nat.le_of_ble_eq_true rfl⟩ ⟨Nat.zero_le _, Nat.zero_le _⟩ rc2 (Nat.le_of_ble_eq_true rfl) (fun hpl => ?_) (fun hpl => ?_)
        · skip
          refine r_if_ne (tgt := 32) C dX3_compare_20 (by decide) (by decide) (fun _ => ?_) (fun q => absurd q (by decide))
          refine r_aload_n C dX3_compare_32 2 rfl ?_
          refine r_iload C dX3_compare_33 4 rfl ?_
          refine r_callB1 2 C dX3_compare_35 lkX3_25 (m_X1_plays hI (by omega)) ⟨rfl, rfl, Nat.le_of_ble_eq_true rfl, Nat.le_of_ble_eq_true rfl⟩ ⟨Nat.zero_le _, Nat.zero_le _⟩ rc2 (Nat.le_of_ble_eq_true rfl) (fun hpl2 => ?_) (fun hpl2 => ?_)
          · skip
            refine r_if_eq (tgt := 50) C dX3_compare_38 (by decide) (by decide) (fun q => absurd q (by decide)) (fun _ => ?_)
            refine r_aload_n C dX3_compare_41 2 rfl ?_
            refine r_iload C dX3_compare_42 4 rfl ?_
            refine r_callP1 2 C dX3_compare_44 lkX3_32 (m_X1_notesAt hI (by omega)) ⟨rfl, rfl, Nat.le_of_ble_eq_true rfl, Nat.le_of_ble_eq_true rfl⟩ ⟨Nat.zero_le _, Nat.zero_le _⟩ rc2 (Nat.le_of_ble_eq_true rfl) (fun nt hnt => ?_)
            refine r_goto (tgt := 57) C dX3_compare_47 (by decide) ?_
            refine r_istore C dX3_compare_57 (by decide) (fun z_ => [(5, iv z_), (0, .ref (a 4)), (1, iv w), (2, .ref (a 2)), (3, iv i), (4, iv p)]) (fun _ => rfl) (fun wa ewa => ?_)
            have hwa : wa = if σ 10 p = 0 then -(1 + lenT (σ 10) (Mc σ) (σ 2 3) (p + 1)) else σ 10 p := by
              first
                | (exfalso; omega)
                | (rw [if_neg (by omega)]; omega)
                | (rw [if_pos (by omega)]; omega)
            have hbg : ¬ σ 10 p = 0 ∨ bgP (σ 10) (Mc σ) p := by first | exact Or.inl (by omega) | exact Or.inr hop.2
            rw [chkT_s (show p < σ 2 3 by omega), if_pos hbg, ← hwa] at hck
            have hwb : inR wa := by omega
            refine r_iload_n C dX3_compare_59 4 rfl ?_
            refine r_iload_n C dX3_compare_60 2 rfl ?_
            refine r_icmp_ge (tgt := 81) C dX3_compare_61 (by decide) (by omega) (by omega) (fun hiw => ?_) (fun hiw => ?_)
            · skip
              refine r_iconst C dX3_compare_81 ?_
              refine r_iload_n C dX3_compare_82 4 rfl ?_
              refine r_iadd C dX3_compare_83 ?_
              exact hret _ _ _ _ dX3_compare_84 ⟨rfl, by first | (exfalso; omega) | (rw [chkT_e (by omega)] at hck; first | (rw [if_pos (by omega)] at hck; omega) | (rw [if_neg (by omega)] at hck; omega)) | (rw [if_pos (by first | exact Or.inl (by omega) | exact Or.inr hnw)] at hck; omega)⟩
            · skip
              refine r_iload_n C dX3_compare_64 4 rfl ?_
              refine r_bipush C dX3_compare_65 (by decide) ?_
              refine r_icmp_ge (tgt := 81) C dX3_compare_67 (by decide) (by omega) (by omega) (fun hi40 => ?_) (fun hi40 => ?_)
              · skip
                refine r_iconst C dX3_compare_81 ?_
                refine r_iload_n C dX3_compare_82 4 rfl ?_
                refine r_iadd C dX3_compare_83 ?_
                exact hret _ _ _ _ dX3_compare_84 ⟨rfl, by first | (exfalso; omega) | (rw [chkT_e (by omega)] at hck; first | (rw [if_pos (by omega)] at hck; omega) | (rw [if_neg (by omega)] at hck; omega)) | (rw [if_pos (by first | exact Or.inl (by omega) | exact Or.inr hnw)] at hck; omega)⟩
              · skip
                refine r_aload_n C dX3_compare_70 1 rfl ?_
                refine gX3_9 C dX3_compare_71 ?_
                refine r_iload_n C dX3_compare_74 4 rfl ?_
                refine r_iald 40 C dX3_compare_75 (by omega) (fun _ => rfl) (by omega) (by omega) (by decide) (fun g9 => ?_)
                refine r_iload C dX3_compare_76 0 rfl ?_
                refine r_icmp_eq (tgt := 85) C dX3_compare_78 (by decide) (by omega) (by omega) (fun hnw => ?_) (fun hnw => ?_)
                · skip
                  refine r_iinc C dX3_compare_85 (by decide) 4 rfl (fun z_ => [(3, iv z_), (5, iv wa), (0, .ref (a 4)), (1, iv w), (2, .ref (a 2)), (4, iv p)]) (fun _ => rfl) (fun i2 ei2 => ?_)
                  refine r_iinc C dX3_compare_88 (by decide) 5 rfl (fun z_ => [(4, iv z_), (3, iv i2), (5, iv wa), (0, .ref (a 4)), (1, iv w), (2, .ref (a 2))]) (fun _ => rfl) (fun p2 ep2 => ?_)
                  refine r_goto (tgt := 5) C dX3_compare_91 (by decide) ?_
                  refine r_sub [3, 4, 5, 1, 0] (L' := [(0, .ref (a 4)), (1, iv w), (2, .ref (a 2)), (3, iv i2), (4, iv p2)]) rfl ?_
                  exact ih5 _ _ (by omega) (by subst ep2; first | (subst ei2; refine ⟨by omega, by omega, by omega, ?_⟩; rw [if_neg (fun q => q.elim (fun q => by omega) (fun q => q hnw))] at hck; exact hck) | (refine ⟨by omega, by omega, by omega, ?_⟩; rw [chkT_s (show p < σ 2 3 by omega), if_neg (fun q => q.elim (fun q => by omega) (fun q => hop ⟨by omega, q⟩))] at hck; exact hck))
                · skip
                  refine r_iconst C dX3_compare_81 ?_
                  refine r_iload_n C dX3_compare_82 4 rfl ?_
                  refine r_iadd C dX3_compare_83 ?_
                  exact hret _ _ _ _ dX3_compare_84 ⟨rfl, by first | (exfalso; omega) | (rw [chkT_e (by omega)] at hck; first | (rw [if_pos (by omega)] at hck; omega) | (rw [if_neg (by omega)] at hck; omega)) | (rw [if_pos (by first | exact Or.inl (by omega) | exact Or.inr hnw)] at hck; omega)⟩
          · skip
            refine r_if_eq (tgt := 50) C dX3_compare_38 (by decide) (by decide) (fun _ => ?_) (fun q => absurd q (by decide))
            refine r_aload_n C dX3_compare_50 2 rfl ?_
            refine r_iload C dX3_compare_51 4 rfl ?_
            refine r_callP1 2 C dX3_compare_53 lkX3_36 (m_X1_restsLength hI (by omega) hk (by omega)) ⟨rfl, rfl, Nat.le_of_ble_eq_true rfl, Nat.le_of_ble_eq_true rfl⟩ ⟨Nat.zero_le _, Nat.zero_le _⟩ rc2 (Nat.le_of_ble_eq_true rfl) (fun ln hln => ?_)
            refine r_ineg C dX3_compare_56 ?_
            refine r_istore C dX3_compare_57 (by decide) (fun z_ => [(5, iv z_), (0, .ref (a 4)), (1, iv w), (2, .ref (a 2)), (3, iv i), (4, iv p)]) (fun _ => rfl) (fun wa ewa => ?_)
            have hwa : wa = if σ 10 p = 0 then -(1 + lenT (σ 10) (Mc σ) (σ 2 3) (p + 1)) else σ 10 p := by
              first
                | (exfalso; omega)
                | (rw [if_neg (by omega)]; omega)
                | (rw [if_pos (by omega)]; omega)
            have hbg : ¬ σ 10 p = 0 ∨ bgP (σ 10) (Mc σ) p := by first | exact Or.inl (by omega) | exact Or.inr hop.2
            rw [chkT_s (show p < σ 2 3 by omega), if_pos hbg, ← hwa] at hck
            have hwb : inR wa := by omega
            refine r_iload_n C dX3_compare_59 4 rfl ?_
            refine r_iload_n C dX3_compare_60 2 rfl ?_
            refine r_icmp_ge (tgt := 81) C dX3_compare_61 (by decide) (by omega) (by omega) (fun hiw => ?_) (fun hiw => ?_)
            · skip
              refine r_iconst C dX3_compare_81 ?_
              refine r_iload_n C dX3_compare_82 4 rfl ?_
              refine r_iadd C dX3_compare_83 ?_
              exact hret _ _ _ _ dX3_compare_84 ⟨rfl, by first | (exfalso; omega) | (rw [chkT_e (by omega)] at hck; first | (rw [if_pos (by omega)] at hck; omega) | (rw [if_neg (by omega)] at hck; omega)) | (rw [if_pos (by first | exact Or.inl (by omega) | exact Or.inr hnw)] at hck; omega)⟩
            · skip
              refine r_iload_n C dX3_compare_64 4 rfl ?_
              refine r_bipush C dX3_compare_65 (by decide) ?_
              refine r_icmp_ge (tgt := 81) C dX3_compare_67 (by decide) (by omega) (by omega) (fun hi40 => ?_) (fun hi40 => ?_)
              · skip
                refine r_iconst C dX3_compare_81 ?_
                refine r_iload_n C dX3_compare_82 4 rfl ?_
                refine r_iadd C dX3_compare_83 ?_
                exact hret _ _ _ _ dX3_compare_84 ⟨rfl, by first | (exfalso; omega) | (rw [chkT_e (by omega)] at hck; first | (rw [if_pos (by omega)] at hck; omega) | (rw [if_neg (by omega)] at hck; omega)) | (rw [if_pos (by first | exact Or.inl (by omega) | exact Or.inr hnw)] at hck; omega)⟩
              · skip
                refine r_aload_n C dX3_compare_70 1 rfl ?_
                refine gX3_9 C dX3_compare_71 ?_
                refine r_iload_n C dX3_compare_74 4 rfl ?_
                refine r_iald 40 C dX3_compare_75 (by omega) (fun _ => rfl) (by omega) (by omega) (by decide) (fun g15 => ?_)
                refine r_iload C dX3_compare_76 0 rfl ?_
                refine r_icmp_eq (tgt := 85) C dX3_compare_78 (by decide) (by omega) (by omega) (fun hnw => ?_) (fun hnw => ?_)
                · skip
                  refine r_iinc C dX3_compare_85 (by decide) 4 rfl (fun z_ => [(3, iv z_), (5, iv wa), (0, .ref (a 4)), (1, iv w), (2, .ref (a 2)), (4, iv p)]) (fun _ => rfl) (fun i2 ei2 => ?_)
                  refine r_iinc C dX3_compare_88 (by decide) 5 rfl (fun z_ => [(4, iv z_), (3, iv i2), (5, iv wa), (0, .ref (a 4)), (1, iv w), (2, .ref (a 2))]) (fun _ => rfl) (fun p2 ep2 => ?_)
                  refine r_goto (tgt := 5) C dX3_compare_91 (by decide) ?_
                  refine r_sub [3, 4, 5, 1, 0] (L' := [(0, .ref (a 4)), (1, iv w), (2, .ref (a 2)), (3, iv i2), (4, iv p2)]) rfl ?_
                  exact ih5 _ _ (by omega) (by subst ep2; first | (subst ei2; refine ⟨by omega, by omega, by omega, ?_⟩; rw [if_neg (fun q => q.elim (fun q => by omega) (fun q => q hnw))] at hck; exact hck) | (refine ⟨by omega, by omega, by omega, ?_⟩; rw [chkT_s (show p < σ 2 3 by omega), if_neg (fun q => q.elim (fun q => by omega) (fun q => hop ⟨by omega, q⟩))] at hck; exact hck))
                · skip
                  refine r_iconst C dX3_compare_81 ?_
                  refine r_iload_n C dX3_compare_82 4 rfl ?_
                  refine r_iadd C dX3_compare_83 ?_
                  exact hret _ _ _ _ dX3_compare_84 ⟨rfl, by first | (exfalso; omega) | (rw [chkT_e (by omega)] at hck; first | (rw [if_pos (by omega)] at hck; omega) | (rw [if_neg (by omega)] at hck; omega)) | (rw [if_pos (by first | exact Or.inl (by omega) | exact Or.inr hnw)] at hck; omega)⟩
        · skip
          refine r_if_ne (tgt := 32) C dX3_compare_20 (by decide) (by decide) (fun q => absurd q (by decide)) (fun _ => ?_)
          refine r_aload_n C dX3_compare_23 2 rfl ?_
          refine r_iload C dX3_compare_24 4 rfl ?_
          refine r_callB1 2 C dX3_compare_26 lkX3_29 (m_X1_opensRests hI (by omega) hk) ⟨rfl, rfl, Nat.le_of_ble_eq_true rfl, Nat.le_of_ble_eq_true rfl⟩ ⟨Nat.zero_le _, Nat.zero_le _⟩ rc2 (Nat.le_of_ble_eq_true rfl) (fun hop => ?_) (fun hop => ?_)
          · skip
            refine r_if_eq (tgt := 88) C dX3_compare_29 (by decide) (by decide) (fun q => absurd q (by decide)) (fun _ => ?_)
            refine r_aload_n C dX3_compare_32 2 rfl ?_
            refine r_iload C dX3_compare_33 4 rfl ?_
            refine r_callB1 2 C dX3_compare_35 lkX3_25 (m_X1_plays hI (by omega)) ⟨rfl, rfl, Nat.le_of_ble_eq_true rfl, Nat.le_of_ble_eq_true rfl⟩ ⟨Nat.zero_le _, Nat.zero_le _⟩ rc2 (Nat.le_of_ble_eq_true rfl) (fun hpl2 => ?_) (fun hpl2 => ?_)
            · skip
              refine r_if_eq (tgt := 50) C dX3_compare_38 (by decide) (by decide) (fun q => absurd q (by decide)) (fun _ => ?_)
              refine r_aload_n C dX3_compare_41 2 rfl ?_
              refine r_iload C dX3_compare_42 4 rfl ?_
              refine r_callP1 2 C dX3_compare_44 lkX3_32 (m_X1_notesAt hI (by omega)) ⟨rfl, rfl, Nat.le_of_ble_eq_true rfl, Nat.le_of_ble_eq_true rfl⟩ ⟨Nat.zero_le _, Nat.zero_le _⟩ rc2 (Nat.le_of_ble_eq_true rfl) (fun nt hnt => ?_)
              refine r_goto (tgt := 57) C dX3_compare_47 (by decide) ?_
              refine r_istore C dX3_compare_57 (by decide) (fun z_ => [(5, iv z_), (0, .ref (a 4)), (1, iv w), (2, .ref (a 2)), (3, iv i), (4, iv p)]) (fun _ => rfl) (fun wa ewa => ?_)
              have hwa : wa = if σ 10 p = 0 then -(1 + lenT (σ 10) (Mc σ) (σ 2 3) (p + 1)) else σ 10 p := by
                first
                  | (exfalso; omega)
                  | (rw [if_neg (by omega)]; omega)
                  | (rw [if_pos (by omega)]; omega)
              have hbg : ¬ σ 10 p = 0 ∨ bgP (σ 10) (Mc σ) p := by first | exact Or.inl (by omega) | exact Or.inr hop.2
              rw [chkT_s (show p < σ 2 3 by omega), if_pos hbg, ← hwa] at hck
              have hwb : inR wa := by omega
              refine r_iload_n C dX3_compare_59 4 rfl ?_
              refine r_iload_n C dX3_compare_60 2 rfl ?_
              refine r_icmp_ge (tgt := 81) C dX3_compare_61 (by decide) (by omega) (by omega) (fun hiw => ?_) (fun hiw => ?_)
              · skip
                refine r_iconst C dX3_compare_81 ?_
                refine r_iload_n C dX3_compare_82 4 rfl ?_
                refine r_iadd C dX3_compare_83 ?_
                exact hret _ _ _ _ dX3_compare_84 ⟨rfl, by first | (exfalso; omega) | (rw [chkT_e (by omega)] at hck; first | (rw [if_pos (by omega)] at hck; omega) | (rw [if_neg (by omega)] at hck; omega)) | (rw [if_pos (by first | exact Or.inl (by omega) | exact Or.inr hnw)] at hck; omega)⟩
              · skip
                refine r_iload_n C dX3_compare_64 4 rfl ?_
                refine r_bipush C dX3_compare_65 (by decide) ?_
                refine r_icmp_ge (tgt := 81) C dX3_compare_67 (by decide) (by omega) (by omega) (fun hi40 => ?_) (fun hi40 => ?_)
                · skip
                  refine r_iconst C dX3_compare_81 ?_
                  refine r_iload_n C dX3_compare_82 4 rfl ?_
                  refine r_iadd C dX3_compare_83 ?_
                  exact hret _ _ _ _ dX3_compare_84 ⟨rfl, by first | (exfalso; omega) | (rw [chkT_e (by omega)] at hck; first | (rw [if_pos (by omega)] at hck; omega) | (rw [if_neg (by omega)] at hck; omega)) | (rw [if_pos (by first | exact Or.inl (by omega) | exact Or.inr hnw)] at hck; omega)⟩
                · skip
                  refine r_aload_n C dX3_compare_70 1 rfl ?_
                  refine gX3_9 C dX3_compare_71 ?_
                  refine r_iload_n C dX3_compare_74 4 rfl ?_
                  refine r_iald 40 C dX3_compare_75 (by omega) (fun _ => rfl) (by omega) (by omega) (by decide) (fun g23 => ?_)
                  refine r_iload C dX3_compare_76 0 rfl ?_
                  refine r_icmp_eq (tgt := 85) C dX3_compare_78 (by decide) (by omega) (by omega) (fun hnw => ?_) (fun hnw => ?_)
                  · skip
                    refine r_iinc C dX3_compare_85 (by decide) 4 rfl (fun z_ => [(3, iv z_), (5, iv wa), (0, .ref (a 4)), (1, iv w), (2, .ref (a 2)), (4, iv p)]) (fun _ => rfl) (fun i2 ei2 => ?_)
                    refine r_iinc C dX3_compare_88 (by decide) 5 rfl (fun z_ => [(4, iv z_), (3, iv i2), (5, iv wa), (0, .ref (a 4)), (1, iv w), (2, .ref (a 2))]) (fun _ => rfl) (fun p2 ep2 => ?_)
                    refine r_goto (tgt := 5) C dX3_compare_91 (by decide) ?_
                    refine r_sub [3, 4, 5, 1, 0] (L' := [(0, .ref (a 4)), (1, iv w), (2, .ref (a 2)), (3, iv i2), (4, iv p2)]) rfl ?_
                    exact ih5 _ _ (by omega) (by subst ep2; first | (subst ei2; refine ⟨by omega, by omega, by omega, ?_⟩; rw [if_neg (fun q => q.elim (fun q => by omega) (fun q => q hnw))] at hck; exact hck) | (refine ⟨by omega, by omega, by omega, ?_⟩; rw [chkT_s (show p < σ 2 3 by omega), if_neg (fun q => q.elim (fun q => by omega) (fun q => hop ⟨by omega, q⟩))] at hck; exact hck))
                  · skip
                    refine r_iconst C dX3_compare_81 ?_
                    refine r_iload_n C dX3_compare_82 4 rfl ?_
                    refine r_iadd C dX3_compare_83 ?_
                    exact hret _ _ _ _ dX3_compare_84 ⟨rfl, by first | (exfalso; omega) | (rw [chkT_e (by omega)] at hck; first | (rw [if_pos (by omega)] at hck; omega) | (rw [if_neg (by omega)] at hck; omega)) | (rw [if_pos (by first | exact Or.inl (by omega) | exact Or.inr hnw)] at hck; omega)⟩
            · skip
              refine r_if_eq (tgt := 50) C dX3_compare_38 (by decide) (by decide) (fun _ => ?_) (fun q => absurd q (by decide))
              refine r_aload_n C dX3_compare_50 2 rfl ?_
              refine r_iload C dX3_compare_51 4 rfl ?_
              refine r_callP1 2 C dX3_compare_53 lkX3_36 (m_X1_restsLength hI (by omega) hk (by omega)) ⟨rfl, rfl, Nat.le_of_ble_eq_true rfl, Nat.le_of_ble_eq_true rfl⟩ ⟨Nat.zero_le _, Nat.zero_le _⟩ rc2 (Nat.le_of_ble_eq_true rfl) (fun ln hln => ?_)
              refine r_ineg C dX3_compare_56 ?_
              refine r_istore C dX3_compare_57 (by decide) (fun z_ => [(5, iv z_), (0, .ref (a 4)), (1, iv w), (2, .ref (a 2)), (3, iv i), (4, iv p)]) (fun _ => rfl) (fun wa ewa => ?_)
              have hwa : wa = if σ 10 p = 0 then -(1 + lenT (σ 10) (Mc σ) (σ 2 3) (p + 1)) else σ 10 p := by
                first
                  | (exfalso; omega)
                  | (rw [if_neg (by omega)]; omega)
                  | (rw [if_pos (by omega)]; omega)
              have hbg : ¬ σ 10 p = 0 ∨ bgP (σ 10) (Mc σ) p := by first | exact Or.inl (by omega) | exact Or.inr hop.2
              rw [chkT_s (show p < σ 2 3 by omega), if_pos hbg, ← hwa] at hck
              have hwb : inR wa := by omega
              refine r_iload_n C dX3_compare_59 4 rfl ?_
              refine r_iload_n C dX3_compare_60 2 rfl ?_
              refine r_icmp_ge (tgt := 81) C dX3_compare_61 (by decide) (by omega) (by omega) (fun hiw => ?_) (fun hiw => ?_)
              · skip
                refine r_iconst C dX3_compare_81 ?_
                refine r_iload_n C dX3_compare_82 4 rfl ?_
                refine r_iadd C dX3_compare_83 ?_
                exact hret _ _ _ _ dX3_compare_84 ⟨rfl, by first | (exfalso; omega) | (rw [chkT_e (by omega)] at hck; first | (rw [if_pos (by omega)] at hck; omega) | (rw [if_neg (by omega)] at hck; omega)) | (rw [if_pos (by first | exact Or.inl (by omega) | exact Or.inr hnw)] at hck; omega)⟩
              · skip
                refine r_iload_n C dX3_compare_64 4 rfl ?_
                refine r_bipush C dX3_compare_65 (by decide) ?_
                refine r_icmp_ge (tgt := 81) C dX3_compare_67 (by decide) (by omega) (by omega) (fun hi40 => ?_) (fun hi40 => ?_)
                · skip
                  refine r_iconst C dX3_compare_81 ?_
                  refine r_iload_n C dX3_compare_82 4 rfl ?_
                  refine r_iadd C dX3_compare_83 ?_
                  exact hret _ _ _ _ dX3_compare_84 ⟨rfl, by first | (exfalso; omega) | (rw [chkT_e (by omega)] at hck; first | (rw [if_pos (by omega)] at hck; omega) | (rw [if_neg (by omega)] at hck; omega)) | (rw [if_pos (by first | exact Or.inl (by omega) | exact Or.inr hnw)] at hck; omega)⟩
                · skip
                  refine r_aload_n C dX3_compare_70 1 rfl ?_
                  refine gX3_9 C dX3_compare_71 ?_
                  refine r_iload_n C dX3_compare_74 4 rfl ?_
                  refine r_iald 40 C dX3_compare_75 (by omega) (fun _ => rfl) (by omega) (by omega) (by decide) (fun g29 => ?_)
                  refine r_iload C dX3_compare_76 0 rfl ?_
                  refine r_icmp_eq (tgt := 85) C dX3_compare_78 (by decide) (by omega) (by omega) (fun hnw => ?_) (fun hnw => ?_)
                  · skip
                    refine r_iinc C dX3_compare_85 (by decide) 4 rfl (fun z_ => [(3, iv z_), (5, iv wa), (0, .ref (a 4)), (1, iv w), (2, .ref (a 2)), (4, iv p)]) (fun _ => rfl) (fun i2 ei2 => ?_)
                    refine r_iinc C dX3_compare_88 (by decide) 5 rfl (fun z_ => [(4, iv z_), (3, iv i2), (5, iv wa), (0, .ref (a 4)), (1, iv w), (2, .ref (a 2))]) (fun _ => rfl) (fun p2 ep2 => ?_)
                    refine r_goto (tgt := 5) C dX3_compare_91 (by decide) ?_
                    refine r_sub [3, 4, 5, 1, 0] (L' := [(0, .ref (a 4)), (1, iv w), (2, .ref (a 2)), (3, iv i2), (4, iv p2)]) rfl ?_
                    exact ih5 _ _ (by omega) (by subst ep2; first | (subst ei2; refine ⟨by omega, by omega, by omega, ?_⟩; rw [if_neg (fun q => q.elim (fun q => by omega) (fun q => q hnw))] at hck; exact hck) | (refine ⟨by omega, by omega, by omega, ?_⟩; rw [chkT_s (show p < σ 2 3 by omega), if_neg (fun q => q.elim (fun q => by omega) (fun q => hop ⟨by omega, q⟩))] at hck; exact hck))
                  · skip
                    refine r_iconst C dX3_compare_81 ?_
                    refine r_iload_n C dX3_compare_82 4 rfl ?_
                    refine r_iadd C dX3_compare_83 ?_
                    exact hret _ _ _ _ dX3_compare_84 ⟨rfl, by first | (exfalso; omega) | (rw [chkT_e (by omega)] at hck; first | (rw [if_pos (by omega)] at hck; omega) | (rw [if_neg (by omega)] at hck; omega)) | (rw [if_pos (by first | exact Or.inl (by omega) | exact Or.inr hnw)] at hck; omega)⟩
          · skip
            refine r_if_eq (tgt := 88) C dX3_compare_29 (by decide) (by decide) (fun _ => ?_) (fun q => absurd q (by decide))
            refine r_iinc C dX3_compare_88 (by decide) 4 rfl (fun z_ => [(4, iv z_), (0, .ref (a 4)), (1, iv w), (2, .ref (a 2)), (3, iv i)]) (fun _ => rfl) (fun p2 ep2 => ?_)
            refine r_goto (tgt := 5) C dX3_compare_91 (by decide) ?_
            refine r_sub [1, 2, 3, 4, 0] (L' := [(0, .ref (a 4)), (1, iv w), (2, .ref (a 2)), (3, iv i), (4, iv p2)]) rfl ?_
            exact ih5 _ _ (by omega) (by subst ep2; first | (subst ei2; refine ⟨by omega, by omega, by omega, ?_⟩; rw [if_neg (fun q => q.elim (fun q => by omega) (fun q => q hnw))] at hck; exact hck) | (refine ⟨by omega, by omega, by omega, ?_⟩; rw [chkT_s (show p < σ 2 3 by omega), if_neg (fun q => q.elim (fun q => by omega) (fun q => hop ⟨by omega, q⟩))] at hck; exact hck))
  refine r_sub [2, 3, 4, 1, 0] (L' := [(0, .ref (a 4)), (1, iv w), (2, .ref (a 2)), (3, iv i0), (4, iv p0)]) rfl ?_
  exact lp5 ((σ 2 3 : Int).toNat + 1) _ _ (by omega) (by subst ei0; subst ep0; exact ⟨by omega, by omega, by omega, rfl⟩)
