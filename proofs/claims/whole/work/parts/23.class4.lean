/-- only the layout's cells have changed -/
def AgC (σ τ : ST) : Prop := ∀ c, c ≠ 3 → c ≠ 11 → c ≠ 12 → c ≠ 13 → c ≠ 14 → c ≠ 15 → (c ≠ 16 ∧ c ≠ 38) → τ c = σ c
theorem AgC.rf {σ : ST} : AgC σ σ := fun _ _ _ _ _ _ _ _ => rfl
theorem AgC.tr {σ τ ρ : ST} (h : AgC σ τ) (h2 : AgC τ ρ) : AgC σ ρ := fun c a1 a2 a3 a4 a5 a6 a7 => (h2 c a1 a2 a3 a4 a5 a6 a7).trans (h c a1 a2 a3 a4 a5 a6 a7)
theorem AgC.one {σ τ : ST} {d : Nat} (h : ∀ c, c ≠ d → τ c = σ c) (hd : d = 3 ∨ d = 11 ∨ d = 12 ∨ d = 13 ∨ d = 14 ∨ d = 15 ∨ d = 16) : AgC σ τ := fun c a1 a2 a3 a4 a5 a6 a7 => h c (by omega)
theorem AgC.fr {σ τ : ST} (h : AgC σ τ) : FrC σ τ := fun c _ a2 _ _ a5 a6 a7 a8 a9 a10 => h c a2 a5 a6 a7 a8 a9 a10
theorem AgC.at2 {σ τ : ST} (h : AgC σ τ) : τ 2 = σ 2 := h 2 (by decide) (by decide) (by decide) (by decide) (by decide) (by decide) (by decide)
theorem AgC.at9 {σ τ : ST} (h : AgC σ τ) : τ 9 = σ 9 := h 9 (by decide) (by decide) (by decide) (by decide) (by decide) (by decide) (by decide)
theorem AgC.at10 {σ τ : ST} (h : AgC σ τ) : τ 10 = σ 10 := h 10 (by decide) (by decide) (by decide) (by decide) (by decide) (by decide) (by decide)
theorem AgC.at7 {σ τ : ST} (h : AgC σ τ) : τ 7 = σ 7 := h 7 (by decide) (by decide) (by decide) (by decide) (by decide) (by decide) (by decide)
theorem AgC.at6 {σ τ : ST} (h : AgC σ τ) : τ 6 = σ 6 := h 6 (by decide) (by decide) (by decide) (by decide) (by decide) (by decide) (by decide)
theorem AgC.pin {σ τ : ST} (h : AgC σ τ) (hI : PIn σ) : PIn τ := by
  unfold PIn
  rw [h.at2, h.at9, h.at10, h.at7]
  exact hI
theorem acMc {σ τ : ST} (h : AgC σ τ) : Mc τ = Mc σ := by
  funext i
  unfold Mc
  rw [h.at7, h.at9]
theorem acSc {σ τ : ST} (h : AgC σ τ) : Sc τ = Sc σ := by
  funext i
  unfold Sc
  rw [h.at6, h.at9]
theorem acLc {σ τ : ST} (h : AgC σ τ) : Lc τ = Lc σ := by
  funext o i
  unfold Lc
  rw [h (41 + 5 * o.toNat) (by omega) (by omega) (by omega) (by omega) (by omega) (by omega) (by omega), h.at9]
theorem acst {σ τ : ST} (h : AgC σ τ) : stC τ = stC σ := by
  funext o
  unfold stC
  rw [h (39 + 5 * o.toNat) (by omega) (by omega) (by omega) (by omega) (by omega) (by omega) (by omega)]
theorem accu {σ τ : ST} (h : AgC σ τ) : cuC τ = cuC σ := by
  funext n p
  unfold cuC
  rw [h.at10, acLc h, acst h, h.at2]
def wfC (σ : ST) (p : Int) : Int := if σ 10 p = 0 then 4 else σ 11 p
def syC (σ : ST) (i m : Int) : Int := (sysF (σ 11) (wfC σ) (σ 3 8) i m.toNat).1
def btC (σ : ST) (j : Int) : Int := if j < σ 2 3 ∧ σ 12 j < σ 3 10 then 1 else 0
def WIn (σ : ST) : Prop := ∀ p, 0 ≤ p → p < σ 2 3 → 0 ≤ σ 11 p ∧ σ 11 p ≤ 21
theorem WIn.wf {σ : ST} (h : WIn σ) {p : Int} (h0 : 0 ≤ p) (h1 : p < σ 2 3) : 0 ≤ wfC σ p ∧ wfC σ p ≤ 21 := by
  have := h p h0 h1
  unfold wfC
  split <;> omega
theorem sysF_bd2 (w : Int → Int) (wf : Int → Int) (wide : Int) (fr hi : Int) (hw : ∀ i, fr ≤ i → i < hi → (0 ≤ w i ∧ w i ≤ 21) ∧ 0 ≤ wf i ∧ wf i ≤ 21) : ∀ k : Nat, fr + k ≤ hi → 1 ≤ (sysF w wf wide fr k).1 ∧ (sysF w wf wide fr k).1 ≤ k + 1 ∧ 0 ≤ (sysF w wf wide fr k).2 ∧ (sysF w wf wide fr k).2 ≤ 21 * k
  | 0, _ => by simp [sysF]
  | k + 1, hk => by
    have h1 := sysF_bd2 w wf wide fr hi hw k (by omega)
    obtain ⟨h2, h3⟩ := hw (fr + k) (by omega) (by omega)
    have h5 : 0 ≤ (if k = 0 then wf (fr + k) else w (fr + k)) ∧ (if k = 0 then wf (fr + k) else w (fr + k)) ≤ 21 := by split <;> assumption
    unfold sysF
    generalize (if k = 0 then wf (fr + k) else w (fr + k)) = own at h5 ⊢
    generalize sysF w wf wide fr k = q at h1 ⊢
    split
    · exact ⟨by show 1 ≤ q.1 + 1; omega, by show q.1 + 1 ≤ _; omega, h3.1, by show wf _ ≤ _; omega⟩
    · exact ⟨by show 1 ≤ q.1; omega, by show q.1 ≤ _; omega, by show 0 ≤ q.2 + own; omega, by show q.2 + own ≤ _; omega⟩
set_option maxHeartbeats 4000000 in
set_option maxRecDepth 100000 in
theorem m_X0_widthAsFirst {a : Nat → Nat} {n : Nat} {σ : ST} {p : Int} (hI : PIn σ) (hp : 0 ≤ p ∧ p < σ 2 3) : MP yX0_widthAsFirst cX0_widthAsFirst 2 .int (RM 1 21) a n σ [.ref (a 3), iv p] (fun r => r = wfC σ p) := by
  refine MI.of (own := RX0) (by decide +kernel) rfl (Nat.le_of_ble_eq_true rfl) ?_
  intro κ C hret
  show J κ 0 0 a n σ [(0, .ref (a 3)), (1, iv p)] 0 []
  obtain ⟨hsz, hpin⟩ := id hI
  refine r_aload_n C dX0_widthAsFirst_0 0 rfl ?_
  refine gX0_9 C dX0_widthAsFirst_1 ?_
  refine r_iload_n C dX0_widthAsFirst_4 1 rfl ?_
  refine r_callB1 2 C dX0_widthAsFirst_5 lkX0_76 (m_X1_rests hI (by omega)) ⟨rfl, rfl, Nat.le_of_ble_eq_true rfl, Nat.le_of_ble_eq_true rfl⟩ ⟨Nat.zero_le _, Nat.zero_le _⟩ rc2 (Nat.le_of_ble_eq_true rfl) (fun hr => ?_) (fun hr => ?_)
  · skip
    refine r_if_eq (tgt := 15) C dX0_widthAsFirst_8 (by decide) (by decide) (fun q => absurd q (by decide)) (fun _ => ?_)
    refine r_iconst C dX0_widthAsFirst_11 ?_
    refine r_goto (tgt := 21) C dX0_widthAsFirst_12 (by decide) ?_
    exact hret _ _ _ _ dX0_widthAsFirst_21 ⟨rfl, by unfold wfC; first | rw [if_pos hr.2] | rw [if_neg (fun q => hr ⟨by omega, q⟩)]⟩
  · skip
    refine r_if_eq (tgt := 15) C dX0_widthAsFirst_8 (by decide) (by decide) (fun _ => ?_) (fun q => absurd q (by decide))
    refine r_aload_n C dX0_widthAsFirst_15 0 rfl ?_
    refine gX0_15 C dX0_widthAsFirst_16 ?_
    refine r_iload_n C dX0_widthAsFirst_19 1 rfl ?_
    refine r_iald 40 C dX0_widthAsFirst_20 (by omega) (fun _ => rfl) (by omega) (by omega) (by decide) (fun g5 => ?_)
    exact hret _ _ _ _ dX0_widthAsFirst_21 ⟨rfl, by unfold wfC; first | rw [if_pos hr.2] | rw [if_neg (fun q => hr ⟨by omega, q⟩)]⟩

set_option maxHeartbeats 4000000 in
set_option maxRecDepth 100000 in
theorem m_X0_isBadTurn {a : Nat → Nat} {n : Nat} {σ : ST} {p : Int} (hI : PIn σ) (hp : 0 ≤ p ∧ p ≤ σ 2 3) : MB yX0_isBadTurn cX0_isBadTurn 2 (RM 0 0) a n σ [.ref (a 3), iv p] (p < σ 2 3 ∧ σ 12 p < σ 3 10) := by
  refine MI.ofB (own := RX0) (by decide +kernel) rfl (Nat.le_of_ble_eq_true rfl) ?_
  intro κ C hret
  show J κ 0 0 a n σ [(0, .ref (a 3)), (1, iv p)] 0 []
  obtain ⟨hsz, hpin⟩ := id hI
  refine r_iload_n C dX0_isBadTurn_0 1 rfl ?_
  refine r_aload_n C dX0_isBadTurn_1 0 rfl ?_
  refine gX0_9 C dX0_isBadTurn_2 ?_
  refine gX0_53 C dX0_isBadTurn_5 (fun g2 => ?_)
  refine r_icmp_ge (tgt := 28) C dX0_isBadTurn_8 (by decide) (by omega) (by omega) (fun h3 => ?_) (fun h3 => ?_)
  · skip
    refine r_iconst C dX0_isBadTurn_28 ?_
    exact hret _ _ _ _ dX0_isBadTurn_29 (Or.inl rfl) (⟨rfl, Or.inr ⟨rfl, by omega⟩⟩)
  · skip
    refine r_aload_n C dX0_isBadTurn_11 0 rfl ?_
    refine gX0_19 C dX0_isBadTurn_12 ?_
    refine r_iload_n C dX0_isBadTurn_15 1 rfl ?_
    refine r_iald 40 C dX0_isBadTurn_16 (by omega) (fun _ => rfl) (by omega) (by omega) (by decide) (fun g5 => ?_)
    refine r_aload_n C dX0_isBadTurn_17 0 rfl ?_
    refine gX0_44 C dX0_isBadTurn_18 (fun g6 => ?_)
    refine r_icmp_ge (tgt := 28) C dX0_isBadTurn_21 (by decide) (by omega) (by omega) (fun h7 => ?_) (fun h7 => ?_)
    · skip
      refine r_iconst C dX0_isBadTurn_28 ?_
      exact hret _ _ _ _ dX0_isBadTurn_29 (Or.inl rfl) (⟨rfl, Or.inr ⟨rfl, by omega⟩⟩)
    · skip
      refine r_iconst C dX0_isBadTurn_24 ?_
      refine r_goto (tgt := 29) C dX0_isBadTurn_25 (by decide) ?_
      exact hret _ _ _ _ dX0_isBadTurn_29 (Or.inr rfl) (⟨rfl, Or.inl ⟨rfl, by omega⟩⟩)

set_option maxHeartbeats 4000000 in
set_option maxRecDepth 100000 in
theorem m_X0_measure {a : Nat → Nat} {n : Nat} {σ : ST} (hI : PIn σ) (hC : CS σ n) (hd : 1 ≤ σ 2 5 ∧ σ 2 5 ≤ 20) : MV yX0_measure cX0_measure 2 (RM 3 71) a n σ [.ref (a 3)] (fun σ1 => (∀ c, c ≠ 11 → σ1 c = σ c) ∧ ∀ p, 0 ≤ p → p < σ 2 3 → σ1 11 p = widF (σ 10) (Mc σ) (cuC σ n) p False) := by
  refine MV.of (own := RX0) (by decide +kernel) rfl (Nat.le_of_ble_eq_true rfl) ?_
  intro κ C hret
  show J κ 0 0 a n σ [(0, .ref (a 3))] 0 []
  obtain ⟨hsz, hpin⟩ := id hI
  refine r_iconst C dX0_measure_0 ?_
  refine r_istore_n C dX0_measure_1 (by decide) (fun z_ => [(1, iv z_), (0, .ref (a 3))]) (fun _ => rfl) (fun p0 ep0 => ?_)
  have lp2 : ∀ (N : Nat) (p : Int) (τ : ST), (σ 2 3 - p : Int) < N → (0 ≤ p ∧ p ≤ σ 2 3 ∧ (∀ c, c ≠ 11 → τ c = σ c) ∧ ∀ q, 0 ≤ q → q < p → τ 11 q = widF (σ 10) (Mc σ) (cuC σ n) q False) → J κ 0 0 a n τ [(0, .ref (a 3)), (1, iv p)] 2 [] := by
    intro N
    induction N with
    | zero =>
      intro p τ hm2 hi2
      exact absurd hm2 (by omega)
    | succ N ih2 =>
      intro p τ hm2 hi2
      obtain ⟨hp0, hp1, hp2, hp3⟩ := hi2
      have hag : AgC σ τ := AgC.one hp2 (by omega)
      have hIt := hag.pin hI
      have hCt := hag.fr.cs hC
      have hkt := hCt.2.2.2.2.2.2.2.2.2.2.1
      have e2 := hag.at2
      have e23 : τ 2 3 = σ 2 3 := by rw [e2]
      have e25 : τ 2 5 = σ 2 5 := by rw [e2]
      have e10 := congrFun hag.at10 p
      refine r_iload_n C dX0_measure_2 1 rfl ?_
      refine r_aload_n C dX0_measure_3 0 rfl ?_
      refine gX0_9 C dX0_measure_4 ?_
      refine gX0_53 C dX0_measure_7 (fun g2 => ?_)
      refine r_icmp_ge (tgt := 88) C dX0_measure_10 (by decide) (by omega) (by omega) (fun h3 => ?_) (fun h3 => ?_)
      · skip
        exact hret _ _ _ dX0_measure_88 (⟨hp2, fun q h1 h2 => hp3 q h1 (by omega)⟩)
      · skip
        have hpp := hpin p (by omega) (by omega)
        refine r_aload_n C dX0_measure_13 0 rfl ?_
        refine gX0_9 C dX0_measure_14 ?_
        refine r_iload_n C dX0_measure_17 1 rfl ?_
        refine r_callB1 2 C dX0_measure_18 lkX0_62 (m_X1_plays hIt (by omega)) ⟨rfl, rfl, Nat.le_of_ble_eq_true rfl, Nat.le_of_ble_eq_true rfl⟩ ⟨Nat.zero_le _, Nat.zero_le _⟩ rc2 (Nat.le_of_ble_eq_true rfl) (fun hpl => ?_) (fun hpl => ?_)
        · skip
          refine r_if_eq (tgt := 60) C dX0_measure_21 (by decide) (by decide) (fun q => absurd q (by decide)) (fun _ => ?_)
          refine r_aload_n C dX0_measure_24 0 rfl ?_
          refine gX0_15 C dX0_measure_25 ?_
          refine r_iload_n C dX0_measure_28 1 rfl ?_
          refine r_iconst C dX0_measure_29 ?_
          refine r_aload_n C dX0_measure_30 0 rfl ?_
          refine gX0_9 C dX0_measure_31 ?_
          refine r_iload_n C dX0_measure_34 1 rfl ?_
          refine r_callP1 2 C dX0_measure_35 lkX0_66 (m_X1_notesAt hIt (by omega)) ⟨rfl, rfl, Nat.le_of_ble_eq_true rfl, Nat.le_of_ble_eq_true rfl⟩ ⟨Nat.zero_le _, Nat.zero_le _⟩ rc2 (Nat.le_of_ble_eq_true rfl) (fun nt hnt => ?_)
          refine r_iadd C dX0_measure_38 ?_
          refine r_aload_n C dX0_measure_39 0 rfl ?_
          refine gX0_9 C dX0_measure_40 ?_
          refine r_iload_n C dX0_measure_43 1 rfl ?_
          refine r_callP1 2 C dX0_measure_44 lkX0_70 (m_X1_cueAt hIt hCt (by omega) (by omega)) ⟨rfl, rfl, Nat.le_of_ble_eq_true rfl, Nat.le_of_ble_eq_true rfl⟩ ⟨Nat.zero_le _, Nat.zero_le _⟩ rc2 (Nat.le_of_ble_eq_true rfl) (fun cu hcu => ?_)
          rw [accu hag] at hcu
          refine r_if_lt (tgt := 54) C dX0_measure_47 (by decide) (by omega) (fun hcl => ?_) (fun hcl => ?_)
          · skip
            refine r_iconst C dX0_measure_54 ?_
            refine r_iadd C dX0_measure_55 ?_
            refine r_iast 40 C dX0_measure_56 (by omega) (fun _ _ => rfl) (by omega) (by omega) (by decide) (by omega) ?_
            refine r_goto (tgt := 82) C dX0_measure_57 (by decide) ?_
            refine r_iinc C dX0_measure_82 (by decide) 1 rfl (fun z_ => [(1, iv z_), (0, .ref (a 3))]) (fun _ => rfl) (fun p2 ep2 => ?_)
            refine r_goto (tgt := 2) C dX0_measure_85 (by decide) ?_
            refine r_sub [1, 0] (L' := [(0, .ref (a 3)), (1, iv p2)]) rfl ?_
            exact ih2 _ _ (by omega) (by subst ep2; refine ⟨by omega, by omega, fun c hc => by rw [up2_ne hc]; exact hp2 c hc, fun q h1 h2 => ?_⟩; by_cases hq : q = p; (subst hq; rw [up2_self]; unfold widF; first | (rw [if_neg (by omega)]; first | (rw [if_pos (by omega)]; omega) | (rw [if_neg (by omega)]; omega)) | (rw [if_pos (by omega)]; rw [hag.at10, acMc hag] at hop; first | (rw [if_pos (Or.inr hop.2)]) | (rw [if_neg (fun q9 => q9.elim id (fun q8 => hop ⟨by omega, q8⟩))]))); (rw [up2_at hq]; exact hp3 q h1 (by omega)))
          · skip
            refine r_iconst C dX0_measure_50 ?_
            refine r_goto (tgt := 55) C dX0_measure_51 (by decide) ?_
            refine r_iadd C dX0_measure_55 ?_
            refine r_iast 40 C dX0_measure_56 (by omega) (fun _ _ => rfl) (by omega) (by omega) (by decide) (by omega) ?_
            refine r_goto (tgt := 82) C dX0_measure_57 (by decide) ?_
            refine r_iinc C dX0_measure_82 (by decide) 1 rfl (fun z_ => [(1, iv z_), (0, .ref (a 3))]) (fun _ => rfl) (fun p2 ep2 => ?_)
            refine r_goto (tgt := 2) C dX0_measure_85 (by decide) ?_
            refine r_sub [1, 0] (L' := [(0, .ref (a 3)), (1, iv p2)]) rfl ?_
            exact ih2 _ _ (by omega) (by subst ep2; refine ⟨by omega, by omega, fun c hc => by rw [up2_ne hc]; exact hp2 c hc, fun q h1 h2 => ?_⟩; by_cases hq : q = p; (subst hq; rw [up2_self]; unfold widF; first | (rw [if_neg (by omega)]; first | (rw [if_pos (by omega)]; omega) | (rw [if_neg (by omega)]; omega)) | (rw [if_pos (by omega)]; rw [hag.at10, acMc hag] at hop; first | (rw [if_pos (Or.inr hop.2)]) | (rw [if_neg (fun q9 => q9.elim id (fun q8 => hop ⟨by omega, q8⟩))]))); (rw [up2_at hq]; exact hp3 q h1 (by omega)))
        · skip
          refine r_if_eq (tgt := 60) C dX0_measure_21 (by decide) (by decide) (fun _ => ?_) (fun q => absurd q (by decide))
          refine r_aload_n C dX0_measure_60 0 rfl ?_
          refine gX0_15 C dX0_measure_61 ?_
          refine r_iload_n C dX0_measure_64 1 rfl ?_
          refine r_aload_n C dX0_measure_65 0 rfl ?_
          refine gX0_9 C dX0_measure_66 ?_
          refine r_iload_n C dX0_measure_69 1 rfl ?_
          refine r_callB1 2 C dX0_measure_70 lkX0_73 (m_X1_opensRests hIt (by omega) hkt) ⟨rfl, rfl, Nat.le_of_ble_eq_true rfl, Nat.le_of_ble_eq_true rfl⟩ ⟨Nat.zero_le _, Nat.zero_le _⟩ rc2 (Nat.le_of_ble_eq_true rfl) (fun hop => ?_) (fun hop => ?_)
          · skip
            refine r_if_eq (tgt := 80) C dX0_measure_73 (by decide) (by decide) (fun q => absurd q (by decide)) (fun _ => ?_)
            refine r_iconst C dX0_measure_76 ?_
            refine r_goto (tgt := 81) C dX0_measure_77 (by decide) ?_
            refine r_iast 40 C dX0_measure_81 (by omega) (fun _ _ => rfl) (by omega) (by omega) (by decide) (by omega) ?_
            refine r_iinc C dX0_measure_82 (by decide) 1 rfl (fun z_ => [(1, iv z_), (0, .ref (a 3))]) (fun _ => rfl) (fun p2 ep2 => ?_)
            refine r_goto (tgt := 2) C dX0_measure_85 (by decide) ?_
            refine r_sub [1, 0] (L' := [(0, .ref (a 3)), (1, iv p2)]) rfl ?_
            exact ih2 _ _ (by omega) (by subst ep2; refine ⟨by omega, by omega, fun c hc => by rw [up2_ne hc]; exact hp2 c hc, fun q h1 h2 => ?_⟩; by_cases hq : q = p; (subst hq; rw [up2_self]; unfold widF; first | (rw [if_neg (by omega)]; first | (rw [if_pos (by omega)]; omega) | (rw [if_neg (by omega)]; omega)) | (rw [if_pos (by omega)]; rw [hag.at10, acMc hag] at hop; first | (rw [if_pos (Or.inr hop.2)]) | (rw [if_neg (fun q9 => q9.elim id (fun q8 => hop ⟨by omega, q8⟩))]))); (rw [up2_at hq]; exact hp3 q h1 (by omega)))
          · skip
            refine r_if_eq (tgt := 80) C dX0_measure_73 (by decide) (by decide) (fun _ => ?_) (fun q => absurd q (by decide))
            refine r_iconst C dX0_measure_80 ?_
            refine r_iast 40 C dX0_measure_81 (by omega) (fun _ _ => rfl) (by omega) (by omega) (by decide) (by omega) ?_
            refine r_iinc C dX0_measure_82 (by decide) 1 rfl (fun z_ => [(1, iv z_), (0, .ref (a 3))]) (fun _ => rfl) (fun p2 ep2 => ?_)
            refine r_goto (tgt := 2) C dX0_measure_85 (by decide) ?_
            refine r_sub [1, 0] (L' := [(0, .ref (a 3)), (1, iv p2)]) rfl ?_
            exact ih2 _ _ (by omega) (by subst ep2; refine ⟨by omega, by omega, fun c hc => by rw [up2_ne hc]; exact hp2 c hc, fun q h1 h2 => ?_⟩; by_cases hq : q = p; (subst hq; rw [up2_self]; unfold widF; first | (rw [if_neg (by omega)]; first | (rw [if_pos (by omega)]; omega) | (rw [if_neg (by omega)]; omega)) | (rw [if_pos (by omega)]; rw [hag.at10, acMc hag] at hop; first | (rw [if_pos (Or.inr hop.2)]) | (rw [if_neg (fun q9 => q9.elim id (fun q8 => hop ⟨by omega, q8⟩))]))); (rw [up2_at hq]; exact hp3 q h1 (by omega)))
  refine r_sub [1, 0] (L' := [(0, .ref (a 3)), (1, iv p0)]) rfl ?_
  exact lp2 ((σ 2 3 : Int).toNat + 1) _ _ (by omega) (by subst ep0; exact ⟨by omega, by omega, fun _ _ => rfl, fun q h1 h2 => by omega⟩)

set_option maxHeartbeats 4000000 in
set_option maxRecDepth 100000 in
theorem m_X0_timeTurns {a : Nat → Nat} {n : Nat} {σ : ST} (hI : PIn σ) (hse : ∀ j, 0 ≤ σ 6 j ∧ σ 6 j ≤ 60) : MV yX0_timeTurns cX0_timeTurns 4 (RM 2 42) a n σ [.ref (a 3)] (fun σ1 => (∀ c, c ≠ 12 → σ1 c = σ c) ∧ ∀ p, 0 ≤ p → p < σ 2 3 → σ1 12 p = freF (σ 10) (Sc σ) (σ 2 3) p) := by
  refine MV.of (own := RX0) (by decide +kernel) rfl (Nat.le_of_ble_eq_true rfl) ?_
  intro κ C hret
  show J κ 0 0 a n σ [(0, .ref (a 3))] 0 []
  obtain ⟨hsz, hpin⟩ := id hI
  have hS : ∀ j, 0 ≤ Sc σ j ∧ Sc σ j ≤ 60 := fun j => hse _
  refine r_iconst C dX0_timeTurns_0 ?_
  refine r_istore_n C dX0_timeTurns_1 (by decide) (fun z_ => [(1, iv z_), (0, .ref (a 3))]) (fun _ => rfl) (fun a0 ea0 => ?_)
  refine r_iconst C dX0_timeTurns_2 ?_
  refine r_istore_n C dX0_timeTurns_3 (by decide) (fun z_ => [(2, iv z_), (1, iv a0), (0, .ref (a 3))]) (fun _ => rfl) (fun p0 ep0 => ?_)
  have lp4 : ∀ (N : Nat) (ah : Int) (p : Int) (τ : ST), (σ 2 3 - p : Int) < N → (0 ≤ p ∧ p ≤ σ 2 3 ∧ ah = dnF (σ 10) (Sc σ) p.toNat ∧ (∀ c, c ≠ 12 → τ c = σ c) ∧ ∀ j, 0 ≤ j → j < p → τ 12 j = dnF (σ 10) (Sc σ) j.toNat) → J κ 0 0 a n τ [(0, .ref (a 3)), (1, iv ah), (2, iv p)] 4 [] := by
    intro N
    induction N with
    | zero =>
      intro ah p τ hm4 hi4
      exact absurd hm4 (by omega)
    | succ N ih4 =>
      intro ah p τ hm4 hi4
      obtain ⟨hp0, hp1, hah, hfr, hp3⟩ := hi4
      have hag : AgC σ τ := AgC.one hfr (by omega)
      have hIt := hag.pin hI
      have e2 := hag.at2
      have e23 : τ 2 3 = σ 2 3 := by rw [e2]
      have e10 := congrFun hag.at10 p
      have hab := dnF_bd (σ 10) (Sc σ) hS p.toNat
      have hsp := hS p
      unfold Sc at hsp
      refine r_iload_n C dX0_timeTurns_4 2 rfl ?_
      refine r_aload_n C dX0_timeTurns_5 0 rfl ?_
      refine gX0_9 C dX0_timeTurns_6 ?_
      refine gX0_53 C dX0_timeTurns_9 (fun g2 => ?_)
      refine r_icmp_ge (tgt := 54) C dX0_timeTurns_12 (by decide) (by omega) (by omega) (fun h3 => ?_) (fun h3 => ?_)
      · skip
        refine r_iconst C dX0_timeTurns_54 ?_
        refine r_istore_n C dX0_timeTurns_55 (by decide) (fun z_ => [(2, iv z_), (0, .ref (a 3)), (1, iv ah)]) (fun _ => rfl) (fun b0 eb0 => ?_)
        refine r_aload_n C dX0_timeTurns_56 1 rfl ?_
        refine gX0_9 C dX0_timeTurns_57 ?_
        refine gX0_53 C dX0_timeTurns_60 (fun g5 => ?_)
        refine r_iconst C dX0_timeTurns_63 ?_
        refine r_isub C dX0_timeTurns_64 ?_
        refine r_istore_n C dX0_timeTurns_65 (by decide) (fun z_ => [(3, iv z_), (2, iv b0), (0, .ref (a 3)), (1, iv ah)]) (fun _ => rfl) (fun q0 eq0 => ?_)
        have lp66 : ∀ (N : Nat) (bh : Int) (q : Int) (τ2 : ST), (q + 1 : Int) < N → (-1 ≤ q ∧ q < σ 2 3 ∧ bh = upT (σ 10) (Sc σ) (σ 2 3) (q + 1) ∧ (∀ c, c ≠ 12 → τ2 c = σ c) ∧ (∀ j, q < j → j < σ 2 3 → τ2 12 j = freF (σ 10) (Sc σ) (σ 2 3) j) ∧ ∀ j, 0 ≤ j → j ≤ q → τ2 12 j = dnF (σ 10) (Sc σ) j.toNat) → J κ 0 0 a n τ2 [(0, .ref (a 3)), (1, iv ah), (2, iv bh), (3, iv q)] 66 [] := by
          intro N
          induction N with
          | zero =>
            intro bh q τ2 hm66 hi66
            exact absurd hm66 (by omega)
          | succ N ih66 =>
            intro bh q τ2 hm66 hi66
            obtain ⟨hq0, hq1, hbh, hfr2, hq3, hq4⟩ := hi66
            have hag2 : AgC σ τ2 := AgC.one hfr2 (by omega)
            have hIt := hag2.pin hI
            have e2b := hag2.at2
            have e23b : τ2 2 3 = σ 2 3 := by rw [e2b]
            have e10b := congrFun hag2.at10 q
            have hub := upF_bd (σ 10) (Sc σ) hS (σ 2 3 - (q + 1)).toNat (q + 1)
            have hub2 : bh = upF (σ 10) (Sc σ) (σ 2 3 - (q + 1)).toNat (q + 1) := hbh
            have hdb := dnF_bd (σ 10) (Sc σ) hS q.toNat
            have hsq := hS q
            unfold Sc at hsq
            refine r_iload_n C dX0_timeTurns_66 3 rfl ?_
            refine r_if_lt (tgt := 112) C dX0_timeTurns_67 (by decide) (by omega) (fun h6 => ?_) (fun h6 => ?_)
            · skip
              exact hret _ _ _ dX0_timeTurns_112 (⟨hfr2, fun j h1 h2 => hq3 j (by omega) h2⟩)
            · skip
              refine r_aload_n C dX0_timeTurns_70 0 rfl ?_
              refine gX0_9 C dX0_timeTurns_71 ?_
              refine r_iload_n C dX0_timeTurns_74 3 rfl ?_
              refine r_callB1 2 C dX0_timeTurns_75 lkX0_76 (m_X1_rests hIt (by omega)) ⟨rfl, rfl, Nat.le_of_ble_eq_true rfl, Nat.le_of_ble_eq_true rfl⟩ ⟨Nat.zero_le _, Nat.zero_le _⟩ rc2 (Nat.le_of_ble_eq_true rfl) (fun hr => ?_) (fun hr => ?_)
              · skip
                refine r_if_eq (tgt := 94) C dX0_timeTurns_78 (by decide) (by decide) (fun q => absurd q (by decide)) (fun _ => ?_)
                refine r_iload_n C dX0_timeTurns_81 2 rfl ?_
                refine r_aload_n C dX0_timeTurns_82 0 rfl ?_
                refine gX0_9 C dX0_timeTurns_83 ?_
                refine r_iload_n C dX0_timeTurns_86 3 rfl ?_
                refine r_callP1 2 C dX0_timeTurns_87 lkX0_79 (m_X1_secondsAt hIt (by omega)) ⟨rfl, rfl, Nat.le_of_ble_eq_true rfl, Nat.le_of_ble_eq_true rfl⟩ ⟨Nat.zero_le _, Nat.zero_le _⟩ rc2 (Nat.le_of_ble_eq_true rfl) (fun sk hsk => ?_)
                rw [hag2.at6, hag2.at9, e23b] at hsk
                refine r_iadd C dX0_timeTurns_90 ?_
                refine r_goto (tgt := 95) C dX0_timeTurns_91 (by decide) ?_
                refine r_istore_n C dX0_timeTurns_95 (by decide) (fun z_ => [(2, iv z_), (0, .ref (a 3)), (1, iv ah), (3, iv q)]) (fun _ => rfl) (fun b2 eb2 => ?_)
                have hb3 : b2 = upT (σ 10) (Sc σ) (σ 2 3) q := by
                  rw [upT_s (show q < σ 2 3 by omega)]
                  first
                    | (rw [if_pos (by omega), ← hbh]; unfold Sc; omega)
                    | (rw [if_neg (by omega)]; omega)
                have hq5 := hq4 q (by omega) (by omega)
                refine r_aload_n C dX0_timeTurns_96 1 rfl ?_
                refine gX0_19 C dX0_timeTurns_97 ?_
                refine r_iload_n C dX0_timeTurns_100 3 rfl ?_
                refine r_dup2 C dX0_timeTurns_101 rfl rfl ?_
                refine r_iald 40 C dX0_timeTurns_102 (by omega) (fun _ => rfl) (by omega) (by omega) (by decide) (fun g11 => ?_)
                refine r_iload_n C dX0_timeTurns_103 0 rfl ?_
                refine r_iadd C dX0_timeTurns_104 ?_
                refine r_iast 40 C dX0_timeTurns_105 (by omega) (fun _ _ => rfl) (by omega) (by omega) (by decide) (by omega) ?_
                refine r_iinc C dX0_timeTurns_106 (by decide) 3 rfl (fun z_ => [(3, iv z_), (2, iv b2), (0, .ref (a 3)), (1, iv ah)]) (fun _ => rfl) (fun q2 eq2 => ?_)
                refine r_goto (tgt := 66) C dX0_timeTurns_109 (by decide) ?_
                refine r_sub [2, 3, 1, 0] (L' := [(0, .ref (a 3)), (1, iv ah), (2, iv b2), (3, iv q2)]) rfl ?_
                exact ih66 _ _ _ (by omega) (by subst eq2; refine ⟨by omega, by omega, ?_, fun c hc => by rw [up2_ne hc]; exact hfr2 c hc, fun j h1 h2 => ?_, fun j h1 h2 => ?_⟩; (rw [show q + -1 + 1 = q by omega]; exact hb3); (by_cases hj : j = q; (subst hj; rw [up2_self]; unfold freF; omega); (rw [up2_at hj]; exact hq3 j (by omega) h2)); (rw [up2_at (by omega)]; exact hq4 j h1 (by omega)))
              · skip
                refine r_if_eq (tgt := 94) C dX0_timeTurns_78 (by decide) (by decide) (fun _ => ?_) (fun q => absurd q (by decide))
                refine r_iconst C dX0_timeTurns_94 ?_
                refine r_istore_n C dX0_timeTurns_95 (by decide) (fun z_ => [(2, iv z_), (0, .ref (a 3)), (1, iv ah), (3, iv q)]) (fun _ => rfl) (fun b2 eb2 => ?_)
                have hb3 : b2 = upT (σ 10) (Sc σ) (σ 2 3) q := by
                  rw [upT_s (show q < σ 2 3 by omega)]
                  first
                    | (rw [if_pos (by omega), ← hbh]; unfold Sc; omega)
                    | (rw [if_neg (by omega)]; omega)
                have hq5 := hq4 q (by omega) (by omega)
                refine r_aload_n C dX0_timeTurns_96 1 rfl ?_
                refine gX0_19 C dX0_timeTurns_97 ?_
                refine r_iload_n C dX0_timeTurns_100 3 rfl ?_
                refine r_dup2 C dX0_timeTurns_101 rfl rfl ?_
                refine r_iald 40 C dX0_timeTurns_102 (by omega) (fun _ => rfl) (by omega) (by omega) (by decide) (fun g14 => ?_)
                refine r_iload_n C dX0_timeTurns_103 0 rfl ?_
                refine r_iadd C dX0_timeTurns_104 ?_
                refine r_iast 40 C dX0_timeTurns_105 (by omega) (fun _ _ => rfl) (by omega) (by omega) (by decide) (by omega) ?_
                refine r_iinc C dX0_timeTurns_106 (by decide) 3 rfl (fun z_ => [(3, iv z_), (2, iv b2), (0, .ref (a 3)), (1, iv ah)]) (fun _ => rfl) (fun q2 eq2 => ?_)
                refine r_goto (tgt := 66) C dX0_timeTurns_109 (by decide) ?_
                refine r_sub [2, 3, 1, 0] (L' := [(0, .ref (a 3)), (1, iv ah), (2, iv b2), (3, iv q2)]) rfl ?_
                exact ih66 _ _ _ (by omega) (by subst eq2; refine ⟨by omega, by omega, ?_, fun c hc => by rw [up2_ne hc]; exact hfr2 c hc, fun j h1 h2 => ?_, fun j h1 h2 => ?_⟩; (rw [show q + -1 + 1 = q by omega]; exact hb3); (by_cases hj : j = q; (subst hj; rw [up2_self]; unfold freF; omega); (rw [up2_at hj]; exact hq3 j (by omega) h2)); (rw [up2_at (by omega)]; exact hq4 j h1 (by omega)))
        refine r_sub [2, 3, 1, 0] (L' := [(0, .ref (a 3)), (1, iv ah), (2, iv b0), (3, iv q0)]) rfl ?_
        exact lp66 ((σ 2 3 : Int).toNat + 1) _ _ _ (by omega) (by subst eb0; subst eq0; refine ⟨by omega, by omega, ?_, hfr, fun j h1 h2 => by omega, fun j h1 h2 => hp3 j h1 (by omega)⟩; rw [upT_e (by omega)])
      · skip
        refine r_aload_n C dX0_timeTurns_15 0 rfl ?_
        refine gX0_19 C dX0_timeTurns_16 ?_
        refine r_iload_n C dX0_timeTurns_19 2 rfl ?_
        refine r_iload_n C dX0_timeTurns_20 1 rfl ?_
        refine r_iast 40 C dX0_timeTurns_21 (by omega) (fun _ _ => rfl) (by omega) (by omega) (by decide) (by omega) ?_
        refine r_st (fun τ1 hτ1 => ?_)
        have hfr1 : ∀ c, c ≠ 12 → τ1 c = σ c := fun c hc => by rw [hτ1, up2_ne hc]; exact hfr c hc
        have hag : AgC σ τ1 := AgC.one hfr1 (by omega)
        have hIt := hag.pin hI
        have e23 : τ1 2 3 = σ 2 3 := by rw [hag.at2]
        have e10 := congrFun hag.at10 p
        refine r_aload_n C dX0_timeTurns_22 0 rfl ?_
        refine gX0_9 C dX0_timeTurns_23 ?_
        refine r_iload_n C dX0_timeTurns_26 2 rfl ?_
        refine r_callB1 2 C dX0_timeTurns_27 lkX0_76 (m_X1_rests hIt (by omega)) ⟨rfl, rfl, Nat.le_of_ble_eq_true rfl, Nat.le_of_ble_eq_true rfl⟩ ⟨Nat.zero_le _, Nat.zero_le _⟩ rc2 (Nat.le_of_ble_eq_true rfl) (fun hr => ?_) (fun hr => ?_)
        · skip
          refine r_if_eq (tgt := 46) C dX0_timeTurns_30 (by decide) (by decide) (fun q => absurd q (by decide)) (fun _ => ?_)
          refine r_iload_n C dX0_timeTurns_33 1 rfl ?_
          refine r_aload_n C dX0_timeTurns_34 0 rfl ?_
          refine gX0_9 C dX0_timeTurns_35 ?_
          refine r_iload_n C dX0_timeTurns_38 2 rfl ?_
          refine r_callP1 2 C dX0_timeTurns_39 lkX0_79 (m_X1_secondsAt hIt (by omega)) ⟨rfl, rfl, Nat.le_of_ble_eq_true rfl, Nat.le_of_ble_eq_true rfl⟩ ⟨Nat.zero_le _, Nat.zero_le _⟩ rc2 (Nat.le_of_ble_eq_true rfl) (fun sk hsk => ?_)
          rw [hag.at6, hag.at9, e23] at hsk
          refine r_iadd C dX0_timeTurns_42 ?_
          refine r_goto (tgt := 47) C dX0_timeTurns_43 (by decide) ?_
          refine r_istore_n C dX0_timeTurns_47 (by decide) (fun z_ => [(1, iv z_), (0, .ref (a 3)), (2, iv p)]) (fun _ => rfl) (fun a2 ea2 => ?_)
          refine r_iinc C dX0_timeTurns_48 (by decide) 2 rfl (fun z_ => [(2, iv z_), (1, iv a2), (0, .ref (a 3))]) (fun _ => rfl) (fun p2 ep2 => ?_)
          refine r_goto (tgt := 4) C dX0_timeTurns_51 (by decide) ?_
          refine r_sub [2, 1, 0] (L' := [(0, .ref (a 3)), (1, iv a2), (2, iv p2)]) rfl ?_
          exact ih4 _ _ _ (by omega) (by subst ep2; refine ⟨by omega, by omega, ?_, hfr1, fun j h1 h2 => ?_⟩; (rw [dnF_s _ _ hp0]; first | (rw [if_pos (by omega), ← hah]; unfold Sc; omega) | (rw [if_neg (by omega)]; omega)); (by_cases hj : j = p; (subst hj; rw [hτ1, up2_self]; exact hah); (rw [hτ1, up2_at hj]; exact hp3 j h1 (by omega))))
        · skip
          refine r_if_eq (tgt := 46) C dX0_timeTurns_30 (by decide) (by decide) (fun _ => ?_) (fun q => absurd q (by decide))
          refine r_iconst C dX0_timeTurns_46 ?_
          refine r_istore_n C dX0_timeTurns_47 (by decide) (fun z_ => [(1, iv z_), (0, .ref (a 3)), (2, iv p)]) (fun _ => rfl) (fun a2 ea2 => ?_)
          refine r_iinc C dX0_timeTurns_48 (by decide) 2 rfl (fun z_ => [(2, iv z_), (1, iv a2), (0, .ref (a 3))]) (fun _ => rfl) (fun p2 ep2 => ?_)
          refine r_goto (tgt := 4) C dX0_timeTurns_51 (by decide) ?_
          refine r_sub [2, 1, 0] (L' := [(0, .ref (a 3)), (1, iv a2), (2, iv p2)]) rfl ?_
          exact ih4 _ _ _ (by omega) (by subst ep2; refine ⟨by omega, by omega, ?_, hfr1, fun j h1 h2 => ?_⟩; (rw [dnF_s _ _ hp0]; first | (rw [if_pos (by omega), ← hah]; unfold Sc; omega) | (rw [if_neg (by omega)]; omega)); (by_cases hj : j = p; (subst hj; rw [hτ1, up2_self]; exact hah); (rw [hτ1, up2_at hj]; exact hp3 j h1 (by omega))))
  refine r_sub [2, 1, 0] (L' := [(0, .ref (a 3)), (1, iv a0), (2, iv p0)]) rfl ?_
  exact lp4 ((σ 2 3 : Int).toNat + 1) _ _ _ (by omega) (by subst ea0; subst ep0; exact ⟨by omega, by omega, rfl, fun _ _ => rfl, fun j h1 h2 => by omega⟩)
