set_option maxHeartbeats 4000000 in
set_option maxRecDepth 100000 in
theorem m_X5_rest {a : Nat → Nat} {n : Nat} {σ : ST} (hC : CS σ n) {v i : Int} (hv1 : inR v) (hi1 : inR i) : MI yX5_rest cX5_rest 3 .int (RM 5 110) a n σ [.ref (a 0), iv v, iv i] (fun r σ1 => (((0 ≤ v ∧ v < n) ∧ 0 ≤ i) ∧ ∃ ρ, DrC σ ρ v (σ 0 6) ∧ ((0 ≤ rtC ρ i ∧ r = rtC ρ i ∧ σ1 = ρ) ∨ (rtC ρ i = -1 ∧ r = -1000002 ∧ σ1 = fd ρ 5 2))) ∨ (¬ ((0 ≤ v ∧ v < n) ∧ 0 ≤ i) ∧ r = -1000001 ∧ σ1 = fd σ 5 1)) := by
  refine MI.of (own := RX5) (by decide +kernel) rfl (Nat.le_of_ble_eq_true rfl) ?_
  intro κ C hret
  show J κ 0 0 a n σ [(0, .ref (a 0)), (1, iv v), (2, iv i)] 0 []
  obtain ⟨hb, hn1, hwt, hky, hdu, hwd, hli, hne, hF, hse, hk, hvs⟩ := id hC
  refine r_aload_n C dX5_rest_0 0 rfl ?_
  refine gX5_12 C dX5_rest_1 ?_
  refine r_iload_n C dX5_rest_4 1 rfl ?_
  refine r_callO1 1 C dX5_rest_5 lkX5_77 (m_X2_voiceAt (by omega) (by omega)) ⟨rfl, rfl, Nat.le_of_ble_eq_true rfl, Nat.le_of_ble_eq_true rfl⟩ ⟨Nat.zero_le _, Nat.zero_le _⟩ rc1 (Nat.le_of_ble_eq_true rfl) (fun r2 hr2 => ?_)
  rcases hr2 with ⟨er2, hr2⟩ | ⟨er2, hr2⟩
  · rw [er2]
    show J _ _ _ _ _ _ _ _ (.ref (a (39 + 5 * v.toNat)) :: _)
    refine r_ifnull C dX5_rest_8 ?_
    refine r_iload_n C dX5_rest_11 2 rfl ?_
    refine r_if_ge (tgt := 22) C dX5_rest_12 (by decide) (by omega) (fun h3 => ?_) (fun h3 => ?_)
    · skip
      refine r_aload_n C dX5_rest_22 0 rfl ?_
      refine gX5_21 C dX5_rest_23 ?_
      refine r_iload_n C dX5_rest_26 1 rfl ?_
      refine r_aload_n C dX5_rest_27 0 rfl ?_
      refine gX5_49 C dX5_rest_28 (fun g5 => ?_)
      refine r_callV2 2 C dX5_rest_31 lkX5_111 (m_X1_draw hC (by omega) (by omega)) ⟨rfl, rfl, Nat.le_of_ble_eq_true rfl, Nat.le_of_ble_eq_true rfl⟩ ⟨Nat.zero_le _, Nat.zero_le _⟩ rc2 (Nat.le_of_ble_eq_true rfl) (fun ρ hdr => ?_)
      have hC2 := hdr.fr.cs hC
      have hI := hdr.pin hC (by omega)
      have hFρ := hC2.2.2.2.2.2.2.2.2.1
      have hk2 := hC2.2.2.2.2.2.2.2.2.2.2.1
      have r25 := hdr.2.2.1
      have hsz := hI.1
      refine r_aload_n C dX5_rest_34 0 rfl ?_
      refine r_aload_n C dX5_rest_35 0 rfl ?_
      refine gX5_21 C dX5_rest_36 ?_
      refine r_iload_n C dX5_rest_39 2 rfl ?_
      refine r_callP1 2 C dX5_rest_40 lkX5_115 (m_X1_restsAt hI (by omega) hk2 (by omega)) ⟨rfl, rfl, Nat.le_of_ble_eq_true rfl, Nat.le_of_ble_eq_true rfl⟩ ⟨Nat.zero_le _, Nat.zero_le _⟩ rc2 (Nat.le_of_ble_eq_true rfl) (fun re hre => ?_)
      refine r_callI1 0 C dX5_rest_43 lkX5_66 (m_X5_answer (by omega) hFρ) ⟨rfl, rfl, Nat.le_of_ble_eq_true rfl, Nat.le_of_ble_eq_true rfl⟩ ⟨Nat.zero_le _, Nat.zero_le _⟩ rc0 (Nat.le_of_ble_eq_true rfl) (fun ra s9 hra => ?_)
      obtain ⟨era, hra⟩ := hra
      subst era
      exact hret _ _ _ _ dX5_rest_46 (by first | (refine Or.inr ⟨?_, ?_, ?_⟩ <;> first | omega | (rw [hra, ans1]; done)) | (refine Or.inl ⟨by omega, ρ, hdr, ?_⟩; rcases hre with ⟨q1, q2, q3⟩ | ⟨q1, q2⟩; exact Or.inl ⟨q1, q2, by rw [hra, ans_n (by omega)]⟩; exact Or.inr ⟨q1, q2, by rw [hra, q2, ans2]⟩))
    · skip
      refine r_aload_n C dX5_rest_15 0 rfl ?_
      refine r_ldc (-1000001) C dX5_rest_16 tw168 (by decide +kernel) ?_
      refine r_callI1 0 C dX5_rest_18 lkX5_66 (m_X5_answer (by omega) hF) ⟨rfl, rfl, Nat.le_of_ble_eq_true rfl, Nat.le_of_ble_eq_true rfl⟩ ⟨Nat.zero_le _, Nat.zero_le _⟩ rc0 (Nat.le_of_ble_eq_true rfl) (fun ra s9 hra => ?_)
      obtain ⟨era, hra⟩ := hra
      subst era
      exact hret _ _ _ _ dX5_rest_21 (by first | (refine Or.inr ⟨?_, ?_, ?_⟩ <;> first | omega | (rw [hra, ans1]; done)) | (refine Or.inl ⟨by omega, ρ, hdr, ?_⟩; rcases hre with ⟨q1, q2, q3⟩ | ⟨q1, q2⟩; exact Or.inl ⟨q1, q2, by rw [hra, ans_n (by omega)]⟩; exact Or.inr ⟨q1, q2, by rw [hra, q2, ans2]⟩))
  · rw [er2]
    show J _ _ _ _ _ _ _ _ (.null :: _)
    refine r_ifnullN (tgt := 15) C dX5_rest_8 (by decide) ?_
    refine r_aload_n C dX5_rest_15 0 rfl ?_
    refine r_ldc (-1000001) C dX5_rest_16 tw168 (by decide +kernel) ?_
    refine r_callI1 0 C dX5_rest_18 lkX5_66 (m_X5_answer (by omega) hF) ⟨rfl, rfl, Nat.le_of_ble_eq_true rfl, Nat.le_of_ble_eq_true rfl⟩ ⟨Nat.zero_le _, Nat.zero_le _⟩ rc0 (Nat.le_of_ble_eq_true rfl) (fun ra s9 hra => ?_)
    obtain ⟨era, hra⟩ := hra
    subst era
    exact hret _ _ _ _ dX5_rest_21 (by first | (refine Or.inr ⟨?_, ?_, ?_⟩ <;> first | omega | (rw [hra, ans1]; done)) | (refine Or.inl ⟨by omega, ρ, hdr, ?_⟩; rcases hre with ⟨q1, q2, q3⟩ | ⟨q1, q2⟩; exact Or.inl ⟨q1, q2, by rw [hra, ans_n (by omega)]⟩; exact Or.inr ⟨q1, q2, by rw [hra, q2, ans2]⟩))

set_option maxHeartbeats 4000000 in
set_option maxRecDepth 100000 in
theorem m_X5_cue {a : Nat → Nat} {n : Nat} {σ : ST} (hC : CS σ n) {v b : Int} (hv1 : inR v) (hb1 : inR b) : MI yX5_cue cX5_cue 3 .int (RM 3 71) a n σ [.ref (a 0), iv v, iv b] (fun r σ1 => (((0 ≤ v ∧ v < n) ∧ 0 ≤ b ∧ b < σ 1 3) ∧ ∃ ρ, DrC σ ρ v (σ 0 6) ∧ ((∃ k, 0 ≤ k ∧ k < ρ 2 3 ∧ ρ 9 k = b ∧ 0 ≤ cuC ρ n k ∧ r = cuC ρ n k ∧ σ1 = ρ) ∨ ((∀ k, 0 ≤ k → k < ρ 2 3 → ρ 9 k = b → cuC ρ n k < 0) ∧ r = -1000002 ∧ σ1 = fd ρ 5 2))) ∨ (¬ ((0 ≤ v ∧ v < n) ∧ 0 ≤ b ∧ b < σ 1 3) ∧ r = -1000001 ∧ σ1 = fd σ 5 1)) := by
  refine MI.of (own := RX5) (by decide +kernel) rfl (Nat.le_of_ble_eq_true rfl) ?_
  intro κ C hret
  show J κ 0 0 a n σ [(0, .ref (a 0)), (1, iv v), (2, iv b)] 0 []
  obtain ⟨hb, hn1, hwt, hky, hdu, hwd, hli, hne, hF, hse, hk, hvs⟩ := id hC
  refine r_aload_n C dX5_cue_0 0 rfl ?_
  refine gX5_12 C dX5_cue_1 ?_
  refine r_iload_n C dX5_cue_4 1 rfl ?_
  refine r_callO1 1 C dX5_cue_5 lkX5_77 (m_X2_voiceAt (by omega) (by omega)) ⟨rfl, rfl, Nat.le_of_ble_eq_true rfl, Nat.le_of_ble_eq_true rfl⟩ ⟨Nat.zero_le _, Nat.zero_le _⟩ rc1 (Nat.le_of_ble_eq_true rfl) (fun r2 hr2 => ?_)
  rcases hr2 with ⟨er2, hr2⟩ | ⟨er2, hr2⟩
  · rw [er2]
    show J _ _ _ _ _ _ _ _ (.ref (a (39 + 5 * v.toNat)) :: _)
    refine r_ifnull C dX5_cue_8 ?_
    refine r_aload_n C dX5_cue_11 0 rfl ?_
    refine gX5_12 C dX5_cue_12 ?_
    refine r_iload_n C dX5_cue_15 2 rfl ?_
    refine r_callB1 1 C dX5_cue_16 lkX5_91 (m_X2_hasBar (by omega) (by omega)) ⟨rfl, rfl, Nat.le_of_ble_eq_true rfl, Nat.le_of_ble_eq_true rfl⟩ ⟨Nat.zero_le _, Nat.zero_le _⟩ rc1 (Nat.le_of_ble_eq_true rfl) (fun h4 => ?_) (fun h4 => ?_)
    · skip
      refine r_if_ne (tgt := 29) C dX5_cue_19 (by decide) (by decide) (fun _ => ?_) (fun q => absurd q (by decide))
      refine r_aload_n C dX5_cue_29 0 rfl ?_
      refine gX5_21 C dX5_cue_30 ?_
      refine r_iload_n C dX5_cue_33 1 rfl ?_
      refine r_aload_n C dX5_cue_34 0 rfl ?_
      refine gX5_49 C dX5_cue_35 (fun g7 => ?_)
      refine r_callV2 2 C dX5_cue_38 lkX5_111 (m_X1_draw hC (by omega) (by omega)) ⟨rfl, rfl, Nat.le_of_ble_eq_true rfl, Nat.le_of_ble_eq_true rfl⟩ ⟨Nat.zero_le _, Nat.zero_le _⟩ rc2 (Nat.le_of_ble_eq_true rfl) (fun ρ hdr => ?_)
      have hC2 := hdr.fr.cs hC
      have hI := hdr.pin hC (by omega)
      have hFρ := hC2.2.2.2.2.2.2.2.2.1
      have hk2 := hC2.2.2.2.2.2.2.2.2.2.2.1
      have r25 := hdr.2.2.1
      have hsz := hI.1
      refine r_aload_n C dX5_cue_41 0 rfl ?_
      refine r_aload_n C dX5_cue_42 0 rfl ?_
      refine gX5_21 C dX5_cue_43 ?_
      refine r_aload_n C dX5_cue_46 0 rfl ?_
      refine gX5_21 C dX5_cue_47 ?_
      refine r_iload_n C dX5_cue_50 2 rfl ?_
      refine r_callP1 2 C dX5_cue_51 lkX5_118 (m_X1_placeOf hI (by omega)) ⟨rfl, rfl, Nat.le_of_ble_eq_true rfl, Nat.le_of_ble_eq_true rfl⟩ ⟨Nat.zero_le _, Nat.zero_le _⟩ rc2 (Nat.le_of_ble_eq_true rfl) (fun pl hpl => ?_)
      refine r_callP1 2 C dX5_cue_54 lkX5_121 (m_X1_cueAt hI hC2 (by omega) (by omega)) ⟨rfl, rfl, Nat.le_of_ble_eq_true rfl, Nat.le_of_ble_eq_true rfl⟩ ⟨Nat.zero_le _, Nat.zero_le _⟩ rc2 (Nat.le_of_ble_eq_true rfl) (fun cu hcu => ?_)
      refine r_callI1 0 C dX5_cue_57 lkX5_66 (m_X5_answer (by omega) hFρ) ⟨rfl, rfl, Nat.le_of_ble_eq_true rfl, Nat.le_of_ble_eq_true rfl⟩ ⟨Nat.zero_le _, Nat.zero_le _⟩ rc0 (Nat.le_of_ble_eq_true rfl) (fun ra s9 hra => ?_)
      obtain ⟨era, hra⟩ := hra
      subst era
      exact hret _ _ _ _ dX5_cue_60 (by first | (refine Or.inr ⟨?_, ?_, ?_⟩ <;> first | omega | (rw [hra, ans1]; done)) | (refine Or.inl ⟨by omega, ρ, hdr, ?_⟩; rcases hcu with ⟨q1, q2, q3⟩ | ⟨q1, q2⟩; (refine Or.inl ⟨pl, q1.1, q1.2, ?_, q2.1, q3, by rw [hra, ans_n (by omega)]⟩; rcases hpl with ⟨_, w2⟩ | ⟨w1, _⟩; exact w2; (exfalso; omega)); (refine Or.inr ⟨fun k k0 k1 k2 => ?_, q2, by rw [hra, q2, ans2]⟩; rcases hpl with ⟨w1, w2⟩ | ⟨w1, w2⟩; (have hkp : k = pl := (by rcases (show k < pl ∨ k = pl ∨ pl < k by omega) with h9 | h9 | h9; (have h8 := hdr.2.2.2.1.lt k0 h9 w1.2; omega); exact h9; (have h8 := hdr.2.2.2.1.lt w1.1 h9 k1; omega)); subst hkp; omega); exact absurd k2 (w2 k k0 k1))))
    · skip
      refine r_if_ne (tgt := 29) C dX5_cue_19 (by decide) (by decide) (fun q => absurd q (by decide)) (fun _ => ?_)
      refine r_aload_n C dX5_cue_22 0 rfl ?_
      refine r_ldc (-1000001) C dX5_cue_23 tw168 (by decide +kernel) ?_
      refine r_callI1 0 C dX5_cue_25 lkX5_66 (m_X5_answer (by omega) hF) ⟨rfl, rfl, Nat.le_of_ble_eq_true rfl, Nat.le_of_ble_eq_true rfl⟩ ⟨Nat.zero_le _, Nat.zero_le _⟩ rc0 (Nat.le_of_ble_eq_true rfl) (fun ra s9 hra => ?_)
      obtain ⟨era, hra⟩ := hra
      subst era
      exact hret _ _ _ _ dX5_cue_28 (by first | (refine Or.inr ⟨?_, ?_, ?_⟩ <;> first | omega | (rw [hra, ans1]; done)) | (refine Or.inl ⟨by omega, ρ, hdr, ?_⟩; rcases hcu with ⟨q1, q2, q3⟩ | ⟨q1, q2⟩; (refine Or.inl ⟨pl, q1.1, q1.2, ?_, q2.1, q3, by rw [hra, ans_n (by omega)]⟩; rcases hpl with ⟨_, w2⟩ | ⟨w1, _⟩; exact w2; (exfalso; omega)); (refine Or.inr ⟨fun k k0 k1 k2 => ?_, q2, by rw [hra, q2, ans2]⟩; rcases hpl with ⟨w1, w2⟩ | ⟨w1, w2⟩; (have hkp : k = pl := (by rcases (show k < pl ∨ k = pl ∨ pl < k by omega) with h9 | h9 | h9; (have h8 := hdr.2.2.2.1.lt k0 h9 w1.2; omega); exact h9; (have h8 := hdr.2.2.2.1.lt w1.1 h9 k1; omega)); subst hkp; omega); exact absurd k2 (w2 k k0 k1))))
  · rw [er2]
    show J _ _ _ _ _ _ _ _ (.null :: _)
    refine r_ifnullN (tgt := 22) C dX5_cue_8 (by decide) ?_
    refine r_aload_n C dX5_cue_22 0 rfl ?_
    refine r_ldc (-1000001) C dX5_cue_23 tw168 (by decide +kernel) ?_
    refine r_callI1 0 C dX5_cue_25 lkX5_66 (m_X5_answer (by omega) hF) ⟨rfl, rfl, Nat.le_of_ble_eq_true rfl, Nat.le_of_ble_eq_true rfl⟩ ⟨Nat.zero_le _, Nat.zero_le _⟩ rc0 (Nat.le_of_ble_eq_true rfl) (fun ra s9 hra => ?_)
    obtain ⟨era, hra⟩ := hra
    subst era
    exact hret _ _ _ _ dX5_cue_28 (by first | (refine Or.inr ⟨?_, ?_, ?_⟩ <;> first | omega | (rw [hra, ans1]; done)) | (refine Or.inl ⟨by omega, ρ, hdr, ?_⟩; rcases hcu with ⟨q1, q2, q3⟩ | ⟨q1, q2⟩; (refine Or.inl ⟨pl, q1.1, q1.2, ?_, q2.1, q3, by rw [hra, ans_n (by omega)]⟩; rcases hpl with ⟨_, w2⟩ | ⟨w1, _⟩; exact w2; (exfalso; omega)); (refine Or.inr ⟨fun k k0 k1 k2 => ?_, q2, by rw [hra, q2, ans2]⟩; rcases hpl with ⟨w1, w2⟩ | ⟨w1, w2⟩; (have hkp : k = pl := (by rcases (show k < pl ∨ k = pl ∨ pl < k by omega) with h9 | h9 | h9; (have h8 := hdr.2.2.2.1.lt k0 h9 w1.2; omega); exact h9; (have h8 := hdr.2.2.2.1.lt w1.1 h9 k1; omega)); subst hkp; omega); exact absurd k2 (w2 k k0 k1))))

set_option maxHeartbeats 4000000 in
set_option maxRecDepth 100000 in
theorem m_X5_pages {a : Nat → Nat} {n : Nat} {σ : ST} (hC : CS σ n) {v w : Int} (hv1 : inR v) (hw1 : inR w) : MI yX5_pages cX5_pages 4 .int (RM 6 139) a n σ [.ref (a 0), iv v, iv w] (fun r σ1 => (((0 ≤ v ∧ v < n) ∧ 0 ≤ w ∧ w ≤ 1) ∧ ∃ τ, PlR σ τ n v ∧ ((τ 15 0 = 0 ∧ r = -1000002 ∧ σ1 = fd τ 5 2) ∨ (¬ τ 15 0 = 0 ∧ w = 0 ∧ r = τ 15 0 ∧ σ1 = τ) ∨ (¬ τ 15 0 = 0 ∧ w = 1 ∧ r = τ 14 0 ∧ σ1 = τ))) ∨ (¬ ((0 ≤ v ∧ v < n) ∧ 0 ≤ w ∧ w ≤ 1) ∧ r = -1000001 ∧ σ1 = fd σ 5 1)) := by
  refine MI.of (own := RX5) (by decide +kernel) rfl (Nat.le_of_ble_eq_true rfl) ?_
  intro κ C hret
  show J κ 0 0 a n σ [(0, .ref (a 0)), (1, iv v), (2, iv w)] 0 []
  obtain ⟨hb, hn1, hwt, hky, hdu, hwd, hli, hne, hF, hse, hk, hvs⟩ := id hC
  refine r_aload_n C dX5_pages_0 0 rfl ?_
  refine gX5_12 C dX5_pages_1 ?_
  refine r_iload_n C dX5_pages_4 1 rfl ?_
  refine r_callO1 1 C dX5_pages_5 lkX5_77 (m_X2_voiceAt (by omega) (by omega)) ⟨rfl, rfl, Nat.le_of_ble_eq_true rfl, Nat.le_of_ble_eq_true rfl⟩ ⟨Nat.zero_le _, Nat.zero_le _⟩ rc1 (Nat.le_of_ble_eq_true rfl) (fun r2 hr2 => ?_)
  rcases hr2 with ⟨er2, hr2⟩ | ⟨er2, hr2⟩
  · rw [er2]
    show J _ _ _ _ _ _ _ _ (.ref (a (39 + 5 * v.toNat)) :: _)
    refine r_astore_n C dX5_pages_8 (by decide) [(3, .ref (a (39 + 5 * v.toNat))), (0, .ref (a 0)), (1, iv v), (2, iv w)] rfl ?_
    refine r_aload_n C dX5_pages_9 0 rfl ?_
    refine r_ifnull C dX5_pages_10 ?_
    refine r_iload_n C dX5_pages_13 3 rfl ?_
    refine r_iconst C dX5_pages_14 ?_
    refine r_iconst C dX5_pages_15 ?_
    refine r_callSB3 C dX5_pages_16 lkX5_61 (m_X5_within (by omega) (by omega) (by omega)) ⟨rfl, rfl, Nat.le_of_ble_eq_true rfl, Nat.le_of_ble_eq_true rfl⟩ ⟨Nat.zero_le _, Nat.zero_le _⟩ (Nat.le_of_ble_eq_true rfl) (fun h3 => ?_) (fun h3 => ?_)
    · skip
      refine r_if_ne (tgt := 29) C dX5_pages_19 (by decide) (by decide) (fun _ => ?_) (fun q => absurd q (by decide))
      refine r_aload_n C dX5_pages_29 1 rfl ?_
      refine r_iload_n C dX5_pages_30 2 rfl ?_
      refine r_aload_n C dX5_pages_31 0 rfl ?_
      refine r_callV2 0 C dX5_pages_32 lkX5_129 (m_X5_plan hC (by omega)) ⟨rfl, rfl, Nat.le_of_ble_eq_true rfl, Nat.le_of_ble_eq_true rfl⟩ ⟨Nat.zero_le _, Nat.zero_le _⟩ rc0 (Nat.le_of_ble_eq_true rfl) (fun τ hpl => ?_)
      obtain ⟨hfr, hCt, hI, hW, ⟨hw3, hl3⟩, hdp, hs1, hro, h12⟩ := hpl.facts hC (by omega)
      have hsz := hI.1
      have hz := dp_z hdp hs1
      have hbd := dp_bd hdp hs1 (btC_bd τ) 41 0 (by omega) (by omega) (by omega)
      have hFτ := hCt.2.2.2.2.2.2.2.2.1
      have hkk : WkIn τ := ⟨by omega, dp_end hdp hs1 (btC_bd τ) hsz.1, fun k hk9 => dp_lt hdp hs1 hsz.1 hk9⟩
      have hsr := hpl.sys
      refine r_aload_n C dX5_pages_35 1 rfl ?_
      refine gX5_30 C dX5_pages_36 ?_
      refine r_callP0 3 C dX5_pages_39 lkX5_133 m_X0_pageCount ⟨rfl, rfl, Nat.le_of_ble_eq_true rfl, Nat.le_of_ble_eq_true rfl⟩ ⟨Nat.zero_le _, Nat.zero_le _⟩ rc3 (Nat.le_of_ble_eq_true rfl) (fun pc hpc => ?_)
      refine r_if_ne (tgt := 52) C dX5_pages_42 (by decide) (by omega) (fun h6 => ?_) (fun h6 => ?_)
      · skip
        refine r_aload_n C dX5_pages_52 1 rfl ?_
        refine r_iload_n C dX5_pages_53 3 rfl ?_
        refine r_if_ne (tgt := 67) C dX5_pages_54 (by decide) (by omega) (fun h7 => ?_) (fun h7 => ?_)
        · skip
          refine r_aload_n C dX5_pages_67 1 rfl ?_
          refine gX5_30 C dX5_pages_68 ?_
          refine r_callP0 3 C dX5_pages_71 lkX5_138 m_X0_badTurns ⟨rfl, rfl, Nat.le_of_ble_eq_true rfl, Nat.le_of_ble_eq_true rfl⟩ ⟨Nat.zero_le _, Nat.zero_le _⟩ rc3 (Nat.le_of_ble_eq_true rfl) (fun bt hbt => ?_)
          refine r_callI1 0 C dX5_pages_74 lkX5_66 (m_X5_answer (by omega) hFτ) ⟨rfl, rfl, Nat.le_of_ble_eq_true rfl, Nat.le_of_ble_eq_true rfl⟩ ⟨Nat.zero_le _, Nat.zero_le _⟩ rc0 (Nat.le_of_ble_eq_true rfl) (fun ra s9 hra => ?_)
          obtain ⟨era, hra⟩ := hra
          subst era
          exact hret _ _ _ _ dX5_pages_77 (by first | (refine Or.inr ⟨?_, ?_, ?_⟩ <;> first | omega | (rw [hra, ans1]; done)) | exact Or.inl ⟨by omega, τ, hpl, Or.inl ⟨by omega, rfl, by rw [hra, ans2]⟩⟩ | exact Or.inl ⟨by omega, τ, hpl, Or.inr (Or.inl ⟨by omega, by omega, by omega, by rw [hra, ans_n (by omega)]⟩)⟩ | exact Or.inl ⟨by omega, τ, hpl, Or.inr (Or.inr ⟨by omega, by omega, by omega, by rw [hra, ans_n (by omega)]⟩)⟩)
        · skip
          refine r_aload_n C dX5_pages_57 1 rfl ?_
          refine gX5_30 C dX5_pages_58 ?_
          refine r_callP0 3 C dX5_pages_61 lkX5_133 m_X0_pageCount ⟨rfl, rfl, Nat.le_of_ble_eq_true rfl, Nat.le_of_ble_eq_true rfl⟩ ⟨Nat.zero_le _, Nat.zero_le _⟩ rc3 (Nat.le_of_ble_eq_true rfl) (fun pd hpd => ?_)
          refine r_goto (tgt := 74) C dX5_pages_64 (by decide) ?_
          refine r_callI1 0 C dX5_pages_74 lkX5_66 (m_X5_answer (by omega) hFτ) ⟨rfl, rfl, Nat.le_of_ble_eq_true rfl, Nat.le_of_ble_eq_true rfl⟩ ⟨Nat.zero_le _, Nat.zero_le _⟩ rc0 (Nat.le_of_ble_eq_true rfl) (fun ra s9 hra => ?_)
          obtain ⟨era, hra⟩ := hra
          subst era
          exact hret _ _ _ _ dX5_pages_77 (by first | (refine Or.inr ⟨?_, ?_, ?_⟩ <;> first | omega | (rw [hra, ans1]; done)) | exact Or.inl ⟨by omega, τ, hpl, Or.inl ⟨by omega, rfl, by rw [hra, ans2]⟩⟩ | exact Or.inl ⟨by omega, τ, hpl, Or.inr (Or.inl ⟨by omega, by omega, by omega, by rw [hra, ans_n (by omega)]⟩)⟩ | exact Or.inl ⟨by omega, τ, hpl, Or.inr (Or.inr ⟨by omega, by omega, by omega, by rw [hra, ans_n (by omega)]⟩)⟩)
      · skip
        refine r_aload_n C dX5_pages_45 1 rfl ?_
        refine r_ldc (-1000002) C dX5_pages_46 tw409 (by decide +kernel) ?_
        refine r_callI1 0 C dX5_pages_48 lkX5_66 (m_X5_answer (by omega) hFτ) ⟨rfl, rfl, Nat.le_of_ble_eq_true rfl, Nat.le_of_ble_eq_true rfl⟩ ⟨Nat.zero_le _, Nat.zero_le _⟩ rc0 (Nat.le_of_ble_eq_true rfl) (fun ra s9 hra => ?_)
        obtain ⟨era, hra⟩ := hra
        subst era
        exact hret _ _ _ _ dX5_pages_51 (by first | (refine Or.inr ⟨?_, ?_, ?_⟩ <;> first | omega | (rw [hra, ans1]; done)) | exact Or.inl ⟨by omega, τ, hpl, Or.inl ⟨by omega, rfl, by rw [hra, ans2]⟩⟩ | exact Or.inl ⟨by omega, τ, hpl, Or.inr (Or.inl ⟨by omega, by omega, by omega, by rw [hra, ans_n (by omega)]⟩)⟩ | exact Or.inl ⟨by omega, τ, hpl, Or.inr (Or.inr ⟨by omega, by omega, by omega, by rw [hra, ans_n (by omega)]⟩)⟩)
    · skip
      refine r_if_ne (tgt := 29) C dX5_pages_19 (by decide) (by decide) (fun q => absurd q (by decide)) (fun _ => ?_)
      refine r_aload_n C dX5_pages_22 1 rfl ?_
      refine r_ldc (-1000001) C dX5_pages_23 tw168 (by decide +kernel) ?_
      refine r_callI1 0 C dX5_pages_25 lkX5_66 (m_X5_answer (by omega) hF) ⟨rfl, rfl, Nat.le_of_ble_eq_true rfl, Nat.le_of_ble_eq_true rfl⟩ ⟨Nat.zero_le _, Nat.zero_le _⟩ rc0 (Nat.le_of_ble_eq_true rfl) (fun ra s9 hra => ?_)
      obtain ⟨era, hra⟩ := hra
      subst era
      exact hret _ _ _ _ dX5_pages_28 (by first | (refine Or.inr ⟨?_, ?_, ?_⟩ <;> first | omega | (rw [hra, ans1]; done)) | exact Or.inl ⟨by omega, τ, hpl, Or.inl ⟨by omega, rfl, by rw [hra, ans2]⟩⟩ | exact Or.inl ⟨by omega, τ, hpl, Or.inr (Or.inl ⟨by omega, by omega, by omega, by rw [hra, ans_n (by omega)]⟩)⟩ | exact Or.inl ⟨by omega, τ, hpl, Or.inr (Or.inr ⟨by omega, by omega, by omega, by rw [hra, ans_n (by omega)]⟩)⟩)
  · rw [er2]
    show J _ _ _ _ _ _ _ _ (.null :: _)
    refine r_astore_nN C dX5_pages_8 (by decide) [(3, .null), (0, .ref (a 0)), (1, iv v), (2, iv w)] rfl ?_
    refine r_aload_nN C dX5_pages_9 0 rfl ?_
    refine r_ifnullN (tgt := 22) C dX5_pages_10 (by decide) ?_
    refine r_aload_n C dX5_pages_22 1 rfl ?_
    refine r_ldc (-1000001) C dX5_pages_23 tw168 (by decide +kernel) ?_
    refine r_callI1 0 C dX5_pages_25 lkX5_66 (m_X5_answer (by omega) hF) ⟨rfl, rfl, Nat.le_of_ble_eq_true rfl, Nat.le_of_ble_eq_true rfl⟩ ⟨Nat.zero_le _, Nat.zero_le _⟩ rc0 (Nat.le_of_ble_eq_true rfl) (fun ra s9 hra => ?_)
    obtain ⟨era, hra⟩ := hra
    subst era
    exact hret _ _ _ _ dX5_pages_28 (by first | (refine Or.inr ⟨?_, ?_, ?_⟩ <;> first | omega | (rw [hra, ans1]; done)) | exact Or.inl ⟨by omega, τ, hpl, Or.inl ⟨by omega, rfl, by rw [hra, ans2]⟩⟩ | exact Or.inl ⟨by omega, τ, hpl, Or.inr (Or.inl ⟨by omega, by omega, by omega, by rw [hra, ans_n (by omega)]⟩)⟩ | exact Or.inl ⟨by omega, τ, hpl, Or.inr (Or.inr ⟨by omega, by omega, by omega, by rw [hra, ans_n (by omega)]⟩)⟩)

set_option maxHeartbeats 4000000 in
set_option maxRecDepth 100000 in
theorem m_X5_page {a : Nat → Nat} {n : Nat} {σ : ST} (hC : CS σ n) {v i : Int} (hv1 : inR v) (hi1 : inR i) : MI yX5_page cX5_page 4 .int (RM 6 139) a n σ [.ref (a 0), iv v, iv i] (fun r σ1 => (((0 ≤ v ∧ v < n) ∧ 0 ≤ i) ∧ ∃ τ, PlR σ τ n v ∧ ((walkF (Zc τ) (τ 2 3) i.toNat < τ 2 3 ∧ r = τ 9 (walkF (Zc τ) (τ 2 3) i.toNat) ∧ σ1 = τ) ∨ (¬ walkF (Zc τ) (τ 2 3) i.toNat < τ 2 3 ∧ r = -1000002 ∧ σ1 = fd τ 5 2))) ∨ (¬ ((0 ≤ v ∧ v < n) ∧ 0 ≤ i) ∧ r = -1000001 ∧ σ1 = fd σ 5 1)) := by
  refine MI.of (own := RX5) (by decide +kernel) rfl (Nat.le_of_ble_eq_true rfl) ?_
  intro κ C hret
  show J κ 0 0 a n σ [(0, .ref (a 0)), (1, iv v), (2, iv i)] 0 []
  obtain ⟨hb, hn1, hwt, hky, hdu, hwd, hli, hne, hF, hse, hk, hvs⟩ := id hC
  refine r_aload_n C dX5_page_0 0 rfl ?_
  refine gX5_12 C dX5_page_1 ?_
  refine r_iload_n C dX5_page_4 1 rfl ?_
  refine r_callO1 1 C dX5_page_5 lkX5_77 (m_X2_voiceAt (by omega) (by omega)) ⟨rfl, rfl, Nat.le_of_ble_eq_true rfl, Nat.le_of_ble_eq_true rfl⟩ ⟨Nat.zero_le _, Nat.zero_le _⟩ rc1 (Nat.le_of_ble_eq_true rfl) (fun r2 hr2 => ?_)
  rcases hr2 with ⟨er2, hr2⟩ | ⟨er2, hr2⟩
  · rw [er2]
    show J _ _ _ _ _ _ _ _ (.ref (a (39 + 5 * v.toNat)) :: _)
    refine r_astore_n C dX5_page_8 (by decide) [(3, .ref (a (39 + 5 * v.toNat))), (0, .ref (a 0)), (1, iv v), (2, iv i)] rfl ?_
    refine r_aload_n C dX5_page_9 0 rfl ?_
    refine r_ifnull C dX5_page_10 ?_
    refine r_iload_n C dX5_page_13 3 rfl ?_
    refine r_if_ge (tgt := 24) C dX5_page_14 (by decide) (by omega) (fun h3 => ?_) (fun h3 => ?_)
    · skip
      refine r_aload_n C dX5_page_24 1 rfl ?_
      refine r_iload_n C dX5_page_25 2 rfl ?_
      refine r_aload_n C dX5_page_26 0 rfl ?_
      refine r_callV2 0 C dX5_page_27 lkX5_129 (m_X5_plan hC (by omega)) ⟨rfl, rfl, Nat.le_of_ble_eq_true rfl, Nat.le_of_ble_eq_true rfl⟩ ⟨Nat.zero_le _, Nat.zero_le _⟩ rc0 (Nat.le_of_ble_eq_true rfl) (fun τ hpl => ?_)
      obtain ⟨hfr, hCt, hI, hW, ⟨hw3, hl3⟩, hdp, hs1, hro, h12⟩ := hpl.facts hC (by omega)
      have hsz := hI.1
      have hz := dp_z hdp hs1
      have hbd := dp_bd hdp hs1 (btC_bd τ) 41 0 (by omega) (by omega) (by omega)
      have hFτ := hCt.2.2.2.2.2.2.2.2.1
      have hkk : WkIn τ := ⟨by omega, dp_end hdp hs1 (btC_bd τ) hsz.1, fun k hk9 => dp_lt hdp hs1 hsz.1 hk9⟩
      have hsr := hpl.sys
      refine r_aload_n C dX5_page_30 1 rfl ?_
      refine r_aload_n C dX5_page_31 1 rfl ?_
      refine gX5_30 C dX5_page_32 ?_
      refine r_iload_n C dX5_page_35 3 rfl ?_
      refine r_callP1 3 C dX5_page_36 lkX5_141 (m_X0_firstBar hI hz hkk (by omega)) ⟨rfl, rfl, Nat.le_of_ble_eq_true rfl, Nat.le_of_ble_eq_true rfl⟩ ⟨Nat.zero_le _, Nat.zero_le _⟩ rc3 (Nat.le_of_ble_eq_true rfl) (fun fb hfb => ?_)
      have hwm := walk_mono hz hsz.1 i.toNat
      have hrw : walkF (Zc τ) (τ 2 3) i.toNat < τ 2 3 → 0 ≤ τ 9 (walkF (Zc τ) (τ 2 3) i.toNat) ∧ τ 9 (walkF (Zc τ) (τ 2 3) i.toNat) < 40 := fun h => (hI.2 _ hwm.1 h).1
      refine r_callI1 0 C dX5_page_39 lkX5_66 (m_X5_answer (by omega) hFτ) ⟨rfl, rfl, Nat.le_of_ble_eq_true rfl, Nat.le_of_ble_eq_true rfl⟩ ⟨Nat.zero_le _, Nat.zero_le _⟩ rc0 (Nat.le_of_ble_eq_true rfl) (fun ra s9 hra => ?_)
      obtain ⟨era, hra⟩ := hra
      subst era
      exact hret _ _ _ _ dX5_page_42 (by first | (refine Or.inr ⟨?_, ?_, ?_⟩ <;> first | omega | (rw [hra, ans1]; done)) | (refine Or.inl ⟨by omega, τ, hpl, ?_⟩; rcases hfb with ⟨q1, q2⟩ | ⟨q1, q2⟩; (have q3 := hrw q1; exact Or.inl ⟨q1, q2, by rw [hra, ans_n (by omega)]⟩); exact Or.inr ⟨q1, q2, by rw [hra, q2, ans2]⟩))
    · skip
      refine r_aload_n C dX5_page_17 1 rfl ?_
      refine r_ldc (-1000001) C dX5_page_18 tw168 (by decide +kernel) ?_
      refine r_callI1 0 C dX5_page_20 lkX5_66 (m_X5_answer (by omega) hF) ⟨rfl, rfl, Nat.le_of_ble_eq_true rfl, Nat.le_of_ble_eq_true rfl⟩ ⟨Nat.zero_le _, Nat.zero_le _⟩ rc0 (Nat.le_of_ble_eq_true rfl) (fun ra s9 hra => ?_)
      obtain ⟨era, hra⟩ := hra
      subst era
      exact hret _ _ _ _ dX5_page_23 (by first | (refine Or.inr ⟨?_, ?_, ?_⟩ <;> first | omega | (rw [hra, ans1]; done)) | (refine Or.inl ⟨by omega, τ, hpl, ?_⟩; rcases hfb with ⟨q1, q2⟩ | ⟨q1, q2⟩; (have q3 := hrw q1; exact Or.inl ⟨q1, q2, by rw [hra, ans_n (by omega)]⟩); exact Or.inr ⟨q1, q2, by rw [hra, q2, ans2]⟩))
  · rw [er2]
    show J _ _ _ _ _ _ _ _ (.null :: _)
    refine r_astore_nN C dX5_page_8 (by decide) [(3, .null), (0, .ref (a 0)), (1, iv v), (2, iv i)] rfl ?_
    refine r_aload_nN C dX5_page_9 0 rfl ?_
    refine r_ifnullN (tgt := 17) C dX5_page_10 (by decide) ?_
    refine r_aload_n C dX5_page_17 1 rfl ?_
    refine r_ldc (-1000001) C dX5_page_18 tw168 (by decide +kernel) ?_
    refine r_callI1 0 C dX5_page_20 lkX5_66 (m_X5_answer (by omega) hF) ⟨rfl, rfl, Nat.le_of_ble_eq_true rfl, Nat.le_of_ble_eq_true rfl⟩ ⟨Nat.zero_le _, Nat.zero_le _⟩ rc0 (Nat.le_of_ble_eq_true rfl) (fun ra s9 hra => ?_)
    obtain ⟨era, hra⟩ := hra
    subst era
    exact hret _ _ _ _ dX5_page_23 (by first | (refine Or.inr ⟨?_, ?_, ?_⟩ <;> first | omega | (rw [hra, ans1]; done)) | (refine Or.inl ⟨by omega, τ, hpl, ?_⟩; rcases hfb with ⟨q1, q2⟩ | ⟨q1, q2⟩; (have q3 := hrw q1; exact Or.inl ⟨q1, q2, by rw [hra, ans_n (by omega)]⟩); exact Or.inr ⟨q1, q2, by rw [hra, q2, ans2]⟩))

set_option maxHeartbeats 4000000 in
set_option maxRecDepth 100000 in
theorem m_X5_free {a : Nat → Nat} {n : Nat} {σ : ST} (hC : CS σ n) {v i : Int} (hv1 : inR v) (hi1 : inR i) : MI yX5_free cX5_free 4 .int (RM 6 139) a n σ [.ref (a 0), iv v, iv i] (fun r σ1 => (((0 ≤ v ∧ v < n) ∧ 0 ≤ i) ∧ ∃ τ, PlR σ τ n v ∧ (((walkF (Zc τ) (τ 2 3) i.toNat < τ 2 3 ∧ walkF (Zc τ) (τ 2 3) i.toNat + Zc τ (walkF (Zc τ) (τ 2 3) i.toNat) < τ 2 3) ∧ r = τ 12 (walkF (Zc τ) (τ 2 3) i.toNat + Zc τ (walkF (Zc τ) (τ 2 3) i.toNat)) ∧ σ1 = τ) ∨ (¬ (walkF (Zc τ) (τ 2 3) i.toNat < τ 2 3 ∧ walkF (Zc τ) (τ 2 3) i.toNat + Zc τ (walkF (Zc τ) (τ 2 3) i.toNat) < τ 2 3) ∧ r = -1000002 ∧ σ1 = fd τ 5 2))) ∨ (¬ ((0 ≤ v ∧ v < n) ∧ 0 ≤ i) ∧ r = -1000001 ∧ σ1 = fd σ 5 1)) := by
  refine MI.of (own := RX5) (by decide +kernel) rfl (Nat.le_of_ble_eq_true rfl) ?_
  intro κ C hret
  show J κ 0 0 a n σ [(0, .ref (a 0)), (1, iv v), (2, iv i)] 0 []
  obtain ⟨hb, hn1, hwt, hky, hdu, hwd, hli, hne, hF, hse, hk, hvs⟩ := id hC
  refine r_aload_n C dX5_free_0 0 rfl ?_
  refine gX5_12 C dX5_free_1 ?_
  refine r_iload_n C dX5_free_4 1 rfl ?_
  refine r_callO1 1 C dX5_free_5 lkX5_77 (m_X2_voiceAt (by omega) (by omega)) ⟨rfl, rfl, Nat.le_of_ble_eq_true rfl, Nat.le_of_ble_eq_true rfl⟩ ⟨Nat.zero_le _, Nat.zero_le _⟩ rc1 (Nat.le_of_ble_eq_true rfl) (fun r2 hr2 => ?_)
  rcases hr2 with ⟨er2, hr2⟩ | ⟨er2, hr2⟩
  · rw [er2]
    show J _ _ _ _ _ _ _ _ (.ref (a (39 + 5 * v.toNat)) :: _)
    refine r_astore_n C dX5_free_8 (by decide) [(3, .ref (a (39 + 5 * v.toNat))), (0, .ref (a 0)), (1, iv v), (2, iv i)] rfl ?_
    refine r_aload_n C dX5_free_9 0 rfl ?_
    refine r_ifnull C dX5_free_10 ?_
    refine r_iload_n C dX5_free_13 3 rfl ?_
    refine r_if_ge (tgt := 24) C dX5_free_14 (by decide) (by omega) (fun h3 => ?_) (fun h3 => ?_)
    · skip
      refine r_aload_n C dX5_free_24 1 rfl ?_
      refine r_iload_n C dX5_free_25 2 rfl ?_
      refine r_aload_n C dX5_free_26 0 rfl ?_
      refine r_callV2 0 C dX5_free_27 lkX5_129 (m_X5_plan hC (by omega)) ⟨rfl, rfl, Nat.le_of_ble_eq_true rfl, Nat.le_of_ble_eq_true rfl⟩ ⟨Nat.zero_le _, Nat.zero_le _⟩ rc0 (Nat.le_of_ble_eq_true rfl) (fun τ hpl => ?_)
      obtain ⟨hfr, hCt, hI, hW, ⟨hw3, hl3⟩, hdp, hs1, hro, h12⟩ := hpl.facts hC (by omega)
      have hsz := hI.1
      have hz := dp_z hdp hs1
      have hbd := dp_bd hdp hs1 (btC_bd τ) 41 0 (by omega) (by omega) (by omega)
      have hFτ := hCt.2.2.2.2.2.2.2.2.1
      have hkk : WkIn τ := ⟨by omega, dp_end hdp hs1 (btC_bd τ) hsz.1, fun k hk9 => dp_lt hdp hs1 hsz.1 hk9⟩
      have hsr := hpl.sys
      refine r_aload_n C dX5_free_30 1 rfl ?_
      refine r_aload_n C dX5_free_31 1 rfl ?_
      refine gX5_30 C dX5_free_32 ?_
      refine r_iload_n C dX5_free_35 3 rfl ?_
      refine r_callP1 3 C dX5_free_36 lkX5_144 (m_X0_freeBehind hI hz hkk hsr.2 (by omega)) ⟨rfl, rfl, Nat.le_of_ble_eq_true rfl, Nat.le_of_ble_eq_true rfl⟩ ⟨Nat.zero_le _, Nat.zero_le _⟩ rc3 (Nat.le_of_ble_eq_true rfl) (fun fb hfb => ?_)
      have hwm := walk_mono hz hsz.1 i.toNat
      have hrw : (walkF (Zc τ) (τ 2 3) i.toNat < τ 2 3 ∧ walkF (Zc τ) (τ 2 3) i.toNat + Zc τ (walkF (Zc τ) (τ 2 3) i.toNat) < τ 2 3) → 0 ≤ τ 12 (walkF (Zc τ) (τ 2 3) i.toNat + Zc τ (walkF (Zc τ) (τ 2 3) i.toNat)) ∧ τ 12 (walkF (Zc τ) (τ 2 3) i.toNat + Zc τ (walkF (Zc τ) (τ 2 3) i.toNat)) ≤ 2400 := fun h => h12 _ (by have := hz _ hwm.1 h.1; omega) h.2
      refine r_callI1 0 C dX5_free_39 lkX5_66 (m_X5_answer (by omega) hFτ) ⟨rfl, rfl, Nat.le_of_ble_eq_true rfl, Nat.le_of_ble_eq_true rfl⟩ ⟨Nat.zero_le _, Nat.zero_le _⟩ rc0 (Nat.le_of_ble_eq_true rfl) (fun ra s9 hra => ?_)
      obtain ⟨era, hra⟩ := hra
      subst era
      exact hret _ _ _ _ dX5_free_42 (by first | (refine Or.inr ⟨?_, ?_, ?_⟩ <;> first | omega | (rw [hra, ans1]; done)) | (refine Or.inl ⟨by omega, τ, hpl, ?_⟩; rcases hfb with ⟨q1, q2⟩ | ⟨q1, q2⟩; (have q3 := hrw q1; exact Or.inl ⟨q1, q2, by rw [hra, ans_n (by omega)]⟩); exact Or.inr ⟨q1, q2, by rw [hra, q2, ans2]⟩))
    · skip
      refine r_aload_n C dX5_free_17 1 rfl ?_
      refine r_ldc (-1000001) C dX5_free_18 tw168 (by decide +kernel) ?_
      refine r_callI1 0 C dX5_free_20 lkX5_66 (m_X5_answer (by omega) hF) ⟨rfl, rfl, Nat.le_of_ble_eq_true rfl, Nat.le_of_ble_eq_true rfl⟩ ⟨Nat.zero_le _, Nat.zero_le _⟩ rc0 (Nat.le_of_ble_eq_true rfl) (fun ra s9 hra => ?_)
      obtain ⟨era, hra⟩ := hra
      subst era
      exact hret _ _ _ _ dX5_free_23 (by first | (refine Or.inr ⟨?_, ?_, ?_⟩ <;> first | omega | (rw [hra, ans1]; done)) | (refine Or.inl ⟨by omega, τ, hpl, ?_⟩; rcases hfb with ⟨q1, q2⟩ | ⟨q1, q2⟩; (have q3 := hrw q1; exact Or.inl ⟨q1, q2, by rw [hra, ans_n (by omega)]⟩); exact Or.inr ⟨q1, q2, by rw [hra, q2, ans2]⟩))
  · rw [er2]
    show J _ _ _ _ _ _ _ _ (.null :: _)
    refine r_astore_nN C dX5_free_8 (by decide) [(3, .null), (0, .ref (a 0)), (1, iv v), (2, iv i)] rfl ?_
    refine r_aload_nN C dX5_free_9 0 rfl ?_
    refine r_ifnullN (tgt := 17) C dX5_free_10 (by decide) ?_
    refine r_aload_n C dX5_free_17 1 rfl ?_
    refine r_ldc (-1000001) C dX5_free_18 tw168 (by decide +kernel) ?_
    refine r_callI1 0 C dX5_free_20 lkX5_66 (m_X5_answer (by omega) hF) ⟨rfl, rfl, Nat.le_of_ble_eq_true rfl, Nat.le_of_ble_eq_true rfl⟩ ⟨Nat.zero_le _, Nat.zero_le _⟩ rc0 (Nat.le_of_ble_eq_true rfl) (fun ra s9 hra => ?_)
    obtain ⟨era, hra⟩ := hra
    subst era
    exact hret _ _ _ _ dX5_free_23 (by first | (refine Or.inr ⟨?_, ?_, ?_⟩ <;> first | omega | (rw [hra, ans1]; done)) | (refine Or.inl ⟨by omega, τ, hpl, ?_⟩; rcases hfb with ⟨q1, q2⟩ | ⟨q1, q2⟩; (have q3 := hrw q1; exact Or.inl ⟨q1, q2, by rw [hra, ans_n (by omega)]⟩); exact Or.inr ⟨q1, q2, by rw [hra, q2, ans2]⟩))

set_option maxHeartbeats 4000000 in
set_option maxRecDepth 100000 in
theorem m_X5_systems {a : Nat → Nat} {n : Nat} {σ : ST} (hC : CS σ n) {v i : Int} (hv1 : inR v) (hi1 : inR i) : MI yX5_systems cX5_systems 4 .int (RM 6 139) a n σ [.ref (a 0), iv v, iv i] (fun r σ1 => (((0 ≤ v ∧ v < n) ∧ 0 ≤ i) ∧ ∃ τ τ2, PlR σ τ n v ∧ AgF τ τ2 ∧ ((walkF (Zc τ) (τ 2 3) i.toNat < τ 2 3 ∧ r = syC τ (walkF (Zc τ) (τ 2 3) i.toNat) (Zc τ (walkF (Zc τ) (τ 2 3) i.toNat)) ∧ σ1 = τ2) ∨ (¬ walkF (Zc τ) (τ 2 3) i.toNat < τ 2 3 ∧ r = -1000002 ∧ σ1 = fd τ2 5 2))) ∨ (¬ ((0 ≤ v ∧ v < n) ∧ 0 ≤ i) ∧ r = -1000001 ∧ σ1 = fd σ 5 1)) := by
  refine MI.of (own := RX5) (by decide +kernel) rfl (Nat.le_of_ble_eq_true rfl) ?_
  intro κ C hret
  show J κ 0 0 a n σ [(0, .ref (a 0)), (1, iv v), (2, iv i)] 0 []
  obtain ⟨hb, hn1, hwt, hky, hdu, hwd, hli, hne, hF, hse, hk, hvs⟩ := id hC
  refine r_aload_n C dX5_systems_0 0 rfl ?_
  refine gX5_12 C dX5_systems_1 ?_
  refine r_iload_n C dX5_systems_4 1 rfl ?_
  refine r_callO1 1 C dX5_systems_5 lkX5_77 (m_X2_voiceAt (by omega) (by omega)) ⟨rfl, rfl, Nat.le_of_ble_eq_true rfl, Nat.le_of_ble_eq_true rfl⟩ ⟨Nat.zero_le _, Nat.zero_le _⟩ rc1 (Nat.le_of_ble_eq_true rfl) (fun r2 hr2 => ?_)
  rcases hr2 with ⟨er2, hr2⟩ | ⟨er2, hr2⟩
  · rw [er2]
    show J _ _ _ _ _ _ _ _ (.ref (a (39 + 5 * v.toNat)) :: _)
    refine r_astore_n C dX5_systems_8 (by decide) [(3, .ref (a (39 + 5 * v.toNat))), (0, .ref (a 0)), (1, iv v), (2, iv i)] rfl ?_
    refine r_aload_n C dX5_systems_9 0 rfl ?_
    refine r_ifnull C dX5_systems_10 ?_
    refine r_iload_n C dX5_systems_13 3 rfl ?_
    refine r_if_ge (tgt := 24) C dX5_systems_14 (by decide) (by omega) (fun h3 => ?_) (fun h3 => ?_)
    · skip
      refine r_aload_n C dX5_systems_24 1 rfl ?_
      refine r_iload_n C dX5_systems_25 2 rfl ?_
      refine r_aload_n C dX5_systems_26 0 rfl ?_
      refine r_callV2 0 C dX5_systems_27 lkX5_129 (m_X5_plan hC (by omega)) ⟨rfl, rfl, Nat.le_of_ble_eq_true rfl, Nat.le_of_ble_eq_true rfl⟩ ⟨Nat.zero_le _, Nat.zero_le _⟩ rc0 (Nat.le_of_ble_eq_true rfl) (fun τ hpl => ?_)
      obtain ⟨hfr, hCt, hI, hW, ⟨hw3, hl3⟩, hdp, hs1, hro, h12⟩ := hpl.facts hC (by omega)
      have hsz := hI.1
      have hz := dp_z hdp hs1
      have hbd := dp_bd hdp hs1 (btC_bd τ) 41 0 (by omega) (by omega) (by omega)
      have hFτ := hCt.2.2.2.2.2.2.2.2.1
      have hkk : WkIn τ := ⟨by omega, dp_end hdp hs1 (btC_bd τ) hsz.1, fun k hk9 => dp_lt hdp hs1 hsz.1 hk9⟩
      have hsr := hpl.sys
      refine r_aload_n C dX5_systems_30 1 rfl ?_
      refine r_aload_n C dX5_systems_31 1 rfl ?_
      refine gX5_30 C dX5_systems_32 ?_
      refine r_iload_n C dX5_systems_35 3 rfl ?_
      refine r_callP1 3 C dX5_systems_36 lkX5_147 (m_X0_systemsOf hI hz hkk hsr (by omega)) ⟨rfl, rfl, Nat.le_of_ble_eq_true rfl, Nat.le_of_ble_eq_true rfl⟩ ⟨Nat.zero_le _, Nat.zero_le _⟩ rc3 (Nat.le_of_ble_eq_true rfl) (fun so hso => ?_)
      have hwm := walk_mono hz hsz.1 i.toNat
      have hrw : walkF (Zc τ) (τ 2 3) i.toNat < τ 2 3 → 1 ≤ syC τ (walkF (Zc τ) (τ 2 3) i.toNat) (Zc τ (walkF (Zc τ) (τ 2 3) i.toNat)) ∧ syC τ (walkF (Zc τ) (τ 2 3) i.toNat) (Zc τ (walkF (Zc τ) (τ 2 3) i.toNat)) ≤ 50 := by
        intro h
        have h9 := hz _ hwm.1 h
        have h8 := sysF_bd2 (τ 11) (wfC τ) (τ 3 8) (walkF (Zc τ) (τ 2 3) i.toNat) (τ 2 3) (fun j j0 j1 => ⟨hW j (by omega) j1, hW.wf (by omega) j1⟩) (Zc τ (walkF (Zc τ) (τ 2 3) i.toNat)).toNat (by omega)
        unfold syC
        omega
      refine r_callI1 0 C dX5_systems_39 lkX5_66 (m_X5_answer (by omega) hFτ) ⟨rfl, rfl, Nat.le_of_ble_eq_true rfl, Nat.le_of_ble_eq_true rfl⟩ ⟨Nat.zero_le _, Nat.zero_le _⟩ rc0 (Nat.le_of_ble_eq_true rfl) (fun ra s9 hra => ?_)
      obtain ⟨era, hra⟩ := hra
      subst era
      exact hret _ _ _ _ dX5_systems_42 (by first | (refine Or.inr ⟨?_, ?_, ?_⟩ <;> first | omega | (rw [hra, ans1]; done)) | (refine Or.inl ⟨by omega, τ, τ, hpl, AgF.rf, ?_⟩; rcases hso with ⟨q1, q2⟩ | ⟨q1, q2⟩; (have q3 := hrw q1; exact Or.inl ⟨q1, q2, by rw [hra, ans_n (by omega)]⟩); exact Or.inr ⟨q1, q2, by rw [hra, q2, ans2]⟩))
    · skip
      refine r_aload_n C dX5_systems_17 1 rfl ?_
      refine r_ldc (-1000001) C dX5_systems_18 tw168 (by decide +kernel) ?_
      refine r_callI1 0 C dX5_systems_20 lkX5_66 (m_X5_answer (by omega) hF) ⟨rfl, rfl, Nat.le_of_ble_eq_true rfl, Nat.le_of_ble_eq_true rfl⟩ ⟨Nat.zero_le _, Nat.zero_le _⟩ rc0 (Nat.le_of_ble_eq_true rfl) (fun ra s9 hra => ?_)
      obtain ⟨era, hra⟩ := hra
      subst era
      exact hret _ _ _ _ dX5_systems_23 (by first | (refine Or.inr ⟨?_, ?_, ?_⟩ <;> first | omega | (rw [hra, ans1]; done)) | (refine Or.inl ⟨by omega, τ, τ, hpl, AgF.rf, ?_⟩; rcases hso with ⟨q1, q2⟩ | ⟨q1, q2⟩; (have q3 := hrw q1; exact Or.inl ⟨q1, q2, by rw [hra, ans_n (by omega)]⟩); exact Or.inr ⟨q1, q2, by rw [hra, q2, ans2]⟩))
  · rw [er2]
    show J _ _ _ _ _ _ _ _ (.null :: _)
    refine r_astore_nN C dX5_systems_8 (by decide) [(3, .null), (0, .ref (a 0)), (1, iv v), (2, iv i)] rfl ?_
    refine r_aload_nN C dX5_systems_9 0 rfl ?_
    refine r_ifnullN (tgt := 17) C dX5_systems_10 (by decide) ?_
    refine r_aload_n C dX5_systems_17 1 rfl ?_
    refine r_ldc (-1000001) C dX5_systems_18 tw168 (by decide +kernel) ?_
    refine r_callI1 0 C dX5_systems_20 lkX5_66 (m_X5_answer (by omega) hF) ⟨rfl, rfl, Nat.le_of_ble_eq_true rfl, Nat.le_of_ble_eq_true rfl⟩ ⟨Nat.zero_le _, Nat.zero_le _⟩ rc0 (Nat.le_of_ble_eq_true rfl) (fun ra s9 hra => ?_)
    obtain ⟨era, hra⟩ := hra
    subst era
    exact hret _ _ _ _ dX5_systems_23 (by first | (refine Or.inr ⟨?_, ?_, ?_⟩ <;> first | omega | (rw [hra, ans1]; done)) | (refine Or.inl ⟨by omega, τ, τ, hpl, AgF.rf, ?_⟩; rcases hso with ⟨q1, q2⟩ | ⟨q1, q2⟩; (have q3 := hrw q1; exact Or.inl ⟨q1, q2, by rw [hra, ans_n (by omega)]⟩); exact Or.inr ⟨q1, q2, by rw [hra, q2, ans2]⟩))

set_option maxHeartbeats 4000000 in
set_option maxRecDepth 100000 in
theorem m_X5_lay {a : Nat → Nat} {n : Nat} {σ : ST} (hC : CS σ n) {v : Int} (hv1 : inR v) : MI yX5_lay cX5_lay 3 .int (RM 6 139) a n σ [.ref (a 0), iv v] (fun r σ1 => ((0 ≤ v ∧ v < n) ∧ ∃ τ, PlR σ τ n v ∧ ((τ 15 0 = 0 ∧ r = -1000002 ∧ σ1 = fd τ 5 2) ∨ (¬ τ 15 0 = 0 ∧ r = τ 15 0 ∧ KpC τ σ1 v.toNat))) ∨ (¬ (0 ≤ v ∧ v < n) ∧ r = -1000001 ∧ σ1 = fd σ 5 1)) := by
  refine MI.of (own := RX5) (by decide +kernel) rfl (Nat.le_of_ble_eq_true rfl) ?_
  intro κ C hret
  show J κ 0 0 a n σ [(0, .ref (a 0)), (1, iv v)] 0 []
  obtain ⟨hb, hn1, hwt, hky, hdu, hwd, hli, hne, hF, hse, hk, hvs⟩ := id hC
  refine r_aload_n C dX5_lay_0 0 rfl ?_
  refine gX5_12 C dX5_lay_1 ?_
  refine r_iload_n C dX5_lay_4 1 rfl ?_
  refine r_callO1 1 C dX5_lay_5 lkX5_77 (m_X2_voiceAt (by omega) (by omega)) ⟨rfl, rfl, Nat.le_of_ble_eq_true rfl, Nat.le_of_ble_eq_true rfl⟩ ⟨Nat.zero_le _, Nat.zero_le _⟩ rc1 (Nat.le_of_ble_eq_true rfl) (fun r2 hr2 => ?_)
  rcases hr2 with ⟨er2, hr2⟩ | ⟨er2, hr2⟩
  · rw [er2]
    show J _ _ _ _ _ _ _ _ (.ref (a (39 + 5 * v.toNat)) :: _)
    refine r_astore_n C dX5_lay_8 (by decide) [(2, .ref (a (39 + 5 * v.toNat))), (0, .ref (a 0)), (1, iv v)] rfl ?_
    refine r_aload_n C dX5_lay_9 0 rfl ?_
    refine r_ifnonnull (tgt := 20) C dX5_lay_10 (by decide) ?_
    refine r_aload_n C dX5_lay_20 1 rfl ?_
    refine r_iload_n C dX5_lay_21 2 rfl ?_
    refine r_aload_n C dX5_lay_22 0 rfl ?_
    refine r_callV2 0 C dX5_lay_23 lkX5_129 (m_X5_plan hC (by omega)) ⟨rfl, rfl, Nat.le_of_ble_eq_true rfl, Nat.le_of_ble_eq_true rfl⟩ ⟨Nat.zero_le _, Nat.zero_le _⟩ rc0 (Nat.le_of_ble_eq_true rfl) (fun τ hpl => ?_)
    obtain ⟨hfr, hCt, hI, hW, ⟨hw3, hl3⟩, hdp, hs1, hro, h12⟩ := hpl.facts hC (by omega)
    have hsz := hI.1
    have hz := dp_z hdp hs1
    have hbd := dp_bd hdp hs1 (btC_bd τ) 41 0 (by omega) (by omega) (by omega)
    have hFτ := hCt.2.2.2.2.2.2.2.2.1
    have hkk : WkIn τ := ⟨by omega, dp_end hdp hs1 (btC_bd τ) hsz.1, fun k hk9 => dp_lt hdp hs1 hsz.1 hk9⟩
    have hsr := hpl.sys
    refine r_aload_n C dX5_lay_26 1 rfl ?_
    refine gX5_30 C dX5_lay_27 ?_
    refine r_callP0 3 C dX5_lay_30 lkX5_133 m_X0_pageCount ⟨rfl, rfl, Nat.le_of_ble_eq_true rfl, Nat.le_of_ble_eq_true rfl⟩ ⟨Nat.zero_le _, Nat.zero_le _⟩ rc3 (Nat.le_of_ble_eq_true rfl) (fun pc hpc => ?_)
    refine r_if_ne (tgt := 43) C dX5_lay_33 (by decide) (by omega) (fun h4 => ?_) (fun h4 => ?_)
    · skip
      refine r_aload_n C dX5_lay_43 0 rfl ?_
      refine r_aload_n C dX5_lay_44 1 rfl ?_
      refine gX5_12 C dX5_lay_45 ?_
      refine r_aload_n C dX5_lay_48 1 rfl ?_
      refine gX5_30 C dX5_lay_49 ?_
      refine r_callV2 (39 + 5 * v.toNat) C dX5_lay_52 lkX5_150 (m_X4_keepLaid (by omega) hCt hI hz hkk) ⟨rfl, rfl, Nat.le_of_ble_eq_true rfl, Nat.le_of_ble_eq_true rfl⟩ ⟨Nat.zero_le _, Nat.zero_le _⟩ (rcV (by omega)) (Nat.le_of_ble_eq_true rfl) (fun τ2 hkp => ?_)
      have hFτ2 := hFτ.same (hkp.1 5 (by omega) (by omega) (by omega))
      have hlp := hkp.2.2.1
      refine r_aload_n C dX5_lay_55 1 rfl ?_
      refine r_aload_n C dX5_lay_56 0 rfl ?_
      refine gX5_154 v.toNat (by omega) C dX5_lay_57 (fun g7 => ?_)
      refine r_callI1 0 C dX5_lay_60 lkX5_66 (m_X5_answer (by omega) hFτ2) ⟨rfl, rfl, Nat.le_of_ble_eq_true rfl, Nat.le_of_ble_eq_true rfl⟩ ⟨Nat.zero_le _, Nat.zero_le _⟩ rc0 (Nat.le_of_ble_eq_true rfl) (fun ra s9 hra => ?_)
      obtain ⟨era, hra⟩ := hra
      subst era
      exact hret _ _ _ _ dX5_lay_63 (by first | (refine Or.inr ⟨?_, ?_, ?_⟩ <;> first | omega | (rw [hra, ans1]; done)) | exact Or.inl ⟨by omega, τ, hpl, Or.inl ⟨by omega, rfl, by rw [hra, ans2]⟩⟩ | exact Or.inl ⟨by omega, τ, hpl, Or.inr ⟨by omega, by omega, by rw [hra, ans_n (by omega)]; exact hkp⟩⟩)
    · skip
      refine r_aload_n C dX5_lay_36 1 rfl ?_
      refine r_ldc (-1000002) C dX5_lay_37 tw409 (by decide +kernel) ?_
      refine r_callI1 0 C dX5_lay_39 lkX5_66 (m_X5_answer (by omega) hFτ) ⟨rfl, rfl, Nat.le_of_ble_eq_true rfl, Nat.le_of_ble_eq_true rfl⟩ ⟨Nat.zero_le _, Nat.zero_le _⟩ rc0 (Nat.le_of_ble_eq_true rfl) (fun ra s9 hra => ?_)
      obtain ⟨era, hra⟩ := hra
      subst era
      exact hret _ _ _ _ dX5_lay_42 (by first | (refine Or.inr ⟨?_, ?_, ?_⟩ <;> first | omega | (rw [hra, ans1]; done)) | exact Or.inl ⟨by omega, τ, hpl, Or.inl ⟨by omega, rfl, by rw [hra, ans2]⟩⟩ | exact Or.inl ⟨by omega, τ, hpl, Or.inr ⟨by omega, by omega, by rw [hra, ans_n (by omega)]; exact hkp⟩⟩)
  · rw [er2]
    show J _ _ _ _ _ _ _ _ (.null :: _)
    refine r_astore_nN C dX5_lay_8 (by decide) [(2, .null), (0, .ref (a 0)), (1, iv v)] rfl ?_
    refine r_aload_nN C dX5_lay_9 0 rfl ?_
    refine r_ifnonnullN C dX5_lay_10 ?_
    refine r_aload_n C dX5_lay_13 1 rfl ?_
    refine r_ldc (-1000001) C dX5_lay_14 tw168 (by decide +kernel) ?_
    refine r_callI1 0 C dX5_lay_16 lkX5_66 (m_X5_answer (by omega) hF) ⟨rfl, rfl, Nat.le_of_ble_eq_true rfl, Nat.le_of_ble_eq_true rfl⟩ ⟨Nat.zero_le _, Nat.zero_le _⟩ rc0 (Nat.le_of_ble_eq_true rfl) (fun ra s9 hra => ?_)
    obtain ⟨era, hra⟩ := hra
    subst era
    exact hret _ _ _ _ dX5_lay_19 (by first | (refine Or.inr ⟨?_, ?_, ?_⟩ <;> first | omega | (rw [hra, ans1]; done)) | exact Or.inl ⟨by omega, τ, hpl, Or.inl ⟨by omega, rfl, by rw [hra, ans2]⟩⟩ | exact Or.inl ⟨by omega, τ, hpl, Or.inr ⟨by omega, by omega, by rw [hra, ans_n (by omega)]; exact hkp⟩⟩)

set_option maxHeartbeats 4000000 in
set_option maxRecDepth 100000 in
theorem m_X5_stale {a : Nat → Nat} {n : Nat} {σ : ST} (hC : CS σ n) {v : Int} (hv1 : inR v) : MI yX5_stale cX5_stale 3 .int (RM 4 89) a n σ [.ref (a 0), iv v] (fun r σ1 => ((0 ≤ v ∧ v < n) ∧ σ (39 + 5 * v.toNat) 7 = 0 ∧ r = -1000002 ∧ σ1 = fd σ 5 2) ∨ ((0 ≤ v ∧ v < n) ∧ 0 < σ (39 + 5 * v.toNat) 7 ∧ r = (stpF (σ (42 + 5 * v.toNat)) (σ (43 + 5 * v.toNat)) (mkC σ v.toNat) (σ (39 + 5 * v.toNat) 7) 40).1 ∧ σ1 = σ) ∨ (¬ (0 ≤ v ∧ v < n) ∧ r = -1000001 ∧ σ1 = fd σ 5 1)) := by
  refine MI.of (own := RX5) (by decide +kernel) rfl (Nat.le_of_ble_eq_true rfl) ?_
  intro κ C hret
  show J κ 0 0 a n σ [(0, .ref (a 0)), (1, iv v)] 0 []
  obtain ⟨hb, hn1, hwt, hky, hdu, hwd, hli, hne, hF, hse, hk, hvs⟩ := id hC
  refine r_aload_n C dX5_stale_0 0 rfl ?_
  refine gX5_12 C dX5_stale_1 ?_
  refine r_iload_n C dX5_stale_4 1 rfl ?_
  refine r_callO1 1 C dX5_stale_5 lkX5_77 (m_X2_voiceAt (by omega) (by omega)) ⟨rfl, rfl, Nat.le_of_ble_eq_true rfl, Nat.le_of_ble_eq_true rfl⟩ ⟨Nat.zero_le _, Nat.zero_le _⟩ rc1 (Nat.le_of_ble_eq_true rfl) (fun r2 hr2 => ?_)
  rcases hr2 with ⟨er2, hr2⟩ | ⟨er2, hr2⟩
  · rw [er2]
    show J _ _ _ _ _ _ _ _ (.ref (a (39 + 5 * v.toNat)) :: _)
    refine r_astore_n C dX5_stale_8 (by decide) [(2, .ref (a (39 + 5 * v.toNat))), (0, .ref (a 0)), (1, iv v)] rfl ?_
    refine r_aload_n C dX5_stale_9 0 rfl ?_
    refine r_ifnonnull (tgt := 20) C dX5_stale_10 (by decide) ?_
    have hvv := (hvs v.toNat (by omega)).2.2.2.1
    refine r_aload_n C dX5_stale_20 1 rfl ?_
    refine r_aload_n C dX5_stale_21 0 rfl ?_
    refine gX5_154 v.toNat (by omega) C dX5_stale_22 (fun g3 => ?_)
    refine r_if_ne (tgt := 33) C dX5_stale_25 (by decide) (by omega) (fun h4 => ?_) (fun h4 => ?_)
    · skip
      refine r_aload_n C dX5_stale_33 0 rfl ?_
      refine r_aload_n C dX5_stale_34 1 rfl ?_
      refine gX5_12 C dX5_stale_35 ?_
      refine r_callP1 (39 + 5 * v.toNat) C dX5_stale_38 lkX5_157 (m_X4_stalePages (by omega) hC) ⟨rfl, rfl, Nat.le_of_ble_eq_true rfl, Nat.le_of_ble_eq_true rfl⟩ ⟨Nat.zero_le _, Nat.zero_le _⟩ (rcV (by omega)) (Nat.le_of_ble_eq_true rfl) (fun sp hsp => ?_)
      obtain ⟨hsp, hsp2⟩ := hsp
      refine r_callI1 0 C dX5_stale_41 lkX5_66 (m_X5_answer (by omega) hF) ⟨rfl, rfl, Nat.le_of_ble_eq_true rfl, Nat.le_of_ble_eq_true rfl⟩ ⟨Nat.zero_le _, Nat.zero_le _⟩ rc0 (Nat.le_of_ble_eq_true rfl) (fun ra s9 hra => ?_)
      obtain ⟨era, hra⟩ := hra
      subst era
      exact hret _ _ _ _ dX5_stale_44 (by first | (refine (Or.inl ⟨?_, ?_, ?_, ?_⟩) <;> first | omega | assumption | rfl | (rw [hra, ans1]; done) | (rw [hra, ans2]; done) | (rw [hra, ans4]; done) | (rw [hra, ans5]; done) | (rw [hra, ans_n (by omega)]; done)) | (refine (Or.inr (Or.inl ⟨?_, ?_, ?_, ?_⟩)) <;> first | omega | assumption | rfl | (rw [hra, ans1]; done) | (rw [hra, ans2]; done) | (rw [hra, ans4]; done) | (rw [hra, ans5]; done) | (rw [hra, ans_n (by omega)]; done)) | (refine (Or.inr (Or.inr ⟨?_, ?_, ?_⟩)) <;> first | omega | assumption | rfl | (rw [hra, ans1]; done) | (rw [hra, ans2]; done) | (rw [hra, ans4]; done) | (rw [hra, ans5]; done) | (rw [hra, ans_n (by omega)]; done)))
    · skip
      refine r_ldc (-1000002) C dX5_stale_28 tw409 (by decide +kernel) ?_
      refine r_goto (tgt := 41) C dX5_stale_30 (by decide) ?_
      refine r_callI1 0 C dX5_stale_41 lkX5_66 (m_X5_answer (by omega) hF) ⟨rfl, rfl, Nat.le_of_ble_eq_true rfl, Nat.le_of_ble_eq_true rfl⟩ ⟨Nat.zero_le _, Nat.zero_le _⟩ rc0 (Nat.le_of_ble_eq_true rfl) (fun ra s9 hra => ?_)
      obtain ⟨era, hra⟩ := hra
      subst era
      exact hret _ _ _ _ dX5_stale_44 (by first | (refine (Or.inl ⟨?_, ?_, ?_, ?_⟩) <;> first | omega | assumption | rfl | (rw [hra, ans1]; done) | (rw [hra, ans2]; done) | (rw [hra, ans4]; done) | (rw [hra, ans5]; done) | (rw [hra, ans_n (by omega)]; done)) | (refine (Or.inr (Or.inl ⟨?_, ?_, ?_, ?_⟩)) <;> first | omega | assumption | rfl | (rw [hra, ans1]; done) | (rw [hra, ans2]; done) | (rw [hra, ans4]; done) | (rw [hra, ans5]; done) | (rw [hra, ans_n (by omega)]; done)) | (refine (Or.inr (Or.inr ⟨?_, ?_, ?_⟩)) <;> first | omega | assumption | rfl | (rw [hra, ans1]; done) | (rw [hra, ans2]; done) | (rw [hra, ans4]; done) | (rw [hra, ans5]; done) | (rw [hra, ans_n (by omega)]; done)))
  · rw [er2]
    show J _ _ _ _ _ _ _ _ (.null :: _)
    refine r_astore_nN C dX5_stale_8 (by decide) [(2, .null), (0, .ref (a 0)), (1, iv v)] rfl ?_
    refine r_aload_nN C dX5_stale_9 0 rfl ?_
    refine r_ifnonnullN C dX5_stale_10 ?_
    refine r_aload_n C dX5_stale_13 1 rfl ?_
    refine r_ldc (-1000001) C dX5_stale_14 tw168 (by decide +kernel) ?_
    refine r_callI1 0 C dX5_stale_16 lkX5_66 (m_X5_answer (by omega) hF) ⟨rfl, rfl, Nat.le_of_ble_eq_true rfl, Nat.le_of_ble_eq_true rfl⟩ ⟨Nat.zero_le _, Nat.zero_le _⟩ rc0 (Nat.le_of_ble_eq_true rfl) (fun ra s9 hra => ?_)
    obtain ⟨era, hra⟩ := hra
    subst era
    exact hret _ _ _ _ dX5_stale_19 (by first | (refine (Or.inl ⟨?_, ?_, ?_, ?_⟩) <;> first | omega | assumption | rfl | (rw [hra, ans1]; done) | (rw [hra, ans2]; done) | (rw [hra, ans4]; done) | (rw [hra, ans5]; done) | (rw [hra, ans_n (by omega)]; done)) | (refine (Or.inr (Or.inl ⟨?_, ?_, ?_, ?_⟩)) <;> first | omega | assumption | rfl | (rw [hra, ans1]; done) | (rw [hra, ans2]; done) | (rw [hra, ans4]; done) | (rw [hra, ans5]; done) | (rw [hra, ans_n (by omega)]; done)) | (refine (Or.inr (Or.inr ⟨?_, ?_, ?_⟩)) <;> first | omega | assumption | rfl | (rw [hra, ans1]; done) | (rw [hra, ans2]; done) | (rw [hra, ans4]; done) | (rw [hra, ans5]; done) | (rw [hra, ans_n (by omega)]; done)))

theorem CS.w0 {σ : ST} {n : Nat} (h : CS σ n) : CS (up2 σ 4 1 0) n := by
  obtain ⟨h1, h2, h3, h4, h5, h6, h7, h8, h9, h10, h11, h12⟩ := h
  unfold CS
  rw [up2_self, up2_ne (show (0 : Nat) ≠ 4 by decide), up2_ne (show (1 : Nat) ≠ 4 by decide), up2_ne (show (6 : Nat) ≠ 4 by decide), up2_ne (show (7 : Nat) ≠ 4 by decide)]
  refine ⟨h1, h2, by omega, h4, h5, h6, h7, h8, F5.up h9 (by decide), h10, h11, fun i hi => ?_⟩
  rw [up2_ne (show 39 + 5 * i ≠ 4 by omega), up2_ne (show 40 + 5 * i ≠ 4 by omega), up2_ne (show 41 + 5 * i ≠ 4 by omega)]
  exact h12 i hi
def ckC (ρ : ST) (told : Int) : Int := chkT (ρ 10) (Mc ρ) (ρ 17) told (ρ 2 3) 0 0
set_option maxHeartbeats 4000000 in
set_option maxRecDepth 100000 in
theorem m_X5_check {a : Nat → Nat} {n : Nat} {σ : ST} (hC : CS σ n) {v : Int} (hv1 : inR v) : MI yX5_check cX5_check 3 .int (RM 5 112) a n σ [.ref (a 0), iv v] (fun r σ1 => ((0 ≤ v ∧ v < n) ∧ DrC (up2 σ 4 1 0) σ1 v (σ 0 6) ∧ r = ckC σ1 (σ 4 1)) ∨ (¬ (0 ≤ v ∧ v < n) ∧ r = -1000001 ∧ σ1 = fd (up2 σ 4 1 0) 5 1)) := by
  refine MI.of (own := RX5) (by decide +kernel) rfl (Nat.le_of_ble_eq_true rfl) ?_
  intro κ C hret
  show J κ 0 0 a n σ [(0, .ref (a 0)), (1, iv v)] 0 []
  obtain ⟨hb, hn1, hwt, hky, hdu, hwd, hli, hne, hF, hse, hk, hvs⟩ := id hC
  refine r_aload_n C dX5_check_0 0 rfl ?_
  refine gX5_37 C dX5_check_1 ?_
  refine r_callI0 4 C dX5_check_4 lkX5_164 m_X3_takeAll ⟨rfl, rfl, Nat.le_of_ble_eq_true rfl, Nat.le_of_ble_eq_true rfl⟩ ⟨Nat.zero_le _, Nat.zero_le _⟩ rc4 (Nat.le_of_ble_eq_true rfl) (fun ta ω hta => ?_)
  obtain ⟨hta, hω⟩ := hta
  have hC0 : CS ω n := by rw [hω]; exact hC.w0
  have hFω := hC0.2.2.2.2.2.2.2.2.1
  have hn0 := hC0.2.1
  have ho6 : ω 0 6 = σ 0 6 := by rw [hω, up2_ne (show (0 : Nat) ≠ 4 by decide)]
  refine r_istore_n C dX5_check_7 (by decide) (fun z_ => [(2, iv z_), (0, .ref (a 0)), (1, iv v)]) (fun _ => rfl) (fun wd ewd => ?_)
  refine r_aload_n C dX5_check_8 1 rfl ?_
  refine gX5_12 C dX5_check_9 ?_
  refine r_iload_n C dX5_check_12 2 rfl ?_
  refine r_callO1 1 C dX5_check_13 lkX5_77 (m_X2_voiceAt (by omega) (by omega)) ⟨rfl, rfl, Nat.le_of_ble_eq_true rfl, Nat.le_of_ble_eq_true rfl⟩ ⟨Nat.zero_le _, Nat.zero_le _⟩ rc1 (Nat.le_of_ble_eq_true rfl) (fun r3 hr3 => ?_)
  rcases hr3 with ⟨er3, hr3⟩ | ⟨er3, hr3⟩
  · rw [er3]
    show J _ _ _ _ _ _ _ _ (.ref (a (39 + 5 * v.toNat)) :: _)
    refine r_ifnonnull (tgt := 26) C dX5_check_16 (by decide) ?_
    refine r_aload_n C dX5_check_26 1 rfl ?_
    refine gX5_21 C dX5_check_27 ?_
    refine r_iload_n C dX5_check_30 2 rfl ?_
    refine r_aload_n C dX5_check_31 1 rfl ?_
    refine gX5_49 C dX5_check_32 (fun g5 => ?_)
    refine r_callV2 2 C dX5_check_35 lkX5_111 (m_X1_draw hC0 (by omega) (by omega)) ⟨rfl, rfl, Nat.le_of_ble_eq_true rfl, Nat.le_of_ble_eq_true rfl⟩ ⟨Nat.zero_le _, Nat.zero_le _⟩ rc2 (Nat.le_of_ble_eq_true rfl) (fun ρ hdr => ?_)
    have hC2 := hdr.fr.cs hC0
    have hI := hdr.pin hC0 (by omega)
    have hFρ := hC2.2.2.2.2.2.2.2.2.1
    have hk2 := hC2.2.2.2.2.2.2.2.2.2.2.1
    refine r_aload_n C dX5_check_38 1 rfl ?_
    refine r_aload_n C dX5_check_39 1 rfl ?_
    refine gX5_37 C dX5_check_40 ?_
    refine r_iload_n C dX5_check_43 0 rfl ?_
    refine r_aload_n C dX5_check_44 1 rfl ?_
    refine gX5_21 C dX5_check_45 ?_
    refine r_callP2 4 C dX5_check_48 lkX5_167 (m_X3_compare hI hk2 (by omega)) ⟨rfl, rfl, Nat.le_of_ble_eq_true rfl, Nat.le_of_ble_eq_true rfl⟩ ⟨Nat.zero_le _, Nat.zero_le _⟩ rc4 (Nat.le_of_ble_eq_true rfl) (fun co hco => ?_)
    obtain ⟨hco, hco2⟩ := hco
    refine r_callI1 0 C dX5_check_51 lkX5_66 (m_X5_answer (by omega) hFρ) ⟨rfl, rfl, Nat.le_of_ble_eq_true rfl, Nat.le_of_ble_eq_true rfl⟩ ⟨Nat.zero_le _, Nat.zero_le _⟩ rc0 (Nat.le_of_ble_eq_true rfl) (fun ra s9 hra => ?_)
    obtain ⟨era, hra⟩ := hra
    subst era
    exact hret _ _ _ _ dX5_check_54 (by first | (refine Or.inr ⟨?_, ?_, ?_⟩ <;> first | omega | (rw [hra, ans1, hω]; done)) | (refine Or.inl ⟨by omega, ?_, ?_⟩; (rw [hra, ans_n (by omega), ← hω, ← ho6]; exact hdr); (rw [hra, ans_n (by omega), hco, ewd, hta]; rfl)))
  · rw [er3]
    show J _ _ _ _ _ _ _ _ (.null :: _)
    refine r_ifnonnullN C dX5_check_16 ?_
    refine r_aload_n C dX5_check_19 1 rfl ?_
    refine r_ldc (-1000001) C dX5_check_20 tw168 (by decide +kernel) ?_
    refine r_callI1 0 C dX5_check_22 lkX5_66 (m_X5_answer (by omega) hFω) ⟨rfl, rfl, Nat.le_of_ble_eq_true rfl, Nat.le_of_ble_eq_true rfl⟩ ⟨Nat.zero_le _, Nat.zero_le _⟩ rc0 (Nat.le_of_ble_eq_true rfl) (fun ra s9 hra => ?_)
    obtain ⟨era, hra⟩ := hra
    subst era
    exact hret _ _ _ _ dX5_check_25 (by first | (refine Or.inr ⟨?_, ?_, ?_⟩ <;> first | omega | (rw [hra, ans1, hω]; done)) | (refine Or.inl ⟨by omega, ?_, ?_⟩; (rw [hra, ans_n (by omega), ← hω, ← ho6]; exact hdr); (rw [hra, ans_n (by omega), hco, ewd, hta]; rfl)))
