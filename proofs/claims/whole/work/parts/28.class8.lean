set_option maxHeartbeats 4000000 in
set_option maxRecDepth 100000 in
theorem m_X5_bar {a : Nat → Nat} {n : Nat} {σ : ST} (hC : CS σ n) {x : Int} (hx : inR x) : MI yX5_bar cX5_bar 2 .int (RM 2 43) a n σ [.ref (a 0), iv x] (fun r σ1 => ((1 ≤ x ∧ x ≤ 60) ∧ σ 1 3 < 40 ∧ r = σ 1 3 ∧ σ1 = up2 (up2 σ 6 (σ 1 3) x) 1 3 (σ 1 3 + 1)) ∨ ((1 ≤ x ∧ x ≤ 60) ∧ σ 1 3 = 40 ∧ r = -1000004 ∧ σ1 = fd σ 5 4) ∨ (¬ (1 ≤ x ∧ x ≤ 60) ∧ r = -1000001 ∧ σ1 = fd σ 5 1)) := by
  refine MI.of (own := RX5) (by decide +kernel) rfl (Nat.le_of_ble_eq_true rfl) ?_
  intro κ C hret
  show J κ 0 0 a n σ [(0, .ref (a 0)), (1, iv x)] 0 []
  obtain ⟨hb, hn1, hwt, hky, hdu, hwd, hli, hne, hF, hse, hk, hvs⟩ := id hC
  refine r_iload_n C dX5_bar_0 1 rfl ?_
  refine r_iconst C dX5_bar_1 ?_
  refine r_bipush C dX5_bar_2 (by decide) ?_
  refine r_callSB3 C dX5_bar_4 lkX5_61 (m_X5_within (by omega) (by omega) (by omega)) ⟨rfl, rfl, Nat.le_of_ble_eq_true rfl, Nat.le_of_ble_eq_true rfl⟩ ⟨Nat.zero_le _, Nat.zero_le _⟩ (Nat.le_of_ble_eq_true rfl) (fun h1 => ?_) (fun h1 => ?_)
  · skip
    refine r_if_ne (tgt := 17) C dX5_bar_7 (by decide) (by decide) (fun _ => ?_) (fun q => absurd q (by decide))
    refine r_aload_n C dX5_bar_17 0 rfl ?_
    refine r_aload_n C dX5_bar_18 0 rfl ?_
    refine gX5_12 C dX5_bar_19 ?_
    refine r_iload_n C dX5_bar_22 1 rfl ?_
    refine r_callI1 1 C dX5_bar_23 lkX5_70 (m_X2_addBar (by omega) (by omega)) ⟨rfl, rfl, Nat.le_of_ble_eq_true rfl, Nat.le_of_ble_eq_true rfl⟩ ⟨Nat.zero_le _, Nat.zero_le _⟩ rc1 (Nat.le_of_ble_eq_true rfl) (fun ad sA had => ?_)
    have hFsA : F5 sA := by rcases had with ⟨-, -, q3⟩ | ⟨-, -, q3⟩ <;> rw [q3]; exact F5.up (F5.up hF (by omega)) (by omega); exact hF
    refine r_callI1 0 C dX5_bar_26 lkX5_66 (m_X5_answer (by omega) hFsA) ⟨rfl, rfl, Nat.le_of_ble_eq_true rfl, Nat.le_of_ble_eq_true rfl⟩ ⟨Nat.zero_le _, Nat.zero_le _⟩ rc0 (Nat.le_of_ble_eq_true rfl) (fun ra s9 hra => ?_)
    obtain ⟨era, hra⟩ := hra
    subst era
    exact hret _ _ _ _ dX5_bar_29 (by first | (refine Or.inr (Or.inr ⟨?_, ?_, ?_⟩) <;> first | omega | (rw [hra, ans1]; done)) | (rcases had with ⟨q1, q2, q3⟩ | ⟨q1, q2, q3⟩; exact Or.inl ⟨by omega, q1, q2, by rw [hra, ans_n (by omega)]; exact q3⟩; exact Or.inr (Or.inl ⟨by omega, q1, q2, by rw [hra, q2, q3, ans4]⟩)))
  · skip
    refine r_if_ne (tgt := 17) C dX5_bar_7 (by decide) (by decide) (fun q => absurd q (by decide)) (fun _ => ?_)
    refine r_aload_n C dX5_bar_10 0 rfl ?_
    refine r_ldc (-1000001) C dX5_bar_11 tw168 (by decide +kernel) ?_
    refine r_callI1 0 C dX5_bar_13 lkX5_66 (m_X5_answer (by omega) hF) ⟨rfl, rfl, Nat.le_of_ble_eq_true rfl, Nat.le_of_ble_eq_true rfl⟩ ⟨Nat.zero_le _, Nat.zero_le _⟩ rc0 (Nat.le_of_ble_eq_true rfl) (fun ra s9 hra => ?_)
    obtain ⟨era, hra⟩ := hra
    subst era
    exact hret _ _ _ _ dX5_bar_16 (by first | (refine Or.inr (Or.inr ⟨?_, ?_, ?_⟩) <;> first | omega | (rw [hra, ans1]; done)) | (rcases had with ⟨q1, q2, q3⟩ | ⟨q1, q2, q3⟩; exact Or.inl ⟨by omega, q1, q2, by rw [hra, ans_n (by omega)]; exact q3⟩; exact Or.inr (Or.inl ⟨by omega, q1, q2, by rw [hra, q2, q3, ans4]⟩)))

set_option maxHeartbeats 4000000 in
set_option maxRecDepth 100000 in
theorem m_X5_as {a : Nat → Nat} {n : Nat} {σ : ST} (hC : CS σ n) {v k : Int} (hk1 : inR k) (hv : inR v) : MI yX5_as cX5_as 4 .int (RM 2 43) a n σ [.ref (a 0), iv v, iv k] (fun r σ1 => ((0 ≤ v ∧ v < n) ∧ (0 ≤ k ∧ k ≤ 2) ∧ (k = 0 ∨ σ (39 + 5 * v.toNat) 0 = k) ∧ r = σ (39 + 5 * v.toNat) 1 ∧ σ1 = σ) ∨ ((0 ≤ v ∧ v < n) ∧ (0 ≤ k ∧ k ≤ 2) ∧ ¬ (k = 0 ∨ σ (39 + 5 * v.toNat) 0 = k) ∧ r = -1000005 ∧ σ1 = fd σ 5 5) ∨ (¬ ((0 ≤ v ∧ v < n) ∧ (0 ≤ k ∧ k ≤ 2)) ∧ r = -1000001 ∧ σ1 = fd σ 5 1)) := by
  refine MI.of (own := RX5) (by decide +kernel) rfl (Nat.le_of_ble_eq_true rfl) ?_
  intro κ C hret
  show J κ 0 0 a n σ [(0, .ref (a 0)), (1, iv v), (2, iv k)] 0 []
  obtain ⟨hb, hn1, hwt, hky, hdu, hwd, hli, hne, hF, hse, hk, hvs⟩ := id hC
  refine r_aload_n C dX5_as_0 0 rfl ?_
  refine gX5_12 C dX5_as_1 ?_
  refine r_iload_n C dX5_as_4 1 rfl ?_
  refine r_callO1 1 C dX5_as_5 lkX5_77 (m_X2_voiceAt (by omega) (by omega)) ⟨rfl, rfl, Nat.le_of_ble_eq_true rfl, Nat.le_of_ble_eq_true rfl⟩ ⟨Nat.zero_le _, Nat.zero_le _⟩ rc1 (Nat.le_of_ble_eq_true rfl) (fun r2 hr2 => ?_)
  rcases hr2 with ⟨er2, hr2⟩ | ⟨er2, hr2⟩
  · rw [er2]
    show J _ _ _ _ _ _ _ _ (.ref (a (39 + 5 * v.toNat)) :: _)
    refine r_astore_n C dX5_as_8 (by decide) [(3, .ref (a (39 + 5 * v.toNat))), (0, .ref (a 0)), (1, iv v), (2, iv k)] rfl ?_
    refine r_aload_n C dX5_as_9 0 rfl ?_
    refine r_ifnull C dX5_as_10 ?_
    refine r_iload_n C dX5_as_13 3 rfl ?_
    refine r_iconst C dX5_as_14 ?_
    refine r_iconst C dX5_as_15 ?_
    refine r_callSB3 C dX5_as_16 lkX5_61 (m_X5_within (by omega) (by omega) (by omega)) ⟨rfl, rfl, Nat.le_of_ble_eq_true rfl, Nat.le_of_ble_eq_true rfl⟩ ⟨Nat.zero_le _, Nat.zero_le _⟩ (Nat.le_of_ble_eq_true rfl) (fun h3 => ?_) (fun h3 => ?_)
    · skip
      refine r_if_ne (tgt := 29) C dX5_as_19 (by decide) (by decide) (fun _ => ?_) (fun q => absurd q (by decide))
      have hvv := hvs v.toNat (by omega)
      refine r_aload_n C dX5_as_29 1 rfl ?_
      refine r_aload_n C dX5_as_30 0 rfl ?_
      refine r_iload_n C dX5_as_31 3 rfl ?_
      refine r_callB1 (39 + 5 * v.toNat) C dX5_as_32 lkX5_81 (m_X4_isOf (by omega) (by omega)) ⟨rfl, rfl, Nat.le_of_ble_eq_true rfl, Nat.le_of_ble_eq_true rfl⟩ ⟨Nat.zero_le _, Nat.zero_le _⟩ (rcV (by omega)) (Nat.le_of_ble_eq_true rfl) (fun h5 => ?_) (fun h5 => ?_)
      · skip
        refine r_if_eq (tgt := 45) C dX5_as_35 (by decide) (by decide) (fun q => absurd q (by decide)) (fun _ => ?_)
        refine r_aload_n C dX5_as_38 0 rfl ?_
        refine gX5_87 v.toNat (by omega) C dX5_as_39 (fun g7 => ?_)
        refine r_goto (tgt := 47) C dX5_as_42 (by decide) ?_
        refine r_callI1 0 C dX5_as_47 lkX5_66 (m_X5_answer (by omega) hF) ⟨rfl, rfl, Nat.le_of_ble_eq_true rfl, Nat.le_of_ble_eq_true rfl⟩ ⟨Nat.zero_le _, Nat.zero_le _⟩ rc0 (Nat.le_of_ble_eq_true rfl) (fun ra s9 hra => ?_)
        obtain ⟨era, hra⟩ := hra
        subst era
        exact hret _ _ _ _ dX5_as_50 (by first | (refine (Or.inl ⟨?_, ?_, ?_, ?_, ?_⟩) <;> first | omega | assumption | rfl | (rw [hra, ans1]; done) | (rw [hra, ans2]; done) | (rw [hra, ans4]; done) | (rw [hra, ans5]; done) | (rw [hra, ans_n (by omega)]; done)) | (refine (Or.inr (Or.inl ⟨?_, ?_, ?_, ?_, ?_⟩)) <;> first | omega | assumption | rfl | (rw [hra, ans1]; done) | (rw [hra, ans2]; done) | (rw [hra, ans4]; done) | (rw [hra, ans5]; done) | (rw [hra, ans_n (by omega)]; done)) | (refine (Or.inr (Or.inr ⟨?_, ?_, ?_⟩)) <;> first | omega | assumption | rfl | (rw [hra, ans1]; done) | (rw [hra, ans2]; done) | (rw [hra, ans4]; done) | (rw [hra, ans5]; done) | (rw [hra, ans_n (by omega)]; done)))
      · skip
        refine r_if_eq (tgt := 45) C dX5_as_35 (by decide) (by decide) (fun _ => ?_) (fun q => absurd q (by decide))
        refine r_ldc (-1000005) C dX5_as_45 tw173 (by decide +kernel) ?_
        refine r_callI1 0 C dX5_as_47 lkX5_66 (m_X5_answer (by omega) hF) ⟨rfl, rfl, Nat.le_of_ble_eq_true rfl, Nat.le_of_ble_eq_true rfl⟩ ⟨Nat.zero_le _, Nat.zero_le _⟩ rc0 (Nat.le_of_ble_eq_true rfl) (fun ra s9 hra => ?_)
        obtain ⟨era, hra⟩ := hra
        subst era
        exact hret _ _ _ _ dX5_as_50 (by first | (refine (Or.inl ⟨?_, ?_, ?_, ?_, ?_⟩) <;> first | omega | assumption | rfl | (rw [hra, ans1]; done) | (rw [hra, ans2]; done) | (rw [hra, ans4]; done) | (rw [hra, ans5]; done) | (rw [hra, ans_n (by omega)]; done)) | (refine (Or.inr (Or.inl ⟨?_, ?_, ?_, ?_, ?_⟩)) <;> first | omega | assumption | rfl | (rw [hra, ans1]; done) | (rw [hra, ans2]; done) | (rw [hra, ans4]; done) | (rw [hra, ans5]; done) | (rw [hra, ans_n (by omega)]; done)) | (refine (Or.inr (Or.inr ⟨?_, ?_, ?_⟩)) <;> first | omega | assumption | rfl | (rw [hra, ans1]; done) | (rw [hra, ans2]; done) | (rw [hra, ans4]; done) | (rw [hra, ans5]; done) | (rw [hra, ans_n (by omega)]; done)))
    · skip
      refine r_if_ne (tgt := 29) C dX5_as_19 (by decide) (by decide) (fun q => absurd q (by decide)) (fun _ => ?_)
      refine r_aload_n C dX5_as_22 1 rfl ?_
      refine r_ldc (-1000001) C dX5_as_23 tw168 (by decide +kernel) ?_
      refine r_callI1 0 C dX5_as_25 lkX5_66 (m_X5_answer (by omega) hF) ⟨rfl, rfl, Nat.le_of_ble_eq_true rfl, Nat.le_of_ble_eq_true rfl⟩ ⟨Nat.zero_le _, Nat.zero_le _⟩ rc0 (Nat.le_of_ble_eq_true rfl) (fun ra s9 hra => ?_)
      obtain ⟨era, hra⟩ := hra
      subst era
      exact hret _ _ _ _ dX5_as_28 (by first | (refine (Or.inl ⟨?_, ?_, ?_, ?_, ?_⟩) <;> first | omega | assumption | rfl | (rw [hra, ans1]; done) | (rw [hra, ans2]; done) | (rw [hra, ans4]; done) | (rw [hra, ans5]; done) | (rw [hra, ans_n (by omega)]; done)) | (refine (Or.inr (Or.inl ⟨?_, ?_, ?_, ?_, ?_⟩)) <;> first | omega | assumption | rfl | (rw [hra, ans1]; done) | (rw [hra, ans2]; done) | (rw [hra, ans4]; done) | (rw [hra, ans5]; done) | (rw [hra, ans_n (by omega)]; done)) | (refine (Or.inr (Or.inr ⟨?_, ?_, ?_⟩)) <;> first | omega | assumption | rfl | (rw [hra, ans1]; done) | (rw [hra, ans2]; done) | (rw [hra, ans4]; done) | (rw [hra, ans5]; done) | (rw [hra, ans_n (by omega)]; done)))
  · rw [er2]
    show J _ _ _ _ _ _ _ _ (.null :: _)
    refine r_astore_nN C dX5_as_8 (by decide) [(3, .null), (0, .ref (a 0)), (1, iv v), (2, iv k)] rfl ?_
    refine r_aload_nN C dX5_as_9 0 rfl ?_
    refine r_ifnullN (tgt := 22) C dX5_as_10 (by decide) ?_
    refine r_aload_n C dX5_as_22 1 rfl ?_
    refine r_ldc (-1000001) C dX5_as_23 tw168 (by decide +kernel) ?_
    refine r_callI1 0 C dX5_as_25 lkX5_66 (m_X5_answer (by omega) hF) ⟨rfl, rfl, Nat.le_of_ble_eq_true rfl, Nat.le_of_ble_eq_true rfl⟩ ⟨Nat.zero_le _, Nat.zero_le _⟩ rc0 (Nat.le_of_ble_eq_true rfl) (fun ra s9 hra => ?_)
    obtain ⟨era, hra⟩ := hra
    subst era
    exact hret _ _ _ _ dX5_as_28 (by first | (refine (Or.inl ⟨?_, ?_, ?_, ?_, ?_⟩) <;> first | omega | assumption | rfl | (rw [hra, ans1]; done) | (rw [hra, ans2]; done) | (rw [hra, ans4]; done) | (rw [hra, ans5]; done) | (rw [hra, ans_n (by omega)]; done)) | (refine (Or.inr (Or.inl ⟨?_, ?_, ?_, ?_, ?_⟩)) <;> first | omega | assumption | rfl | (rw [hra, ans1]; done) | (rw [hra, ans2]; done) | (rw [hra, ans4]; done) | (rw [hra, ans5]; done) | (rw [hra, ans_n (by omega)]; done)) | (refine (Or.inr (Or.inr ⟨?_, ?_, ?_⟩)) <;> first | omega | assumption | rfl | (rw [hra, ans1]; done) | (rw [hra, ans2]; done) | (rw [hra, ans4]; done) | (rw [hra, ans5]; done) | (rw [hra, ans_n (by omega)]; done)))

set_option maxHeartbeats 4000000 in
set_option maxRecDepth 100000 in
theorem m_X5_notes {a : Nat → Nat} {n : Nat} {σ : ST} (hC : CS σ n) {v b m q : Int} (hv1 : inR v) (hb1 : inR b) (hm1 : inR m) (hq1 : inR q) : MI yX5_notes cX5_notes 7 .int (RM 2 43) a n σ [.ref (a 0), iv v, iv b, iv m, iv q] (fun r σ1 => (((0 ≤ v ∧ v < n) ∧ (0 ≤ b ∧ b < σ 1 3) ∧ (0 ≤ m ∧ m ≤ 16) ∧ 0 ≤ q ∧ q ≤ 9 ∧ (m = 0 → q = 0)) ∧ r = σ (40 + 5 * v.toNat) b ∧ σ1 = up2 (up2 σ (40 + 5 * v.toNat) b m) (41 + 5 * v.toNat) b q) ∨ (¬ ((0 ≤ v ∧ v < n) ∧ (0 ≤ b ∧ b < σ 1 3) ∧ (0 ≤ m ∧ m ≤ 16) ∧ 0 ≤ q ∧ q ≤ 9 ∧ (m = 0 → q = 0)) ∧ r = -1000001 ∧ σ1 = fd σ 5 1)) := by
  refine MI.of (own := RX5) (by decide +kernel) rfl (Nat.le_of_ble_eq_true rfl) ?_
  intro κ C hret
  show J κ 0 0 a n σ [(0, .ref (a 0)), (1, iv v), (2, iv b), (3, iv m), (4, iv q)] 0 []
  obtain ⟨hb, hn1, hwt, hky, hdu, hwd, hli, hne, hF, hse, hk, hvs⟩ := id hC
  refine r_aload_n C dX5_notes_0 0 rfl ?_
  refine gX5_12 C dX5_notes_1 ?_
  refine r_iload_n C dX5_notes_4 1 rfl ?_
  refine r_callO1 1 C dX5_notes_5 lkX5_77 (m_X2_voiceAt (by omega) (by omega)) ⟨rfl, rfl, Nat.le_of_ble_eq_true rfl, Nat.le_of_ble_eq_true rfl⟩ ⟨Nat.zero_le _, Nat.zero_le _⟩ rc1 (Nat.le_of_ble_eq_true rfl) (fun r2 hr2 => ?_)
  rcases hr2 with ⟨er2, hr2⟩ | ⟨er2, hr2⟩
  · rw [er2]
    show J _ _ _ _ _ _ _ _ (.ref (a (39 + 5 * v.toNat)) :: _)
    refine r_astore C dX5_notes_8 (by decide) [(5, .ref (a (39 + 5 * v.toNat))), (0, .ref (a 0)), (1, iv v), (2, iv b), (3, iv m), (4, iv q)] rfl ?_
    refine r_aload C dX5_notes_10 0 rfl ?_
    refine r_ifnull C dX5_notes_12 ?_
    refine r_aload_n C dX5_notes_15 1 rfl ?_
    refine gX5_12 C dX5_notes_16 ?_
    refine r_iload_n C dX5_notes_19 3 rfl ?_
    refine r_callB1 1 C dX5_notes_20 lkX5_91 (m_X2_hasBar (by omega) (by omega)) ⟨rfl, rfl, Nat.le_of_ble_eq_true rfl, Nat.le_of_ble_eq_true rfl⟩ ⟨Nat.zero_le _, Nat.zero_le _⟩ rc1 (Nat.le_of_ble_eq_true rfl) (fun h4 => ?_) (fun h4 => ?_)
    · skip
      refine r_if_eq (tgt := 36) C dX5_notes_23 (by decide) (by decide) (fun q => absurd q (by decide)) (fun _ => ?_)
      refine r_iload_n C dX5_notes_26 4 rfl ?_
      refine r_iconst C dX5_notes_27 ?_
      refine r_bipush C dX5_notes_28 (by decide) ?_
      refine r_callSB3 C dX5_notes_30 lkX5_61 (m_X5_within (by omega) (by omega) (by omega)) ⟨rfl, rfl, Nat.le_of_ble_eq_true rfl, Nat.le_of_ble_eq_true rfl⟩ ⟨Nat.zero_le _, Nat.zero_le _⟩ (Nat.le_of_ble_eq_true rfl) (fun h6 => ?_) (fun h6 => ?_)
      · skip
        refine r_if_ne (tgt := 43) C dX5_notes_33 (by decide) (by decide) (fun _ => ?_) (fun q => absurd q (by decide))
        refine r_iload C dX5_notes_43 5 rfl ?_
        refine r_iconst C dX5_notes_45 ?_
        refine r_iload_n C dX5_notes_46 4 rfl ?_
        refine r_if_ne (tgt := 54) C dX5_notes_47 (by decide) (by omega) (fun h8 => ?_) (fun h8 => ?_)
        · skip
          refine r_bipush C dX5_notes_54 (by decide) ?_
          refine r_callSB3 C dX5_notes_56 lkX5_61 (m_X5_within (by omega) (by omega) (by omega)) ⟨rfl, rfl, Nat.le_of_ble_eq_true rfl, Nat.le_of_ble_eq_true rfl⟩ ⟨Nat.zero_le _, Nat.zero_le _⟩ (Nat.le_of_ble_eq_true rfl) (fun h9 => ?_) (fun h9 => ?_)
          · skip
            refine r_if_ne (tgt := 69) C dX5_notes_59 (by decide) (by decide) (fun _ => ?_) (fun q => absurd q (by decide))
            have hvv := (hvs v.toNat (by omega)).2.2.2.2.1 b
            refine r_aload C dX5_notes_69 0 rfl ?_
            refine gX5_94 v.toNat (by omega) C dX5_notes_71 ?_
            refine r_iload_n C dX5_notes_74 3 rfl ?_
            refine r_iald 40 C dX5_notes_75 (by omega) (fun _ => cF_vk _ (by omega) (by omega)) (by omega) (by omega) (by decide) (fun g12 => ?_)
            refine r_istore C dX5_notes_76 (by decide) (fun z_ => [(6, iv z_), (5, .ref (a (39 + 5 * v.toNat))), (0, .ref (a 0)), (1, iv v), (2, iv b), (3, iv m), (4, iv q)]) (fun _ => rfl) (fun x6_13 ex6_13 => ?_)
            refine r_aload C dX5_notes_78 1 rfl ?_
            refine gX5_94 v.toNat (by omega) C dX5_notes_80 ?_
            refine r_iload_n C dX5_notes_83 4 rfl ?_
            refine r_iload_n C dX5_notes_84 5 rfl ?_
            refine r_iast 40 C dX5_notes_85 (by omega) (fun _ _ => cF_vk _ (by omega) (by omega)) (by omega) (by omega) (by decide) (by omega) ?_
            refine r_aload C dX5_notes_86 1 rfl ?_
            refine gX5_97 v.toNat (by omega) C dX5_notes_88 ?_
            refine r_iload_n C dX5_notes_91 4 rfl ?_
            refine r_iload C dX5_notes_92 6 rfl ?_
            refine r_iast 40 C dX5_notes_94 (by omega) (fun _ _ => cF_vk _ (by omega) (by omega)) (by omega) (by omega) (by decide) (by omega) ?_
            refine r_aload_n C dX5_notes_95 2 rfl ?_
            refine r_iload C dX5_notes_96 0 rfl ?_
            refine r_callI1 0 C dX5_notes_98 lkX5_66 (m_X5_answer (by omega) (F5.up (F5.up hF (by omega)) (by omega))) ⟨rfl, rfl, Nat.le_of_ble_eq_true rfl, Nat.le_of_ble_eq_true rfl⟩ ⟨Nat.zero_le _, Nat.zero_le _⟩ rc0 (Nat.le_of_ble_eq_true rfl) (fun ra s9 hra => ?_)
            obtain ⟨era, hra⟩ := hra
            subst era
            exact hret _ _ _ _ dX5_notes_101 (by first | (refine (Or.inl ⟨?_, ?_, ?_⟩) <;> first | omega | assumption | rfl | (rw [hra, ans1]; done) | (rw [hra, ans2]; done) | (rw [hra, ans4]; done) | (rw [hra, ans5]; done) | (rw [hra, ans_n (by omega)]; done)) | (refine (Or.inr ⟨?_, ?_, ?_⟩) <;> first | omega | assumption | rfl | (rw [hra, ans1]; done) | (rw [hra, ans2]; done) | (rw [hra, ans4]; done) | (rw [hra, ans5]; done) | (rw [hra, ans_n (by omega)]; done)))
          · skip
            refine r_if_ne (tgt := 69) C dX5_notes_59 (by decide) (by decide) (fun q => absurd q (by decide)) (fun _ => ?_)
            refine r_aload_n C dX5_notes_62 1 rfl ?_
            refine r_ldc (-1000001) C dX5_notes_63 tw168 (by decide +kernel) ?_
            refine r_callI1 0 C dX5_notes_65 lkX5_66 (m_X5_answer (by omega) hF) ⟨rfl, rfl, Nat.le_of_ble_eq_true rfl, Nat.le_of_ble_eq_true rfl⟩ ⟨Nat.zero_le _, Nat.zero_le _⟩ rc0 (Nat.le_of_ble_eq_true rfl) (fun ra s9 hra => ?_)
            obtain ⟨era, hra⟩ := hra
            subst era
            exact hret _ _ _ _ dX5_notes_68 (by first | (refine (Or.inl ⟨?_, ?_, ?_⟩) <;> first | omega | assumption | rfl | (rw [hra, ans1]; done) | (rw [hra, ans2]; done) | (rw [hra, ans4]; done) | (rw [hra, ans5]; done) | (rw [hra, ans_n (by omega)]; done)) | (refine (Or.inr ⟨?_, ?_, ?_⟩) <;> first | omega | assumption | rfl | (rw [hra, ans1]; done) | (rw [hra, ans2]; done) | (rw [hra, ans4]; done) | (rw [hra, ans5]; done) | (rw [hra, ans_n (by omega)]; done)))
        · skip
          refine r_iconst C dX5_notes_50 ?_
          refine r_goto (tgt := 56) C dX5_notes_51 (by decide) ?_
          refine r_callSB3 C dX5_notes_56 lkX5_61 (m_X5_within (by omega) (by omega) (by omega)) ⟨rfl, rfl, Nat.le_of_ble_eq_true rfl, Nat.le_of_ble_eq_true rfl⟩ ⟨Nat.zero_le _, Nat.zero_le _⟩ (Nat.le_of_ble_eq_true rfl) (fun h17 => ?_) (fun h17 => ?_)
          · skip
            refine r_if_ne (tgt := 69) C dX5_notes_59 (by decide) (by decide) (fun _ => ?_) (fun q => absurd q (by decide))
            have hvv := (hvs v.toNat (by omega)).2.2.2.2.1 b
            refine r_aload C dX5_notes_69 0 rfl ?_
            refine gX5_94 v.toNat (by omega) C dX5_notes_71 ?_
            refine r_iload_n C dX5_notes_74 3 rfl ?_
            refine r_iald 40 C dX5_notes_75 (by omega) (fun _ => cF_vk _ (by omega) (by omega)) (by omega) (by omega) (by decide) (fun g20 => ?_)
            refine r_istore C dX5_notes_76 (by decide) (fun z_ => [(6, iv z_), (5, .ref (a (39 + 5 * v.toNat))), (0, .ref (a 0)), (1, iv v), (2, iv b), (3, iv m), (4, iv q)]) (fun _ => rfl) (fun x6_21 ex6_21 => ?_)
            refine r_aload C dX5_notes_78 1 rfl ?_
            refine gX5_94 v.toNat (by omega) C dX5_notes_80 ?_
            refine r_iload_n C dX5_notes_83 4 rfl ?_
            refine r_iload_n C dX5_notes_84 5 rfl ?_
            refine r_iast 40 C dX5_notes_85 (by omega) (fun _ _ => cF_vk _ (by omega) (by omega)) (by omega) (by omega) (by decide) (by omega) ?_
            refine r_aload C dX5_notes_86 1 rfl ?_
            refine gX5_97 v.toNat (by omega) C dX5_notes_88 ?_
            refine r_iload_n C dX5_notes_91 4 rfl ?_
            refine r_iload C dX5_notes_92 6 rfl ?_
            refine r_iast 40 C dX5_notes_94 (by omega) (fun _ _ => cF_vk _ (by omega) (by omega)) (by omega) (by omega) (by decide) (by omega) ?_
            refine r_aload_n C dX5_notes_95 2 rfl ?_
            refine r_iload C dX5_notes_96 0 rfl ?_
            refine r_callI1 0 C dX5_notes_98 lkX5_66 (m_X5_answer (by omega) (F5.up (F5.up hF (by omega)) (by omega))) ⟨rfl, rfl, Nat.le_of_ble_eq_true rfl, Nat.le_of_ble_eq_true rfl⟩ ⟨Nat.zero_le _, Nat.zero_le _⟩ rc0 (Nat.le_of_ble_eq_true rfl) (fun ra s9 hra => ?_)
            obtain ⟨era, hra⟩ := hra
            subst era
            exact hret _ _ _ _ dX5_notes_101 (by first | (refine (Or.inl ⟨?_, ?_, ?_⟩) <;> first | omega | assumption | rfl | (rw [hra, ans1]; done) | (rw [hra, ans2]; done) | (rw [hra, ans4]; done) | (rw [hra, ans5]; done) | (rw [hra, ans_n (by omega)]; done)) | (refine (Or.inr ⟨?_, ?_, ?_⟩) <;> first | omega | assumption | rfl | (rw [hra, ans1]; done) | (rw [hra, ans2]; done) | (rw [hra, ans4]; done) | (rw [hra, ans5]; done) | (rw [hra, ans_n (by omega)]; done)))
          · skip
            refine r_if_ne (tgt := 69) C dX5_notes_59 (by decide) (by decide) (fun q => absurd q (by decide)) (fun _ => ?_)
            refine r_aload_n C dX5_notes_62 1 rfl ?_
            refine r_ldc (-1000001) C dX5_notes_63 tw168 (by decide +kernel) ?_
            refine r_callI1 0 C dX5_notes_65 lkX5_66 (m_X5_answer (by omega) hF) ⟨rfl, rfl, Nat.le_of_ble_eq_true rfl, Nat.le_of_ble_eq_true rfl⟩ ⟨Nat.zero_le _, Nat.zero_le _⟩ rc0 (Nat.le_of_ble_eq_true rfl) (fun ra s9 hra => ?_)
            obtain ⟨era, hra⟩ := hra
            subst era
            exact hret _ _ _ _ dX5_notes_68 (by first | (refine (Or.inl ⟨?_, ?_, ?_⟩) <;> first | omega | assumption | rfl | (rw [hra, ans1]; done) | (rw [hra, ans2]; done) | (rw [hra, ans4]; done) | (rw [hra, ans5]; done) | (rw [hra, ans_n (by omega)]; done)) | (refine (Or.inr ⟨?_, ?_, ?_⟩) <;> first | omega | assumption | rfl | (rw [hra, ans1]; done) | (rw [hra, ans2]; done) | (rw [hra, ans4]; done) | (rw [hra, ans5]; done) | (rw [hra, ans_n (by omega)]; done)))
      · skip
        refine r_if_ne (tgt := 43) C dX5_notes_33 (by decide) (by decide) (fun q => absurd q (by decide)) (fun _ => ?_)
        refine r_aload_n C dX5_notes_36 1 rfl ?_
        refine r_ldc (-1000001) C dX5_notes_37 tw168 (by decide +kernel) ?_
        refine r_callI1 0 C dX5_notes_39 lkX5_66 (m_X5_answer (by omega) hF) ⟨rfl, rfl, Nat.le_of_ble_eq_true rfl, Nat.le_of_ble_eq_true rfl⟩ ⟨Nat.zero_le _, Nat.zero_le _⟩ rc0 (Nat.le_of_ble_eq_true rfl) (fun ra s9 hra => ?_)
        obtain ⟨era, hra⟩ := hra
        subst era
        exact hret _ _ _ _ dX5_notes_42 (by first | (refine (Or.inl ⟨?_, ?_, ?_⟩) <;> first | omega | assumption | rfl | (rw [hra, ans1]; done) | (rw [hra, ans2]; done) | (rw [hra, ans4]; done) | (rw [hra, ans5]; done) | (rw [hra, ans_n (by omega)]; done)) | (refine (Or.inr ⟨?_, ?_, ?_⟩) <;> first | omega | assumption | rfl | (rw [hra, ans1]; done) | (rw [hra, ans2]; done) | (rw [hra, ans4]; done) | (rw [hra, ans5]; done) | (rw [hra, ans_n (by omega)]; done)))
    · skip
      refine r_if_eq (tgt := 36) C dX5_notes_23 (by decide) (by decide) (fun _ => ?_) (fun q => absurd q (by decide))
      refine r_aload_n C dX5_notes_36 1 rfl ?_
      refine r_ldc (-1000001) C dX5_notes_37 tw168 (by decide +kernel) ?_
      refine r_callI1 0 C dX5_notes_39 lkX5_66 (m_X5_answer (by omega) hF) ⟨rfl, rfl, Nat.le_of_ble_eq_true rfl, Nat.le_of_ble_eq_true rfl⟩ ⟨Nat.zero_le _, Nat.zero_le _⟩ rc0 (Nat.le_of_ble_eq_true rfl) (fun ra s9 hra => ?_)
      obtain ⟨era, hra⟩ := hra
      subst era
      exact hret _ _ _ _ dX5_notes_42 (by first | (refine (Or.inl ⟨?_, ?_, ?_⟩) <;> first | omega | assumption | rfl | (rw [hra, ans1]; done) | (rw [hra, ans2]; done) | (rw [hra, ans4]; done) | (rw [hra, ans5]; done) | (rw [hra, ans_n (by omega)]; done)) | (refine (Or.inr ⟨?_, ?_, ?_⟩) <;> first | omega | assumption | rfl | (rw [hra, ans1]; done) | (rw [hra, ans2]; done) | (rw [hra, ans4]; done) | (rw [hra, ans5]; done) | (rw [hra, ans_n (by omega)]; done)))
  · rw [er2]
    show J _ _ _ _ _ _ _ _ (.null :: _)
    refine r_astoreN C dX5_notes_8 (by decide) [(5, .null), (0, .ref (a 0)), (1, iv v), (2, iv b), (3, iv m), (4, iv q)] rfl ?_
    refine r_aloadN C dX5_notes_10 0 rfl ?_
    refine r_ifnullN (tgt := 36) C dX5_notes_12 (by decide) ?_
    refine r_aload_n C dX5_notes_36 1 rfl ?_
    refine r_ldc (-1000001) C dX5_notes_37 tw168 (by decide +kernel) ?_
    refine r_callI1 0 C dX5_notes_39 lkX5_66 (m_X5_answer (by omega) hF) ⟨rfl, rfl, Nat.le_of_ble_eq_true rfl, Nat.le_of_ble_eq_true rfl⟩ ⟨Nat.zero_le _, Nat.zero_le _⟩ rc0 (Nat.le_of_ble_eq_true rfl) (fun ra s9 hra => ?_)
    obtain ⟨era, hra⟩ := hra
    subst era
    exact hret _ _ _ _ dX5_notes_42 (by first | (refine (Or.inl ⟨?_, ?_, ?_⟩) <;> first | omega | assumption | rfl | (rw [hra, ans1]; done) | (rw [hra, ans2]; done) | (rw [hra, ans4]; done) | (rw [hra, ans5]; done) | (rw [hra, ans_n (by omega)]; done)) | (refine (Or.inr ⟨?_, ?_, ?_⟩) <;> first | omega | assumption | rfl | (rw [hra, ans1]; done) | (rw [hra, ans2]; done) | (rw [hra, ans4]; done) | (rw [hra, ans5]; done) | (rw [hra, ans_n (by omega)]; done)))

set_option maxHeartbeats 4000000 in
set_option maxRecDepth 100000 in
theorem m_X5_sign {a : Nat → Nat} {n : Nat} {σ : ST} (hC : CS σ n) {b m : Int} (hb1 : inR b) (hm1 : inR m) : MI yX5_sign cX5_sign 4 .int (RM 2 43) a n σ [.ref (a 0), iv b, iv m] (fun r σ1 => (((0 ≤ b ∧ b < σ 1 3) ∧ 0 ≤ m ∧ m ≤ 7) ∧ r = σ 7 b ∧ σ1 = up2 σ 7 b m) ∨ (¬ ((0 ≤ b ∧ b < σ 1 3) ∧ 0 ≤ m ∧ m ≤ 7) ∧ r = -1000001 ∧ σ1 = fd σ 5 1)) := by
  refine MI.of (own := RX5) (by decide +kernel) rfl (Nat.le_of_ble_eq_true rfl) ?_
  intro κ C hret
  show J κ 0 0 a n σ [(0, .ref (a 0)), (1, iv b), (2, iv m)] 0 []
  obtain ⟨hb, hn1, hwt, hky, hdu, hwd, hli, hne, hF, hse, hk, hvs⟩ := id hC
  refine r_aload_n C dX5_sign_0 0 rfl ?_
  refine gX5_12 C dX5_sign_1 ?_
  refine r_iload_n C dX5_sign_4 1 rfl ?_
  refine r_callB1 1 C dX5_sign_5 lkX5_91 (m_X2_hasBar (by omega) (by omega)) ⟨rfl, rfl, Nat.le_of_ble_eq_true rfl, Nat.le_of_ble_eq_true rfl⟩ ⟨Nat.zero_le _, Nat.zero_le _⟩ rc1 (Nat.le_of_ble_eq_true rfl) (fun h2 => ?_) (fun h2 => ?_)
  · skip
    refine r_if_eq (tgt := 21) C dX5_sign_8 (by decide) (by decide) (fun q => absurd q (by decide)) (fun _ => ?_)
    refine r_iload_n C dX5_sign_11 2 rfl ?_
    refine r_iconst C dX5_sign_12 ?_
    refine r_bipush C dX5_sign_13 (by decide) ?_
    refine r_callSB3 C dX5_sign_15 lkX5_61 (m_X5_within (by omega) (by omega) (by omega)) ⟨rfl, rfl, Nat.le_of_ble_eq_true rfl, Nat.le_of_ble_eq_true rfl⟩ ⟨Nat.zero_le _, Nat.zero_le _⟩ (Nat.le_of_ble_eq_true rfl) (fun h4 => ?_) (fun h4 => ?_)
    · skip
      refine r_if_ne (tgt := 28) C dX5_sign_18 (by decide) (by decide) (fun _ => ?_) (fun q => absurd q (by decide))
      have hkb := hk b
      refine r_aload_n C dX5_sign_28 0 rfl ?_
      refine gX5_12 C dX5_sign_29 ?_
      refine gX5_100 C dX5_sign_32 ?_
      refine r_iload_n C dX5_sign_35 1 rfl ?_
      refine r_iald 40 C dX5_sign_36 (by omega) (fun _ => rfl) (by omega) (by omega) (by decide) (fun g8 => ?_)
      refine r_istore_n C dX5_sign_37 (by decide) (fun z_ => [(3, iv z_), (0, .ref (a 0)), (1, iv b), (2, iv m)]) (fun _ => rfl) (fun x3_9 ex3_9 => ?_)
      refine r_aload_n C dX5_sign_38 1 rfl ?_
      refine gX5_12 C dX5_sign_39 ?_
      refine gX5_100 C dX5_sign_42 ?_
      refine r_iload_n C dX5_sign_45 2 rfl ?_
      refine r_iload_n C dX5_sign_46 3 rfl ?_
      refine r_iast 40 C dX5_sign_47 (by omega) (fun _ _ => rfl) (by omega) (by omega) (by decide) (by omega) ?_
      refine r_aload_n C dX5_sign_48 1 rfl ?_
      refine r_iload_n C dX5_sign_49 0 rfl ?_
      refine r_callI1 0 C dX5_sign_50 lkX5_66 (m_X5_answer (by omega) (F5.up hF (by omega))) ⟨rfl, rfl, Nat.le_of_ble_eq_true rfl, Nat.le_of_ble_eq_true rfl⟩ ⟨Nat.zero_le _, Nat.zero_le _⟩ rc0 (Nat.le_of_ble_eq_true rfl) (fun ra s9 hra => ?_)
      obtain ⟨era, hra⟩ := hra
      subst era
      exact hret _ _ _ _ dX5_sign_53 (by first | (refine (Or.inl ⟨?_, ?_, ?_⟩) <;> first | omega | assumption | rfl | (rw [hra, ans1]; done) | (rw [hra, ans2]; done) | (rw [hra, ans4]; done) | (rw [hra, ans5]; done) | (rw [hra, ans_n (by omega)]; done)) | (refine (Or.inr ⟨?_, ?_, ?_⟩) <;> first | omega | assumption | rfl | (rw [hra, ans1]; done) | (rw [hra, ans2]; done) | (rw [hra, ans4]; done) | (rw [hra, ans5]; done) | (rw [hra, ans_n (by omega)]; done)))
    · skip
      refine r_if_ne (tgt := 28) C dX5_sign_18 (by decide) (by decide) (fun q => absurd q (by decide)) (fun _ => ?_)
      refine r_aload_n C dX5_sign_21 0 rfl ?_
      refine r_ldc (-1000001) C dX5_sign_22 tw168 (by decide +kernel) ?_
      refine r_callI1 0 C dX5_sign_24 lkX5_66 (m_X5_answer (by omega) hF) ⟨rfl, rfl, Nat.le_of_ble_eq_true rfl, Nat.le_of_ble_eq_true rfl⟩ ⟨Nat.zero_le _, Nat.zero_le _⟩ rc0 (Nat.le_of_ble_eq_true rfl) (fun ra s9 hra => ?_)
      obtain ⟨era, hra⟩ := hra
      subst era
      exact hret _ _ _ _ dX5_sign_27 (by first | (refine (Or.inl ⟨?_, ?_, ?_⟩) <;> first | omega | assumption | rfl | (rw [hra, ans1]; done) | (rw [hra, ans2]; done) | (rw [hra, ans4]; done) | (rw [hra, ans5]; done) | (rw [hra, ans_n (by omega)]; done)) | (refine (Or.inr ⟨?_, ?_, ?_⟩) <;> first | omega | assumption | rfl | (rw [hra, ans1]; done) | (rw [hra, ans2]; done) | (rw [hra, ans4]; done) | (rw [hra, ans5]; done) | (rw [hra, ans_n (by omega)]; done)))
  · skip
    refine r_if_eq (tgt := 21) C dX5_sign_8 (by decide) (by decide) (fun _ => ?_) (fun q => absurd q (by decide))
    refine r_aload_n C dX5_sign_21 0 rfl ?_
    refine r_ldc (-1000001) C dX5_sign_22 tw168 (by decide +kernel) ?_
    refine r_callI1 0 C dX5_sign_24 lkX5_66 (m_X5_answer (by omega) hF) ⟨rfl, rfl, Nat.le_of_ble_eq_true rfl, Nat.le_of_ble_eq_true rfl⟩ ⟨Nat.zero_le _, Nat.zero_le _⟩ rc0 (Nat.le_of_ble_eq_true rfl) (fun ra s9 hra => ?_)
    obtain ⟨era, hra⟩ := hra
    subst era
    exact hret _ _ _ _ dX5_sign_27 (by first | (refine (Or.inl ⟨?_, ?_, ?_⟩) <;> first | omega | assumption | rfl | (rw [hra, ans1]; done) | (rw [hra, ans2]; done) | (rw [hra, ans4]; done) | (rw [hra, ans5]; done) | (rw [hra, ans_n (by omega)]; done)) | (refine (Or.inr ⟨?_, ?_, ?_⟩) <;> first | omega | assumption | rfl | (rw [hra, ans1]; done) | (rw [hra, ans2]; done) | (rw [hra, ans4]; done) | (rw [hra, ans5]; done) | (rw [hra, ans_n (by omega)]; done)))

set_option maxHeartbeats 4000000 in
set_option maxRecDepth 100000 in
theorem m_X5_cut {a : Nat → Nat} {n : Nat} {σ : ST} (hC : CS σ n) {x y z : Int} (hx : inR x) (hy : inR y) (hz : inR z) : MI yX5_cut cX5_cut 4 .int (RM 3 67) a n σ [.ref (a 0), iv x, iv y, iv z] (fun r σ1 => (((0 ≤ x ∧ x < σ 1 3) ∧ (0 ≤ y ∧ y < σ 1 3) ∧ x ≤ y ∧ 0 ≤ z ∧ z ≤ 1) ∧ CutI 7 σ σ1 z x (y + 1) r) ∨ (¬ ((0 ≤ x ∧ x < σ 1 3) ∧ (0 ≤ y ∧ y < σ 1 3) ∧ x ≤ y ∧ 0 ≤ z ∧ z ≤ 1) ∧ r = -1000001 ∧ σ1 = fd σ 5 1)) := by
  refine MI.of (own := RX5) (by decide +kernel) rfl (Nat.le_of_ble_eq_true rfl) ?_
  intro κ C hret
  show J κ 0 0 a n σ [(0, .ref (a 0)), (1, iv x), (2, iv y), (3, iv z)] 0 []
  obtain ⟨hb, hn1, hwt, hky, hdu, hwd, hli, hne, hF, hse, hk, hvs⟩ := id hC
  refine r_aload_n C dX5_cut_0 0 rfl ?_
  refine gX5_12 C dX5_cut_1 ?_
  refine r_iload_n C dX5_cut_4 1 rfl ?_
  refine r_callB1 1 C dX5_cut_5 lkX5_91 (m_X2_hasBar (by omega) (by omega)) ⟨rfl, rfl, Nat.le_of_ble_eq_true rfl, Nat.le_of_ble_eq_true rfl⟩ ⟨Nat.zero_le _, Nat.zero_le _⟩ rc1 (Nat.le_of_ble_eq_true rfl) (fun h2 => ?_) (fun h2 => ?_)
  · skip
    refine r_if_eq (tgt := 36) C dX5_cut_8 (by decide) (by decide) (fun q => absurd q (by decide)) (fun _ => ?_)
    refine r_aload_n C dX5_cut_11 0 rfl ?_
    refine gX5_12 C dX5_cut_12 ?_
    refine r_iload_n C dX5_cut_15 2 rfl ?_
    refine r_callB1 1 C dX5_cut_16 lkX5_91 (m_X2_hasBar (by omega) (by omega)) ⟨rfl, rfl, Nat.le_of_ble_eq_true rfl, Nat.le_of_ble_eq_true rfl⟩ ⟨Nat.zero_le _, Nat.zero_le _⟩ rc1 (Nat.le_of_ble_eq_true rfl) (fun h5 => ?_) (fun h5 => ?_)
    · skip
      refine r_if_eq (tgt := 36) C dX5_cut_19 (by decide) (by decide) (fun q => absurd q (by decide)) (fun _ => ?_)
      refine r_iload_n C dX5_cut_22 1 rfl ?_
      refine r_iload_n C dX5_cut_23 2 rfl ?_
      refine r_icmp_gt (tgt := 36) C dX5_cut_24 (by decide) (by omega) (by omega) (fun h7 => ?_) (fun h7 => ?_)
      · skip
        refine r_aload_n C dX5_cut_36 0 rfl ?_
        refine r_ldc (-1000001) C dX5_cut_37 tw168 (by decide +kernel) ?_
        refine r_callI1 0 C dX5_cut_39 lkX5_66 (m_X5_answer (by omega) hF) ⟨rfl, rfl, Nat.le_of_ble_eq_true rfl, Nat.le_of_ble_eq_true rfl⟩ ⟨Nat.zero_le _, Nat.zero_le _⟩ rc0 (Nat.le_of_ble_eq_true rfl) (fun ra s9 hra => ?_)
        obtain ⟨era, hra⟩ := hra
        subst era
        exact hret _ _ _ _ dX5_cut_42 (by first | (refine Or.inr ⟨?_, ?_, ?_⟩ <;> first | omega | (rw [hra, ans1]; done)) | (have hz1 : z = 1 := (by omega); refine Or.inl ⟨by omega, ?_⟩; rw [hz1, hra, ans_n (by omega)]; exact hsc) | (have hz1 : z = 0 := (by omega); refine Or.inl ⟨by omega, ?_⟩; rw [hz1, hra, ans_n (by omega)]; exact hsc))
      · skip
        refine r_iload_n C dX5_cut_27 3 rfl ?_
        refine r_iconst C dX5_cut_28 ?_
        refine r_iconst C dX5_cut_29 ?_
        refine r_callSB3 C dX5_cut_30 lkX5_61 (m_X5_within (by omega) (by omega) (by omega)) ⟨rfl, rfl, Nat.le_of_ble_eq_true rfl, Nat.le_of_ble_eq_true rfl⟩ ⟨Nat.zero_le _, Nat.zero_le _⟩ (Nat.le_of_ble_eq_true rfl) (fun h8 => ?_) (fun h8 => ?_)
        · skip
          refine r_if_ne (tgt := 43) C dX5_cut_33 (by decide) (by decide) (fun _ => ?_) (fun q => absurd q (by decide))
          refine r_aload_n C dX5_cut_43 0 rfl ?_
          refine r_aload_n C dX5_cut_44 0 rfl ?_
          refine gX5_12 C dX5_cut_45 ?_
          refine r_iload_n C dX5_cut_48 1 rfl ?_
          refine r_iload_n C dX5_cut_49 2 rfl ?_
          refine r_iload_n C dX5_cut_50 3 rfl ?_
          refine r_iconst C dX5_cut_51 ?_
          refine r_icmp_ne (tgt := 59) C dX5_cut_52 (by decide) (by omega) (by omega) (fun h11 => ?_) (fun h11 => ?_)
          · skip
            refine r_iconst C dX5_cut_59 ?_
            refine r_callI3 1 C dX5_cut_60 lkX5_103 (m_X2_setCut (by omega) hk (by omega) (by omega) (by omega)) ⟨rfl, rfl, Nat.le_of_ble_eq_true rfl, Nat.le_of_ble_eq_true rfl⟩ ⟨Nat.zero_le _, Nat.zero_le _⟩ rc1 (Nat.le_of_ble_eq_true rfl) (fun sc sC hsc => ?_)
            have hFsC : F5 sC := hF.same (hsc.2.2.1 5 (by decide))
            have hcb1 := chgN_bd (σ 7) 1 x (y + 1 - x).toNat
            have hcb0 := chgN_bd (σ 7) 0 x (y + 1 - x).toNat
            have hsb := hsc.2.1
            refine r_callI1 0 C dX5_cut_63 lkX5_66 (m_X5_answer (by omega) hFsC) ⟨rfl, rfl, Nat.le_of_ble_eq_true rfl, Nat.le_of_ble_eq_true rfl⟩ ⟨Nat.zero_le _, Nat.zero_le _⟩ rc0 (Nat.le_of_ble_eq_true rfl) (fun ra s9 hra => ?_)
            obtain ⟨era, hra⟩ := hra
            subst era
            exact hret _ _ _ _ dX5_cut_66 (by first | (refine Or.inr ⟨?_, ?_, ?_⟩ <;> first | omega | (rw [hra, ans1]; done)) | (have hz1 : z = 1 := (by omega); refine Or.inl ⟨by omega, ?_⟩; rw [hz1, hra, ans_n (by omega)]; exact hsc) | (have hz1 : z = 0 := (by omega); refine Or.inl ⟨by omega, ?_⟩; rw [hz1, hra, ans_n (by omega)]; exact hsc))
          · skip
            refine r_iconst C dX5_cut_55 ?_
            refine r_goto (tgt := 60) C dX5_cut_56 (by decide) ?_
            refine r_callI3 1 C dX5_cut_60 lkX5_103 (m_X2_setCut (by omega) hk (by omega) (by omega) (by omega)) ⟨rfl, rfl, Nat.le_of_ble_eq_true rfl, Nat.le_of_ble_eq_true rfl⟩ ⟨Nat.zero_le _, Nat.zero_le _⟩ rc1 (Nat.le_of_ble_eq_true rfl) (fun sc sC hsc => ?_)
            have hFsC : F5 sC := hF.same (hsc.2.2.1 5 (by decide))
            have hcb1 := chgN_bd (σ 7) 1 x (y + 1 - x).toNat
            have hcb0 := chgN_bd (σ 7) 0 x (y + 1 - x).toNat
            have hsb := hsc.2.1
            refine r_callI1 0 C dX5_cut_63 lkX5_66 (m_X5_answer (by omega) hFsC) ⟨rfl, rfl, Nat.le_of_ble_eq_true rfl, Nat.le_of_ble_eq_true rfl⟩ ⟨Nat.zero_le _, Nat.zero_le _⟩ rc0 (Nat.le_of_ble_eq_true rfl) (fun ra s9 hra => ?_)
            obtain ⟨era, hra⟩ := hra
            subst era
            exact hret _ _ _ _ dX5_cut_66 (by first | (refine Or.inr ⟨?_, ?_, ?_⟩ <;> first | omega | (rw [hra, ans1]; done)) | (have hz1 : z = 1 := (by omega); refine Or.inl ⟨by omega, ?_⟩; rw [hz1, hra, ans_n (by omega)]; exact hsc) | (have hz1 : z = 0 := (by omega); refine Or.inl ⟨by omega, ?_⟩; rw [hz1, hra, ans_n (by omega)]; exact hsc))
        · skip
          refine r_if_ne (tgt := 43) C dX5_cut_33 (by decide) (by decide) (fun q => absurd q (by decide)) (fun _ => ?_)
          refine r_aload_n C dX5_cut_36 0 rfl ?_
          refine r_ldc (-1000001) C dX5_cut_37 tw168 (by decide +kernel) ?_
          refine r_callI1 0 C dX5_cut_39 lkX5_66 (m_X5_answer (by omega) hF) ⟨rfl, rfl, Nat.le_of_ble_eq_true rfl, Nat.le_of_ble_eq_true rfl⟩ ⟨Nat.zero_le _, Nat.zero_le _⟩ rc0 (Nat.le_of_ble_eq_true rfl) (fun ra s9 hra => ?_)
          obtain ⟨era, hra⟩ := hra
          subst era
          exact hret _ _ _ _ dX5_cut_42 (by first | (refine Or.inr ⟨?_, ?_, ?_⟩ <;> first | omega | (rw [hra, ans1]; done)) | (have hz1 : z = 1 := (by omega); refine Or.inl ⟨by omega, ?_⟩; rw [hz1, hra, ans_n (by omega)]; exact hsc) | (have hz1 : z = 0 := (by omega); refine Or.inl ⟨by omega, ?_⟩; rw [hz1, hra, ans_n (by omega)]; exact hsc))
    · skip
      refine r_if_eq (tgt := 36) C dX5_cut_19 (by decide) (by decide) (fun _ => ?_) (fun q => absurd q (by decide))
      refine r_aload_n C dX5_cut_36 0 rfl ?_
      refine r_ldc (-1000001) C dX5_cut_37 tw168 (by decide +kernel) ?_
      refine r_callI1 0 C dX5_cut_39 lkX5_66 (m_X5_answer (by omega) hF) ⟨rfl, rfl, Nat.le_of_ble_eq_true rfl, Nat.le_of_ble_eq_true rfl⟩ ⟨Nat.zero_le _, Nat.zero_le _⟩ rc0 (Nat.le_of_ble_eq_true rfl) (fun ra s9 hra => ?_)
      obtain ⟨era, hra⟩ := hra
      subst era
      exact hret _ _ _ _ dX5_cut_42 (by first | (refine Or.inr ⟨?_, ?_, ?_⟩ <;> first | omega | (rw [hra, ans1]; done)) | (have hz1 : z = 1 := (by omega); refine Or.inl ⟨by omega, ?_⟩; rw [hz1, hra, ans_n (by omega)]; exact hsc) | (have hz1 : z = 0 := (by omega); refine Or.inl ⟨by omega, ?_⟩; rw [hz1, hra, ans_n (by omega)]; exact hsc))
  · skip
    refine r_if_eq (tgt := 36) C dX5_cut_8 (by decide) (by decide) (fun _ => ?_) (fun q => absurd q (by decide))
    refine r_aload_n C dX5_cut_36 0 rfl ?_
    refine r_ldc (-1000001) C dX5_cut_37 tw168 (by decide +kernel) ?_
    refine r_callI1 0 C dX5_cut_39 lkX5_66 (m_X5_answer (by omega) hF) ⟨rfl, rfl, Nat.le_of_ble_eq_true rfl, Nat.le_of_ble_eq_true rfl⟩ ⟨Nat.zero_le _, Nat.zero_le _⟩ rc0 (Nat.le_of_ble_eq_true rfl) (fun ra s9 hra => ?_)
    obtain ⟨era, hra⟩ := hra
    subst era
    exact hret _ _ _ _ dX5_cut_42 (by first | (refine Or.inr ⟨?_, ?_, ?_⟩ <;> first | omega | (rw [hra, ans1]; done)) | (have hz1 : z = 1 := (by omega); refine Or.inl ⟨by omega, ?_⟩; rw [hz1, hra, ans_n (by omega)]; exact hsc) | (have hz1 : z = 0 := (by omega); refine Or.inl ⟨by omega, ?_⟩; rw [hz1, hra, ans_n (by omega)]; exact hsc))

set_option maxHeartbeats 4000000 in
set_option maxRecDepth 100000 in
theorem m_X5_stage {a : Nat → Nat} {n : Nat} {σ : ST} (hC : CS σ n) {v m : Int} (hv1 : inR v) (hm1 : inR m) : MI yX5_stage cX5_stage 5 .int (RM 2 43) a n σ [.ref (a 0), iv v, iv m] (fun r σ1 => (((0 ≤ v ∧ v < n) ∧ 0 ≤ m ∧ m ≤ 1) ∧ r = σ (39 + 5 * v.toNat) 4 ∧ σ1 = up2 σ (39 + 5 * v.toNat) 4 m) ∨ (¬ ((0 ≤ v ∧ v < n) ∧ 0 ≤ m ∧ m ≤ 1) ∧ r = -1000001 ∧ σ1 = fd σ 5 1)) := by
  refine MI.of (own := RX5) (by decide +kernel) rfl (Nat.le_of_ble_eq_true rfl) ?_
  intro κ C hret
  show J κ 0 0 a n σ [(0, .ref (a 0)), (1, iv v), (2, iv m)] 0 []
  obtain ⟨hb, hn1, hwt, hky, hdu, hwd, hli, hne, hF, hse, hk, hvs⟩ := id hC
  refine r_aload_n C dX5_stage_0 0 rfl ?_
  refine gX5_12 C dX5_stage_1 ?_
  refine r_iload_n C dX5_stage_4 1 rfl ?_
  refine r_callO1 1 C dX5_stage_5 lkX5_77 (m_X2_voiceAt (by omega) (by omega)) ⟨rfl, rfl, Nat.le_of_ble_eq_true rfl, Nat.le_of_ble_eq_true rfl⟩ ⟨Nat.zero_le _, Nat.zero_le _⟩ rc1 (Nat.le_of_ble_eq_true rfl) (fun r2 hr2 => ?_)
  rcases hr2 with ⟨er2, hr2⟩ | ⟨er2, hr2⟩
  · rw [er2]
    show J _ _ _ _ _ _ _ _ (.ref (a (39 + 5 * v.toNat)) :: _)
    refine r_astore_n C dX5_stage_8 (by decide) [(3, .ref (a (39 + 5 * v.toNat))), (0, .ref (a 0)), (1, iv v), (2, iv m)] rfl ?_
    refine r_aload_n C dX5_stage_9 0 rfl ?_
    refine r_ifnull C dX5_stage_10 ?_
    refine r_iload_n C dX5_stage_13 3 rfl ?_
    refine r_iconst C dX5_stage_14 ?_
    refine r_iconst C dX5_stage_15 ?_
    refine r_callSB3 C dX5_stage_16 lkX5_61 (m_X5_within (by omega) (by omega) (by omega)) ⟨rfl, rfl, Nat.le_of_ble_eq_true rfl, Nat.le_of_ble_eq_true rfl⟩ ⟨Nat.zero_le _, Nat.zero_le _⟩ (Nat.le_of_ble_eq_true rfl) (fun h3 => ?_) (fun h3 => ?_)
    · skip
      refine r_if_ne (tgt := 29) C dX5_stage_19 (by decide) (by decide) (fun _ => ?_) (fun q => absurd q (by decide))
      have hvv := (hvs v.toNat (by omega)).2.2.1
      refine r_aload_n C dX5_stage_29 0 rfl ?_
      refine gX5_107 v.toNat (by omega) C dX5_stage_30 (fun g5 => ?_)
      refine r_if_eq (tgt := 40) C dX5_stage_33 (by decide) (by omega) (fun h6 => ?_) (fun h6 => ?_)
      · skip
        refine r_iconst C dX5_stage_40 ?_
        refine r_istore C dX5_stage_41 (by decide) (fun z_ => [(4, iv z_), (3, .ref (a (39 + 5 * v.toNat))), (0, .ref (a 0)), (1, iv v), (2, iv m)]) (fun _ => rfl) (fun x4_7 ex4_7 => ?_)
        refine r_aload_n C dX5_stage_43 1 rfl ?_
        refine r_iload_n C dX5_stage_44 4 rfl ?_
        refine r_iconst C dX5_stage_45 ?_
        refine r_icmp_ne (tgt := 53) C dX5_stage_46 (by decide) (by omega) (by omega) (fun h8 => ?_) (fun h8 => ?_)
        · skip
          refine r_iconst C dX5_stage_53 ?_
          refine pX5_107 v.toNat (by omega) C dX5_stage_54 (by omega) ?_
          refine r_aload_n C dX5_stage_57 2 rfl ?_
          refine r_iload C dX5_stage_58 0 rfl ?_
          refine r_callI1 0 C dX5_stage_60 lkX5_66 (m_X5_answer (by omega) (F5.up hF (by omega))) ⟨rfl, rfl, Nat.le_of_ble_eq_true rfl, Nat.le_of_ble_eq_true rfl⟩ ⟨Nat.zero_le _, Nat.zero_le _⟩ rc0 (Nat.le_of_ble_eq_true rfl) (fun ra s9 hra => ?_)
          obtain ⟨era, hra⟩ := hra
          subst era
          exact hret _ _ _ _ dX5_stage_63 (by first | (refine Or.inr ⟨?_, ?_, ?_⟩ <;> first | omega | (rw [hra, ans1]; done)) | (refine Or.inl ⟨?_, ?_, ?_⟩ <;> first | omega | (rw [hra, ans_n (by omega), show m = 1 by omega]; done) | (rw [hra, ans_n (by omega), show m = 0 by omega]; done)))
        · skip
          refine r_iconst C dX5_stage_49 ?_
          refine r_goto (tgt := 54) C dX5_stage_50 (by decide) ?_
          refine pX5_107 v.toNat (by omega) C dX5_stage_54 (by omega) ?_
          refine r_aload_n C dX5_stage_57 2 rfl ?_
          refine r_iload C dX5_stage_58 0 rfl ?_
          refine r_callI1 0 C dX5_stage_60 lkX5_66 (m_X5_answer (by omega) (F5.up hF (by omega))) ⟨rfl, rfl, Nat.le_of_ble_eq_true rfl, Nat.le_of_ble_eq_true rfl⟩ ⟨Nat.zero_le _, Nat.zero_le _⟩ rc0 (Nat.le_of_ble_eq_true rfl) (fun ra s9 hra => ?_)
          obtain ⟨era, hra⟩ := hra
          subst era
          exact hret _ _ _ _ dX5_stage_63 (by first | (refine Or.inr ⟨?_, ?_, ?_⟩ <;> first | omega | (rw [hra, ans1]; done)) | (refine Or.inl ⟨?_, ?_, ?_⟩ <;> first | omega | (rw [hra, ans_n (by omega), show m = 1 by omega]; done) | (rw [hra, ans_n (by omega), show m = 0 by omega]; done)))
      · skip
        refine r_iconst C dX5_stage_36 ?_
        refine r_goto (tgt := 41) C dX5_stage_37 (by decide) ?_
        refine r_istore C dX5_stage_41 (by decide) (fun z_ => [(4, iv z_), (3, .ref (a (39 + 5 * v.toNat))), (0, .ref (a 0)), (1, iv v), (2, iv m)]) (fun _ => rfl) (fun x4_9 ex4_9 => ?_)
        refine r_aload_n C dX5_stage_43 1 rfl ?_
        refine r_iload_n C dX5_stage_44 4 rfl ?_
        refine r_iconst C dX5_stage_45 ?_
        refine r_icmp_ne (tgt := 53) C dX5_stage_46 (by decide) (by omega) (by omega) (fun h10 => ?_) (fun h10 => ?_)
        · skip
          refine r_iconst C dX5_stage_53 ?_
          refine pX5_107 v.toNat (by omega) C dX5_stage_54 (by omega) ?_
          refine r_aload_n C dX5_stage_57 2 rfl ?_
          refine r_iload C dX5_stage_58 0 rfl ?_
          refine r_callI1 0 C dX5_stage_60 lkX5_66 (m_X5_answer (by omega) (F5.up hF (by omega))) ⟨rfl, rfl, Nat.le_of_ble_eq_true rfl, Nat.le_of_ble_eq_true rfl⟩ ⟨Nat.zero_le _, Nat.zero_le _⟩ rc0 (Nat.le_of_ble_eq_true rfl) (fun ra s9 hra => ?_)
          obtain ⟨era, hra⟩ := hra
          subst era
          exact hret _ _ _ _ dX5_stage_63 (by first | (refine Or.inr ⟨?_, ?_, ?_⟩ <;> first | omega | (rw [hra, ans1]; done)) | (refine Or.inl ⟨?_, ?_, ?_⟩ <;> first | omega | (rw [hra, ans_n (by omega), show m = 1 by omega]; done) | (rw [hra, ans_n (by omega), show m = 0 by omega]; done)))
        · skip
          refine r_iconst C dX5_stage_49 ?_
          refine r_goto (tgt := 54) C dX5_stage_50 (by decide) ?_
          refine pX5_107 v.toNat (by omega) C dX5_stage_54 (by omega) ?_
          refine r_aload_n C dX5_stage_57 2 rfl ?_
          refine r_iload C dX5_stage_58 0 rfl ?_
          refine r_callI1 0 C dX5_stage_60 lkX5_66 (m_X5_answer (by omega) (F5.up hF (by omega))) ⟨rfl, rfl, Nat.le_of_ble_eq_true rfl, Nat.le_of_ble_eq_true rfl⟩ ⟨Nat.zero_le _, Nat.zero_le _⟩ rc0 (Nat.le_of_ble_eq_true rfl) (fun ra s9 hra => ?_)
          obtain ⟨era, hra⟩ := hra
          subst era
          exact hret _ _ _ _ dX5_stage_63 (by first | (refine Or.inr ⟨?_, ?_, ?_⟩ <;> first | omega | (rw [hra, ans1]; done)) | (refine Or.inl ⟨?_, ?_, ?_⟩ <;> first | omega | (rw [hra, ans_n (by omega), show m = 1 by omega]; done) | (rw [hra, ans_n (by omega), show m = 0 by omega]; done)))
    · skip
      refine r_if_ne (tgt := 29) C dX5_stage_19 (by decide) (by decide) (fun q => absurd q (by decide)) (fun _ => ?_)
      refine r_aload_n C dX5_stage_22 1 rfl ?_
      refine r_ldc (-1000001) C dX5_stage_23 tw168 (by decide +kernel) ?_
      refine r_callI1 0 C dX5_stage_25 lkX5_66 (m_X5_answer (by omega) hF) ⟨rfl, rfl, Nat.le_of_ble_eq_true rfl, Nat.le_of_ble_eq_true rfl⟩ ⟨Nat.zero_le _, Nat.zero_le _⟩ rc0 (Nat.le_of_ble_eq_true rfl) (fun ra s9 hra => ?_)
      obtain ⟨era, hra⟩ := hra
      subst era
      exact hret _ _ _ _ dX5_stage_28 (by first | (refine Or.inr ⟨?_, ?_, ?_⟩ <;> first | omega | (rw [hra, ans1]; done)) | (refine Or.inl ⟨?_, ?_, ?_⟩ <;> first | omega | (rw [hra, ans_n (by omega), show m = 1 by omega]; done) | (rw [hra, ans_n (by omega), show m = 0 by omega]; done)))
  · rw [er2]
    show J _ _ _ _ _ _ _ _ (.null :: _)
    refine r_astore_nN C dX5_stage_8 (by decide) [(3, .null), (0, .ref (a 0)), (1, iv v), (2, iv m)] rfl ?_
    refine r_aload_nN C dX5_stage_9 0 rfl ?_
    refine r_ifnullN (tgt := 22) C dX5_stage_10 (by decide) ?_
    refine r_aload_n C dX5_stage_22 1 rfl ?_
    refine r_ldc (-1000001) C dX5_stage_23 tw168 (by decide +kernel) ?_
    refine r_callI1 0 C dX5_stage_25 lkX5_66 (m_X5_answer (by omega) hF) ⟨rfl, rfl, Nat.le_of_ble_eq_true rfl, Nat.le_of_ble_eq_true rfl⟩ ⟨Nat.zero_le _, Nat.zero_le _⟩ rc0 (Nat.le_of_ble_eq_true rfl) (fun ra s9 hra => ?_)
    obtain ⟨era, hra⟩ := hra
    subst era
    exact hret _ _ _ _ dX5_stage_28 (by first | (refine Or.inr ⟨?_, ?_, ?_⟩ <;> first | omega | (rw [hra, ans1]; done)) | (refine Or.inl ⟨?_, ?_, ?_⟩ <;> first | omega | (rw [hra, ans_n (by omega), show m = 1 by omega]; done) | (rw [hra, ans_n (by omega), show m = 0 by omega]; done)))

set_option maxHeartbeats 4000000 in
set_option maxRecDepth 100000 in
theorem m_X5_key {a : Nat → Nat} {n : Nat} {σ : ST} (hC : CS σ n) {x : Int} (hx : inR x) : MI yX5_key cX5_key 3 .int (RM 2 43) a n σ [.ref (a 0), iv x] (fun r σ1 => ((-7 ≤ x ∧ x ≤ 7) ∧ r = σ 0 5 ∧ σ1 = up2 σ 0 5 x) ∨ (¬ (-7 ≤ x ∧ x ≤ 7) ∧ r = -1000001 ∧ σ1 = fd σ 5 1)) := by
  refine MI.of (own := RX5) (by decide +kernel) rfl (Nat.le_of_ble_eq_true rfl) ?_
  intro κ C hret
  show J κ 0 0 a n σ [(0, .ref (a 0)), (1, iv x)] 0 []
  obtain ⟨hb, hn1, hwt, hky, hdu, hwd, hli, hne, hF, hse, hk, hvs⟩ := id hC
  refine r_iload_n C dX5_key_0 1 rfl ?_
  refine r_bipush C dX5_key_1 (by decide) ?_
  refine r_bipush C dX5_key_3 (by decide) ?_
  refine r_callSB3 C dX5_key_5 lkX5_61 (m_X5_within (by omega) (by omega) (by omega)) ⟨rfl, rfl, Nat.le_of_ble_eq_true rfl, Nat.le_of_ble_eq_true rfl⟩ ⟨Nat.zero_le _, Nat.zero_le _⟩ (Nat.le_of_ble_eq_true rfl) (fun h1 => ?_) (fun h1 => ?_)
  · skip
    refine r_if_ne (tgt := 18) C dX5_key_8 (by decide) (by decide) (fun _ => ?_) (fun q => absurd q (by decide))
    refine r_aload_n C dX5_key_18 0 rfl ?_
    refine gX5_45 C dX5_key_19 (fun g3 => ?_)
    refine r_istore_n C dX5_key_22 (by decide) (fun z_ => [(2, iv z_), (0, .ref (a 0)), (1, iv x)]) (fun _ => rfl) (fun x2_4 ex2_4 => ?_)
    refine r_aload_n C dX5_key_23 1 rfl ?_
    refine r_iload_n C dX5_key_24 2 rfl ?_
    refine pX5_45 C dX5_key_25 (by omega) ?_
    refine r_aload_n C dX5_key_28 1 rfl ?_
    refine r_iload_n C dX5_key_29 0 rfl ?_
    refine r_callI1 0 C dX5_key_30 lkX5_66 (m_X5_answer (by omega) (F5.up hF (by omega))) ⟨rfl, rfl, Nat.le_of_ble_eq_true rfl, Nat.le_of_ble_eq_true rfl⟩ ⟨Nat.zero_le _, Nat.zero_le _⟩ rc0 (Nat.le_of_ble_eq_true rfl) (fun ra s9 hra => ?_)
    obtain ⟨era, hra⟩ := hra
    subst era
    exact hret _ _ _ _ dX5_key_33 (by first | (refine (Or.inl ⟨?_, ?_, ?_⟩) <;> first | omega | assumption | rfl | (rw [hra, ans1]; done) | (rw [hra, ans2]; done) | (rw [hra, ans4]; done) | (rw [hra, ans5]; done) | (rw [hra, ans_n (by omega)]; done)) | (refine (Or.inr ⟨?_, ?_, ?_⟩) <;> first | omega | assumption | rfl | (rw [hra, ans1]; done) | (rw [hra, ans2]; done) | (rw [hra, ans4]; done) | (rw [hra, ans5]; done) | (rw [hra, ans_n (by omega)]; done)))
  · skip
    refine r_if_ne (tgt := 18) C dX5_key_8 (by decide) (by decide) (fun q => absurd q (by decide)) (fun _ => ?_)
    refine r_aload_n C dX5_key_11 0 rfl ?_
    refine r_ldc (-1000001) C dX5_key_12 tw168 (by decide +kernel) ?_
    refine r_callI1 0 C dX5_key_14 lkX5_66 (m_X5_answer (by omega) hF) ⟨rfl, rfl, Nat.le_of_ble_eq_true rfl, Nat.le_of_ble_eq_true rfl⟩ ⟨Nat.zero_le _, Nat.zero_le _⟩ rc0 (Nat.le_of_ble_eq_true rfl) (fun ra s9 hra => ?_)
    obtain ⟨era, hra⟩ := hra
    subst era
    exact hret _ _ _ _ dX5_key_17 (by first | (refine (Or.inl ⟨?_, ?_, ?_⟩) <;> first | omega | assumption | rfl | (rw [hra, ans1]; done) | (rw [hra, ans2]; done) | (rw [hra, ans4]; done) | (rw [hra, ans5]; done) | (rw [hra, ans_n (by omega)]; done)) | (refine (Or.inr ⟨?_, ?_, ?_⟩) <;> first | omega | assumption | rfl | (rw [hra, ans1]; done) | (rw [hra, ans2]; done) | (rw [hra, ans4]; done) | (rw [hra, ans5]; done) | (rw [hra, ans_n (by omega)]; done)))

set_option maxHeartbeats 4000000 in
set_option maxRecDepth 100000 in
theorem m_X5_due {a : Nat → Nat} {n : Nat} {σ : ST} (hC : CS σ n) {x : Int} (hx : inR x) : MI yX5_due cX5_due 3 .int (RM 2 43) a n σ [.ref (a 0), iv x] (fun r σ1 => ((1 ≤ x ∧ x ≤ 20) ∧ r = σ 0 6 ∧ σ1 = up2 σ 0 6 x) ∨ (¬ (1 ≤ x ∧ x ≤ 20) ∧ r = -1000001 ∧ σ1 = fd σ 5 1)) := by
  refine MI.of (own := RX5) (by decide +kernel) rfl (Nat.le_of_ble_eq_true rfl) ?_
  intro κ C hret
  show J κ 0 0 a n σ [(0, .ref (a 0)), (1, iv x)] 0 []
  obtain ⟨hb, hn1, hwt, hky, hdu, hwd, hli, hne, hF, hse, hk, hvs⟩ := id hC
  refine r_iload_n C dX5_due_0 1 rfl ?_
  refine r_iconst C dX5_due_1 ?_
  refine r_bipush C dX5_due_2 (by decide) ?_
  refine r_callSB3 C dX5_due_4 lkX5_61 (m_X5_within (by omega) (by omega) (by omega)) ⟨rfl, rfl, Nat.le_of_ble_eq_true rfl, Nat.le_of_ble_eq_true rfl⟩ ⟨Nat.zero_le _, Nat.zero_le _⟩ (Nat.le_of_ble_eq_true rfl) (fun h1 => ?_) (fun h1 => ?_)
  · skip
    refine r_if_ne (tgt := 17) C dX5_due_7 (by decide) (by decide) (fun _ => ?_) (fun q => absurd q (by decide))
    refine r_aload_n C dX5_due_17 0 rfl ?_
    refine gX5_49 C dX5_due_18 (fun g3 => ?_)
    refine r_istore_n C dX5_due_21 (by decide) (fun z_ => [(2, iv z_), (0, .ref (a 0)), (1, iv x)]) (fun _ => rfl) (fun x2_4 ex2_4 => ?_)
    refine r_aload_n C dX5_due_22 1 rfl ?_
    refine r_iload_n C dX5_due_23 2 rfl ?_
    refine pX5_49 C dX5_due_24 (by omega) ?_
    refine r_aload_n C dX5_due_27 1 rfl ?_
    refine r_iload_n C dX5_due_28 0 rfl ?_
    refine r_callI1 0 C dX5_due_29 lkX5_66 (m_X5_answer (by omega) (F5.up hF (by omega))) ⟨rfl, rfl, Nat.le_of_ble_eq_true rfl, Nat.le_of_ble_eq_true rfl⟩ ⟨Nat.zero_le _, Nat.zero_le _⟩ rc0 (Nat.le_of_ble_eq_true rfl) (fun ra s9 hra => ?_)
    obtain ⟨era, hra⟩ := hra
    subst era
    exact hret _ _ _ _ dX5_due_32 (by first | (refine (Or.inl ⟨?_, ?_, ?_⟩) <;> first | omega | assumption | rfl | (rw [hra, ans1]; done) | (rw [hra, ans2]; done) | (rw [hra, ans4]; done) | (rw [hra, ans5]; done) | (rw [hra, ans_n (by omega)]; done)) | (refine (Or.inr ⟨?_, ?_, ?_⟩) <;> first | omega | assumption | rfl | (rw [hra, ans1]; done) | (rw [hra, ans2]; done) | (rw [hra, ans4]; done) | (rw [hra, ans5]; done) | (rw [hra, ans_n (by omega)]; done)))
  · skip
    refine r_if_ne (tgt := 17) C dX5_due_7 (by decide) (by decide) (fun q => absurd q (by decide)) (fun _ => ?_)
    refine r_aload_n C dX5_due_10 0 rfl ?_
    refine r_ldc (-1000001) C dX5_due_11 tw168 (by decide +kernel) ?_
    refine r_callI1 0 C dX5_due_13 lkX5_66 (m_X5_answer (by omega) hF) ⟨rfl, rfl, Nat.le_of_ble_eq_true rfl, Nat.le_of_ble_eq_true rfl⟩ ⟨Nat.zero_le _, Nat.zero_le _⟩ rc0 (Nat.le_of_ble_eq_true rfl) (fun ra s9 hra => ?_)
    obtain ⟨era, hra⟩ := hra
    subst era
    exact hret _ _ _ _ dX5_due_16 (by first | (refine (Or.inl ⟨?_, ?_, ?_⟩) <;> first | omega | assumption | rfl | (rw [hra, ans1]; done) | (rw [hra, ans2]; done) | (rw [hra, ans4]; done) | (rw [hra, ans5]; done) | (rw [hra, ans_n (by omega)]; done)) | (refine (Or.inr ⟨?_, ?_, ?_⟩) <;> first | omega | assumption | rfl | (rw [hra, ans1]; done) | (rw [hra, ans2]; done) | (rw [hra, ans4]; done) | (rw [hra, ans5]; done) | (rw [hra, ans_n (by omega)]; done)))

set_option maxHeartbeats 4000000 in
set_option maxRecDepth 100000 in
theorem m_X5_need {a : Nat → Nat} {n : Nat} {σ : ST} (hC : CS σ n) {x : Int} (hx : inR x) : MI yX5_need cX5_need 3 .int (RM 2 43) a n σ [.ref (a 0), iv x] (fun r σ1 => ((0 ≤ x ∧ x ≤ 60) ∧ r = σ 0 9 ∧ σ1 = up2 σ 0 9 x) ∨ (¬ (0 ≤ x ∧ x ≤ 60) ∧ r = -1000001 ∧ σ1 = fd σ 5 1)) := by
  refine MI.of (own := RX5) (by decide +kernel) rfl (Nat.le_of_ble_eq_true rfl) ?_
  intro κ C hret
  show J κ 0 0 a n σ [(0, .ref (a 0)), (1, iv x)] 0 []
  obtain ⟨hb, hn1, hwt, hky, hdu, hwd, hli, hne, hF, hse, hk, hvs⟩ := id hC
  refine r_iload_n C dX5_need_0 1 rfl ?_
  refine r_iconst C dX5_need_1 ?_
  refine r_bipush C dX5_need_2 (by decide) ?_
  refine r_callSB3 C dX5_need_4 lkX5_61 (m_X5_within (by omega) (by omega) (by omega)) ⟨rfl, rfl, Nat.le_of_ble_eq_true rfl, Nat.le_of_ble_eq_true rfl⟩ ⟨Nat.zero_le _, Nat.zero_le _⟩ (Nat.le_of_ble_eq_true rfl) (fun h1 => ?_) (fun h1 => ?_)
  · skip
    refine r_if_ne (tgt := 17) C dX5_need_7 (by decide) (by decide) (fun _ => ?_) (fun q => absurd q (by decide))
    refine r_aload_n C dX5_need_17 0 rfl ?_
    refine gX5_58 C dX5_need_18 (fun g3 => ?_)
    refine r_istore_n C dX5_need_21 (by decide) (fun z_ => [(2, iv z_), (0, .ref (a 0)), (1, iv x)]) (fun _ => rfl) (fun x2_4 ex2_4 => ?_)
    refine r_aload_n C dX5_need_22 1 rfl ?_
    refine r_iload_n C dX5_need_23 2 rfl ?_
    refine pX5_58 C dX5_need_24 (by omega) ?_
    refine r_aload_n C dX5_need_27 1 rfl ?_
    refine r_iload_n C dX5_need_28 0 rfl ?_
    refine r_callI1 0 C dX5_need_29 lkX5_66 (m_X5_answer (by omega) (F5.up hF (by omega))) ⟨rfl, rfl, Nat.le_of_ble_eq_true rfl, Nat.le_of_ble_eq_true rfl⟩ ⟨Nat.zero_le _, Nat.zero_le _⟩ rc0 (Nat.le_of_ble_eq_true rfl) (fun ra s9 hra => ?_)
    obtain ⟨era, hra⟩ := hra
    subst era
    exact hret _ _ _ _ dX5_need_32 (by first | (refine (Or.inl ⟨?_, ?_, ?_⟩) <;> first | omega | assumption | rfl | (rw [hra, ans1]; done) | (rw [hra, ans2]; done) | (rw [hra, ans4]; done) | (rw [hra, ans5]; done) | (rw [hra, ans_n (by omega)]; done)) | (refine (Or.inr ⟨?_, ?_, ?_⟩) <;> first | omega | assumption | rfl | (rw [hra, ans1]; done) | (rw [hra, ans2]; done) | (rw [hra, ans4]; done) | (rw [hra, ans5]; done) | (rw [hra, ans_n (by omega)]; done)))
  · skip
    refine r_if_ne (tgt := 17) C dX5_need_7 (by decide) (by decide) (fun q => absurd q (by decide)) (fun _ => ?_)
    refine r_aload_n C dX5_need_10 0 rfl ?_
    refine r_ldc (-1000001) C dX5_need_11 tw168 (by decide +kernel) ?_
    refine r_callI1 0 C dX5_need_13 lkX5_66 (m_X5_answer (by omega) hF) ⟨rfl, rfl, Nat.le_of_ble_eq_true rfl, Nat.le_of_ble_eq_true rfl⟩ ⟨Nat.zero_le _, Nat.zero_le _⟩ rc0 (Nat.le_of_ble_eq_true rfl) (fun ra s9 hra => ?_)
    obtain ⟨era, hra⟩ := hra
    subst era
    exact hret _ _ _ _ dX5_need_16 (by first | (refine (Or.inl ⟨?_, ?_, ?_⟩) <;> first | omega | assumption | rfl | (rw [hra, ans1]; done) | (rw [hra, ans2]; done) | (rw [hra, ans4]; done) | (rw [hra, ans5]; done) | (rw [hra, ans_n (by omega)]; done)) | (refine (Or.inr ⟨?_, ?_, ?_⟩) <;> first | omega | assumption | rfl | (rw [hra, ans1]; done) | (rw [hra, ans2]; done) | (rw [hra, ans4]; done) | (rw [hra, ans5]; done) | (rw [hra, ans_n (by omega)]; done)))

set_option maxHeartbeats 4000000 in
set_option maxRecDepth 100000 in
theorem m_X5_paper {a : Nat → Nat} {n : Nat} {σ : ST} (hC : CS σ n) {x y : Int} (hx : inR x) (hy : inR y) : MI yX5_paper cX5_paper 3 .int (RM 2 43) a n σ [.ref (a 0), iv x, iv y] (fun r σ1 => (((21 ≤ x ∧ x ≤ 60) ∧ (1 ≤ y ∧ y ≤ 8)) ∧ r = 1 ∧ σ1 = up2 (up2 σ 0 7 x) 0 8 y) ∨ (¬ ((21 ≤ x ∧ x ≤ 60) ∧ (1 ≤ y ∧ y ≤ 8)) ∧ r = -1000001 ∧ σ1 = fd σ 5 1)) := by
  refine MI.of (own := RX5) (by decide +kernel) rfl (Nat.le_of_ble_eq_true rfl) ?_
  intro κ C hret
  show J κ 0 0 a n σ [(0, .ref (a 0)), (1, iv x), (2, iv y)] 0 []
  obtain ⟨hb, hn1, hwt, hky, hdu, hwd, hli, hne, hF, hse, hk, hvs⟩ := id hC
  refine r_iload_n C dX5_paper_0 1 rfl ?_
  refine r_bipush C dX5_paper_1 (by decide) ?_
  refine r_bipush C dX5_paper_3 (by decide) ?_
  refine r_callSB3 C dX5_paper_5 lkX5_61 (m_X5_within (by omega) (by omega) (by omega)) ⟨rfl, rfl, Nat.le_of_ble_eq_true rfl, Nat.le_of_ble_eq_true rfl⟩ ⟨Nat.zero_le _, Nat.zero_le _⟩ (Nat.le_of_ble_eq_true rfl) (fun h1 => ?_) (fun h1 => ?_)
  · skip
    refine r_if_eq (tgt := 21) C dX5_paper_8 (by decide) (by decide) (fun q => absurd q (by decide)) (fun _ => ?_)
    refine r_iload_n C dX5_paper_11 2 rfl ?_
    refine r_iconst C dX5_paper_12 ?_
    refine r_bipush C dX5_paper_13 (by decide) ?_
    refine r_callSB3 C dX5_paper_15 lkX5_61 (m_X5_within (by omega) (by omega) (by omega)) ⟨rfl, rfl, Nat.le_of_ble_eq_true rfl, Nat.le_of_ble_eq_true rfl⟩ ⟨Nat.zero_le _, Nat.zero_le _⟩ (Nat.le_of_ble_eq_true rfl) (fun h3 => ?_) (fun h3 => ?_)
    · skip
      refine r_if_ne (tgt := 28) C dX5_paper_18 (by decide) (by decide) (fun _ => ?_) (fun q => absurd q (by decide))
      refine r_aload_n C dX5_paper_28 0 rfl ?_
      refine r_iload_n C dX5_paper_29 1 rfl ?_
      refine pX5_52 C dX5_paper_30 (by omega) ?_
      refine r_aload_n C dX5_paper_33 0 rfl ?_
      refine r_iload_n C dX5_paper_34 2 rfl ?_
      refine pX5_55 C dX5_paper_35 (by omega) ?_
      refine r_aload_n C dX5_paper_38 0 rfl ?_
      refine r_iconst C dX5_paper_39 ?_
      refine r_callI1 0 C dX5_paper_40 lkX5_66 (m_X5_answer (by omega) (F5.up (F5.up hF (by omega)) (by omega))) ⟨rfl, rfl, Nat.le_of_ble_eq_true rfl, Nat.le_of_ble_eq_true rfl⟩ ⟨Nat.zero_le _, Nat.zero_le _⟩ rc0 (Nat.le_of_ble_eq_true rfl) (fun ra s9 hra => ?_)
      obtain ⟨era, hra⟩ := hra
      subst era
      exact hret _ _ _ _ dX5_paper_43 (by first | (refine (Or.inl ⟨?_, ?_, ?_⟩) <;> first | omega | assumption | rfl | (rw [hra, ans1]; done) | (rw [hra, ans2]; done) | (rw [hra, ans4]; done) | (rw [hra, ans5]; done) | (rw [hra, ans_n (by omega)]; done)) | (refine (Or.inr ⟨?_, ?_, ?_⟩) <;> first | omega | assumption | rfl | (rw [hra, ans1]; done) | (rw [hra, ans2]; done) | (rw [hra, ans4]; done) | (rw [hra, ans5]; done) | (rw [hra, ans_n (by omega)]; done)))
    · skip
      refine r_if_ne (tgt := 28) C dX5_paper_18 (by decide) (by decide) (fun q => absurd q (by decide)) (fun _ => ?_)
      refine r_aload_n C dX5_paper_21 0 rfl ?_
      refine r_ldc (-1000001) C dX5_paper_22 tw168 (by decide +kernel) ?_
      refine r_callI1 0 C dX5_paper_24 lkX5_66 (m_X5_answer (by omega) hF) ⟨rfl, rfl, Nat.le_of_ble_eq_true rfl, Nat.le_of_ble_eq_true rfl⟩ ⟨Nat.zero_le _, Nat.zero_le _⟩ rc0 (Nat.le_of_ble_eq_true rfl) (fun ra s9 hra => ?_)
      obtain ⟨era, hra⟩ := hra
      subst era
      exact hret _ _ _ _ dX5_paper_27 (by first | (refine (Or.inl ⟨?_, ?_, ?_⟩) <;> first | omega | assumption | rfl | (rw [hra, ans1]; done) | (rw [hra, ans2]; done) | (rw [hra, ans4]; done) | (rw [hra, ans5]; done) | (rw [hra, ans_n (by omega)]; done)) | (refine (Or.inr ⟨?_, ?_, ?_⟩) <;> first | omega | assumption | rfl | (rw [hra, ans1]; done) | (rw [hra, ans2]; done) | (rw [hra, ans4]; done) | (rw [hra, ans5]; done) | (rw [hra, ans_n (by omega)]; done)))
  · skip
    refine r_if_eq (tgt := 21) C dX5_paper_8 (by decide) (by decide) (fun _ => ?_) (fun q => absurd q (by decide))
    refine r_aload_n C dX5_paper_21 0 rfl ?_
    refine r_ldc (-1000001) C dX5_paper_22 tw168 (by decide +kernel) ?_
    refine r_callI1 0 C dX5_paper_24 lkX5_66 (m_X5_answer (by omega) hF) ⟨rfl, rfl, Nat.le_of_ble_eq_true rfl, Nat.le_of_ble_eq_true rfl⟩ ⟨Nat.zero_le _, Nat.zero_le _⟩ rc0 (Nat.le_of_ble_eq_true rfl) (fun ra s9 hra => ?_)
    obtain ⟨era, hra⟩ := hra
    subst era
    exact hret _ _ _ _ dX5_paper_27 (by first | (refine (Or.inl ⟨?_, ?_, ?_⟩) <;> first | omega | assumption | rfl | (rw [hra, ans1]; done) | (rw [hra, ans2]; done) | (rw [hra, ans4]; done) | (rw [hra, ans5]; done) | (rw [hra, ans_n (by omega)]; done)) | (refine (Or.inr ⟨?_, ?_, ?_⟩) <;> first | omega | assumption | rfl | (rw [hra, ans1]; done) | (rw [hra, ans2]; done) | (rw [hra, ans4]; done) | (rw [hra, ans5]; done) | (rw [hra, ans_n (by omega)]; done)))

set_option maxHeartbeats 4000000 in
set_option maxRecDepth 100000 in
theorem m_X5_tell {a : Nat → Nat} {n : Nat} {σ : ST} (hC : CS σ n) {x : Int} (hx : inR x) : MI yX5_tell cX5_tell 2 .int (RM 2 43) a n σ [.ref (a 0), iv x] (fun r σ1 => (σ 4 1 < 40 ∧ r = σ 4 1 + 1 ∧ σ1 = up2 (up2 σ 17 (σ 4 1) x) 4 1 (σ 4 1 + 1)) ∨ (σ 4 1 = 40 ∧ r = -1000004 ∧ σ1 = fd σ 5 4)) := by
  refine MI.of (own := RX5) (by decide +kernel) rfl (Nat.le_of_ble_eq_true rfl) ?_
  intro κ C hret
  show J κ 0 0 a n σ [(0, .ref (a 0)), (1, iv x)] 0 []
  obtain ⟨hb, hn1, hwt, hky, hdu, hwd, hli, hne, hF, hse, hk, hvs⟩ := id hC
  refine r_aload_n C dX5_tell_0 0 rfl ?_
  refine r_aload_n C dX5_tell_1 0 rfl ?_
  refine gX5_37 C dX5_tell_2 ?_
  refine r_iload_n C dX5_tell_5 1 rfl ?_
  refine r_callI1 4 C dX5_tell_6 lkX5_161 (m_X3_add (by omega) (by omega)) ⟨rfl, rfl, Nat.le_of_ble_eq_true rfl, Nat.le_of_ble_eq_true rfl⟩ ⟨Nat.zero_le _, Nat.zero_le _⟩ rc4 (Nat.le_of_ble_eq_true rfl) (fun ad sA had => ?_)
  have hFsA : F5 sA := by rcases had with ⟨-, -, q3⟩ | ⟨-, -, q3⟩ <;> rw [q3]; exact F5.up (F5.up hF (by omega)) (by omega); exact hF
  refine r_callI1 0 C dX5_tell_9 lkX5_66 (m_X5_answer (by omega) hFsA) ⟨rfl, rfl, Nat.le_of_ble_eq_true rfl, Nat.le_of_ble_eq_true rfl⟩ ⟨Nat.zero_le _, Nat.zero_le _⟩ rc0 (Nat.le_of_ble_eq_true rfl) (fun ra s9 hra => ?_)
  obtain ⟨era, hra⟩ := hra
  subst era
  exact hret _ _ _ _ dX5_tell_12 (by rcases had with ⟨q1, q2, q3⟩ | ⟨q1, q2, q3⟩; exact Or.inl ⟨q1, q2, by rw [hra, ans_n (by omega)]; exact q3⟩; exact Or.inr ⟨q1, q2, by rw [hra, q2, q3, ans4]⟩)

set_option maxHeartbeats 4000000 in
set_option maxRecDepth 100000 in
theorem m_X5_found {a : Nat → Nat} {n : Nat} {σ : ST} (hC : CS σ n) {k : Int} (hk1 : inR k) : MI yX5_found cX5_found 2 .int (RM 2 43) a n σ [.ref (a 0), iv k] (fun r σ1 => ((1 ≤ k ∧ k ≤ 5) ∧ r = σ 5 k ∧ σ1 = σ) ∨ (¬ (1 ≤ k ∧ k ≤ 5) ∧ r = -1000001 ∧ σ1 = fd σ 5 1)) := by
  refine MI.of (own := RX5) (by decide +kernel) rfl (Nat.le_of_ble_eq_true rfl) ?_
  intro κ C hret
  show J κ 0 0 a n σ [(0, .ref (a 0)), (1, iv k)] 0 []
  obtain ⟨hb, hn1, hwt, hky, hdu, hwd, hli, hne, hF, hse, hk, hvs⟩ := id hC
  refine r_iload_n C dX5_found_0 1 rfl ?_
  refine r_iconst C dX5_found_1 ?_
  refine r_iconst C dX5_found_2 ?_
  refine r_callSB3 C dX5_found_3 lkX5_61 (m_X5_within (by omega) (by omega) (by omega)) ⟨rfl, rfl, Nat.le_of_ble_eq_true rfl, Nat.le_of_ble_eq_true rfl⟩ ⟨Nat.zero_le _, Nat.zero_le _⟩ (Nat.le_of_ble_eq_true rfl) (fun h1 => ?_) (fun h1 => ?_)
  · skip
    refine r_if_ne (tgt := 16) C dX5_found_6 (by decide) (by decide) (fun _ => ?_) (fun q => absurd q (by decide))
    refine r_aload_n C dX5_found_16 0 rfl ?_
    refine gX5_41 C dX5_found_17 ?_
    refine r_iload_n C dX5_found_20 1 rfl ?_
    refine r_iald 6 C dX5_found_21 (by omega) (fun _ => rfl) (by omega) (by omega) (by decide) (fun g4 => ?_)
    exact hret _ _ _ _ dX5_found_22 (by first | (refine (Or.inl ⟨?_, ?_, ?_⟩) <;> first | omega | assumption | rfl | (rw [hra, ans1]; done) | (rw [hra, ans2]; done) | (rw [hra, ans4]; done) | (rw [hra, ans5]; done) | (rw [hra, ans_n (by omega)]; done)) | (refine (Or.inr ⟨?_, ?_, ?_⟩) <;> first | omega | assumption | rfl | (rw [hra, ans1]; done) | (rw [hra, ans2]; done) | (rw [hra, ans4]; done) | (rw [hra, ans5]; done) | (rw [hra, ans_n (by omega)]; done)))
  · skip
    refine r_if_ne (tgt := 16) C dX5_found_6 (by decide) (by decide) (fun q => absurd q (by decide)) (fun _ => ?_)
    refine r_aload_n C dX5_found_9 0 rfl ?_
    refine r_ldc (-1000001) C dX5_found_10 tw168 (by decide +kernel) ?_
    refine r_callI1 0 C dX5_found_12 lkX5_66 (m_X5_answer (by omega) hF) ⟨rfl, rfl, Nat.le_of_ble_eq_true rfl, Nat.le_of_ble_eq_true rfl⟩ ⟨Nat.zero_le _, Nat.zero_le _⟩ rc0 (Nat.le_of_ble_eq_true rfl) (fun ra s9 hra => ?_)
    obtain ⟨era, hra⟩ := hra
    subst era
    exact hret _ _ _ _ dX5_found_15 (by first | (refine (Or.inl ⟨?_, ?_, ?_⟩) <;> first | omega | assumption | rfl | (rw [hra, ans1]; done) | (rw [hra, ans2]; done) | (rw [hra, ans4]; done) | (rw [hra, ans5]; done) | (rw [hra, ans_n (by omega)]; done)) | (refine (Or.inr ⟨?_, ?_, ?_⟩) <;> first | omega | assumption | rfl | (rw [hra, ans1]; done) | (rw [hra, ans2]; done) | (rw [hra, ans4]; done) | (rw [hra, ans5]; done) | (rw [hra, ans_n (by omega)]; done)))

set_option maxHeartbeats 4000000 in
set_option maxRecDepth 100000 in
theorem m_J9_floorMod_7cf53 {a : Nat → Nat} {n : Nat} {σ : ST} {x : Int} (hx : -100 ≤ x ∧ x < 100) : MP yJ9_floorMod_7cf53 cJ9_floorMod_7cf53 3 .int (RM 0 0) a n σ [iv x, iv 12] (fun r => r = x % 12) := by
  refine MI.ofF (own := RJ9) (by decide +kernel) rfl (Nat.le_of_ble_eq_true rfl) ?_
  intro κ C hret
  show J κ 0 0 a n σ [(0, iv x), (1, iv 12)] 0 []
  have hfm := fm_at hx
  have htm := tm_bd hx
  refine r_iload_n C dJ9_floorMod_7cf53_0 0 rfl ?_
  refine r_iload_n C dJ9_floorMod_7cf53_1 1 rfl ?_
  refine r_irem C dJ9_floorMod_7cf53_2 (by omega) (by omega) (by omega) (by omega) ?_
  refine r_istore_n C dJ9_floorMod_7cf53_3 (by decide) (fun z_ => [(2, iv z_), (0, iv x), (1, iv 12)]) (fun _ => rfl) (fun md emd => ?_)
  refine r_iload_n C dJ9_floorMod_7cf53_4 1 rfl ?_
  refine r_iload_n C dJ9_floorMod_7cf53_5 2 rfl ?_
  refine r_ixor C dJ9_floorMod_7cf53_6 ?_
  have hxi := ixor_in x 12
  refine r_if_ge (tgt := 18) C dJ9_floorMod_7cf53_7 (by decide) (by omega) (fun h1 => ?_) (fun h1 => ?_)
  · skip
    refine r_iload_n C dJ9_floorMod_7cf53_18 0 rfl ?_
    exact hret _ _ _ _ dJ9_floorMod_7cf53_19 ⟨rfl, by omega⟩
  · skip
    refine r_iload_n C dJ9_floorMod_7cf53_10 0 rfl ?_
    refine r_if_eq (tgt := 18) C dJ9_floorMod_7cf53_11 (by decide) (by omega) (fun h2 => ?_) (fun h2 => ?_)
    · skip
      refine r_iload_n C dJ9_floorMod_7cf53_18 0 rfl ?_
      exact hret _ _ _ _ dJ9_floorMod_7cf53_19 ⟨rfl, by omega⟩
    · skip
      refine r_iload_n C dJ9_floorMod_7cf53_14 0 rfl ?_
      refine r_iload_n C dJ9_floorMod_7cf53_15 2 rfl ?_
      refine r_iadd C dJ9_floorMod_7cf53_16 ?_
      exact hret _ _ _ _ dJ9_floorMod_7cf53_17 ⟨rfl, by omega⟩

set_option maxHeartbeats 4000000 in
set_option maxRecDepth 100000 in
theorem m_X5_written {a : Nat → Nat} {n : Nat} {σ : ST} (hC : CS σ n) {v : Int} (hv1 : inR v) : MI yX5_written cX5_written 3 .int (RM 2 43) a n σ [.ref (a 0), iv v] (fun r σ1 => ((0 ≤ v ∧ v < n) ∧ r = (σ 0 5 + 7 * σ (39 + 5 * v.toNat) 1 + 6) % 12 - 6 ∧ σ1 = σ) ∨ (¬ (0 ≤ v ∧ v < n) ∧ r = -1000001 ∧ σ1 = fd σ 5 1)) := by
  refine MI.of (own := RX5) (by decide +kernel) rfl (Nat.le_of_ble_eq_true rfl) ?_
  intro κ C hret
  show J κ 0 0 a n σ [(0, .ref (a 0)), (1, iv v)] 0 []
  obtain ⟨hb, hn1, hwt, hky, hdu, hwd, hli, hne, hF, hse, hk, hvs⟩ := id hC
  refine r_aload_n C dX5_written_0 0 rfl ?_
  refine gX5_12 C dX5_written_1 ?_
  refine r_iload_n C dX5_written_4 1 rfl ?_
  refine r_callO1 1 C dX5_written_5 lkX5_77 (m_X2_voiceAt (by omega) (by omega)) ⟨rfl, rfl, Nat.le_of_ble_eq_true rfl, Nat.le_of_ble_eq_true rfl⟩ ⟨Nat.zero_le _, Nat.zero_le _⟩ rc1 (Nat.le_of_ble_eq_true rfl) (fun r2 hr2 => ?_)
  rcases hr2 with ⟨er2, hr2⟩ | ⟨er2, hr2⟩
  · rw [er2]
    show J _ _ _ _ _ _ _ _ (.ref (a (39 + 5 * v.toNat)) :: _)
    refine r_astore_n C dX5_written_8 (by decide) [(2, .ref (a (39 + 5 * v.toNat))), (0, .ref (a 0)), (1, iv v)] rfl ?_
    refine r_aload_n C dX5_written_9 0 rfl ?_
    refine r_ifnonnull (tgt := 20) C dX5_written_10 (by decide) ?_
    have hvv := (hvs v.toNat (by omega)).2.1
    refine r_aload_n C dX5_written_20 1 rfl ?_
    refine r_aload_n C dX5_written_21 1 rfl ?_
    refine gX5_45 C dX5_written_22 (fun g3 => ?_)
    refine r_bipush C dX5_written_25 (by decide) ?_
    refine r_aload_n C dX5_written_27 0 rfl ?_
    refine gX5_87 v.toNat (by omega) C dX5_written_28 (fun g4 => ?_)
    refine r_imul C dX5_written_31 ?_
    refine r_iadd C dX5_written_32 ?_
    refine r_bipush C dX5_written_33 (by decide) ?_
    refine r_iadd C dX5_written_35 ?_
    refine r_bipush C dX5_written_36 (by decide) ?_
    refine r_callSP2 C dX5_written_38 lkX5_124 (m_J9_floorMod_7cf53 (by omega)) ⟨rfl, rfl, Nat.le_of_ble_eq_true rfl, Nat.le_of_ble_eq_true rfl⟩ ⟨Nat.zero_le _, Nat.zero_le _⟩ (Nat.le_of_ble_eq_true rfl) (fun fm hfm => ?_)
    refine r_bipush C dX5_written_41 (by decide) ?_
    refine r_isub C dX5_written_43 ?_
    refine r_callI1 0 C dX5_written_44 lkX5_66 (m_X5_answer (by omega) hF) ⟨rfl, rfl, Nat.le_of_ble_eq_true rfl, Nat.le_of_ble_eq_true rfl⟩ ⟨Nat.zero_le _, Nat.zero_le _⟩ rc0 (Nat.le_of_ble_eq_true rfl) (fun ra s9 hra => ?_)
    obtain ⟨era, hra⟩ := hra
    subst era
    exact hret _ _ _ _ dX5_written_47 (by first | (refine (Or.inl ⟨?_, ?_, ?_⟩) <;> first | omega | assumption | rfl | (rw [hra, ans1]; done) | (rw [hra, ans2]; done) | (rw [hra, ans4]; done) | (rw [hra, ans5]; done) | (rw [hra, ans_n (by omega)]; done)) | (refine (Or.inr ⟨?_, ?_, ?_⟩) <;> first | omega | assumption | rfl | (rw [hra, ans1]; done) | (rw [hra, ans2]; done) | (rw [hra, ans4]; done) | (rw [hra, ans5]; done) | (rw [hra, ans_n (by omega)]; done)))
  · rw [er2]
    show J _ _ _ _ _ _ _ _ (.null :: _)
    refine r_astore_nN C dX5_written_8 (by decide) [(2, .null), (0, .ref (a 0)), (1, iv v)] rfl ?_
    refine r_aload_nN C dX5_written_9 0 rfl ?_
    refine r_ifnonnullN C dX5_written_10 ?_
    refine r_aload_n C dX5_written_13 1 rfl ?_
    refine r_ldc (-1000001) C dX5_written_14 tw168 (by decide +kernel) ?_
    refine r_callI1 0 C dX5_written_16 lkX5_66 (m_X5_answer (by omega) hF) ⟨rfl, rfl, Nat.le_of_ble_eq_true rfl, Nat.le_of_ble_eq_true rfl⟩ ⟨Nat.zero_le _, Nat.zero_le _⟩ rc0 (Nat.le_of_ble_eq_true rfl) (fun ra s9 hra => ?_)
    obtain ⟨era, hra⟩ := hra
    subst era
    exact hret _ _ _ _ dX5_written_19 (by first | (refine (Or.inl ⟨?_, ?_, ?_⟩) <;> first | omega | assumption | rfl | (rw [hra, ans1]; done) | (rw [hra, ans2]; done) | (rw [hra, ans4]; done) | (rw [hra, ans5]; done) | (rw [hra, ans_n (by omega)]; done)) | (refine (Or.inr ⟨?_, ?_, ?_⟩) <;> first | omega | assumption | rfl | (rw [hra, ans1]; done) | (rw [hra, ans2]; done) | (rw [hra, ans4]; done) | (rw [hra, ans5]; done) | (rw [hra, ans_n (by omega)]; done)))

set_option maxHeartbeats 4000000 in
set_option maxRecDepth 100000 in
theorem m_X5_count {a : Nat → Nat} {n : Nat} {σ : ST} (hC : CS σ n) {w : Int} (hw : inR w) : MI yX5_count cX5_count 2 .int (RM 3 64) a n σ [.ref (a 0), iv w] (fun r σ1 => (w = 0 ∧ r = σ 1 3 ∧ σ1 = σ) ∨ (w = 1 ∧ r = n ∧ σ1 = σ) ∨ (w = 2 ∧ r = σ 1 3 - cntN (σ 7) (σ 1 3).toNat ∧ σ1 = σ) ∨ (w = 3 ∧ r = secN (σ 7) (σ 6) (σ 1 3).toNat ∧ σ1 = σ) ∨ (w = 4 ∧ r = σ 4 1 ∧ σ1 = σ) ∨ (w = 5 ∧ r = laidN (fun o => σ (39 + 5 * o.toNat) 7) n ∧ σ1 = σ) ∨ (¬ (0 ≤ w ∧ w ≤ 5) ∧ r = -1000001 ∧ σ1 = fd σ 5 1)) := by
  refine MI.of (own := RX5) (by decide +kernel) rfl (Nat.le_of_ble_eq_true rfl) ?_
  intro κ C hret
  show J κ 0 0 a n σ [(0, .ref (a 0)), (1, iv w)] 0 []
  obtain ⟨hb, hn1, hwt, hky, hdu, hwd, hli, hne, hF, hse, hk, hvs⟩ := id hC
  have hq2 := cntN_bd (σ 7) (σ 1 3).toNat
  have hq3 := secN_bd (σ 7) (σ 6) hse (σ 1 3).toNat
  have hq5 := laidN_bd (fun o => σ (39 + 5 * o.toNat) 7) n
  refine r_iload_n C dX5_count_0 1 rfl ?_
  rcases (show w = 0 ∨ w = 1 ∨ w = 2 ∨ w = 3 ∨ w = 4 ∨ w = 5 ∨ (w < 0 ∨ 5 < w) by omega) with rfl | rfl | rfl | rfl | rfl | rfl | hsw
  · skip
    refine r_tIn (off := 39) (tgt := 40) C dX5_count_1 (by omega) (by decide) (by decide) rfl (by decide) ?_
    refine r_aload_n C dX5_count_40 0 rfl ?_
    refine r_aload_n C dX5_count_41 0 rfl ?_
    refine gX5_12 C dX5_count_42 ?_
    refine gX5_171 C dX5_count_45 (fun g2 => ?_)
    refine r_callI1 0 C dX5_count_48 lkX5_66 (m_X5_answer (by omega) hF) ⟨rfl, rfl, Nat.le_of_ble_eq_true rfl, Nat.le_of_ble_eq_true rfl⟩ ⟨Nat.zero_le _, Nat.zero_le _⟩ rc0 (Nat.le_of_ble_eq_true rfl) (fun ra s9 hra => ?_)
    obtain ⟨era, hra⟩ := hra
    subst era
    exact hret _ _ _ _ dX5_count_51 (by first | (refine (Or.inl ⟨?_, ?_, ?_⟩) <;> first | omega | assumption | rfl | (rw [hra, ans1]; done) | (rw [hra, ans2]; done) | (rw [hra, ans4]; done) | (rw [hra, ans5]; done) | (rw [hra, ans_n (by omega)]; done)) | (refine (Or.inr (Or.inl ⟨?_, ?_, ?_⟩)) <;> first | omega | assumption | rfl | (rw [hra, ans1]; done) | (rw [hra, ans2]; done) | (rw [hra, ans4]; done) | (rw [hra, ans5]; done) | (rw [hra, ans_n (by omega)]; done)) | (refine (Or.inr (Or.inr (Or.inl ⟨?_, ?_, ?_⟩))) <;> first | omega | assumption | rfl | (rw [hra, ans1]; done) | (rw [hra, ans2]; done) | (rw [hra, ans4]; done) | (rw [hra, ans5]; done) | (rw [hra, ans_n (by omega)]; done)) | (refine (Or.inr (Or.inr (Or.inr (Or.inl ⟨?_, ?_, ?_⟩)))) <;> first | omega | assumption | rfl | (rw [hra, ans1]; done) | (rw [hra, ans2]; done) | (rw [hra, ans4]; done) | (rw [hra, ans5]; done) | (rw [hra, ans_n (by omega)]; done)) | (refine (Or.inr (Or.inr (Or.inr (Or.inr (Or.inl ⟨?_, ?_, ?_⟩))))) <;> first | omega | assumption | rfl | (rw [hra, ans1]; done) | (rw [hra, ans2]; done) | (rw [hra, ans4]; done) | (rw [hra, ans5]; done) | (rw [hra, ans_n (by omega)]; done)) | (refine (Or.inr (Or.inr (Or.inr (Or.inr (Or.inr (Or.inl ⟨?_, ?_, ?_⟩)))))) <;> first | omega | assumption | rfl | (rw [hra, ans1]; done) | (rw [hra, ans2]; done) | (rw [hra, ans4]; done) | (rw [hra, ans5]; done) | (rw [hra, ans_n (by omega)]; done)) | (refine (Or.inr (Or.inr (Or.inr (Or.inr (Or.inr (Or.inr ⟨?_, ?_, ?_⟩)))))) <;> first | omega | assumption | rfl | (rw [hra, ans1]; done) | (rw [hra, ans2]; done) | (rw [hra, ans4]; done) | (rw [hra, ans5]; done) | (rw [hra, ans_n (by omega)]; done)))
  · skip
    refine r_tIn (off := 51) (tgt := 52) C dX5_count_1 (by omega) (by decide) (by decide) rfl (by decide) ?_
    refine r_aload_n C dX5_count_52 0 rfl ?_
    refine r_aload_n C dX5_count_53 0 rfl ?_
    refine gX5_12 C dX5_count_54 ?_
    refine gX5_174 C dX5_count_57 (fun g4 => ?_)
    refine r_callI1 0 C dX5_count_60 lkX5_66 (m_X5_answer (by omega) hF) ⟨rfl, rfl, Nat.le_of_ble_eq_true rfl, Nat.le_of_ble_eq_true rfl⟩ ⟨Nat.zero_le _, Nat.zero_le _⟩ rc0 (Nat.le_of_ble_eq_true rfl) (fun ra s9 hra => ?_)
    obtain ⟨era, hra⟩ := hra
    subst era
    exact hret _ _ _ _ dX5_count_63 (by first | (refine (Or.inl ⟨?_, ?_, ?_⟩) <;> first | omega | assumption | rfl | (rw [hra, ans1]; done) | (rw [hra, ans2]; done) | (rw [hra, ans4]; done) | (rw [hra, ans5]; done) | (rw [hra, ans_n (by omega)]; done)) | (refine (Or.inr (Or.inl ⟨?_, ?_, ?_⟩)) <;> first | omega | assumption | rfl | (rw [hra, ans1]; done) | (rw [hra, ans2]; done) | (rw [hra, ans4]; done) | (rw [hra, ans5]; done) | (rw [hra, ans_n (by omega)]; done)) | (refine (Or.inr (Or.inr (Or.inl ⟨?_, ?_, ?_⟩))) <;> first | omega | assumption | rfl | (rw [hra, ans1]; done) | (rw [hra, ans2]; done) | (rw [hra, ans4]; done) | (rw [hra, ans5]; done) | (rw [hra, ans_n (by omega)]; done)) | (refine (Or.inr (Or.inr (Or.inr (Or.inl ⟨?_, ?_, ?_⟩)))) <;> first | omega | assumption | rfl | (rw [hra, ans1]; done) | (rw [hra, ans2]; done) | (rw [hra, ans4]; done) | (rw [hra, ans5]; done) | (rw [hra, ans_n (by omega)]; done)) | (refine (Or.inr (Or.inr (Or.inr (Or.inr (Or.inl ⟨?_, ?_, ?_⟩))))) <;> first | omega | assumption | rfl | (rw [hra, ans1]; done) | (rw [hra, ans2]; done) | (rw [hra, ans4]; done) | (rw [hra, ans5]; done) | (rw [hra, ans_n (by omega)]; done)) | (refine (Or.inr (Or.inr (Or.inr (Or.inr (Or.inr (Or.inl ⟨?_, ?_, ?_⟩)))))) <;> first | omega | assumption | rfl | (rw [hra, ans1]; done) | (rw [hra, ans2]; done) | (rw [hra, ans4]; done) | (rw [hra, ans5]; done) | (rw [hra, ans_n (by omega)]; done)) | (refine (Or.inr (Or.inr (Or.inr (Or.inr (Or.inr (Or.inr ⟨?_, ?_, ?_⟩)))))) <;> first | omega | assumption | rfl | (rw [hra, ans1]; done) | (rw [hra, ans2]; done) | (rw [hra, ans4]; done) | (rw [hra, ans5]; done) | (rw [hra, ans_n (by omega)]; done)))
  · skip
    refine r_tIn (off := 63) (tgt := 64) C dX5_count_1 (by omega) (by decide) (by decide) rfl (by decide) ?_
    refine r_aload_n C dX5_count_64 0 rfl ?_
    refine r_aload_n C dX5_count_65 0 rfl ?_
    refine gX5_12 C dX5_count_66 ?_
    refine r_callP0 1 C dX5_count_69 lkX5_177 (m_X2_cutBars (by omega) hk) ⟨rfl, rfl, Nat.le_of_ble_eq_true rfl, Nat.le_of_ble_eq_true rfl⟩ ⟨Nat.zero_le _, Nat.zero_le _⟩ rc1 (Nat.le_of_ble_eq_true rfl) (fun r6 hr6 => ?_)
    refine r_callI1 0 C dX5_count_72 lkX5_66 (m_X5_answer (by omega) hF) ⟨rfl, rfl, Nat.le_of_ble_eq_true rfl, Nat.le_of_ble_eq_true rfl⟩ ⟨Nat.zero_le _, Nat.zero_le _⟩ rc0 (Nat.le_of_ble_eq_true rfl) (fun ra s9 hra => ?_)
    obtain ⟨era, hra⟩ := hra
    subst era
    exact hret _ _ _ _ dX5_count_75 (by first | (refine (Or.inl ⟨?_, ?_, ?_⟩) <;> first | omega | assumption | rfl | (rw [hra, ans1]; done) | (rw [hra, ans2]; done) | (rw [hra, ans4]; done) | (rw [hra, ans5]; done) | (rw [hra, ans_n (by omega)]; done)) | (refine (Or.inr (Or.inl ⟨?_, ?_, ?_⟩)) <;> first | omega | assumption | rfl | (rw [hra, ans1]; done) | (rw [hra, ans2]; done) | (rw [hra, ans4]; done) | (rw [hra, ans5]; done) | (rw [hra, ans_n (by omega)]; done)) | (refine (Or.inr (Or.inr (Or.inl ⟨?_, ?_, ?_⟩))) <;> first | omega | assumption | rfl | (rw [hra, ans1]; done) | (rw [hra, ans2]; done) | (rw [hra, ans4]; done) | (rw [hra, ans5]; done) | (rw [hra, ans_n (by omega)]; done)) | (refine (Or.inr (Or.inr (Or.inr (Or.inl ⟨?_, ?_, ?_⟩)))) <;> first | omega | assumption | rfl | (rw [hra, ans1]; done) | (rw [hra, ans2]; done) | (rw [hra, ans4]; done) | (rw [hra, ans5]; done) | (rw [hra, ans_n (by omega)]; done)) | (refine (Or.inr (Or.inr (Or.inr (Or.inr (Or.inl ⟨?_, ?_, ?_⟩))))) <;> first | omega | assumption | rfl | (rw [hra, ans1]; done) | (rw [hra, ans2]; done) | (rw [hra, ans4]; done) | (rw [hra, ans5]; done) | (rw [hra, ans_n (by omega)]; done)) | (refine (Or.inr (Or.inr (Or.inr (Or.inr (Or.inr (Or.inl ⟨?_, ?_, ?_⟩)))))) <;> first | omega | assumption | rfl | (rw [hra, ans1]; done) | (rw [hra, ans2]; done) | (rw [hra, ans4]; done) | (rw [hra, ans5]; done) | (rw [hra, ans_n (by omega)]; done)) | (refine (Or.inr (Or.inr (Or.inr (Or.inr (Or.inr (Or.inr ⟨?_, ?_, ?_⟩)))))) <;> first | omega | assumption | rfl | (rw [hra, ans1]; done) | (rw [hra, ans2]; done) | (rw [hra, ans4]; done) | (rw [hra, ans5]; done) | (rw [hra, ans_n (by omega)]; done)))
  · skip
    refine r_tIn (off := 75) (tgt := 76) C dX5_count_1 (by omega) (by decide) (by decide) rfl (by decide) ?_
    refine r_aload_n C dX5_count_76 0 rfl ?_
    refine r_aload_n C dX5_count_77 0 rfl ?_
    refine gX5_12 C dX5_count_78 ?_
    refine r_callP0 1 C dX5_count_81 lkX5_180 (m_X2_secondsLeft (by omega) hk hse) ⟨rfl, rfl, Nat.le_of_ble_eq_true rfl, Nat.le_of_ble_eq_true rfl⟩ ⟨Nat.zero_le _, Nat.zero_le _⟩ rc1 (Nat.le_of_ble_eq_true rfl) (fun r8 hr8 => ?_)
    refine r_callI1 0 C dX5_count_84 lkX5_66 (m_X5_answer (by omega) hF) ⟨rfl, rfl, Nat.le_of_ble_eq_true rfl, Nat.le_of_ble_eq_true rfl⟩ ⟨Nat.zero_le _, Nat.zero_le _⟩ rc0 (Nat.le_of_ble_eq_true rfl) (fun ra s9 hra => ?_)
    obtain ⟨era, hra⟩ := hra
    subst era
    exact hret _ _ _ _ dX5_count_87 (by first | (refine (Or.inl ⟨?_, ?_, ?_⟩) <;> first | omega | assumption | rfl | (rw [hra, ans1]; done) | (rw [hra, ans2]; done) | (rw [hra, ans4]; done) | (rw [hra, ans5]; done) | (rw [hra, ans_n (by omega)]; done)) | (refine (Or.inr (Or.inl ⟨?_, ?_, ?_⟩)) <;> first | omega | assumption | rfl | (rw [hra, ans1]; done) | (rw [hra, ans2]; done) | (rw [hra, ans4]; done) | (rw [hra, ans5]; done) | (rw [hra, ans_n (by omega)]; done)) | (refine (Or.inr (Or.inr (Or.inl ⟨?_, ?_, ?_⟩))) <;> first | omega | assumption | rfl | (rw [hra, ans1]; done) | (rw [hra, ans2]; done) | (rw [hra, ans4]; done) | (rw [hra, ans5]; done) | (rw [hra, ans_n (by omega)]; done)) | (refine (Or.inr (Or.inr (Or.inr (Or.inl ⟨?_, ?_, ?_⟩)))) <;> first | omega | assumption | rfl | (rw [hra, ans1]; done) | (rw [hra, ans2]; done) | (rw [hra, ans4]; done) | (rw [hra, ans5]; done) | (rw [hra, ans_n (by omega)]; done)) | (refine (Or.inr (Or.inr (Or.inr (Or.inr (Or.inl ⟨?_, ?_, ?_⟩))))) <;> first | omega | assumption | rfl | (rw [hra, ans1]; done) | (rw [hra, ans2]; done) | (rw [hra, ans4]; done) | (rw [hra, ans5]; done) | (rw [hra, ans_n (by omega)]; done)) | (refine (Or.inr (Or.inr (Or.inr (Or.inr (Or.inr (Or.inl ⟨?_, ?_, ?_⟩)))))) <;> first | omega | assumption | rfl | (rw [hra, ans1]; done) | (rw [hra, ans2]; done) | (rw [hra, ans4]; done) | (rw [hra, ans5]; done) | (rw [hra, ans_n (by omega)]; done)) | (refine (Or.inr (Or.inr (Or.inr (Or.inr (Or.inr (Or.inr ⟨?_, ?_, ?_⟩)))))) <;> first | omega | assumption | rfl | (rw [hra, ans1]; done) | (rw [hra, ans2]; done) | (rw [hra, ans4]; done) | (rw [hra, ans5]; done) | (rw [hra, ans_n (by omega)]; done)))
  · skip
    refine r_tIn (off := 87) (tgt := 88) C dX5_count_1 (by omega) (by decide) (by decide) rfl (by decide) ?_
    refine r_aload_n C dX5_count_88 0 rfl ?_
    refine r_aload_n C dX5_count_89 0 rfl ?_
    refine gX5_37 C dX5_count_90 ?_
    refine gX5_183 C dX5_count_93 (fun g10 => ?_)
    refine r_callI1 0 C dX5_count_96 lkX5_66 (m_X5_answer (by omega) hF) ⟨rfl, rfl, Nat.le_of_ble_eq_true rfl, Nat.le_of_ble_eq_true rfl⟩ ⟨Nat.zero_le _, Nat.zero_le _⟩ rc0 (Nat.le_of_ble_eq_true rfl) (fun ra s9 hra => ?_)
    obtain ⟨era, hra⟩ := hra
    subst era
    exact hret _ _ _ _ dX5_count_99 (by first | (refine (Or.inl ⟨?_, ?_, ?_⟩) <;> first | omega | assumption | rfl | (rw [hra, ans1]; done) | (rw [hra, ans2]; done) | (rw [hra, ans4]; done) | (rw [hra, ans5]; done) | (rw [hra, ans_n (by omega)]; done)) | (refine (Or.inr (Or.inl ⟨?_, ?_, ?_⟩)) <;> first | omega | assumption | rfl | (rw [hra, ans1]; done) | (rw [hra, ans2]; done) | (rw [hra, ans4]; done) | (rw [hra, ans5]; done) | (rw [hra, ans_n (by omega)]; done)) | (refine (Or.inr (Or.inr (Or.inl ⟨?_, ?_, ?_⟩))) <;> first | omega | assumption | rfl | (rw [hra, ans1]; done) | (rw [hra, ans2]; done) | (rw [hra, ans4]; done) | (rw [hra, ans5]; done) | (rw [hra, ans_n (by omega)]; done)) | (refine (Or.inr (Or.inr (Or.inr (Or.inl ⟨?_, ?_, ?_⟩)))) <;> first | omega | assumption | rfl | (rw [hra, ans1]; done) | (rw [hra, ans2]; done) | (rw [hra, ans4]; done) | (rw [hra, ans5]; done) | (rw [hra, ans_n (by omega)]; done)) | (refine (Or.inr (Or.inr (Or.inr (Or.inr (Or.inl ⟨?_, ?_, ?_⟩))))) <;> first | omega | assumption | rfl | (rw [hra, ans1]; done) | (rw [hra, ans2]; done) | (rw [hra, ans4]; done) | (rw [hra, ans5]; done) | (rw [hra, ans_n (by omega)]; done)) | (refine (Or.inr (Or.inr (Or.inr (Or.inr (Or.inr (Or.inl ⟨?_, ?_, ?_⟩)))))) <;> first | omega | assumption | rfl | (rw [hra, ans1]; done) | (rw [hra, ans2]; done) | (rw [hra, ans4]; done) | (rw [hra, ans5]; done) | (rw [hra, ans_n (by omega)]; done)) | (refine (Or.inr (Or.inr (Or.inr (Or.inr (Or.inr (Or.inr ⟨?_, ?_, ?_⟩)))))) <;> first | omega | assumption | rfl | (rw [hra, ans1]; done) | (rw [hra, ans2]; done) | (rw [hra, ans4]; done) | (rw [hra, ans5]; done) | (rw [hra, ans_n (by omega)]; done)))
  · skip
    refine r_tIn (off := 99) (tgt := 100) C dX5_count_1 (by omega) (by decide) (by decide) rfl (by decide) ?_
    refine r_aload_n C dX5_count_100 0 rfl ?_
    refine r_aload_n C dX5_count_101 0 rfl ?_
    refine gX5_12 C dX5_count_102 ?_
    refine r_callP0 1 C dX5_count_105 lkX5_186 (m_X2_laidVoices (by omega)) ⟨rfl, rfl, Nat.le_of_ble_eq_true rfl, Nat.le_of_ble_eq_true rfl⟩ ⟨Nat.zero_le _, Nat.zero_le _⟩ rc1 (Nat.le_of_ble_eq_true rfl) (fun r12 hr12 => ?_)
    refine r_callI1 0 C dX5_count_108 lkX5_66 (m_X5_answer (by omega) hF) ⟨rfl, rfl, Nat.le_of_ble_eq_true rfl, Nat.le_of_ble_eq_true rfl⟩ ⟨Nat.zero_le _, Nat.zero_le _⟩ rc0 (Nat.le_of_ble_eq_true rfl) (fun ra s9 hra => ?_)
    obtain ⟨era, hra⟩ := hra
    subst era
    exact hret _ _ _ _ dX5_count_111 (by first | (refine (Or.inl ⟨?_, ?_, ?_⟩) <;> first | omega | assumption | rfl | (rw [hra, ans1]; done) | (rw [hra, ans2]; done) | (rw [hra, ans4]; done) | (rw [hra, ans5]; done) | (rw [hra, ans_n (by omega)]; done)) | (refine (Or.inr (Or.inl ⟨?_, ?_, ?_⟩)) <;> first | omega | assumption | rfl | (rw [hra, ans1]; done) | (rw [hra, ans2]; done) | (rw [hra, ans4]; done) | (rw [hra, ans5]; done) | (rw [hra, ans_n (by omega)]; done)) | (refine (Or.inr (Or.inr (Or.inl ⟨?_, ?_, ?_⟩))) <;> first | omega | assumption | rfl | (rw [hra, ans1]; done) | (rw [hra, ans2]; done) | (rw [hra, ans4]; done) | (rw [hra, ans5]; done) | (rw [hra, ans_n (by omega)]; done)) | (refine (Or.inr (Or.inr (Or.inr (Or.inl ⟨?_, ?_, ?_⟩)))) <;> first | omega | assumption | rfl | (rw [hra, ans1]; done) | (rw [hra, ans2]; done) | (rw [hra, ans4]; done) | (rw [hra, ans5]; done) | (rw [hra, ans_n (by omega)]; done)) | (refine (Or.inr (Or.inr (Or.inr (Or.inr (Or.inl ⟨?_, ?_, ?_⟩))))) <;> first | omega | assumption | rfl | (rw [hra, ans1]; done) | (rw [hra, ans2]; done) | (rw [hra, ans4]; done) | (rw [hra, ans5]; done) | (rw [hra, ans_n (by omega)]; done)) | (refine (Or.inr (Or.inr (Or.inr (Or.inr (Or.inr (Or.inl ⟨?_, ?_, ?_⟩)))))) <;> first | omega | assumption | rfl | (rw [hra, ans1]; done) | (rw [hra, ans2]; done) | (rw [hra, ans4]; done) | (rw [hra, ans5]; done) | (rw [hra, ans_n (by omega)]; done)) | (refine (Or.inr (Or.inr (Or.inr (Or.inr (Or.inr (Or.inr ⟨?_, ?_, ?_⟩)))))) <;> first | omega | assumption | rfl | (rw [hra, ans1]; done) | (rw [hra, ans2]; done) | (rw [hra, ans4]; done) | (rw [hra, ans5]; done) | (rw [hra, ans_n (by omega)]; done)))
  · skip
    refine r_tOut (tgt := 112) C dX5_count_1 (by omega) (by omega) (by decide) ?_
    refine r_aload_n C dX5_count_112 0 rfl ?_
    refine r_ldc (-1000001) C dX5_count_113 tw168 (by decide +kernel) ?_
    refine r_callI1 0 C dX5_count_115 lkX5_66 (m_X5_answer (by omega) hF) ⟨rfl, rfl, Nat.le_of_ble_eq_true rfl, Nat.le_of_ble_eq_true rfl⟩ ⟨Nat.zero_le _, Nat.zero_le _⟩ rc0 (Nat.le_of_ble_eq_true rfl) (fun ra s9 hra => ?_)
    obtain ⟨era, hra⟩ := hra
    subst era
    exact hret _ _ _ _ dX5_count_118 (by first | (refine (Or.inl ⟨?_, ?_, ?_⟩) <;> first | omega | assumption | rfl | (rw [hra, ans1]; done) | (rw [hra, ans2]; done) | (rw [hra, ans4]; done) | (rw [hra, ans5]; done) | (rw [hra, ans_n (by omega)]; done)) | (refine (Or.inr (Or.inl ⟨?_, ?_, ?_⟩)) <;> first | omega | assumption | rfl | (rw [hra, ans1]; done) | (rw [hra, ans2]; done) | (rw [hra, ans4]; done) | (rw [hra, ans5]; done) | (rw [hra, ans_n (by omega)]; done)) | (refine (Or.inr (Or.inr (Or.inl ⟨?_, ?_, ?_⟩))) <;> first | omega | assumption | rfl | (rw [hra, ans1]; done) | (rw [hra, ans2]; done) | (rw [hra, ans4]; done) | (rw [hra, ans5]; done) | (rw [hra, ans_n (by omega)]; done)) | (refine (Or.inr (Or.inr (Or.inr (Or.inl ⟨?_, ?_, ?_⟩)))) <;> first | omega | assumption | rfl | (rw [hra, ans1]; done) | (rw [hra, ans2]; done) | (rw [hra, ans4]; done) | (rw [hra, ans5]; done) | (rw [hra, ans_n (by omega)]; done)) | (refine (Or.inr (Or.inr (Or.inr (Or.inr (Or.inl ⟨?_, ?_, ?_⟩))))) <;> first | omega | assumption | rfl | (rw [hra, ans1]; done) | (rw [hra, ans2]; done) | (rw [hra, ans4]; done) | (rw [hra, ans5]; done) | (rw [hra, ans_n (by omega)]; done)) | (refine (Or.inr (Or.inr (Or.inr (Or.inr (Or.inr (Or.inl ⟨?_, ?_, ?_⟩)))))) <;> first | omega | assumption | rfl | (rw [hra, ans1]; done) | (rw [hra, ans2]; done) | (rw [hra, ans4]; done) | (rw [hra, ans5]; done) | (rw [hra, ans_n (by omega)]; done)) | (refine (Or.inr (Or.inr (Or.inr (Or.inr (Or.inr (Or.inr ⟨?_, ?_, ?_⟩)))))) <;> first | omega | assumption | rfl | (rw [hra, ans1]; done) | (rw [hra, ans2]; done) | (rw [hra, ans4]; done) | (rw [hra, ans5]; done) | (rw [hra, ans_n (by omega)]; done)))
