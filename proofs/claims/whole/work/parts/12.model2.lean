set_option maxHeartbeats 4000000 in
set_option maxRecDepth 100000 in
theorem m_X6_bar {a : Nat → Nat} {n : Nat} {σ : ST} (hM : MS σ) {x : Int} (hx : inR x) : MI yX6_bar cX6_bar 2 .int (RM 1 22) a n σ [.ref (a 18), iv x] (fun r σ1 => ((1 ≤ x ∧ x ≤ 60) ∧ σ 18 0 < 40 ∧ r = σ 18 0 ∧ σ1 = up2 (up2 (up2 σ 19 (σ 18 0) x) 20 (σ 18 0) 0) 18 0 (σ 18 0 + 1)) ∨ ((1 ≤ x ∧ x ≤ 60) ∧ σ 18 0 = 40 ∧ r = -1000004 ∧ σ1 = fd σ 27 4) ∨ (¬ (1 ≤ x ∧ x ≤ 60) ∧ r = -1000001 ∧ σ1 = fd σ 27 1)) := by
  refine MI.of (own := RX6) (by decide +kernel) rfl (Nat.le_of_ble_eq_true rfl) ?_
  intro κ C hret
  show J κ 0 0 a n σ [(0, .ref (a 18)), (1, iv x)] 0 []
  obtain ⟨hb, hvn, hwt, hky, hdu, hwd, hli, hne, hse, hmk, hkd, hsh, hos, hpl, hld, hF, hlp, hpo⟩ := id hM
  refine r_iload_n C dX6_bar_0 1 rfl ?_
  refine r_iconst C dX6_bar_1 ?_
  refine r_bipush C dX6_bar_2 (by decide) ?_
  refine r_callSB3 C dX6_bar_4 lkX6_85 (m_X6_in (by omega) (by omega) (by omega)) ⟨rfl, rfl, Nat.le_of_ble_eq_true rfl, Nat.le_of_ble_eq_true rfl⟩ ⟨Nat.zero_le _, Nat.zero_le _⟩ (Nat.le_of_ble_eq_true rfl) (fun h1 => ?_) (fun h1 => ?_)
  · skip
    refine r_if_ne (tgt := 16) C dX6_bar_7 (by decide) (by decide) (fun _ => ?_) (fun q => absurd q (by decide))
    refine r_aload_n C dX6_bar_16 0 rfl ?_
    refine gX6_82 C dX6_bar_17 (fun g3 => ?_)
    refine r_bipush C dX6_bar_20 (by decide) ?_
    refine r_icmp_ne (tgt := 31) C dX6_bar_22 (by decide) (by omega) (by omega) (fun h4 => ?_) (fun h4 => ?_)
    · skip
      refine r_aload_n C dX6_bar_31 0 rfl ?_
      refine gX6_22 C dX6_bar_32 ?_
      refine r_aload_n C dX6_bar_35 0 rfl ?_
      refine gX6_82 C dX6_bar_36 (fun g6 => ?_)
      refine r_iload_n C dX6_bar_39 1 rfl ?_
      refine r_iast 40 C dX6_bar_40 (by omega) (fun _ _ => rfl) (by omega) (by omega) (by decide) (by omega) ?_
      refine r_aload_n C dX6_bar_41 0 rfl ?_
      refine gX6_26 C dX6_bar_42 ?_
      refine r_aload_n C dX6_bar_45 0 rfl ?_
      refine gX6_82 C dX6_bar_46 (fun g8 => ?_)
      rw [up2_ne (show (18 : Nat) ≠ 19 from by decide)] at g8 ⊢
      refine r_iconst C dX6_bar_49 ?_
      refine r_iast 40 C dX6_bar_50 (by omega) (fun _ _ => rfl) (by omega) (by omega) (by decide) (by omega) ?_
      refine r_aload_n C dX6_bar_51 0 rfl ?_
      refine r_dup C dX6_bar_52 rfl ?_
      refine gX6_82 C dX6_bar_53 (fun g9 => ?_)
      rw [up2_ne (show (18 : Nat) ≠ 20 from by decide)] at g9 ⊢
      rw [up2_ne (show (18 : Nat) ≠ 19 from by decide)] at g9 ⊢
      refine r_iconst C dX6_bar_56 ?_
      refine r_iadd C dX6_bar_57 ?_
      refine pX6_82 C dX6_bar_58 (by omega) ?_
      refine r_aload_n C dX6_bar_61 0 rfl ?_
      refine gX6_82 C dX6_bar_62 (fun g10 => ?_)
      rw [up2_self] at g10 ⊢
      refine r_iconst C dX6_bar_65 ?_
      refine r_isub C dX6_bar_66 ?_
      exact hret _ _ _ _ dX6_bar_67 (by first | (refine (Or.inl ⟨?_, ?_, ?_, ?_⟩) <;> first | omega | assumption | rfl) | (refine (Or.inr (Or.inl ⟨?_, ?_, ?_, ?_⟩)) <;> first | omega | assumption | rfl) | (refine (Or.inr (Or.inr ⟨?_, ?_, ?_⟩)) <;> first | omega | assumption | rfl))
    · skip
      refine r_aload_n C dX6_bar_25 0 rfl ?_
      refine r_iconst C dX6_bar_26 ?_
      refine r_callI1 18 C dX6_bar_27 lkX6_92 (m_X6_finds (by omega) (MS.F (by assumption) _)) ⟨rfl, rfl, Nat.le_of_ble_eq_true rfl, Nat.le_of_ble_eq_true rfl⟩ ⟨Nat.zero_le _, Nat.zero_le _⟩ rc18 (Nat.le_of_ble_eq_true rfl) (fun r11 s12 hr11 => ?_)
      obtain ⟨er11, hr11⟩ := hr11
      exact hret _ _ _ _ dX6_bar_30 (by first | (refine (Or.inl ⟨?_, ?_, ?_, ?_⟩) <;> first | omega | assumption | rfl) | (refine (Or.inr (Or.inl ⟨?_, ?_, ?_, ?_⟩)) <;> first | omega | assumption | rfl) | (refine (Or.inr (Or.inr ⟨?_, ?_, ?_⟩)) <;> first | omega | assumption | rfl))
  · skip
    refine r_if_ne (tgt := 16) C dX6_bar_7 (by decide) (by decide) (fun q => absurd q (by decide)) (fun _ => ?_)
    refine r_aload_n C dX6_bar_10 0 rfl ?_
    refine r_iconst C dX6_bar_11 ?_
    refine r_callI1 18 C dX6_bar_12 lkX6_92 (m_X6_finds (by omega) (MS.F (by assumption) _)) ⟨rfl, rfl, Nat.le_of_ble_eq_true rfl, Nat.le_of_ble_eq_true rfl⟩ ⟨Nat.zero_le _, Nat.zero_le _⟩ rc18 (Nat.le_of_ble_eq_true rfl) (fun r14 s15 hr14 => ?_)
    obtain ⟨er14, hr14⟩ := hr14
    exact hret _ _ _ _ dX6_bar_15 (by first | (refine (Or.inl ⟨?_, ?_, ?_, ?_⟩) <;> first | omega | assumption | rfl) | (refine (Or.inr (Or.inl ⟨?_, ?_, ?_, ?_⟩)) <;> first | omega | assumption | rfl) | (refine (Or.inr (Or.inr ⟨?_, ?_, ?_⟩)) <;> first | omega | assumption | rfl))

set_option maxHeartbeats 4000000 in
set_option maxRecDepth 100000 in
theorem m_X6_voice {a : Nat → Nat} {n : Nat} {σ : ST} (hM : MS σ) {k s : Int} (hk : inR k) (hs : inR s) : MI yX6_voice cX6_voice 3 .int (RM 1 22) a n σ [.ref (a 18), iv k, iv s] (fun r σ1 => (((k = 2 ∧ -11 ≤ s ∧ s ≤ 11) ∨ ((k = 0 ∨ k = 1) ∧ s = 0)) ∧ σ 18 1 < 6 ∧ r = σ 18 1 ∧ σ1 = up2 (up2 (up2 (up2 σ 21 (σ 18 1) k) 22 (σ 18 1) s) 23 (σ 18 1) 1) 18 1 (σ 18 1 + 1)) ∨ (((k = 2 ∧ -11 ≤ s ∧ s ≤ 11) ∨ ((k = 0 ∨ k = 1) ∧ s = 0)) ∧ σ 18 1 = 6 ∧ r = -1000004 ∧ σ1 = fd σ 27 4) ∨ (¬ ((k = 2 ∧ -11 ≤ s ∧ s ≤ 11) ∨ ((k = 0 ∨ k = 1) ∧ s = 0)) ∧ r = -1000001 ∧ σ1 = fd σ 27 1)) := by
  refine MI.of (own := RX6) (by decide +kernel) rfl (Nat.le_of_ble_eq_true rfl) ?_
  intro κ C hret
  show J κ 0 0 a n σ [(0, .ref (a 18)), (1, iv k), (2, iv s)] 0 []
  obtain ⟨hb, hvn, hwt, hky, hdu, hwd, hli, hne, hse, hmk, hkd, hsh, hos, hpl, hld, hF, hlp, hpo⟩ := id hM
  refine r_iload_n C dX6_voice_0 1 rfl ?_
  refine r_iconst C dX6_voice_1 ?_
  refine r_iconst C dX6_voice_2 ?_
  refine r_callSB3 C dX6_voice_3 lkX6_85 (m_X6_in (by omega) (by omega) (by omega)) ⟨rfl, rfl, Nat.le_of_ble_eq_true rfl, Nat.le_of_ble_eq_true rfl⟩ ⟨Nat.zero_le _, Nat.zero_le _⟩ (Nat.le_of_ble_eq_true rfl) (fun h1 => ?_) (fun h1 => ?_)
  · skip
    refine r_if_eq (tgt := 32) C dX6_voice_6 (by decide) (by decide) (fun q => absurd q (by decide)) (fun _ => ?_)
    refine r_iload_n C dX6_voice_9 1 rfl ?_
    refine r_iconst C dX6_voice_10 ?_
    refine r_icmp_ne (tgt := 28) C dX6_voice_11 (by decide) (by omega) (by omega) (fun h3 => ?_) (fun h3 => ?_)
    · skip
      refine r_iload_n C dX6_voice_28 2 rfl ?_
      refine r_if_eq (tgt := 38) C dX6_voice_29 (by decide) (by omega) (fun h4 => ?_) (fun h4 => ?_)
      · skip
        refine r_aload_n C dX6_voice_38 0 rfl ?_
        refine gX6_89 C dX6_voice_39 (fun g5 => ?_)
        refine r_bipush C dX6_voice_42 (by decide) ?_
        refine r_icmp_ne (tgt := 53) C dX6_voice_44 (by decide) (by omega) (by omega) (fun h6 => ?_) (fun h6 => ?_)
        · skip
          refine r_aload_n C dX6_voice_53 0 rfl ?_
          refine gX6_29 C dX6_voice_54 ?_
          refine r_aload_n C dX6_voice_57 0 rfl ?_
          refine gX6_89 C dX6_voice_58 (fun g8 => ?_)
          refine r_iload_n C dX6_voice_61 1 rfl ?_
          refine r_iast 6 C dX6_voice_62 (by omega) (fun _ _ => rfl) (by omega) (by omega) (by decide) (by omega) ?_
          refine r_aload_n C dX6_voice_63 0 rfl ?_
          refine gX6_32 C dX6_voice_64 ?_
          refine r_aload_n C dX6_voice_67 0 rfl ?_
          refine gX6_89 C dX6_voice_68 (fun g10 => ?_)
          rw [up2_ne (show (18 : Nat) ≠ 21 from by decide)] at g10 ⊢
          refine r_iload_n C dX6_voice_71 2 rfl ?_
          refine r_iast 6 C dX6_voice_72 (by omega) (fun _ _ => rfl) (by omega) (by omega) (by decide) (by omega) ?_
          refine r_aload_n C dX6_voice_73 0 rfl ?_
          refine gX6_35 C dX6_voice_74 ?_
          refine r_aload_n C dX6_voice_77 0 rfl ?_
          refine gX6_89 C dX6_voice_78 (fun g12 => ?_)
          rw [up2_ne (show (18 : Nat) ≠ 22 from by decide)] at g12 ⊢
          rw [up2_ne (show (18 : Nat) ≠ 21 from by decide)] at g12 ⊢
          refine r_iconst C dX6_voice_81 ?_
          refine r_iast 6 C dX6_voice_82 (by omega) (fun _ _ => rfl) (by omega) (by omega) (by decide) (by omega) ?_
          refine r_aload_n C dX6_voice_83 0 rfl ?_
          refine r_dup C dX6_voice_84 rfl ?_
          refine gX6_89 C dX6_voice_85 (fun g13 => ?_)
          rw [up2_ne (show (18 : Nat) ≠ 23 from by decide)] at g13 ⊢
          rw [up2_ne (show (18 : Nat) ≠ 22 from by decide)] at g13 ⊢
          rw [up2_ne (show (18 : Nat) ≠ 21 from by decide)] at g13 ⊢
          refine r_iconst C dX6_voice_88 ?_
          refine r_iadd C dX6_voice_89 ?_
          refine pX6_89 C dX6_voice_90 (by omega) ?_
          refine r_aload_n C dX6_voice_93 0 rfl ?_
          refine gX6_89 C dX6_voice_94 (fun g14 => ?_)
          rw [up2_self] at g14 ⊢
          refine r_iconst C dX6_voice_97 ?_
          refine r_isub C dX6_voice_98 ?_
          exact hret _ _ _ _ dX6_voice_99 (by first | (refine (Or.inl ⟨?_, ?_, ?_, ?_⟩) <;> first | omega | assumption | rfl) | (refine (Or.inr (Or.inl ⟨?_, ?_, ?_, ?_⟩)) <;> first | omega | assumption | rfl) | (refine (Or.inr (Or.inr ⟨?_, ?_, ?_⟩)) <;> first | omega | assumption | rfl))
        · skip
          refine r_aload_n C dX6_voice_47 0 rfl ?_
          refine r_iconst C dX6_voice_48 ?_
          refine r_callI1 18 C dX6_voice_49 lkX6_92 (m_X6_finds (by omega) (MS.F (by assumption) _)) ⟨rfl, rfl, Nat.le_of_ble_eq_true rfl, Nat.le_of_ble_eq_true rfl⟩ ⟨Nat.zero_le _, Nat.zero_le _⟩ rc18 (Nat.le_of_ble_eq_true rfl) (fun r15 s16 hr15 => ?_)
          obtain ⟨er15, hr15⟩ := hr15
          exact hret _ _ _ _ dX6_voice_52 (by first | (refine (Or.inl ⟨?_, ?_, ?_, ?_⟩) <;> first | omega | assumption | rfl) | (refine (Or.inr (Or.inl ⟨?_, ?_, ?_, ?_⟩)) <;> first | omega | assumption | rfl) | (refine (Or.inr (Or.inr ⟨?_, ?_, ?_⟩)) <;> first | omega | assumption | rfl))
      · skip
        refine r_aload_n C dX6_voice_32 0 rfl ?_
        refine r_iconst C dX6_voice_33 ?_
        refine r_callI1 18 C dX6_voice_34 lkX6_92 (m_X6_finds (by omega) (MS.F (by assumption) _)) ⟨rfl, rfl, Nat.le_of_ble_eq_true rfl, Nat.le_of_ble_eq_true rfl⟩ ⟨Nat.zero_le _, Nat.zero_le _⟩ rc18 (Nat.le_of_ble_eq_true rfl) (fun r17 s18 hr17 => ?_)
        obtain ⟨er17, hr17⟩ := hr17
        exact hret _ _ _ _ dX6_voice_37 (by first | (refine (Or.inl ⟨?_, ?_, ?_, ?_⟩) <;> first | omega | assumption | rfl) | (refine (Or.inr (Or.inl ⟨?_, ?_, ?_, ?_⟩)) <;> first | omega | assumption | rfl) | (refine (Or.inr (Or.inr ⟨?_, ?_, ?_⟩)) <;> first | omega | assumption | rfl))
    · skip
      refine r_iload_n C dX6_voice_14 2 rfl ?_
      refine r_bipush C dX6_voice_15 (by decide) ?_
      refine r_bipush C dX6_voice_17 (by decide) ?_
      refine r_callSB3 C dX6_voice_19 lkX6_85 (m_X6_in (by omega) (by omega) (by omega)) ⟨rfl, rfl, Nat.le_of_ble_eq_true rfl, Nat.le_of_ble_eq_true rfl⟩ ⟨Nat.zero_le _, Nat.zero_le _⟩ (Nat.le_of_ble_eq_true rfl) (fun h19 => ?_) (fun h19 => ?_)
      · skip
        refine r_if_ne (tgt := 38) C dX6_voice_22 (by decide) (by decide) (fun _ => ?_) (fun q => absurd q (by decide))
        refine r_aload_n C dX6_voice_38 0 rfl ?_
        refine gX6_89 C dX6_voice_39 (fun g21 => ?_)
        refine r_bipush C dX6_voice_42 (by decide) ?_
        refine r_icmp_ne (tgt := 53) C dX6_voice_44 (by decide) (by omega) (by omega) (fun h22 => ?_) (fun h22 => ?_)
        · skip
          refine r_aload_n C dX6_voice_53 0 rfl ?_
          refine gX6_29 C dX6_voice_54 ?_
          refine r_aload_n C dX6_voice_57 0 rfl ?_
          refine gX6_89 C dX6_voice_58 (fun g24 => ?_)
          refine r_iload_n C dX6_voice_61 1 rfl ?_
          refine r_iast 6 C dX6_voice_62 (by omega) (fun _ _ => rfl) (by omega) (by omega) (by decide) (by omega) ?_
          refine r_aload_n C dX6_voice_63 0 rfl ?_
          refine gX6_32 C dX6_voice_64 ?_
          refine r_aload_n C dX6_voice_67 0 rfl ?_
          refine gX6_89 C dX6_voice_68 (fun g26 => ?_)
          rw [up2_ne (show (18 : Nat) ≠ 21 from by decide)] at g26 ⊢
          refine r_iload_n C dX6_voice_71 2 rfl ?_
          refine r_iast 6 C dX6_voice_72 (by omega) (fun _ _ => rfl) (by omega) (by omega) (by decide) (by omega) ?_
          refine r_aload_n C dX6_voice_73 0 rfl ?_
          refine gX6_35 C dX6_voice_74 ?_
          refine r_aload_n C dX6_voice_77 0 rfl ?_
          refine gX6_89 C dX6_voice_78 (fun g28 => ?_)
          rw [up2_ne (show (18 : Nat) ≠ 22 from by decide)] at g28 ⊢
          rw [up2_ne (show (18 : Nat) ≠ 21 from by decide)] at g28 ⊢
          refine r_iconst C dX6_voice_81 ?_
          refine r_iast 6 C dX6_voice_82 (by omega) (fun _ _ => rfl) (by omega) (by omega) (by decide) (by omega) ?_
          refine r_aload_n C dX6_voice_83 0 rfl ?_
          refine r_dup C dX6_voice_84 rfl ?_
          refine gX6_89 C dX6_voice_85 (fun g29 => ?_)
          rw [up2_ne (show (18 : Nat) ≠ 23 from by decide)] at g29 ⊢
          rw [up2_ne (show (18 : Nat) ≠ 22 from by decide)] at g29 ⊢
          rw [up2_ne (show (18 : Nat) ≠ 21 from by decide)] at g29 ⊢
          refine r_iconst C dX6_voice_88 ?_
          refine r_iadd C dX6_voice_89 ?_
          refine pX6_89 C dX6_voice_90 (by omega) ?_
          refine r_aload_n C dX6_voice_93 0 rfl ?_
          refine gX6_89 C dX6_voice_94 (fun g30 => ?_)
          rw [up2_self] at g30 ⊢
          refine r_iconst C dX6_voice_97 ?_
          refine r_isub C dX6_voice_98 ?_
          exact hret _ _ _ _ dX6_voice_99 (by first | (refine (Or.inl ⟨?_, ?_, ?_, ?_⟩) <;> first | omega | assumption | rfl) | (refine (Or.inr (Or.inl ⟨?_, ?_, ?_, ?_⟩)) <;> first | omega | assumption | rfl) | (refine (Or.inr (Or.inr ⟨?_, ?_, ?_⟩)) <;> first | omega | assumption | rfl))
        · skip
          refine r_aload_n C dX6_voice_47 0 rfl ?_
          refine r_iconst C dX6_voice_48 ?_
          refine r_callI1 18 C dX6_voice_49 lkX6_92 (m_X6_finds (by omega) (MS.F (by assumption) _)) ⟨rfl, rfl, Nat.le_of_ble_eq_true rfl, Nat.le_of_ble_eq_true rfl⟩ ⟨Nat.zero_le _, Nat.zero_le _⟩ rc18 (Nat.le_of_ble_eq_true rfl) (fun r31 s32 hr31 => ?_)
          obtain ⟨er31, hr31⟩ := hr31
          exact hret _ _ _ _ dX6_voice_52 (by first | (refine (Or.inl ⟨?_, ?_, ?_, ?_⟩) <;> first | omega | assumption | rfl) | (refine (Or.inr (Or.inl ⟨?_, ?_, ?_, ?_⟩)) <;> first | omega | assumption | rfl) | (refine (Or.inr (Or.inr ⟨?_, ?_, ?_⟩)) <;> first | omega | assumption | rfl))
      · skip
        refine r_if_ne (tgt := 38) C dX6_voice_22 (by decide) (by decide) (fun q => absurd q (by decide)) (fun _ => ?_)
        refine r_goto (tgt := 32) C dX6_voice_25 (by decide) ?_
        refine r_aload_n C dX6_voice_32 0 rfl ?_
        refine r_iconst C dX6_voice_33 ?_
        refine r_callI1 18 C dX6_voice_34 lkX6_92 (m_X6_finds (by omega) (MS.F (by assumption) _)) ⟨rfl, rfl, Nat.le_of_ble_eq_true rfl, Nat.le_of_ble_eq_true rfl⟩ ⟨Nat.zero_le _, Nat.zero_le _⟩ rc18 (Nat.le_of_ble_eq_true rfl) (fun r34 s35 hr34 => ?_)
        obtain ⟨er34, hr34⟩ := hr34
        exact hret _ _ _ _ dX6_voice_37 (by first | (refine (Or.inl ⟨?_, ?_, ?_, ?_⟩) <;> first | omega | assumption | rfl) | (refine (Or.inr (Or.inl ⟨?_, ?_, ?_, ?_⟩)) <;> first | omega | assumption | rfl) | (refine (Or.inr (Or.inr ⟨?_, ?_, ?_⟩)) <;> first | omega | assumption | rfl))
  · skip
    refine r_if_eq (tgt := 32) C dX6_voice_6 (by decide) (by decide) (fun _ => ?_) (fun q => absurd q (by decide))
    refine r_aload_n C dX6_voice_32 0 rfl ?_
    refine r_iconst C dX6_voice_33 ?_
    refine r_callI1 18 C dX6_voice_34 lkX6_92 (m_X6_finds (by omega) (MS.F (by assumption) _)) ⟨rfl, rfl, Nat.le_of_ble_eq_true rfl, Nat.le_of_ble_eq_true rfl⟩ ⟨Nat.zero_le _, Nat.zero_le _⟩ rc18 (Nat.le_of_ble_eq_true rfl) (fun r37 s38 hr37 => ?_)
    obtain ⟨er37, hr37⟩ := hr37
    exact hret _ _ _ _ dX6_voice_37 (by first | (refine (Or.inl ⟨?_, ?_, ?_, ?_⟩) <;> first | omega | assumption | rfl) | (refine (Or.inr (Or.inl ⟨?_, ?_, ?_, ?_⟩)) <;> first | omega | assumption | rfl) | (refine (Or.inr (Or.inr ⟨?_, ?_, ?_⟩)) <;> first | omega | assumption | rfl))

set_option maxHeartbeats 4000000 in
set_option maxRecDepth 100000 in
theorem m_X6_as {a : Nat → Nat} {n : Nat} {σ : ST} (hM : MS σ) {v k : Int} (hk : inR k) (hv : inR v) : MI yX6_as cX6_as 3 .int (RM 2 43) a n σ [.ref (a 18), iv v, iv k] (fun r σ1 => ((0 ≤ v ∧ v < σ 18 1) ∧ (0 ≤ k ∧ k ≤ 2) ∧ (k = 0 ∨ σ 21 v = k) ∧ r = σ 22 v ∧ σ1 = σ) ∨ ((0 ≤ v ∧ v < σ 18 1) ∧ (0 ≤ k ∧ k ≤ 2) ∧ ¬ (k = 0 ∨ σ 21 v = k) ∧ r = -1000005 ∧ σ1 = fd σ 27 5) ∨ (¬ ((0 ≤ v ∧ v < σ 18 1) ∧ (0 ≤ k ∧ k ≤ 2)) ∧ r = -1000001 ∧ σ1 = fd σ 27 1)) := by
  refine MI.of (own := RX6) (by decide +kernel) rfl (Nat.le_of_ble_eq_true rfl) ?_
  intro κ C hret
  show J κ 0 0 a n σ [(0, .ref (a 18)), (1, iv v), (2, iv k)] 0 []
  obtain ⟨hb, hvn, hwt, hky, hdu, hwd, hli, hne, hse, hmk, hkd, hsh, hos, hpl, hld, hF, hlp, hpo⟩ := id hM
  refine r_aload_n C dX6_as_0 0 rfl ?_
  refine r_iload_n C dX6_as_1 1 rfl ?_
  refine r_callB1 18 C dX6_as_2 lkX6_96 (m_X6_isVoice (by omega) (by omega)) ⟨rfl, rfl, Nat.le_of_ble_eq_true rfl, Nat.le_of_ble_eq_true rfl⟩ ⟨Nat.zero_le _, Nat.zero_le _⟩ rc18 (Nat.le_of_ble_eq_true rfl) (fun h1 => ?_) (fun h1 => ?_)
  · skip
    refine r_if_eq (tgt := 17) C dX6_as_5 (by decide) (by decide) (fun q => absurd q (by decide)) (fun _ => ?_)
    refine r_iload_n C dX6_as_8 2 rfl ?_
    refine r_iconst C dX6_as_9 ?_
    refine r_iconst C dX6_as_10 ?_
    refine r_callSB3 C dX6_as_11 lkX6_85 (m_X6_in (by omega) (by omega) (by omega)) ⟨rfl, rfl, Nat.le_of_ble_eq_true rfl, Nat.le_of_ble_eq_true rfl⟩ ⟨Nat.zero_le _, Nat.zero_le _⟩ (Nat.le_of_ble_eq_true rfl) (fun h3 => ?_) (fun h3 => ?_)
    · skip
      refine r_if_ne (tgt := 23) C dX6_as_14 (by decide) (by decide) (fun _ => ?_) (fun q => absurd q (by decide))
      refine r_iload_n C dX6_as_23 2 rfl ?_
      refine r_if_eq (tgt := 37) C dX6_as_24 (by decide) (by omega) (fun h5 => ?_) (fun h5 => ?_)
      · skip
        refine r_aload_n C dX6_as_37 0 rfl ?_
        refine gX6_32 C dX6_as_38 ?_
        refine r_iload_n C dX6_as_41 1 rfl ?_
        refine r_iald 6 C dX6_as_42 (by omega) (fun _ => rfl) (by omega) (by omega) (by decide) (fun g7 => ?_)
        refine r_goto (tgt := 51) C dX6_as_43 (by decide) ?_
        exact hret _ _ _ _ dX6_as_51 (by first | (refine (Or.inl ⟨?_, ?_, ?_, ?_, ?_⟩) <;> first | omega | assumption | rfl) | (refine (Or.inr (Or.inl ⟨?_, ?_, ?_, ?_, ?_⟩)) <;> first | omega | assumption | rfl) | (refine (Or.inr (Or.inr ⟨?_, ?_, ?_⟩)) <;> first | omega | assumption | rfl))
      · skip
        refine r_aload_n C dX6_as_27 0 rfl ?_
        refine gX6_29 C dX6_as_28 ?_
        refine r_iload_n C dX6_as_31 1 rfl ?_
        refine r_iald 6 C dX6_as_32 (by omega) (fun _ => rfl) (by omega) (by omega) (by decide) (fun g9 => ?_)
        refine r_iload_n C dX6_as_33 2 rfl ?_
        refine r_icmp_ne (tgt := 46) C dX6_as_34 (by decide) (by omega) (by omega) (fun h10 => ?_) (fun h10 => ?_)
        · skip
          refine r_aload_n C dX6_as_46 0 rfl ?_
          refine r_iconst C dX6_as_47 ?_
          refine r_callI1 18 C dX6_as_48 lkX6_92 (m_X6_finds (by omega) (MS.F (by assumption) _)) ⟨rfl, rfl, Nat.le_of_ble_eq_true rfl, Nat.le_of_ble_eq_true rfl⟩ ⟨Nat.zero_le _, Nat.zero_le _⟩ rc18 (Nat.le_of_ble_eq_true rfl) (fun r11 s12 hr11 => ?_)
          obtain ⟨er11, hr11⟩ := hr11
          exact hret _ _ _ _ dX6_as_51 (by first | (refine (Or.inl ⟨?_, ?_, ?_, ?_, ?_⟩) <;> first | omega | assumption | rfl) | (refine (Or.inr (Or.inl ⟨?_, ?_, ?_, ?_, ?_⟩)) <;> first | omega | assumption | rfl) | (refine (Or.inr (Or.inr ⟨?_, ?_, ?_⟩)) <;> first | omega | assumption | rfl))
        · skip
          refine r_aload_n C dX6_as_37 0 rfl ?_
          refine gX6_32 C dX6_as_38 ?_
          refine r_iload_n C dX6_as_41 1 rfl ?_
          refine r_iald 6 C dX6_as_42 (by omega) (fun _ => rfl) (by omega) (by omega) (by decide) (fun g14 => ?_)
          refine r_goto (tgt := 51) C dX6_as_43 (by decide) ?_
          exact hret _ _ _ _ dX6_as_51 (by first | (refine (Or.inl ⟨?_, ?_, ?_, ?_, ?_⟩) <;> first | omega | assumption | rfl) | (refine (Or.inr (Or.inl ⟨?_, ?_, ?_, ?_, ?_⟩)) <;> first | omega | assumption | rfl) | (refine (Or.inr (Or.inr ⟨?_, ?_, ?_⟩)) <;> first | omega | assumption | rfl))
    · skip
      refine r_if_ne (tgt := 23) C dX6_as_14 (by decide) (by decide) (fun q => absurd q (by decide)) (fun _ => ?_)
      refine r_aload_n C dX6_as_17 0 rfl ?_
      refine r_iconst C dX6_as_18 ?_
      refine r_callI1 18 C dX6_as_19 lkX6_92 (m_X6_finds (by omega) (MS.F (by assumption) _)) ⟨rfl, rfl, Nat.le_of_ble_eq_true rfl, Nat.le_of_ble_eq_true rfl⟩ ⟨Nat.zero_le _, Nat.zero_le _⟩ rc18 (Nat.le_of_ble_eq_true rfl) (fun r16 s17 hr16 => ?_)
      obtain ⟨er16, hr16⟩ := hr16
      exact hret _ _ _ _ dX6_as_22 (by first | (refine (Or.inl ⟨?_, ?_, ?_, ?_, ?_⟩) <;> first | omega | assumption | rfl) | (refine (Or.inr (Or.inl ⟨?_, ?_, ?_, ?_, ?_⟩)) <;> first | omega | assumption | rfl) | (refine (Or.inr (Or.inr ⟨?_, ?_, ?_⟩)) <;> first | omega | assumption | rfl))
  · skip
    refine r_if_eq (tgt := 17) C dX6_as_5 (by decide) (by decide) (fun _ => ?_) (fun q => absurd q (by decide))
    refine r_aload_n C dX6_as_17 0 rfl ?_
    refine r_iconst C dX6_as_18 ?_
    refine r_callI1 18 C dX6_as_19 lkX6_92 (m_X6_finds (by omega) (MS.F (by assumption) _)) ⟨rfl, rfl, Nat.le_of_ble_eq_true rfl, Nat.le_of_ble_eq_true rfl⟩ ⟨Nat.zero_le _, Nat.zero_le _⟩ rc18 (Nat.le_of_ble_eq_true rfl) (fun r19 s20 hr19 => ?_)
    obtain ⟨er19, hr19⟩ := hr19
    exact hret _ _ _ _ dX6_as_22 (by first | (refine (Or.inl ⟨?_, ?_, ?_, ?_, ?_⟩) <;> first | omega | assumption | rfl) | (refine (Or.inr (Or.inl ⟨?_, ?_, ?_, ?_, ?_⟩)) <;> first | omega | assumption | rfl) | (refine (Or.inr (Or.inr ⟨?_, ?_, ?_⟩)) <;> first | omega | assumption | rfl))

set_option maxHeartbeats 4000000 in
set_option maxRecDepth 100000 in
theorem m_X6_notes {a : Nat → Nat} {n : Nat} {σ : ST} (hM : MS σ) {v b m q : Int} (hv1 : inR v) (hb1 : inR b) (hm1 : inR m) (hq1 : inR q) : MI yX6_notes cX6_notes 6 .int (RM 2 43) a n σ [.ref (a 18), iv v, iv b, iv m, iv q] (fun r σ1 => (((0 ≤ v ∧ v < σ 18 1) ∧ (0 ≤ b ∧ b < σ 18 0) ∧ (0 ≤ m ∧ m ≤ 16) ∧ 0 ≤ q ∧ q ≤ 9 ∧ (m = 0 → q = 0)) ∧ r = σ 24 (40 * v + b) ∧ σ1 = up2 (up2 σ 24 (40 * v + b) m) 25 (40 * v + b) q) ∨ (¬ ((0 ≤ v ∧ v < σ 18 1) ∧ (0 ≤ b ∧ b < σ 18 0) ∧ (0 ≤ m ∧ m ≤ 16) ∧ 0 ≤ q ∧ q ≤ 9 ∧ (m = 0 → q = 0)) ∧ r = -1000001 ∧ σ1 = fd σ 27 1)) := by
  refine MI.of (own := RX6) (by decide +kernel) rfl (Nat.le_of_ble_eq_true rfl) ?_
  intro κ C hret
  show J κ 0 0 a n σ [(0, .ref (a 18)), (1, iv v), (2, iv b), (3, iv m), (4, iv q)] 0 []
  obtain ⟨hb, hvn, hwt, hky, hdu, hwd, hli, hne, hse, hmk, hkd, hsh, hos, hpl, hld, hF, hlp, hpo⟩ := id hM
  refine r_aload_n C dX6_notes_0 0 rfl ?_
  refine r_iload_n C dX6_notes_1 1 rfl ?_
  refine r_callB1 18 C dX6_notes_2 lkX6_96 (m_X6_isVoice (by omega) (by omega)) ⟨rfl, rfl, Nat.le_of_ble_eq_true rfl, Nat.le_of_ble_eq_true rfl⟩ ⟨Nat.zero_le _, Nat.zero_le _⟩ rc18 (Nat.le_of_ble_eq_true rfl) (fun h1 => ?_) (fun h1 => ?_)
  · skip
    refine r_if_eq (tgt := 45) C dX6_notes_5 (by decide) (by decide) (fun q => absurd q (by decide)) (fun _ => ?_)
    refine r_aload_n C dX6_notes_8 0 rfl ?_
    refine r_iload_n C dX6_notes_9 2 rfl ?_
    refine r_callB1 18 C dX6_notes_10 lkX6_100 (m_X6_isBar (by omega) (by omega)) ⟨rfl, rfl, Nat.le_of_ble_eq_true rfl, Nat.le_of_ble_eq_true rfl⟩ ⟨Nat.zero_le _, Nat.zero_le _⟩ rc18 (Nat.le_of_ble_eq_true rfl) (fun h3 => ?_) (fun h3 => ?_)
    · skip
      refine r_if_eq (tgt := 45) C dX6_notes_13 (by decide) (by decide) (fun q => absurd q (by decide)) (fun _ => ?_)
      refine r_iload_n C dX6_notes_16 3 rfl ?_
      refine r_iconst C dX6_notes_17 ?_
      refine r_bipush C dX6_notes_18 (by decide) ?_
      refine r_callSB3 C dX6_notes_20 lkX6_85 (m_X6_in (by omega) (by omega) (by omega)) ⟨rfl, rfl, Nat.le_of_ble_eq_true rfl, Nat.le_of_ble_eq_true rfl⟩ ⟨Nat.zero_le _, Nat.zero_le _⟩ (Nat.le_of_ble_eq_true rfl) (fun h5 => ?_) (fun h5 => ?_)
      · skip
        refine r_if_eq (tgt := 45) C dX6_notes_23 (by decide) (by decide) (fun q => absurd q (by decide)) (fun _ => ?_)
        refine r_iload C dX6_notes_26 4 rfl ?_
        refine r_iconst C dX6_notes_28 ?_
        refine r_iload_n C dX6_notes_29 3 rfl ?_
        refine r_if_ne (tgt := 37) C dX6_notes_30 (by decide) (by omega) (fun h7 => ?_) (fun h7 => ?_)
        · skip
          refine r_bipush C dX6_notes_37 (by decide) ?_
          refine r_callSB3 C dX6_notes_39 lkX6_85 (m_X6_in (by omega) (by omega) (by omega)) ⟨rfl, rfl, Nat.le_of_ble_eq_true rfl, Nat.le_of_ble_eq_true rfl⟩ ⟨Nat.zero_le _, Nat.zero_le _⟩ (Nat.le_of_ble_eq_true rfl) (fun h8 => ?_) (fun h8 => ?_)
          · skip
            refine r_if_ne (tgt := 51) C dX6_notes_42 (by decide) (by decide) (fun _ => ?_) (fun q => absurd q (by decide))
            refine r_aload_n C dX6_notes_51 0 rfl ?_
            refine gX6_38 C dX6_notes_52 ?_
            refine r_bipush C dX6_notes_55 (by decide) ?_
            refine r_iload_n C dX6_notes_57 1 rfl ?_
            refine r_imul C dX6_notes_58 ?_
            refine r_iload_n C dX6_notes_59 2 rfl ?_
            refine r_iadd C dX6_notes_60 ?_
            refine r_iald 240 C dX6_notes_61 (by omega) (fun _ => rfl) (by omega) (by omega) (by decide) (fun g11 => ?_)
            refine r_istore C dX6_notes_62 (by decide) (fun z_ => [(5, iv z_), (0, .ref (a 18)), (1, iv v), (2, iv b), (3, iv m), (4, iv q)]) (fun _ => rfl) (fun x5_12 ex5_12 => ?_)
            refine r_aload_n C dX6_notes_64 1 rfl ?_
            refine gX6_38 C dX6_notes_65 ?_
            refine r_bipush C dX6_notes_68 (by decide) ?_
            refine r_iload_n C dX6_notes_70 2 rfl ?_
            refine r_imul C dX6_notes_71 ?_
            refine r_iload_n C dX6_notes_72 3 rfl ?_
            refine r_iadd C dX6_notes_73 ?_
            refine r_iload_n C dX6_notes_74 4 rfl ?_
            refine r_iast 240 C dX6_notes_75 (by omega) (fun _ _ => rfl) (by omega) (by omega) (by decide) (by omega) ?_
            refine r_aload_n C dX6_notes_76 1 rfl ?_
            refine gX6_41 C dX6_notes_77 ?_
            refine r_bipush C dX6_notes_80 (by decide) ?_
            refine r_iload_n C dX6_notes_82 2 rfl ?_
            refine r_imul C dX6_notes_83 ?_
            refine r_iload_n C dX6_notes_84 3 rfl ?_
            refine r_iadd C dX6_notes_85 ?_
            refine r_iload C dX6_notes_86 5 rfl ?_
            refine r_iast 240 C dX6_notes_88 (by omega) (fun _ _ => rfl) (by omega) (by omega) (by decide) (by omega) ?_
            refine r_iload C dX6_notes_89 0 rfl ?_
            exact hret _ _ _ _ dX6_notes_91 (by first | (refine (Or.inl ⟨?_, ?_, ?_⟩) <;> first | omega | assumption | rfl) | (refine (Or.inr ⟨?_, ?_, ?_⟩) <;> first | omega | assumption | rfl))
          · skip
            refine r_if_ne (tgt := 51) C dX6_notes_42 (by decide) (by decide) (fun q => absurd q (by decide)) (fun _ => ?_)
            refine r_aload_n C dX6_notes_45 0 rfl ?_
            refine r_iconst C dX6_notes_46 ?_
            refine r_callI1 18 C dX6_notes_47 lkX6_92 (m_X6_finds (by omega) (MS.F (by assumption) _)) ⟨rfl, rfl, Nat.le_of_ble_eq_true rfl, Nat.le_of_ble_eq_true rfl⟩ ⟨Nat.zero_le _, Nat.zero_le _⟩ rc18 (Nat.le_of_ble_eq_true rfl) (fun r16 s17 hr16 => ?_)
            obtain ⟨er16, hr16⟩ := hr16
            exact hret _ _ _ _ dX6_notes_50 (by first | (refine (Or.inl ⟨?_, ?_, ?_⟩) <;> first | omega | assumption | rfl) | (refine (Or.inr ⟨?_, ?_, ?_⟩) <;> first | omega | assumption | rfl))
        · skip
          refine r_iconst C dX6_notes_33 ?_
          refine r_goto (tgt := 39) C dX6_notes_34 (by decide) ?_
          refine r_callSB3 C dX6_notes_39 lkX6_85 (m_X6_in (by omega) (by omega) (by omega)) ⟨rfl, rfl, Nat.le_of_ble_eq_true rfl, Nat.le_of_ble_eq_true rfl⟩ ⟨Nat.zero_le _, Nat.zero_le _⟩ (Nat.le_of_ble_eq_true rfl) (fun h18 => ?_) (fun h18 => ?_)
          · skip
            refine r_if_ne (tgt := 51) C dX6_notes_42 (by decide) (by decide) (fun _ => ?_) (fun q => absurd q (by decide))
            refine r_aload_n C dX6_notes_51 0 rfl ?_
            refine gX6_38 C dX6_notes_52 ?_
            refine r_bipush C dX6_notes_55 (by decide) ?_
            refine r_iload_n C dX6_notes_57 1 rfl ?_
            refine r_imul C dX6_notes_58 ?_
            refine r_iload_n C dX6_notes_59 2 rfl ?_
            refine r_iadd C dX6_notes_60 ?_
            refine r_iald 240 C dX6_notes_61 (by omega) (fun _ => rfl) (by omega) (by omega) (by decide) (fun g21 => ?_)
            refine r_istore C dX6_notes_62 (by decide) (fun z_ => [(5, iv z_), (0, .ref (a 18)), (1, iv v), (2, iv b), (3, iv m), (4, iv q)]) (fun _ => rfl) (fun x5_22 ex5_22 => ?_)
            refine r_aload_n C dX6_notes_64 1 rfl ?_
            refine gX6_38 C dX6_notes_65 ?_
            refine r_bipush C dX6_notes_68 (by decide) ?_
            refine r_iload_n C dX6_notes_70 2 rfl ?_
            refine r_imul C dX6_notes_71 ?_
            refine r_iload_n C dX6_notes_72 3 rfl ?_
            refine r_iadd C dX6_notes_73 ?_
            refine r_iload_n C dX6_notes_74 4 rfl ?_
            refine r_iast 240 C dX6_notes_75 (by omega) (fun _ _ => rfl) (by omega) (by omega) (by decide) (by omega) ?_
            refine r_aload_n C dX6_notes_76 1 rfl ?_
            refine gX6_41 C dX6_notes_77 ?_
            refine r_bipush C dX6_notes_80 (by decide) ?_
            refine r_iload_n C dX6_notes_82 2 rfl ?_
            refine r_imul C dX6_notes_83 ?_
            refine r_iload_n C dX6_notes_84 3 rfl ?_
            refine r_iadd C dX6_notes_85 ?_
            refine r_iload C dX6_notes_86 5 rfl ?_
            refine r_iast 240 C dX6_notes_88 (by omega) (fun _ _ => rfl) (by omega) (by omega) (by decide) (by omega) ?_
            refine r_iload C dX6_notes_89 0 rfl ?_
            exact hret _ _ _ _ dX6_notes_91 (by first | (refine (Or.inl ⟨?_, ?_, ?_⟩) <;> first | omega | assumption | rfl) | (refine (Or.inr ⟨?_, ?_, ?_⟩) <;> first | omega | assumption | rfl))
          · skip
            refine r_if_ne (tgt := 51) C dX6_notes_42 (by decide) (by decide) (fun q => absurd q (by decide)) (fun _ => ?_)
            refine r_aload_n C dX6_notes_45 0 rfl ?_
            refine r_iconst C dX6_notes_46 ?_
            refine r_callI1 18 C dX6_notes_47 lkX6_92 (m_X6_finds (by omega) (MS.F (by assumption) _)) ⟨rfl, rfl, Nat.le_of_ble_eq_true rfl, Nat.le_of_ble_eq_true rfl⟩ ⟨Nat.zero_le _, Nat.zero_le _⟩ rc18 (Nat.le_of_ble_eq_true rfl) (fun r26 s27 hr26 => ?_)
            obtain ⟨er26, hr26⟩ := hr26
            exact hret _ _ _ _ dX6_notes_50 (by first | (refine (Or.inl ⟨?_, ?_, ?_⟩) <;> first | omega | assumption | rfl) | (refine (Or.inr ⟨?_, ?_, ?_⟩) <;> first | omega | assumption | rfl))
      · skip
        refine r_if_eq (tgt := 45) C dX6_notes_23 (by decide) (by decide) (fun _ => ?_) (fun q => absurd q (by decide))
        refine r_aload_n C dX6_notes_45 0 rfl ?_
        refine r_iconst C dX6_notes_46 ?_
        refine r_callI1 18 C dX6_notes_47 lkX6_92 (m_X6_finds (by omega) (MS.F (by assumption) _)) ⟨rfl, rfl, Nat.le_of_ble_eq_true rfl, Nat.le_of_ble_eq_true rfl⟩ ⟨Nat.zero_le _, Nat.zero_le _⟩ rc18 (Nat.le_of_ble_eq_true rfl) (fun r29 s30 hr29 => ?_)
        obtain ⟨er29, hr29⟩ := hr29
        exact hret _ _ _ _ dX6_notes_50 (by first | (refine (Or.inl ⟨?_, ?_, ?_⟩) <;> first | omega | assumption | rfl) | (refine (Or.inr ⟨?_, ?_, ?_⟩) <;> first | omega | assumption | rfl))
    · skip
      refine r_if_eq (tgt := 45) C dX6_notes_13 (by decide) (by decide) (fun _ => ?_) (fun q => absurd q (by decide))
      refine r_aload_n C dX6_notes_45 0 rfl ?_
      refine r_iconst C dX6_notes_46 ?_
      refine r_callI1 18 C dX6_notes_47 lkX6_92 (m_X6_finds (by omega) (MS.F (by assumption) _)) ⟨rfl, rfl, Nat.le_of_ble_eq_true rfl, Nat.le_of_ble_eq_true rfl⟩ ⟨Nat.zero_le _, Nat.zero_le _⟩ rc18 (Nat.le_of_ble_eq_true rfl) (fun r32 s33 hr32 => ?_)
      obtain ⟨er32, hr32⟩ := hr32
      exact hret _ _ _ _ dX6_notes_50 (by first | (refine (Or.inl ⟨?_, ?_, ?_⟩) <;> first | omega | assumption | rfl) | (refine (Or.inr ⟨?_, ?_, ?_⟩) <;> first | omega | assumption | rfl))
  · skip
    refine r_if_eq (tgt := 45) C dX6_notes_5 (by decide) (by decide) (fun _ => ?_) (fun q => absurd q (by decide))
    refine r_aload_n C dX6_notes_45 0 rfl ?_
    refine r_iconst C dX6_notes_46 ?_
    refine r_callI1 18 C dX6_notes_47 lkX6_92 (m_X6_finds (by omega) (MS.F (by assumption) _)) ⟨rfl, rfl, Nat.le_of_ble_eq_true rfl, Nat.le_of_ble_eq_true rfl⟩ ⟨Nat.zero_le _, Nat.zero_le _⟩ rc18 (Nat.le_of_ble_eq_true rfl) (fun r35 s36 hr35 => ?_)
    obtain ⟨er35, hr35⟩ := hr35
    exact hret _ _ _ _ dX6_notes_50 (by first | (refine (Or.inl ⟨?_, ?_, ?_⟩) <;> first | omega | assumption | rfl) | (refine (Or.inr ⟨?_, ?_, ?_⟩) <;> first | omega | assumption | rfl))

set_option maxHeartbeats 4000000 in
set_option maxRecDepth 100000 in
theorem m_X6_sign {a : Nat → Nat} {n : Nat} {σ : ST} (hM : MS σ) {b m : Int} (hb1 : inR b) (hm1 : inR m) : MI yX6_sign cX6_sign 4 .int (RM 2 43) a n σ [.ref (a 18), iv b, iv m] (fun r σ1 => (((0 ≤ b ∧ b < σ 18 0) ∧ 0 ≤ m ∧ m ≤ 7) ∧ r = σ 20 b ∧ σ1 = up2 σ 20 b m) ∨ (¬ ((0 ≤ b ∧ b < σ 18 0) ∧ 0 ≤ m ∧ m ≤ 7) ∧ r = -1000001 ∧ σ1 = fd σ 27 1)) := by
  refine MI.of (own := RX6) (by decide +kernel) rfl (Nat.le_of_ble_eq_true rfl) ?_
  intro κ C hret
  show J κ 0 0 a n σ [(0, .ref (a 18)), (1, iv b), (2, iv m)] 0 []
  obtain ⟨hb, hvn, hwt, hky, hdu, hwd, hli, hne, hse, hmk, hkd, hsh, hos, hpl, hld, hF, hlp, hpo⟩ := id hM
  refine r_aload_n C dX6_sign_0 0 rfl ?_
  refine r_iload_n C dX6_sign_1 1 rfl ?_
  refine r_callB1 18 C dX6_sign_2 lkX6_100 (m_X6_isBar (by omega) (by omega)) ⟨rfl, rfl, Nat.le_of_ble_eq_true rfl, Nat.le_of_ble_eq_true rfl⟩ ⟨Nat.zero_le _, Nat.zero_le _⟩ rc18 (Nat.le_of_ble_eq_true rfl) (fun h1 => ?_) (fun h1 => ?_)
  · skip
    refine r_if_eq (tgt := 18) C dX6_sign_5 (by decide) (by decide) (fun q => absurd q (by decide)) (fun _ => ?_)
    refine r_iload_n C dX6_sign_8 2 rfl ?_
    refine r_iconst C dX6_sign_9 ?_
    refine r_bipush C dX6_sign_10 (by decide) ?_
    refine r_callSB3 C dX6_sign_12 lkX6_85 (m_X6_in (by omega) (by omega) (by omega)) ⟨rfl, rfl, Nat.le_of_ble_eq_true rfl, Nat.le_of_ble_eq_true rfl⟩ ⟨Nat.zero_le _, Nat.zero_le _⟩ (Nat.le_of_ble_eq_true rfl) (fun h3 => ?_) (fun h3 => ?_)
    · skip
      refine r_if_ne (tgt := 24) C dX6_sign_15 (by decide) (by decide) (fun _ => ?_) (fun q => absurd q (by decide))
      refine r_aload_n C dX6_sign_24 0 rfl ?_
      refine gX6_26 C dX6_sign_25 ?_
      refine r_iload_n C dX6_sign_28 1 rfl ?_
      refine r_iald 40 C dX6_sign_29 (by omega) (fun _ => rfl) (by omega) (by omega) (by decide) (fun g6 => ?_)
      refine r_istore_n C dX6_sign_30 (by decide) (fun z_ => [(3, iv z_), (0, .ref (a 18)), (1, iv b), (2, iv m)]) (fun _ => rfl) (fun x3_7 ex3_7 => ?_)
      refine r_aload_n C dX6_sign_31 1 rfl ?_
      refine gX6_26 C dX6_sign_32 ?_
      refine r_iload_n C dX6_sign_35 2 rfl ?_
      refine r_iload_n C dX6_sign_36 3 rfl ?_
      refine r_iast 40 C dX6_sign_37 (by omega) (fun _ _ => rfl) (by omega) (by omega) (by decide) (by omega) ?_
      refine r_iload_n C dX6_sign_38 0 rfl ?_
      exact hret _ _ _ _ dX6_sign_39 (by first | (refine (Or.inl ⟨?_, ?_, ?_⟩) <;> first | omega | assumption | rfl) | (refine (Or.inr ⟨?_, ?_, ?_⟩) <;> first | omega | assumption | rfl))
    · skip
      refine r_if_ne (tgt := 24) C dX6_sign_15 (by decide) (by decide) (fun q => absurd q (by decide)) (fun _ => ?_)
      refine r_aload_n C dX6_sign_18 0 rfl ?_
      refine r_iconst C dX6_sign_19 ?_
      refine r_callI1 18 C dX6_sign_20 lkX6_92 (m_X6_finds (by omega) (MS.F (by assumption) _)) ⟨rfl, rfl, Nat.le_of_ble_eq_true rfl, Nat.le_of_ble_eq_true rfl⟩ ⟨Nat.zero_le _, Nat.zero_le _⟩ rc18 (Nat.le_of_ble_eq_true rfl) (fun r10 s11 hr10 => ?_)
      obtain ⟨er10, hr10⟩ := hr10
      exact hret _ _ _ _ dX6_sign_23 (by first | (refine (Or.inl ⟨?_, ?_, ?_⟩) <;> first | omega | assumption | rfl) | (refine (Or.inr ⟨?_, ?_, ?_⟩) <;> first | omega | assumption | rfl))
  · skip
    refine r_if_eq (tgt := 18) C dX6_sign_5 (by decide) (by decide) (fun _ => ?_) (fun q => absurd q (by decide))
    refine r_aload_n C dX6_sign_18 0 rfl ?_
    refine r_iconst C dX6_sign_19 ?_
    refine r_callI1 18 C dX6_sign_20 lkX6_92 (m_X6_finds (by omega) (MS.F (by assumption) _)) ⟨rfl, rfl, Nat.le_of_ble_eq_true rfl, Nat.le_of_ble_eq_true rfl⟩ ⟨Nat.zero_le _, Nat.zero_le _⟩ rc18 (Nat.le_of_ble_eq_true rfl) (fun r13 s14 hr13 => ?_)
    obtain ⟨er13, hr13⟩ := hr13
    exact hret _ _ _ _ dX6_sign_23 (by first | (refine (Or.inl ⟨?_, ?_, ?_⟩) <;> first | omega | assumption | rfl) | (refine (Or.inr ⟨?_, ?_, ?_⟩) <;> first | omega | assumption | rfl))

set_option maxHeartbeats 4000000 in
set_option maxRecDepth 100000 in
theorem m_X6_stage {a : Nat → Nat} {n : Nat} {σ : ST} (hM : MS σ) {v m : Int} (hv1 : inR v) (hm1 : inR m) : MI yX6_stage cX6_stage 4 .int (RM 2 43) a n σ [.ref (a 18), iv v, iv m] (fun r σ1 => (((0 ≤ v ∧ v < σ 18 1) ∧ 0 ≤ m ∧ m ≤ 1) ∧ r = σ 23 v ∧ σ1 = up2 σ 23 v m) ∨ (¬ ((0 ≤ v ∧ v < σ 18 1) ∧ 0 ≤ m ∧ m ≤ 1) ∧ r = -1000001 ∧ σ1 = fd σ 27 1)) := by
  refine MI.of (own := RX6) (by decide +kernel) rfl (Nat.le_of_ble_eq_true rfl) ?_
  intro κ C hret
  show J κ 0 0 a n σ [(0, .ref (a 18)), (1, iv v), (2, iv m)] 0 []
  obtain ⟨hb, hvn, hwt, hky, hdu, hwd, hli, hne, hse, hmk, hkd, hsh, hos, hpl, hld, hF, hlp, hpo⟩ := id hM
  refine r_aload_n C dX6_stage_0 0 rfl ?_
  refine r_iload_n C dX6_stage_1 1 rfl ?_
  refine r_callB1 18 C dX6_stage_2 lkX6_96 (m_X6_isVoice (by omega) (by omega)) ⟨rfl, rfl, Nat.le_of_ble_eq_true rfl, Nat.le_of_ble_eq_true rfl⟩ ⟨Nat.zero_le _, Nat.zero_le _⟩ rc18 (Nat.le_of_ble_eq_true rfl) (fun h1 => ?_) (fun h1 => ?_)
  · skip
    refine r_if_eq (tgt := 17) C dX6_stage_5 (by decide) (by decide) (fun q => absurd q (by decide)) (fun _ => ?_)
    refine r_iload_n C dX6_stage_8 2 rfl ?_
    refine r_iconst C dX6_stage_9 ?_
    refine r_iconst C dX6_stage_10 ?_
    refine r_callSB3 C dX6_stage_11 lkX6_85 (m_X6_in (by omega) (by omega) (by omega)) ⟨rfl, rfl, Nat.le_of_ble_eq_true rfl, Nat.le_of_ble_eq_true rfl⟩ ⟨Nat.zero_le _, Nat.zero_le _⟩ (Nat.le_of_ble_eq_true rfl) (fun h3 => ?_) (fun h3 => ?_)
    · skip
      refine r_if_ne (tgt := 23) C dX6_stage_14 (by decide) (by decide) (fun _ => ?_) (fun q => absurd q (by decide))
      refine r_aload_n C dX6_stage_23 0 rfl ?_
      refine gX6_35 C dX6_stage_24 ?_
      refine r_iload_n C dX6_stage_27 1 rfl ?_
      refine r_iald 6 C dX6_stage_28 (by omega) (fun _ => rfl) (by omega) (by omega) (by decide) (fun g6 => ?_)
      refine r_istore_n C dX6_stage_29 (by decide) (fun z_ => [(3, iv z_), (0, .ref (a 18)), (1, iv v), (2, iv m)]) (fun _ => rfl) (fun x3_7 ex3_7 => ?_)
      refine r_aload_n C dX6_stage_30 1 rfl ?_
      refine gX6_35 C dX6_stage_31 ?_
      refine r_iload_n C dX6_stage_34 2 rfl ?_
      refine r_iload_n C dX6_stage_35 3 rfl ?_
      refine r_iast 6 C dX6_stage_36 (by omega) (fun _ _ => rfl) (by omega) (by omega) (by decide) (by omega) ?_
      refine r_iload_n C dX6_stage_37 0 rfl ?_
      exact hret _ _ _ _ dX6_stage_38 (by first | (refine (Or.inl ⟨?_, ?_, ?_⟩) <;> first | omega | assumption | rfl) | (refine (Or.inr ⟨?_, ?_, ?_⟩) <;> first | omega | assumption | rfl))
    · skip
      refine r_if_ne (tgt := 23) C dX6_stage_14 (by decide) (by decide) (fun q => absurd q (by decide)) (fun _ => ?_)
      refine r_aload_n C dX6_stage_17 0 rfl ?_
      refine r_iconst C dX6_stage_18 ?_
      refine r_callI1 18 C dX6_stage_19 lkX6_92 (m_X6_finds (by omega) (MS.F (by assumption) _)) ⟨rfl, rfl, Nat.le_of_ble_eq_true rfl, Nat.le_of_ble_eq_true rfl⟩ ⟨Nat.zero_le _, Nat.zero_le _⟩ rc18 (Nat.le_of_ble_eq_true rfl) (fun r10 s11 hr10 => ?_)
      obtain ⟨er10, hr10⟩ := hr10
      exact hret _ _ _ _ dX6_stage_22 (by first | (refine (Or.inl ⟨?_, ?_, ?_⟩) <;> first | omega | assumption | rfl) | (refine (Or.inr ⟨?_, ?_, ?_⟩) <;> first | omega | assumption | rfl))
  · skip
    refine r_if_eq (tgt := 17) C dX6_stage_5 (by decide) (by decide) (fun _ => ?_) (fun q => absurd q (by decide))
    refine r_aload_n C dX6_stage_17 0 rfl ?_
    refine r_iconst C dX6_stage_18 ?_
    refine r_callI1 18 C dX6_stage_19 lkX6_92 (m_X6_finds (by omega) (MS.F (by assumption) _)) ⟨rfl, rfl, Nat.le_of_ble_eq_true rfl, Nat.le_of_ble_eq_true rfl⟩ ⟨Nat.zero_le _, Nat.zero_le _⟩ rc18 (Nat.le_of_ble_eq_true rfl) (fun r13 s14 hr13 => ?_)
    obtain ⟨er13, hr13⟩ := hr13
    exact hret _ _ _ _ dX6_stage_22 (by first | (refine (Or.inl ⟨?_, ?_, ?_⟩) <;> first | omega | assumption | rfl) | (refine (Or.inr ⟨?_, ?_, ?_⟩) <;> first | omega | assumption | rfl))

set_option maxHeartbeats 4000000 in
set_option maxRecDepth 100000 in
theorem m_X6_key {a : Nat → Nat} {n : Nat} {σ : ST} (hM : MS σ) {x : Int} (hx : inR x) : MI yX6_key cX6_key 3 .int (RM 1 22) a n σ [.ref (a 18), iv x] (fun r σ1 => ((-7 ≤ x ∧ x ≤ 7) ∧ r = σ 18 3 ∧ σ1 = up2 σ 18 3 x) ∨ (¬ (-7 ≤ x ∧ x ≤ 7) ∧ r = -1000001 ∧ σ1 = fd σ 27 1)) := by
  refine MI.of (own := RX6) (by decide +kernel) rfl (Nat.le_of_ble_eq_true rfl) ?_
  intro κ C hret
  show J κ 0 0 a n σ [(0, .ref (a 18)), (1, iv x)] 0 []
  obtain ⟨hb, hvn, hwt, hky, hdu, hwd, hli, hne, hse, hmk, hkd, hsh, hos, hpl, hld, hF, hlp, hpo⟩ := id hM
  refine r_iload_n C dX6_key_0 1 rfl ?_
  refine r_bipush C dX6_key_1 (by decide) ?_
  refine r_bipush C dX6_key_3 (by decide) ?_
  refine r_callSB3 C dX6_key_5 lkX6_85 (m_X6_in (by omega) (by omega) (by omega)) ⟨rfl, rfl, Nat.le_of_ble_eq_true rfl, Nat.le_of_ble_eq_true rfl⟩ ⟨Nat.zero_le _, Nat.zero_le _⟩ (Nat.le_of_ble_eq_true rfl) (fun h1 => ?_) (fun h1 => ?_)
  · skip
    refine r_if_ne (tgt := 17) C dX6_key_8 (by decide) (by decide) (fun _ => ?_) (fun q => absurd q (by decide))
    refine r_aload_n C dX6_key_17 0 rfl ?_
    refine gX6_126 C dX6_key_18 (fun g3 => ?_)
    refine r_istore_n C dX6_key_21 (by decide) (fun z_ => [(2, iv z_), (0, .ref (a 18)), (1, iv x)]) (fun _ => rfl) (fun x2_4 ex2_4 => ?_)
    refine r_aload_n C dX6_key_22 1 rfl ?_
    refine r_iload_n C dX6_key_23 2 rfl ?_
    refine pX6_126 C dX6_key_24 (by omega) ?_
    refine r_iload_n C dX6_key_27 0 rfl ?_
    exact hret _ _ _ _ dX6_key_28 (by first | (refine (Or.inl ⟨?_, ?_, ?_⟩) <;> first | omega | assumption | rfl) | (refine (Or.inr ⟨?_, ?_, ?_⟩) <;> first | omega | assumption | rfl))
  · skip
    refine r_if_ne (tgt := 17) C dX6_key_8 (by decide) (by decide) (fun q => absurd q (by decide)) (fun _ => ?_)
    refine r_aload_n C dX6_key_11 0 rfl ?_
    refine r_iconst C dX6_key_12 ?_
    refine r_callI1 18 C dX6_key_13 lkX6_92 (m_X6_finds (by omega) (MS.F (by assumption) _)) ⟨rfl, rfl, Nat.le_of_ble_eq_true rfl, Nat.le_of_ble_eq_true rfl⟩ ⟨Nat.zero_le _, Nat.zero_le _⟩ rc18 (Nat.le_of_ble_eq_true rfl) (fun r6 s7 hr6 => ?_)
    obtain ⟨er6, hr6⟩ := hr6
    exact hret _ _ _ _ dX6_key_16 (by first | (refine (Or.inl ⟨?_, ?_, ?_⟩) <;> first | omega | assumption | rfl) | (refine (Or.inr ⟨?_, ?_, ?_⟩) <;> first | omega | assumption | rfl))

set_option maxHeartbeats 4000000 in
set_option maxRecDepth 100000 in
theorem m_X6_due {a : Nat → Nat} {n : Nat} {σ : ST} (hM : MS σ) {x : Int} (hx : inR x) : MI yX6_due cX6_due 3 .int (RM 1 22) a n σ [.ref (a 18), iv x] (fun r σ1 => ((1 ≤ x ∧ x ≤ 20) ∧ r = σ 18 4 ∧ σ1 = up2 σ 18 4 x) ∨ (¬ (1 ≤ x ∧ x ≤ 20) ∧ r = -1000001 ∧ σ1 = fd σ 27 1)) := by
  refine MI.of (own := RX6) (by decide +kernel) rfl (Nat.le_of_ble_eq_true rfl) ?_
  intro κ C hret
  show J κ 0 0 a n σ [(0, .ref (a 18)), (1, iv x)] 0 []
  obtain ⟨hb, hvn, hwt, hky, hdu, hwd, hli, hne, hse, hmk, hkd, hsh, hos, hpl, hld, hF, hlp, hpo⟩ := id hM
  refine r_iload_n C dX6_due_0 1 rfl ?_
  refine r_iconst C dX6_due_1 ?_
  refine r_bipush C dX6_due_2 (by decide) ?_
  refine r_callSB3 C dX6_due_4 lkX6_85 (m_X6_in (by omega) (by omega) (by omega)) ⟨rfl, rfl, Nat.le_of_ble_eq_true rfl, Nat.le_of_ble_eq_true rfl⟩ ⟨Nat.zero_le _, Nat.zero_le _⟩ (Nat.le_of_ble_eq_true rfl) (fun h1 => ?_) (fun h1 => ?_)
  · skip
    refine r_if_ne (tgt := 16) C dX6_due_7 (by decide) (by decide) (fun _ => ?_) (fun q => absurd q (by decide))
    refine r_aload_n C dX6_due_16 0 rfl ?_
    refine gX6_7 C dX6_due_17 (fun g3 => ?_)
    refine r_istore_n C dX6_due_20 (by decide) (fun z_ => [(2, iv z_), (0, .ref (a 18)), (1, iv x)]) (fun _ => rfl) (fun x2_4 ex2_4 => ?_)
    refine r_aload_n C dX6_due_21 1 rfl ?_
    refine r_iload_n C dX6_due_22 2 rfl ?_
    refine pX6_7 C dX6_due_23 (by omega) ?_
    refine r_iload_n C dX6_due_26 0 rfl ?_
    exact hret _ _ _ _ dX6_due_27 (by first | (refine (Or.inl ⟨?_, ?_, ?_⟩) <;> first | omega | assumption | rfl) | (refine (Or.inr ⟨?_, ?_, ?_⟩) <;> first | omega | assumption | rfl))
  · skip
    refine r_if_ne (tgt := 16) C dX6_due_7 (by decide) (by decide) (fun q => absurd q (by decide)) (fun _ => ?_)
    refine r_aload_n C dX6_due_10 0 rfl ?_
    refine r_iconst C dX6_due_11 ?_
    refine r_callI1 18 C dX6_due_12 lkX6_92 (m_X6_finds (by omega) (MS.F (by assumption) _)) ⟨rfl, rfl, Nat.le_of_ble_eq_true rfl, Nat.le_of_ble_eq_true rfl⟩ ⟨Nat.zero_le _, Nat.zero_le _⟩ rc18 (Nat.le_of_ble_eq_true rfl) (fun r6 s7 hr6 => ?_)
    obtain ⟨er6, hr6⟩ := hr6
    exact hret _ _ _ _ dX6_due_15 (by first | (refine (Or.inl ⟨?_, ?_, ?_⟩) <;> first | omega | assumption | rfl) | (refine (Or.inr ⟨?_, ?_, ?_⟩) <;> first | omega | assumption | rfl))

set_option maxHeartbeats 4000000 in
set_option maxRecDepth 100000 in
theorem m_X6_need {a : Nat → Nat} {n : Nat} {σ : ST} (hM : MS σ) {x : Int} (hx : inR x) : MI yX6_need cX6_need 3 .int (RM 1 22) a n σ [.ref (a 18), iv x] (fun r σ1 => ((0 ≤ x ∧ x ≤ 60) ∧ r = σ 18 7 ∧ σ1 = up2 σ 18 7 x) ∨ (¬ (0 ≤ x ∧ x ≤ 60) ∧ r = -1000001 ∧ σ1 = fd σ 27 1)) := by
  refine MI.of (own := RX6) (by decide +kernel) rfl (Nat.le_of_ble_eq_true rfl) ?_
  intro κ C hret
  show J κ 0 0 a n σ [(0, .ref (a 18)), (1, iv x)] 0 []
  obtain ⟨hb, hvn, hwt, hky, hdu, hwd, hli, hne, hse, hmk, hkd, hsh, hos, hpl, hld, hF, hlp, hpo⟩ := id hM
  refine r_iload_n C dX6_need_0 1 rfl ?_
  refine r_iconst C dX6_need_1 ?_
  refine r_bipush C dX6_need_2 (by decide) ?_
  refine r_callSB3 C dX6_need_4 lkX6_85 (m_X6_in (by omega) (by omega) (by omega)) ⟨rfl, rfl, Nat.le_of_ble_eq_true rfl, Nat.le_of_ble_eq_true rfl⟩ ⟨Nat.zero_le _, Nat.zero_le _⟩ (Nat.le_of_ble_eq_true rfl) (fun h1 => ?_) (fun h1 => ?_)
  · skip
    refine r_if_ne (tgt := 16) C dX6_need_7 (by decide) (by decide) (fun _ => ?_) (fun q => absurd q (by decide))
    refine r_aload_n C dX6_need_16 0 rfl ?_
    refine gX6_19 C dX6_need_17 (fun g3 => ?_)
    refine r_istore_n C dX6_need_20 (by decide) (fun z_ => [(2, iv z_), (0, .ref (a 18)), (1, iv x)]) (fun _ => rfl) (fun x2_4 ex2_4 => ?_)
    refine r_aload_n C dX6_need_21 1 rfl ?_
    refine r_iload_n C dX6_need_22 2 rfl ?_
    refine pX6_19 C dX6_need_23 (by omega) ?_
    refine r_iload_n C dX6_need_26 0 rfl ?_
    exact hret _ _ _ _ dX6_need_27 (by first | (refine (Or.inl ⟨?_, ?_, ?_⟩) <;> first | omega | assumption | rfl) | (refine (Or.inr ⟨?_, ?_, ?_⟩) <;> first | omega | assumption | rfl))
  · skip
    refine r_if_ne (tgt := 16) C dX6_need_7 (by decide) (by decide) (fun q => absurd q (by decide)) (fun _ => ?_)
    refine r_aload_n C dX6_need_10 0 rfl ?_
    refine r_iconst C dX6_need_11 ?_
    refine r_callI1 18 C dX6_need_12 lkX6_92 (m_X6_finds (by omega) (MS.F (by assumption) _)) ⟨rfl, rfl, Nat.le_of_ble_eq_true rfl, Nat.le_of_ble_eq_true rfl⟩ ⟨Nat.zero_le _, Nat.zero_le _⟩ rc18 (Nat.le_of_ble_eq_true rfl) (fun r6 s7 hr6 => ?_)
    obtain ⟨er6, hr6⟩ := hr6
    exact hret _ _ _ _ dX6_need_15 (by first | (refine (Or.inl ⟨?_, ?_, ?_⟩) <;> first | omega | assumption | rfl) | (refine (Or.inr ⟨?_, ?_, ?_⟩) <;> first | omega | assumption | rfl))

set_option maxHeartbeats 4000000 in
set_option maxRecDepth 100000 in
theorem m_X6_paper {a : Nat → Nat} {n : Nat} {σ : ST} (hM : MS σ) {x y : Int} (hx : inR x) (hy : inR y) : MI yX6_paper cX6_paper 3 .int (RM 1 22) a n σ [.ref (a 18), iv x, iv y] (fun r σ1 => (((21 ≤ x ∧ x ≤ 60) ∧ (1 ≤ y ∧ y ≤ 8)) ∧ r = 1 ∧ σ1 = up2 (up2 σ 18 5 x) 18 6 y) ∨ (¬ ((21 ≤ x ∧ x ≤ 60) ∧ (1 ≤ y ∧ y ≤ 8)) ∧ r = -1000001 ∧ σ1 = fd σ 27 1)) := by
  refine MI.of (own := RX6) (by decide +kernel) rfl (Nat.le_of_ble_eq_true rfl) ?_
  intro κ C hret
  show J κ 0 0 a n σ [(0, .ref (a 18)), (1, iv x), (2, iv y)] 0 []
  obtain ⟨hb, hvn, hwt, hky, hdu, hwd, hli, hne, hse, hmk, hkd, hsh, hos, hpl, hld, hF, hlp, hpo⟩ := id hM
  refine r_iload_n C dX6_paper_0 1 rfl ?_
  refine r_bipush C dX6_paper_1 (by decide) ?_
  refine r_bipush C dX6_paper_3 (by decide) ?_
  refine r_callSB3 C dX6_paper_5 lkX6_85 (m_X6_in (by omega) (by omega) (by omega)) ⟨rfl, rfl, Nat.le_of_ble_eq_true rfl, Nat.le_of_ble_eq_true rfl⟩ ⟨Nat.zero_le _, Nat.zero_le _⟩ (Nat.le_of_ble_eq_true rfl) (fun h1 => ?_) (fun h1 => ?_)
  · skip
    refine r_if_eq (tgt := 21) C dX6_paper_8 (by decide) (by decide) (fun q => absurd q (by decide)) (fun _ => ?_)
    refine r_iload_n C dX6_paper_11 2 rfl ?_
    refine r_iconst C dX6_paper_12 ?_
    refine r_bipush C dX6_paper_13 (by decide) ?_
    refine r_callSB3 C dX6_paper_15 lkX6_85 (m_X6_in (by omega) (by omega) (by omega)) ⟨rfl, rfl, Nat.le_of_ble_eq_true rfl, Nat.le_of_ble_eq_true rfl⟩ ⟨Nat.zero_le _, Nat.zero_le _⟩ (Nat.le_of_ble_eq_true rfl) (fun h3 => ?_) (fun h3 => ?_)
    · skip
      refine r_if_ne (tgt := 27) C dX6_paper_18 (by decide) (by decide) (fun _ => ?_) (fun q => absurd q (by decide))
      refine r_aload_n C dX6_paper_27 0 rfl ?_
      refine r_iload_n C dX6_paper_28 1 rfl ?_
      refine pX6_13 C dX6_paper_29 (by omega) ?_
      refine r_aload_n C dX6_paper_32 0 rfl ?_
      refine r_iload_n C dX6_paper_33 2 rfl ?_
      refine pX6_16 C dX6_paper_34 (by omega) ?_
      refine r_iconst C dX6_paper_37 ?_
      exact hret _ _ _ _ dX6_paper_38 (by first | (refine (Or.inl ⟨?_, ?_, ?_⟩) <;> first | omega | assumption | rfl) | (refine (Or.inr ⟨?_, ?_, ?_⟩) <;> first | omega | assumption | rfl))
    · skip
      refine r_if_ne (tgt := 27) C dX6_paper_18 (by decide) (by decide) (fun q => absurd q (by decide)) (fun _ => ?_)
      refine r_aload_n C dX6_paper_21 0 rfl ?_
      refine r_iconst C dX6_paper_22 ?_
      refine r_callI1 18 C dX6_paper_23 lkX6_92 (m_X6_finds (by omega) (MS.F (by assumption) _)) ⟨rfl, rfl, Nat.le_of_ble_eq_true rfl, Nat.le_of_ble_eq_true rfl⟩ ⟨Nat.zero_le _, Nat.zero_le _⟩ rc18 (Nat.le_of_ble_eq_true rfl) (fun r6 s7 hr6 => ?_)
      obtain ⟨er6, hr6⟩ := hr6
      exact hret _ _ _ _ dX6_paper_26 (by first | (refine (Or.inl ⟨?_, ?_, ?_⟩) <;> first | omega | assumption | rfl) | (refine (Or.inr ⟨?_, ?_, ?_⟩) <;> first | omega | assumption | rfl))
  · skip
    refine r_if_eq (tgt := 21) C dX6_paper_8 (by decide) (by decide) (fun _ => ?_) (fun q => absurd q (by decide))
    refine r_aload_n C dX6_paper_21 0 rfl ?_
    refine r_iconst C dX6_paper_22 ?_
    refine r_callI1 18 C dX6_paper_23 lkX6_92 (m_X6_finds (by omega) (MS.F (by assumption) _)) ⟨rfl, rfl, Nat.le_of_ble_eq_true rfl, Nat.le_of_ble_eq_true rfl⟩ ⟨Nat.zero_le _, Nat.zero_le _⟩ rc18 (Nat.le_of_ble_eq_true rfl) (fun r9 s10 hr9 => ?_)
    obtain ⟨er9, hr9⟩ := hr9
    exact hret _ _ _ _ dX6_paper_26 (by first | (refine (Or.inl ⟨?_, ?_, ?_⟩) <;> first | omega | assumption | rfl) | (refine (Or.inr ⟨?_, ?_, ?_⟩) <;> first | omega | assumption | rfl))

set_option maxHeartbeats 4000000 in
set_option maxRecDepth 100000 in
theorem m_X6_tell {a : Nat → Nat} {n : Nat} {σ : ST} (hM : MS σ) {x : Int} (hx : inR x) : MI yX6_tell cX6_tell 2 .int (RM 1 21) a n σ [.ref (a 18), iv x] (fun r σ1 => (σ 18 2 < 40 ∧ r = σ 18 2 + 1 ∧ σ1 = up2 (up2 σ 26 (σ 18 2) x) 18 2 (σ 18 2 + 1)) ∨ (σ 18 2 = 40 ∧ r = -1000004 ∧ σ1 = fd σ 27 4)) := by
  refine MI.of (own := RX6) (by decide +kernel) rfl (Nat.le_of_ble_eq_true rfl) ?_
  intro κ C hret
  show J κ 0 0 a n σ [(0, .ref (a 18)), (1, iv x)] 0 []
  obtain ⟨hb, hvn, hwt, hky, hdu, hwd, hli, hne, hse, hmk, hkd, hsh, hos, hpl, hld, hF, hlp, hpo⟩ := id hM
  refine r_aload_n C dX6_tell_0 0 rfl ?_
  refine gX6_150 C dX6_tell_1 (fun g1 => ?_)
  refine r_bipush C dX6_tell_4 (by decide) ?_
  refine r_icmp_ne (tgt := 15) C dX6_tell_6 (by decide) (by omega) (by omega) (fun h2 => ?_) (fun h2 => ?_)
  · skip
    refine r_aload_n C dX6_tell_15 0 rfl ?_
    refine gX6_44 C dX6_tell_16 ?_
    refine r_aload_n C dX6_tell_19 0 rfl ?_
    refine gX6_150 C dX6_tell_20 (fun g4 => ?_)
    refine r_iload_n C dX6_tell_23 1 rfl ?_
    refine r_iast 40 C dX6_tell_24 (by omega) (fun _ _ => rfl) (by omega) (by omega) (by decide) (by omega) ?_
    refine r_aload_n C dX6_tell_25 0 rfl ?_
    refine r_dup C dX6_tell_26 rfl ?_
    refine gX6_150 C dX6_tell_27 (fun g5 => ?_)
    rw [up2_ne (show (18 : Nat) ≠ 26 from by decide)] at g5 ⊢
    refine r_iconst C dX6_tell_30 ?_
    refine r_iadd C dX6_tell_31 ?_
    refine pX6_150 C dX6_tell_32 (by omega) ?_
    refine r_aload_n C dX6_tell_35 0 rfl ?_
    refine gX6_150 C dX6_tell_36 (fun g6 => ?_)
    rw [up2_self] at g6 ⊢
    exact hret _ _ _ _ dX6_tell_39 (by first | (refine (Or.inl ⟨?_, ?_, ?_⟩) <;> first | omega | assumption | rfl) | (refine (Or.inr ⟨?_, ?_, ?_⟩) <;> first | omega | assumption | rfl))
  · skip
    refine r_aload_n C dX6_tell_9 0 rfl ?_
    refine r_iconst C dX6_tell_10 ?_
    refine r_callI1 18 C dX6_tell_11 lkX6_92 (m_X6_finds (by omega) (MS.F (by assumption) _)) ⟨rfl, rfl, Nat.le_of_ble_eq_true rfl, Nat.le_of_ble_eq_true rfl⟩ ⟨Nat.zero_le _, Nat.zero_le _⟩ rc18 (Nat.le_of_ble_eq_true rfl) (fun r7 s8 hr7 => ?_)
    obtain ⟨er7, hr7⟩ := hr7
    exact hret _ _ _ _ dX6_tell_14 (by first | (refine (Or.inl ⟨?_, ?_, ?_⟩) <;> first | omega | assumption | rfl) | (refine (Or.inr ⟨?_, ?_, ?_⟩) <;> first | omega | assumption | rfl))

set_option maxHeartbeats 4000000 in
set_option maxRecDepth 100000 in
theorem m_X6_found {a : Nat → Nat} {n : Nat} {σ : ST} (hM : MS σ) {k : Int} (hk : inR k) : MI yX6_found cX6_found 2 .int (RM 1 22) a n σ [.ref (a 18), iv k] (fun r σ1 => ((1 ≤ k ∧ k ≤ 5) ∧ r = σ 27 k ∧ σ1 = σ) ∨ (¬ (1 ≤ k ∧ k ≤ 5) ∧ r = -1000001 ∧ σ1 = fd σ 27 1)) := by
  refine MI.of (own := RX6) (by decide +kernel) rfl (Nat.le_of_ble_eq_true rfl) ?_
  intro κ C hret
  show J κ 0 0 a n σ [(0, .ref (a 18)), (1, iv k)] 0 []
  obtain ⟨hb, hvn, hwt, hky, hdu, hwd, hli, hne, hse, hmk, hkd, hsh, hos, hpl, hld, hF, hlp, hpo⟩ := id hM
  refine r_iload_n C dX6_found_0 1 rfl ?_
  refine r_iconst C dX6_found_1 ?_
  refine r_iconst C dX6_found_2 ?_
  refine r_callSB3 C dX6_found_3 lkX6_85 (m_X6_in (by omega) (by omega) (by omega)) ⟨rfl, rfl, Nat.le_of_ble_eq_true rfl, Nat.le_of_ble_eq_true rfl⟩ ⟨Nat.zero_le _, Nat.zero_le _⟩ (Nat.le_of_ble_eq_true rfl) (fun h1 => ?_) (fun h1 => ?_)
  · skip
    refine r_if_eq (tgt := 18) C dX6_found_6 (by decide) (by decide) (fun q => absurd q (by decide)) (fun _ => ?_)
    refine r_aload_n C dX6_found_9 0 rfl ?_
    refine gX6_47 C dX6_found_10 ?_
    refine r_iload_n C dX6_found_13 1 rfl ?_
    refine r_iald 6 C dX6_found_14 (by omega) (fun _ => rfl) (by omega) (by omega) (by decide) (fun g4 => ?_)
    refine r_goto (tgt := 23) C dX6_found_15 (by decide) ?_
    exact hret _ _ _ _ dX6_found_23 (by first | (refine (Or.inl ⟨?_, ?_, ?_⟩) <;> first | omega | assumption | rfl) | (refine (Or.inr ⟨?_, ?_, ?_⟩) <;> first | omega | assumption | rfl))
  · skip
    refine r_if_eq (tgt := 18) C dX6_found_6 (by decide) (by decide) (fun _ => ?_) (fun q => absurd q (by decide))
    refine r_aload_n C dX6_found_18 0 rfl ?_
    refine r_iconst C dX6_found_19 ?_
    refine r_callI1 18 C dX6_found_20 lkX6_92 (m_X6_finds (by omega) (MS.F (by assumption) _)) ⟨rfl, rfl, Nat.le_of_ble_eq_true rfl, Nat.le_of_ble_eq_true rfl⟩ ⟨Nat.zero_le _, Nat.zero_le _⟩ rc18 (Nat.le_of_ble_eq_true rfl) (fun r6 s7 hr6 => ?_)
    obtain ⟨er6, hr6⟩ := hr6
    exact hret _ _ _ _ dX6_found_23 (by first | (refine (Or.inl ⟨?_, ?_, ?_⟩) <;> first | omega | assumption | rfl) | (refine (Or.inr ⟨?_, ?_, ?_⟩) <;> first | omega | assumption | rfl))

set_option maxHeartbeats 4000000 in
set_option maxRecDepth 100000 in
theorem m_X6_written {a : Nat → Nat} {n : Nat} {σ : ST} (hM : MS σ) {v : Int} (hv1 : inR v) : MI yX6_written cX6_written 3 .int (RM 2 43) a n σ [.ref (a 18), iv v] (fun r σ1 => ((0 ≤ v ∧ v < σ 18 1) ∧ r = (σ 18 3 + 7 * σ 22 v + 6) % 12 - 6 ∧ σ1 = σ) ∨ (¬ (0 ≤ v ∧ v < σ 18 1) ∧ r = -1000001 ∧ σ1 = fd σ 27 1)) := by
  refine MI.of (own := RX6) (by decide +kernel) rfl (Nat.le_of_ble_eq_true rfl) ?_
  intro κ C hret
  show J κ 0 0 a n σ [(0, .ref (a 18)), (1, iv v)] 0 []
  obtain ⟨hb, hvn, hwt, hky, hdu, hwd, hli, hne, hse, hmk, hkd, hsh, hos, hpl, hld, hF, hlp, hpo⟩ := id hM
  have hshv := hsh v
  refine r_aload_n C dX6_written_0 0 rfl ?_
  refine r_iload_n C dX6_written_1 1 rfl ?_
  refine r_callB1 18 C dX6_written_2 lkX6_96 (m_X6_isVoice (by omega) (by omega)) ⟨rfl, rfl, Nat.le_of_ble_eq_true rfl, Nat.le_of_ble_eq_true rfl⟩ ⟨Nat.zero_le _, Nat.zero_le _⟩ rc18 (Nat.le_of_ble_eq_true rfl) (fun h1 => ?_) (fun h1 => ?_)
  · skip
    refine r_if_ne (tgt := 14) C dX6_written_5 (by decide) (by decide) (fun _ => ?_) (fun q => absurd q (by decide))
    refine r_aload_n C dX6_written_14 0 rfl ?_
    refine gX6_126 C dX6_written_15 (fun g3 => ?_)
    refine r_bipush C dX6_written_18 (by decide) ?_
    refine r_aload_n C dX6_written_20 0 rfl ?_
    refine gX6_32 C dX6_written_21 ?_
    refine r_iload_n C dX6_written_24 1 rfl ?_
    refine r_iald 6 C dX6_written_25 (by omega) (fun _ => rfl) (by omega) (by omega) (by decide) (fun g5 => ?_)
    refine r_imul C dX6_written_26 ?_
    refine r_iadd C dX6_written_27 ?_
    refine r_istore_n C dX6_written_28 (by decide) (fun z_ => [(2, iv z_), (0, .ref (a 18)), (1, iv v)]) (fun _ => rfl) (fun x0 ex0 => ?_)
    have lp29 : ∀ (N : Nat) (x : Int), (x + 200 : Int) < N → (-200 ≤ x ∧ x ≤ 200 ∧ (x + 6) % 12 = (σ 18 3 + 7 * σ 22 v + 6) % 12) → J κ 0 0 a n σ [(0, .ref (a 18)), (1, iv v), (2, iv x)] 29 [] := by
      intro N
      induction N with
      | zero =>
        intro x hm29 hi29
        exact absurd hm29 (by omega)
      | succ N ih29 =>
        intro x hm29 hi29
        refine r_iload_n C dX6_written_29 2 rfl ?_
        refine r_iconst C dX6_written_30 ?_
        refine r_icmp_le (tgt := 40) C dX6_written_31 (by decide) (by omega) (by omega) (fun h6 => ?_) (fun h6 => ?_)
        · skip
          have lp40 : ∀ (N : Nat) (y : Int), (5 - y : Int) < N → (-200 ≤ y ∧ y ≤ 5 ∧ (y + 6) % 12 = (σ 18 3 + 7 * σ 22 v + 6) % 12) → J κ 0 0 a n σ [(0, .ref (a 18)), (1, iv v), (2, iv y)] 40 [] := by
            intro N
            induction N with
            | zero =>
              intro y hm40 hi40
              exact absurd hm40 (by omega)
            | succ N ih40 =>
              intro y hm40 hi40
              refine r_iload_n C dX6_written_40 2 rfl ?_
              refine r_bipush C dX6_written_41 (by decide) ?_
              refine r_icmp_ge (tgt := 52) C dX6_written_43 (by decide) (by omega) (by omega) (fun h7 => ?_) (fun h7 => ?_)
              · skip
                refine r_iload_n C dX6_written_52 2 rfl ?_
                exact hret _ _ _ _ dX6_written_53 (by first | (refine (Or.inl ⟨?_, ?_, ?_⟩) <;> first | omega | assumption | rfl) | (refine (Or.inr ⟨?_, ?_, ?_⟩) <;> first | omega | assumption | rfl))
              · skip
                refine r_iinc C dX6_written_46 (by decide) 2 rfl (fun z_ => [(2, iv z_), (0, .ref (a 18)), (1, iv v)]) (fun _ => rfl) (fun y2 ey2 => ?_)
                refine r_goto (tgt := 40) C dX6_written_49 (by decide) ?_
                refine r_sub [1, 2, 0] (L' := [(0, .ref (a 18)), (1, iv v), (2, iv y2)]) rfl ?_
                exact ih40 _ (by omega) (by omega)
          refine r_sub [0, 1, 2] (L' := [(0, .ref (a 18)), (1, iv v), (2, iv x)]) rfl ?_
          exact lp40 ((5 - x : Int).toNat + 1) _ (by omega) (by omega)
        · skip
          refine r_iinc C dX6_written_34 (by decide) 2 rfl (fun z_ => [(2, iv z_), (0, .ref (a 18)), (1, iv v)]) (fun _ => rfl) (fun x2 ex2 => ?_)
          refine r_goto (tgt := 29) C dX6_written_37 (by decide) ?_
          refine r_sub [1, 2, 0] (L' := [(0, .ref (a 18)), (1, iv v), (2, iv x2)]) rfl ?_
          exact ih29 _ (by omega) (by omega)
    refine r_sub [1, 2, 0] (L' := [(0, .ref (a 18)), (1, iv v), (2, iv x0)]) rfl ?_
    exact lp29 ((σ 18 3 + 7 * σ 22 v + 200 : Int).toNat + 1) _ (by omega) (by subst ex0; omega)
  · skip
    refine r_if_ne (tgt := 14) C dX6_written_5 (by decide) (by decide) (fun q => absurd q (by decide)) (fun _ => ?_)
    refine r_aload_n C dX6_written_8 0 rfl ?_
    refine r_iconst C dX6_written_9 ?_
    refine r_callI1 18 C dX6_written_10 lkX6_92 (m_X6_finds (by omega) (MS.F (by assumption) _)) ⟨rfl, rfl, Nat.le_of_ble_eq_true rfl, Nat.le_of_ble_eq_true rfl⟩ ⟨Nat.zero_le _, Nat.zero_le _⟩ rc18 (Nat.le_of_ble_eq_true rfl) (fun r9 s10 hr9 => ?_)
    obtain ⟨er9, hr9⟩ := hr9
    exact hret _ _ _ _ dX6_written_13 (by first | (refine (Or.inl ⟨?_, ?_, ?_⟩) <;> first | omega | assumption | rfl) | (refine (Or.inr ⟨?_, ?_, ?_⟩) <;> first | omega | assumption | rfl))

def chgN (mk : Int → Int) (is fr : Int) : Nat → Int
  | 0 => 0
  | k + 1 => chgN mk is fr k + (if (3 < mk (fr + k) ↔ is = 1) then 0 else 1)
theorem chgN_s (mk : Int → Int) (is fr : Int) {b : Int} (h : fr ≤ b) : chgN mk is fr (b + 1 - fr).toNat = chgN mk is fr (b - fr).toNat + (if (3 < mk b ↔ is = 1) then 0 else 1) := by
  rw [show (b + 1 - fr).toNat = (b - fr).toNat + 1 by omega]
  show chgN mk is fr (b - fr).toNat + (if (3 < mk (fr + ((b - fr).toNat : Int)) ↔ is = 1) then 0 else 1) = _
  rw [show fr + ((b - fr).toNat : Int) = b by omega]
theorem chgN_bd (mk : Int → Int) (is fr : Int) : ∀ k : Nat, 0 ≤ chgN mk is fr k ∧ chgN mk is fr k ≤ k
  | 0 => by simp [chgN]
  | k + 1 => by
    have := chgN_bd mk is fr k
    unfold chgN
    split <;> omega
def CutI (c0 : Nat) (σ τ : ST) (is fr b ch : Int) : Prop := fr ≤ b ∧ ch = chgN (σ c0) is fr (b - fr).toNat ∧ (∀ c, c ≠ c0 → τ c = σ c) ∧ ∀ j, τ c0 j = if fr ≤ j ∧ j < b then σ c0 j % 4 + 4 * is else σ c0 j
theorem CutI.go {c0 : Nat} {σ τ : ST} {is fr b ch d : Int} (h : CutI c0 σ τ is fr b ch) (hd : d = if (3 < σ c0 b ↔ is = 1) then 0 else 1) : CutI c0 σ (up2 τ c0 b (σ c0 b % 4 + 4 * is)) is fr (b + 1) (ch + d) := by
  obtain ⟨h1, h2, h3, h4⟩ := h
  refine ⟨by omega, ?_, fun c hc => ?_, fun j => ?_⟩
  · rw [chgN_s _ _ _ h1, hd, h2]
  · rw [up2_ne hc]; exact h3 c hc
  · by_cases hj : j = b
    · subst hj; rw [up2_self, if_pos (by omega)]
    · rw [up2_at hj, h4 j]
      by_cases h5 : fr ≤ j ∧ j < b
      · rw [if_pos h5, if_pos (by omega)]
      · rw [if_neg h5, if_neg (by omega)]
theorem CutI.same {c0 : Nat} {σ τ : ST} {is fr b ch : Int} (h : CutI c0 σ τ is fr b ch) : τ c0 b = σ c0 b := by
  rw [h.2.2.2 b, if_neg (by omega)]
set_option maxHeartbeats 4000000 in
set_option maxRecDepth 100000 in
theorem m_X6_cut {a : Nat → Nat} {n : Nat} {σ : ST} (hM : MS σ) {x y z : Int} (hx : inR x) (hy : inR y) (hz : inR z) : MI yX6_cut cX6_cut 6 .int (RM 2 43) a n σ [.ref (a 18), iv x, iv y, iv z] (fun r σ1 => (((0 ≤ x ∧ x < σ 18 0) ∧ (0 ≤ y ∧ y < σ 18 0) ∧ x ≤ y ∧ 0 ≤ z ∧ z ≤ 1) ∧ CutI 20 σ σ1 z x (y + 1) r) ∨ (¬ ((0 ≤ x ∧ x < σ 18 0) ∧ (0 ≤ y ∧ y < σ 18 0) ∧ x ≤ y ∧ 0 ≤ z ∧ z ≤ 1) ∧ r = -1000001 ∧ σ1 = fd σ 27 1)) := by
  refine MI.of (own := RX6) (by decide +kernel) rfl (Nat.le_of_ble_eq_true rfl) ?_
  intro κ C hret
  show J κ 0 0 a n σ [(0, .ref (a 18)), (1, iv x), (2, iv y), (3, iv z)] 0 []
  obtain ⟨hb, hvn, hwt, hky, hdu, hwd, hli, hne, hse, hmk, hkd, hsh, hos, hpl, hld, hF, hlp, hpo⟩ := id hM
  refine r_aload_n C dX6_cut_0 0 rfl ?_
  refine r_iload_n C dX6_cut_1 1 rfl ?_
  refine r_callB1 18 C dX6_cut_2 lkX6_100 (m_X6_isBar (by omega) (by omega)) ⟨rfl, rfl, Nat.le_of_ble_eq_true rfl, Nat.le_of_ble_eq_true rfl⟩ ⟨Nat.zero_le _, Nat.zero_le _⟩ rc18 (Nat.le_of_ble_eq_true rfl) (fun h1 => ?_) (fun h1 => ?_)
  · skip
    refine r_if_eq (tgt := 30) C dX6_cut_5 (by decide) (by decide) (fun q => absurd q (by decide)) (fun _ => ?_)
    refine r_aload_n C dX6_cut_8 0 rfl ?_
    refine r_iload_n C dX6_cut_9 2 rfl ?_
    refine r_callB1 18 C dX6_cut_10 lkX6_100 (m_X6_isBar (by omega) (by omega)) ⟨rfl, rfl, Nat.le_of_ble_eq_true rfl, Nat.le_of_ble_eq_true rfl⟩ ⟨Nat.zero_le _, Nat.zero_le _⟩ rc18 (Nat.le_of_ble_eq_true rfl) (fun h3 => ?_) (fun h3 => ?_)
    · skip
      refine r_if_eq (tgt := 30) C dX6_cut_13 (by decide) (by decide) (fun q => absurd q (by decide)) (fun _ => ?_)
      refine r_iload_n C dX6_cut_16 1 rfl ?_
      refine r_iload_n C dX6_cut_17 2 rfl ?_
      refine r_icmp_gt (tgt := 30) C dX6_cut_18 (by decide) (by omega) (by omega) (fun h5 => ?_) (fun h5 => ?_)
      · skip
        refine r_aload_n C dX6_cut_30 0 rfl ?_
        refine r_iconst C dX6_cut_31 ?_
        refine r_callI1 18 C dX6_cut_32 lkX6_92 (m_X6_finds (by omega) (MS.F (by assumption) _)) ⟨rfl, rfl, Nat.le_of_ble_eq_true rfl, Nat.le_of_ble_eq_true rfl⟩ ⟨Nat.zero_le _, Nat.zero_le _⟩ rc18 (Nat.le_of_ble_eq_true rfl) (fun r6 s7 hr6 => ?_)
        obtain ⟨er6, hr6⟩ := hr6
        exact hret _ _ _ _ dX6_cut_35 (by first | (refine (Or.inl ⟨?_, ?_⟩) <;> first | omega | (rw [show y + 1 = b by omega]; exact hi42.1)) | (refine (Or.inr ⟨?_, ?_, ?_⟩) <;> first | omega | assumption))
      · skip
        refine r_iload_n C dX6_cut_21 3 rfl ?_
        refine r_iconst C dX6_cut_22 ?_
        refine r_iconst C dX6_cut_23 ?_
        refine r_callSB3 C dX6_cut_24 lkX6_85 (m_X6_in (by omega) (by omega) (by omega)) ⟨rfl, rfl, Nat.le_of_ble_eq_true rfl, Nat.le_of_ble_eq_true rfl⟩ ⟨Nat.zero_le _, Nat.zero_le _⟩ (Nat.le_of_ble_eq_true rfl) (fun h8 => ?_) (fun h8 => ?_)
        · skip
          refine r_if_ne (tgt := 36) C dX6_cut_27 (by decide) (by decide) (fun _ => ?_) (fun q => absurd q (by decide))
          refine r_iconst C dX6_cut_36 ?_
          refine r_istore C dX6_cut_37 (by decide) (fun z_ => [(4, iv z_), (0, .ref (a 18)), (1, iv x), (2, iv y), (3, iv z)]) (fun _ => rfl) (fun c0 ec0 => ?_)
          refine r_iload_n C dX6_cut_39 2 rfl ?_
          refine r_istore C dX6_cut_40 (by decide) (fun z_ => [(5, iv z_), (4, iv c0), (0, .ref (a 18)), (1, iv x), (2, iv y), (3, iv z)]) (fun _ => rfl) (fun b0 eb0 => ?_)
          have lp42 : ∀ (N : Nat) (ch : Int) (b : Int) (τ : ST), (y + 1 - b : Int) < N → (CutI 20 σ τ z x b ch ∧ b ≤ y + 1) → J κ 0 0 a n τ [(0, .ref (a 18)), (1, iv x), (2, iv y), (3, iv z), (4, iv ch), (5, iv b)] 42 [] := by
            intro N
            induction N with
            | zero =>
              intro ch b τ hm42 hi42
              exact absurd hm42 (by omega)
            | succ N ih42 =>
              intro ch b τ hm42 hi42
              have hb0 := hi42.1.1
              have hcb := chgN_bd (σ 20) z x (b - x).toNat
              have hce := hi42.1.2.1
              have hsm := hi42.1.same
              have hmb := hmk b
              have e18 := hi42.1.2.2.1 18 (by decide)
              refine r_iload C dX6_cut_42 5 rfl ?_
              refine r_iload_n C dX6_cut_44 2 rfl ?_
              refine r_icmp_gt (tgt := 103) C dX6_cut_45 (by decide) (by omega) (by omega) (fun h10 => ?_) (fun h10 => ?_)
              · skip
                refine r_iload C dX6_cut_103 4 rfl ?_
                exact hret _ _ _ _ dX6_cut_105 (by first | (refine (Or.inl ⟨?_, ?_⟩) <;> first | omega | (rw [show y + 1 = b by omega]; exact hi42.1)) | (refine (Or.inr ⟨?_, ?_, ?_⟩) <;> first | omega | assumption))
              · skip
                refine r_iload C dX6_cut_48 4 rfl ?_
                refine r_aload_n C dX6_cut_50 0 rfl ?_
                refine r_iload C dX6_cut_51 5 rfl ?_
                refine r_callB1 18 C dX6_cut_53 lkX6_103 (m_X6_isCut (by omega)) ⟨rfl, rfl, Nat.le_of_ble_eq_true rfl, Nat.le_of_ble_eq_true rfl⟩ ⟨Nat.zero_le _, Nat.zero_le _⟩ rc18 (Nat.le_of_ble_eq_true rfl) (fun hc => ?_) (fun hc => ?_)
                · skip
                  refine r_iload_n C dX6_cut_56 3 rfl ?_
                  refine r_iconst C dX6_cut_57 ?_
                  refine r_icmp_ne (tgt := 65) C dX6_cut_58 (by decide) (by omega) (by omega) (fun h11 => ?_) (fun h11 => ?_)
                  · skip
                    refine r_iconst C dX6_cut_65 ?_
                    refine r_icmp_eq (tgt := 73) C dX6_cut_66 (by decide) (by decide) (by decide) (fun q => absurd q (by decide)) (fun _ => ?_)
                    refine r_iconst C dX6_cut_69 ?_
                    refine r_goto (tgt := 74) C dX6_cut_70 (by decide) ?_
                    refine r_iadd C dX6_cut_74 ?_
                    refine r_istore C dX6_cut_75 (by decide) (fun z_ => [(4, iv z_), (0, .ref (a 18)), (1, iv x), (2, iv y), (3, iv z), (5, iv b)]) (fun _ => rfl) (fun c2 ec2 => ?_)
                    refine r_aload_n C dX6_cut_77 1 rfl ?_
                    refine gX6_26 C dX6_cut_78 ?_
                    refine r_iload C dX6_cut_81 5 rfl ?_
                    refine r_aload_n C dX6_cut_83 1 rfl ?_
                    refine gX6_26 C dX6_cut_84 ?_
                    refine r_iload C dX6_cut_87 5 rfl ?_
                    refine r_iald 40 C dX6_cut_89 (by omega) (fun _ => rfl) (by omega) (by omega) (by decide) (fun g15 => ?_)
                    refine r_iconst C dX6_cut_90 ?_
                    refine r_iand C dX6_cut_91 ?_
                    rw [hsm, iand_3 hmb]
                    refine r_iconst C dX6_cut_92 ?_
                    refine r_iload_n C dX6_cut_93 4 rfl ?_
                    refine r_imul C dX6_cut_94 ?_
                    refine r_iadd C dX6_cut_95 ?_
                    refine r_iast 40 C dX6_cut_96 (by omega) (fun _ _ => rfl) (by omega) (by omega) (by decide) (by omega) ?_
                    refine r_iinc C dX6_cut_97 (by decide) 5 rfl (fun z_ => [(5, iv z_), (4, iv c2), (0, .ref (a 18)), (1, iv x), (2, iv y), (3, iv z)]) (fun _ => rfl) (fun b2 eb2 => ?_)
                    refine r_goto (tgt := 42) C dX6_cut_100 (by decide) ?_
                    refine r_sub [2, 3, 4, 5, 1, 0] (L' := [(0, .ref (a 18)), (1, iv x), (2, iv y), (3, iv z), (4, iv c2), (5, iv b2)]) rfl ?_
                    exact ih42 _ _ _ (by omega) (by subst eb2; subst ec2; refine ⟨?_, by omega⟩; exact hi42.1.go (by first | rw [if_pos (by omega)] | rw [if_neg (by omega)]))
                  · skip
                    refine r_iconst C dX6_cut_61 ?_
                    refine r_goto (tgt := 66) C dX6_cut_62 (by decide) ?_
                    refine r_icmp_eq (tgt := 73) C dX6_cut_66 (by decide) (by decide) (by decide) (fun _ => ?_) (fun q => absurd q (by decide))
                    refine r_iconst C dX6_cut_73 ?_
                    refine r_iadd C dX6_cut_74 ?_
                    refine r_istore C dX6_cut_75 (by decide) (fun z_ => [(4, iv z_), (0, .ref (a 18)), (1, iv x), (2, iv y), (3, iv z), (5, iv b)]) (fun _ => rfl) (fun c2 ec2 => ?_)
                    refine r_aload_n C dX6_cut_77 1 rfl ?_
                    refine gX6_26 C dX6_cut_78 ?_
                    refine r_iload C dX6_cut_81 5 rfl ?_
                    refine r_aload_n C dX6_cut_83 1 rfl ?_
                    refine gX6_26 C dX6_cut_84 ?_
                    refine r_iload C dX6_cut_87 5 rfl ?_
                    refine r_iald 40 C dX6_cut_89 (by omega) (fun _ => rfl) (by omega) (by omega) (by decide) (fun g19 => ?_)
                    refine r_iconst C dX6_cut_90 ?_
                    refine r_iand C dX6_cut_91 ?_
                    rw [hsm, iand_3 hmb]
                    refine r_iconst C dX6_cut_92 ?_
                    refine r_iload_n C dX6_cut_93 4 rfl ?_
                    refine r_imul C dX6_cut_94 ?_
                    refine r_iadd C dX6_cut_95 ?_
                    refine r_iast 40 C dX6_cut_96 (by omega) (fun _ _ => rfl) (by omega) (by omega) (by decide) (by omega) ?_
                    refine r_iinc C dX6_cut_97 (by decide) 5 rfl (fun z_ => [(5, iv z_), (4, iv c2), (0, .ref (a 18)), (1, iv x), (2, iv y), (3, iv z)]) (fun _ => rfl) (fun b2 eb2 => ?_)
                    refine r_goto (tgt := 42) C dX6_cut_100 (by decide) ?_
                    refine r_sub [2, 3, 4, 5, 1, 0] (L' := [(0, .ref (a 18)), (1, iv x), (2, iv y), (3, iv z), (4, iv c2), (5, iv b2)]) rfl ?_
                    exact ih42 _ _ _ (by omega) (by subst eb2; subst ec2; refine ⟨?_, by omega⟩; exact hi42.1.go (by first | rw [if_pos (by omega)] | rw [if_neg (by omega)]))
                · skip
                  refine r_iload_n C dX6_cut_56 3 rfl ?_
                  refine r_iconst C dX6_cut_57 ?_
                  refine r_icmp_ne (tgt := 65) C dX6_cut_58 (by decide) (by omega) (by omega) (fun h20 => ?_) (fun h20 => ?_)
                  · skip
                    refine r_iconst C dX6_cut_65 ?_
                    refine r_icmp_eq (tgt := 73) C dX6_cut_66 (by decide) (by decide) (by decide) (fun _ => ?_) (fun q => absurd q (by decide))
                    refine r_iconst C dX6_cut_73 ?_
                    refine r_iadd C dX6_cut_74 ?_
                    refine r_istore C dX6_cut_75 (by decide) (fun z_ => [(4, iv z_), (0, .ref (a 18)), (1, iv x), (2, iv y), (3, iv z), (5, iv b)]) (fun _ => rfl) (fun c2 ec2 => ?_)
                    refine r_aload_n C dX6_cut_77 1 rfl ?_
                    refine gX6_26 C dX6_cut_78 ?_
                    refine r_iload C dX6_cut_81 5 rfl ?_
                    refine r_aload_n C dX6_cut_83 1 rfl ?_
                    refine gX6_26 C dX6_cut_84 ?_
                    refine r_iload C dX6_cut_87 5 rfl ?_
                    refine r_iald 40 C dX6_cut_89 (by omega) (fun _ => rfl) (by omega) (by omega) (by decide) (fun g24 => ?_)
                    refine r_iconst C dX6_cut_90 ?_
                    refine r_iand C dX6_cut_91 ?_
                    rw [hsm, iand_3 hmb]
                    refine r_iconst C dX6_cut_92 ?_
                    refine r_iload_n C dX6_cut_93 4 rfl ?_
                    refine r_imul C dX6_cut_94 ?_
                    refine r_iadd C dX6_cut_95 ?_
                    refine r_iast 40 C dX6_cut_96 (by omega) (fun _ _ => rfl) (by omega) (by omega) (by decide) (by omega) ?_
                    refine r_iinc C dX6_cut_97 (by decide) 5 rfl (fun z_ => [(5, iv z_), (4, iv c2), (0, .ref (a 18)), (1, iv x), (2, iv y), (3, iv z)]) (fun _ => rfl) (fun b2 eb2 => ?_)
                    refine r_goto (tgt := 42) C dX6_cut_100 (by decide) ?_
                    refine r_sub [2, 3, 4, 5, 1, 0] (L' := [(0, .ref (a 18)), (1, iv x), (2, iv y), (3, iv z), (4, iv c2), (5, iv b2)]) rfl ?_
                    exact ih42 _ _ _ (by omega) (by subst eb2; subst ec2; refine ⟨?_, by omega⟩; exact hi42.1.go (by first | rw [if_pos (by omega)] | rw [if_neg (by omega)]))
                  · skip
                    refine r_iconst C dX6_cut_61 ?_
                    refine r_goto (tgt := 66) C dX6_cut_62 (by decide) ?_
                    refine r_icmp_eq (tgt := 73) C dX6_cut_66 (by decide) (by decide) (by decide) (fun q => absurd q (by decide)) (fun _ => ?_)
                    refine r_iconst C dX6_cut_69 ?_
                    refine r_goto (tgt := 74) C dX6_cut_70 (by decide) ?_
                    refine r_iadd C dX6_cut_74 ?_
                    refine r_istore C dX6_cut_75 (by decide) (fun z_ => [(4, iv z_), (0, .ref (a 18)), (1, iv x), (2, iv y), (3, iv z), (5, iv b)]) (fun _ => rfl) (fun c2 ec2 => ?_)
                    refine r_aload_n C dX6_cut_77 1 rfl ?_
                    refine gX6_26 C dX6_cut_78 ?_
                    refine r_iload C dX6_cut_81 5 rfl ?_
                    refine r_aload_n C dX6_cut_83 1 rfl ?_
                    refine gX6_26 C dX6_cut_84 ?_
                    refine r_iload C dX6_cut_87 5 rfl ?_
                    refine r_iald 40 C dX6_cut_89 (by omega) (fun _ => rfl) (by omega) (by omega) (by decide) (fun g28 => ?_)
                    refine r_iconst C dX6_cut_90 ?_
                    refine r_iand C dX6_cut_91 ?_
                    rw [hsm, iand_3 hmb]
                    refine r_iconst C dX6_cut_92 ?_
                    refine r_iload_n C dX6_cut_93 4 rfl ?_
                    refine r_imul C dX6_cut_94 ?_
                    refine r_iadd C dX6_cut_95 ?_
                    refine r_iast 40 C dX6_cut_96 (by omega) (fun _ _ => rfl) (by omega) (by omega) (by decide) (by omega) ?_
                    refine r_iinc C dX6_cut_97 (by decide) 5 rfl (fun z_ => [(5, iv z_), (4, iv c2), (0, .ref (a 18)), (1, iv x), (2, iv y), (3, iv z)]) (fun _ => rfl) (fun b2 eb2 => ?_)
                    refine r_goto (tgt := 42) C dX6_cut_100 (by decide) ?_
                    refine r_sub [2, 3, 4, 5, 1, 0] (L' := [(0, .ref (a 18)), (1, iv x), (2, iv y), (3, iv z), (4, iv c2), (5, iv b2)]) rfl ?_
                    exact ih42 _ _ _ (by omega) (by subst eb2; subst ec2; refine ⟨?_, by omega⟩; exact hi42.1.go (by first | rw [if_pos (by omega)] | rw [if_neg (by omega)]))
          refine r_sub [2, 3, 4, 5, 1, 0] (L' := [(0, .ref (a 18)), (1, iv x), (2, iv y), (3, iv z), (4, iv c0), (5, iv b0)]) rfl ?_
          exact lp42 ((y + 1 - x : Int).toNat + 1) _ _ _ (by omega) (by subst eb0; subst ec0; exact ⟨⟨by omega, by simp [chgN], fun _ _ => rfl, fun j => by rw [if_neg (by omega)]⟩, by omega⟩)
        · skip
          refine r_if_ne (tgt := 36) C dX6_cut_27 (by decide) (by decide) (fun q => absurd q (by decide)) (fun _ => ?_)
          refine r_aload_n C dX6_cut_30 0 rfl ?_
          refine r_iconst C dX6_cut_31 ?_
          refine r_callI1 18 C dX6_cut_32 lkX6_92 (m_X6_finds (by omega) (MS.F (by assumption) _)) ⟨rfl, rfl, Nat.le_of_ble_eq_true rfl, Nat.le_of_ble_eq_true rfl⟩ ⟨Nat.zero_le _, Nat.zero_le _⟩ rc18 (Nat.le_of_ble_eq_true rfl) (fun r30 s31 hr30 => ?_)
          obtain ⟨er30, hr30⟩ := hr30
          exact hret _ _ _ _ dX6_cut_35 (by first | (refine (Or.inl ⟨?_, ?_⟩) <;> first | omega | (rw [show y + 1 = b by omega]; exact hi42.1)) | (refine (Or.inr ⟨?_, ?_, ?_⟩) <;> first | omega | assumption))
    · skip
      refine r_if_eq (tgt := 30) C dX6_cut_13 (by decide) (by decide) (fun _ => ?_) (fun q => absurd q (by decide))
      refine r_aload_n C dX6_cut_30 0 rfl ?_
      refine r_iconst C dX6_cut_31 ?_
      refine r_callI1 18 C dX6_cut_32 lkX6_92 (m_X6_finds (by omega) (MS.F (by assumption) _)) ⟨rfl, rfl, Nat.le_of_ble_eq_true rfl, Nat.le_of_ble_eq_true rfl⟩ ⟨Nat.zero_le _, Nat.zero_le _⟩ rc18 (Nat.le_of_ble_eq_true rfl) (fun r33 s34 hr33 => ?_)
      obtain ⟨er33, hr33⟩ := hr33
      exact hret _ _ _ _ dX6_cut_35 (by first | (refine (Or.inl ⟨?_, ?_⟩) <;> first | omega | (rw [show y + 1 = b by omega]; exact hi42.1)) | (refine (Or.inr ⟨?_, ?_, ?_⟩) <;> first | omega | assumption))
  · skip
    refine r_if_eq (tgt := 30) C dX6_cut_5 (by decide) (by decide) (fun _ => ?_) (fun q => absurd q (by decide))
    refine r_aload_n C dX6_cut_30 0 rfl ?_
    refine r_iconst C dX6_cut_31 ?_
    refine r_callI1 18 C dX6_cut_32 lkX6_92 (m_X6_finds (by omega) (MS.F (by assumption) _)) ⟨rfl, rfl, Nat.le_of_ble_eq_true rfl, Nat.le_of_ble_eq_true rfl⟩ ⟨Nat.zero_le _, Nat.zero_le _⟩ rc18 (Nat.le_of_ble_eq_true rfl) (fun r36 s37 hr36 => ?_)
    obtain ⟨er36, hr36⟩ := hr36
    exact hret _ _ _ _ dX6_cut_35 (by first | (refine (Or.inl ⟨?_, ?_⟩) <;> first | omega | (rw [show y + 1 = b by omega]; exact hi42.1)) | (refine (Or.inr ⟨?_, ?_, ?_⟩) <;> first | omega | assumption))

def secN (mk S : Int → Int) : Nat → Int
  | 0 => 0
  | b + 1 => secN mk S b + (if mk b ≤ 3 then S b else 0)
theorem secN_s (mk S : Int → Int) {b : Int} (h : 0 ≤ b) : secN mk S (b + 1).toNat = secN mk S b.toNat + (if mk b ≤ 3 then S b else 0) := by
  rw [show (b + 1).toNat = b.toNat + 1 by omega]
  show secN mk S b.toNat + (if mk (b.toNat : Int) ≤ 3 then S (b.toNat : Int) else 0) = _
  rw [show ((b.toNat : Nat) : Int) = b by omega]
theorem secN_bd (mk S : Int → Int) (hS : ∀ i, 0 ≤ S i ∧ S i ≤ 60) : ∀ b : Nat, 0 ≤ secN mk S b ∧ secN mk S b ≤ 60 * b
  | 0 => by simp [secN]
  | b + 1 => by
    have := secN_bd mk S hS b
    have h2 := hS b
    unfold secN
    split <;> omega
def laidN (lp : Int → Int) : Nat → Int
  | 0 => 0
  | b + 1 => laidN lp b + (if 0 < lp b then 1 else 0)
theorem laidN_s (lp : Int → Int) {b : Int} (h : 0 ≤ b) : laidN lp (b + 1).toNat = laidN lp b.toNat + (if 0 < lp b then 1 else 0) := by
  rw [show (b + 1).toNat = b.toNat + 1 by omega]
  show laidN lp b.toNat + (if 0 < lp (b.toNat : Int) then 1 else 0) = _
  rw [show ((b.toNat : Nat) : Int) = b by omega]
theorem laidN_bd (lp : Int → Int) : ∀ b : Nat, 0 ≤ laidN lp b ∧ laidN lp b ≤ b
  | 0 => by simp [laidN]
  | b + 1 => by
    have := laidN_bd lp b
    unfold laidN
    split <;> omega
set_option maxHeartbeats 4000000 in
set_option maxRecDepth 100000 in
theorem m_X6_count {a : Nat → Nat} {n : Nat} {σ : ST} (hM : MS σ) {w : Int} (hw : inR w) : MI yX6_count cX6_count 4 .int (RM 1 21) a n σ [.ref (a 18), iv w] (fun r σ1 => (w = 0 ∧ r = σ 18 0 ∧ σ1 = σ) ∨ (w = 1 ∧ r = σ 18 1 ∧ σ1 = σ) ∨ (w = 2 ∧ r = σ 18 0 - cntN (σ 20) (σ 18 0).toNat ∧ σ1 = σ) ∨ (w = 3 ∧ r = secN (σ 20) (σ 19) (σ 18 0).toNat ∧ σ1 = σ) ∨ (w = 4 ∧ r = σ 18 2 ∧ σ1 = σ) ∨ (w = 5 ∧ r = laidN (σ 32) (σ 18 1).toNat ∧ σ1 = σ) ∨ (¬ (0 ≤ w ∧ w ≤ 5) ∧ r = -1000001 ∧ σ1 = fd σ 27 1)) := by
  refine MI.of (own := RX6) (by decide +kernel) rfl (Nat.le_of_ble_eq_true rfl) ?_
  intro κ C hret
  show J κ 0 0 a n σ [(0, .ref (a 18)), (1, iv w)] 0 []
  obtain ⟨hb, hvn, hwt, hky, hdu, hwd, hli, hne, hse, hmk, hkd, hsh, hos, hpl, hld, hF, hlp, hpo⟩ := id hM
  refine r_iconst C dX6_count_0 ?_
  refine r_istore_n C dX6_count_1 (by decide) (fun z_ => [(2, iv z_), (0, .ref (a 18)), (1, iv w)]) (fun _ => rfl) (fun s0 es0 => ?_)
  refine r_iload_n C dX6_count_2 2 rfl ?_
  rcases (show w = 0 ∨ w = 1 ∨ w = 2 ∨ w = 3 ∨ w = 4 ∨ w = 5 ∨ (w < 0 ∨ 5 < w) by omega) with rfl | rfl | rfl | rfl | rfl | rfl | hsw
  · skip
    refine r_tIn (off := 37) (tgt := 40) C dX6_count_3 (by omega) (by decide) (by decide) rfl (by decide) ?_
    refine r_aload_n C dX6_count_40 1 rfl ?_
    refine gX6_82 C dX6_count_41 (fun g1 => ?_)
    exact hret _ _ _ _ dX6_count_44 (by first | (refine (Or.inl ⟨?_, ?_, ?_⟩) <;> first | omega | assumption | rfl) | (refine (Or.inr (Or.inl ⟨?_, ?_, ?_⟩)) <;> first | omega | assumption | rfl) | (refine (Or.inr (Or.inr (Or.inl ⟨?_, ?_, ?_⟩))) <;> first | omega | assumption | rfl) | (refine (Or.inr (Or.inr (Or.inr (Or.inl ⟨?_, ?_, ?_⟩)))) <;> first | omega | assumption | rfl) | (refine (Or.inr (Or.inr (Or.inr (Or.inr (Or.inl ⟨?_, ?_, ?_⟩))))) <;> first | omega | assumption | rfl) | (refine (Or.inr (Or.inr (Or.inr (Or.inr (Or.inr (Or.inl ⟨?_, ?_, ?_⟩)))))) <;> first | omega | assumption | rfl) | (refine (Or.inr (Or.inr (Or.inr (Or.inr (Or.inr (Or.inr ⟨?_, ?_, ?_⟩)))))) <;> first | omega | assumption | rfl) | (obtain ⟨-, hb9, he9⟩ := hi52; refine (Or.inr (Or.inr (Or.inl ⟨?_, ?_, ?_⟩))) <;> first | omega | rfl | (rw [he9, show b = σ 18 0 by omega])) | (obtain ⟨-, hb9, he9⟩ := hi86; refine (Or.inr (Or.inr (Or.inr (Or.inl ⟨?_, ?_, ?_⟩)))) <;> first | omega | rfl | (rw [he9, show b = σ 18 0 by omega])) | (obtain ⟨-, hb9, he9⟩ := hi130; refine (Or.inr (Or.inr (Or.inr (Or.inr (Or.inr (Or.inl ⟨?_, ?_, ?_⟩)))))) <;> first | omega | rfl | (rw [he9, show b = σ 18 1 by omega])))
  · skip
    refine r_tIn (off := 42) (tgt := 45) C dX6_count_3 (by omega) (by decide) (by decide) rfl (by decide) ?_
    refine r_aload_n C dX6_count_45 1 rfl ?_
    refine gX6_89 C dX6_count_46 (fun g2 => ?_)
    exact hret _ _ _ _ dX6_count_49 (by first | (refine (Or.inl ⟨?_, ?_, ?_⟩) <;> first | omega | assumption | rfl) | (refine (Or.inr (Or.inl ⟨?_, ?_, ?_⟩)) <;> first | omega | assumption | rfl) | (refine (Or.inr (Or.inr (Or.inl ⟨?_, ?_, ?_⟩))) <;> first | omega | assumption | rfl) | (refine (Or.inr (Or.inr (Or.inr (Or.inl ⟨?_, ?_, ?_⟩)))) <;> first | omega | assumption | rfl) | (refine (Or.inr (Or.inr (Or.inr (Or.inr (Or.inl ⟨?_, ?_, ?_⟩))))) <;> first | omega | assumption | rfl) | (refine (Or.inr (Or.inr (Or.inr (Or.inr (Or.inr (Or.inl ⟨?_, ?_, ?_⟩)))))) <;> first | omega | assumption | rfl) | (refine (Or.inr (Or.inr (Or.inr (Or.inr (Or.inr (Or.inr ⟨?_, ?_, ?_⟩)))))) <;> first | omega | assumption | rfl) | (obtain ⟨-, hb9, he9⟩ := hi52; refine (Or.inr (Or.inr (Or.inl ⟨?_, ?_, ?_⟩))) <;> first | omega | rfl | (rw [he9, show b = σ 18 0 by omega])) | (obtain ⟨-, hb9, he9⟩ := hi86; refine (Or.inr (Or.inr (Or.inr (Or.inl ⟨?_, ?_, ?_⟩)))) <;> first | omega | rfl | (rw [he9, show b = σ 18 0 by omega])) | (obtain ⟨-, hb9, he9⟩ := hi130; refine (Or.inr (Or.inr (Or.inr (Or.inr (Or.inr (Or.inl ⟨?_, ?_, ?_⟩)))))) <;> first | omega | rfl | (rw [he9, show b = σ 18 1 by omega])))
  · skip
    refine r_tIn (off := 47) (tgt := 50) C dX6_count_3 (by omega) (by decide) (by decide) rfl (by decide) ?_
    refine r_iconst C dX6_count_50 ?_
    refine r_istore_n C dX6_count_51 (by decide) (fun z_ => [(3, iv z_), (2, iv s0), (0, .ref (a 18)), (1, iv 2)]) (fun _ => rfl) (fun b52 eb52 => ?_)
    have lp52 : ∀ (N : Nat) (su : Int) (b : Int), (σ 18 0 - b : Int) < N → (0 ≤ b ∧ b ≤ σ 18 0 ∧ su = b - cntN (σ 20) b.toNat) → J κ 0 0 a n σ [(0, .ref (a 18)), (1, iv 2), (2, iv su), (3, iv b)] 52 [] := by
      intro N
      induction N with
      | zero =>
        intro su b hm52 hi52
        exact absurd hm52 (by omega)
      | succ N ih52 =>
        intro su b hm52 hi52
        have hbd := cntN_bd (σ 20) b.toNat
        refine r_iload_n C dX6_count_52 3 rfl ?_
        refine r_aload_n C dX6_count_53 0 rfl ?_
        refine gX6_82 C dX6_count_54 (fun g3 => ?_)
        refine r_icmp_ge (tgt := 82) C dX6_count_57 (by decide) (by omega) (by omega) (fun h4 => ?_) (fun h4 => ?_)
        · skip
          refine r_iload_n C dX6_count_82 2 rfl ?_
          exact hret _ _ _ _ dX6_count_83 (by first | (refine (Or.inl ⟨?_, ?_, ?_⟩) <;> first | omega | assumption | rfl) | (refine (Or.inr (Or.inl ⟨?_, ?_, ?_⟩)) <;> first | omega | assumption | rfl) | (refine (Or.inr (Or.inr (Or.inl ⟨?_, ?_, ?_⟩))) <;> first | omega | assumption | rfl) | (refine (Or.inr (Or.inr (Or.inr (Or.inl ⟨?_, ?_, ?_⟩)))) <;> first | omega | assumption | rfl) | (refine (Or.inr (Or.inr (Or.inr (Or.inr (Or.inl ⟨?_, ?_, ?_⟩))))) <;> first | omega | assumption | rfl) | (refine (Or.inr (Or.inr (Or.inr (Or.inr (Or.inr (Or.inl ⟨?_, ?_, ?_⟩)))))) <;> first | omega | assumption | rfl) | (refine (Or.inr (Or.inr (Or.inr (Or.inr (Or.inr (Or.inr ⟨?_, ?_, ?_⟩)))))) <;> first | omega | assumption | rfl) | (obtain ⟨-, hb9, he9⟩ := hi52; refine (Or.inr (Or.inr (Or.inl ⟨?_, ?_, ?_⟩))) <;> first | omega | rfl | (rw [he9, show b = σ 18 0 by omega])) | (obtain ⟨-, hb9, he9⟩ := hi86; refine (Or.inr (Or.inr (Or.inr (Or.inl ⟨?_, ?_, ?_⟩)))) <;> first | omega | rfl | (rw [he9, show b = σ 18 0 by omega])) | (obtain ⟨-, hb9, he9⟩ := hi130; refine (Or.inr (Or.inr (Or.inr (Or.inr (Or.inr (Or.inl ⟨?_, ?_, ?_⟩)))))) <;> first | omega | rfl | (rw [he9, show b = σ 18 1 by omega])))
        · skip
          refine r_iload_n C dX6_count_60 2 rfl ?_
          refine r_aload_n C dX6_count_61 0 rfl ?_
          refine r_iload_n C dX6_count_62 3 rfl ?_
          refine r_callB1 18 C dX6_count_63 lkX6_103 (m_X6_isCut (by omega)) ⟨rfl, rfl, Nat.le_of_ble_eq_true rfl, Nat.le_of_ble_eq_true rfl⟩ ⟨Nat.zero_le _, Nat.zero_le _⟩ rc18 (Nat.le_of_ble_eq_true rfl) (fun hc => ?_) (fun hc => ?_)
          · skip
            refine r_if_eq (tgt := 73) C dX6_count_66 (by decide) (by decide) (fun q => absurd q (by decide)) (fun _ => ?_)
            refine r_iconst C dX6_count_69 ?_
            refine r_goto (tgt := 74) C dX6_count_70 (by decide) ?_
            refine r_iadd C dX6_count_74 ?_
            refine r_istore_n C dX6_count_75 (by decide) (fun z_ => [(2, iv z_), (0, .ref (a 18)), (1, iv 2), (3, iv b)]) (fun _ => rfl) (fun s2 es2 => ?_)
            refine r_iinc C dX6_count_76 (by decide) 3 rfl (fun z_ => [(3, iv z_), (2, iv s2), (0, .ref (a 18)), (1, iv 2)]) (fun _ => rfl) (fun c2 ec2 => ?_)
            refine r_goto (tgt := 52) C dX6_count_79 (by decide) ?_
            refine r_sub [2, 3, 1, 0] (L' := [(0, .ref (a 18)), (1, iv 2), (2, iv s2), (3, iv c2)]) rfl ?_
            exact ih52 _ _ (by omega) (by subst ec2; subst es2; refine ⟨by omega, by omega, ?_⟩; rw [cntN_s _ (by omega)]; first | (rw [if_pos (by omega)]; omega) | (rw [if_neg (by omega)]; omega))
          · skip
            refine r_if_eq (tgt := 73) C dX6_count_66 (by decide) (by decide) (fun _ => ?_) (fun q => absurd q (by decide))
            refine r_iconst C dX6_count_73 ?_
            refine r_iadd C dX6_count_74 ?_
            refine r_istore_n C dX6_count_75 (by decide) (fun z_ => [(2, iv z_), (0, .ref (a 18)), (1, iv 2), (3, iv b)]) (fun _ => rfl) (fun s2 es2 => ?_)
            refine r_iinc C dX6_count_76 (by decide) 3 rfl (fun z_ => [(3, iv z_), (2, iv s2), (0, .ref (a 18)), (1, iv 2)]) (fun _ => rfl) (fun c2 ec2 => ?_)
            refine r_goto (tgt := 52) C dX6_count_79 (by decide) ?_
            refine r_sub [2, 3, 1, 0] (L' := [(0, .ref (a 18)), (1, iv 2), (2, iv s2), (3, iv c2)]) rfl ?_
            exact ih52 _ _ (by omega) (by subst ec2; subst es2; refine ⟨by omega, by omega, ?_⟩; rw [cntN_s _ (by omega)]; first | (rw [if_pos (by omega)]; omega) | (rw [if_neg (by omega)]; omega))
    refine r_sub [2, 3, 1, 0] (L' := [(0, .ref (a 18)), (1, iv 2), (2, iv s0), (3, iv b52)]) rfl ?_
    exact lp52 ((σ 18 0 : Int).toNat + 1) _ _ (by omega) (by subst es0; subst eb52; exact ⟨by omega, by omega, rfl⟩)
  · skip
    refine r_tIn (off := 81) (tgt := 84) C dX6_count_3 (by omega) (by decide) (by decide) rfl (by decide) ?_
    refine r_iconst C dX6_count_84 ?_
    refine r_istore_n C dX6_count_85 (by decide) (fun z_ => [(3, iv z_), (2, iv s0), (0, .ref (a 18)), (1, iv 3)]) (fun _ => rfl) (fun b86 eb86 => ?_)
    have lp86 : ∀ (N : Nat) (su : Int) (b : Int), (σ 18 0 - b : Int) < N → (0 ≤ b ∧ b ≤ σ 18 0 ∧ su = secN (σ 20) (σ 19) b.toNat) → J κ 0 0 a n σ [(0, .ref (a 18)), (1, iv 3), (2, iv su), (3, iv b)] 86 [] := by
      intro N
      induction N with
      | zero =>
        intro su b hm86 hi86
        exact absurd hm86 (by omega)
      | succ N ih86 =>
        intro su b hm86 hi86
        have hbd := secN_bd (σ 20) (σ 19) hse b.toNat
        refine r_iload_n C dX6_count_86 3 rfl ?_
        refine r_aload_n C dX6_count_87 0 rfl ?_
        refine gX6_82 C dX6_count_88 (fun g7 => ?_)
        refine r_icmp_ge (tgt := 121) C dX6_count_91 (by decide) (by omega) (by omega) (fun h8 => ?_) (fun h8 => ?_)
        · skip
          refine r_iload_n C dX6_count_121 2 rfl ?_
          exact hret _ _ _ _ dX6_count_122 (by first | (refine (Or.inl ⟨?_, ?_, ?_⟩) <;> first | omega | assumption | rfl) | (refine (Or.inr (Or.inl ⟨?_, ?_, ?_⟩)) <;> first | omega | assumption | rfl) | (refine (Or.inr (Or.inr (Or.inl ⟨?_, ?_, ?_⟩))) <;> first | omega | assumption | rfl) | (refine (Or.inr (Or.inr (Or.inr (Or.inl ⟨?_, ?_, ?_⟩)))) <;> first | omega | assumption | rfl) | (refine (Or.inr (Or.inr (Or.inr (Or.inr (Or.inl ⟨?_, ?_, ?_⟩))))) <;> first | omega | assumption | rfl) | (refine (Or.inr (Or.inr (Or.inr (Or.inr (Or.inr (Or.inl ⟨?_, ?_, ?_⟩)))))) <;> first | omega | assumption | rfl) | (refine (Or.inr (Or.inr (Or.inr (Or.inr (Or.inr (Or.inr ⟨?_, ?_, ?_⟩)))))) <;> first | omega | assumption | rfl) | (obtain ⟨-, hb9, he9⟩ := hi52; refine (Or.inr (Or.inr (Or.inl ⟨?_, ?_, ?_⟩))) <;> first | omega | rfl | (rw [he9, show b = σ 18 0 by omega])) | (obtain ⟨-, hb9, he9⟩ := hi86; refine (Or.inr (Or.inr (Or.inr (Or.inl ⟨?_, ?_, ?_⟩)))) <;> first | omega | rfl | (rw [he9, show b = σ 18 0 by omega])) | (obtain ⟨-, hb9, he9⟩ := hi130; refine (Or.inr (Or.inr (Or.inr (Or.inr (Or.inr (Or.inl ⟨?_, ?_, ?_⟩)))))) <;> first | omega | rfl | (rw [he9, show b = σ 18 1 by omega])))
        · skip
          refine r_iload_n C dX6_count_94 2 rfl ?_
          refine r_aload_n C dX6_count_95 0 rfl ?_
          refine r_iload_n C dX6_count_96 3 rfl ?_
          refine r_callB1 18 C dX6_count_97 lkX6_103 (m_X6_isCut (by omega)) ⟨rfl, rfl, Nat.le_of_ble_eq_true rfl, Nat.le_of_ble_eq_true rfl⟩ ⟨Nat.zero_le _, Nat.zero_le _⟩ rc18 (Nat.le_of_ble_eq_true rfl) (fun hc => ?_) (fun hc => ?_)
          · skip
            refine r_if_eq (tgt := 107) C dX6_count_100 (by decide) (by decide) (fun q => absurd q (by decide)) (fun _ => ?_)
            refine r_iconst C dX6_count_103 ?_
            refine r_goto (tgt := 113) C dX6_count_104 (by decide) ?_
            refine r_iadd C dX6_count_113 ?_
            refine r_istore_n C dX6_count_114 (by decide) (fun z_ => [(2, iv z_), (0, .ref (a 18)), (1, iv 3), (3, iv b)]) (fun _ => rfl) (fun s3 es3 => ?_)
            refine r_iinc C dX6_count_115 (by decide) 3 rfl (fun z_ => [(3, iv z_), (2, iv s3), (0, .ref (a 18)), (1, iv 3)]) (fun _ => rfl) (fun c3 ec3 => ?_)
            refine r_goto (tgt := 86) C dX6_count_118 (by decide) ?_
            refine r_sub [2, 3, 1, 0] (L' := [(0, .ref (a 18)), (1, iv 3), (2, iv s3), (3, iv c3)]) rfl ?_
            exact ih86 _ _ (by omega) (by subst ec3; subst es3; refine ⟨by omega, by omega, ?_⟩; rw [secN_s _ _ (by omega)]; first | (rw [if_pos (by omega)]; omega) | (rw [if_neg (by omega)]; omega))
          · skip
            refine r_if_eq (tgt := 107) C dX6_count_100 (by decide) (by decide) (fun _ => ?_) (fun q => absurd q (by decide))
            refine r_aload_n C dX6_count_107 0 rfl ?_
            refine gX6_22 C dX6_count_108 ?_
            refine r_iload_n C dX6_count_111 3 rfl ?_
            have hsb := hse b
            refine r_iald 40 C dX6_count_112 (by omega) (fun _ => rfl) (by omega) (by omega) (by decide) (fun g12 => ?_)
            refine r_iadd C dX6_count_113 ?_
            refine r_istore_n C dX6_count_114 (by decide) (fun z_ => [(2, iv z_), (0, .ref (a 18)), (1, iv 3), (3, iv b)]) (fun _ => rfl) (fun s3 es3 => ?_)
            refine r_iinc C dX6_count_115 (by decide) 3 rfl (fun z_ => [(3, iv z_), (2, iv s3), (0, .ref (a 18)), (1, iv 3)]) (fun _ => rfl) (fun c3 ec3 => ?_)
            refine r_goto (tgt := 86) C dX6_count_118 (by decide) ?_
            refine r_sub [2, 3, 1, 0] (L' := [(0, .ref (a 18)), (1, iv 3), (2, iv s3), (3, iv c3)]) rfl ?_
            exact ih86 _ _ (by omega) (by subst ec3; subst es3; refine ⟨by omega, by omega, ?_⟩; rw [secN_s _ _ (by omega)]; first | (rw [if_pos (by omega)]; omega) | (rw [if_neg (by omega)]; omega))
    refine r_sub [2, 3, 1, 0] (L' := [(0, .ref (a 18)), (1, iv 3), (2, iv s0), (3, iv b86)]) rfl ?_
    exact lp86 ((σ 18 0 : Int).toNat + 1) _ _ (by omega) (by subst es0; subst eb86; exact ⟨by omega, by omega, rfl⟩)
  · skip
    refine r_tIn (off := 120) (tgt := 123) C dX6_count_3 (by omega) (by decide) (by decide) rfl (by decide) ?_
    refine r_aload_n C dX6_count_123 1 rfl ?_
    refine gX6_150 C dX6_count_124 (fun g13 => ?_)
    exact hret _ _ _ _ dX6_count_127 (by first | (refine (Or.inl ⟨?_, ?_, ?_⟩) <;> first | omega | assumption | rfl) | (refine (Or.inr (Or.inl ⟨?_, ?_, ?_⟩)) <;> first | omega | assumption | rfl) | (refine (Or.inr (Or.inr (Or.inl ⟨?_, ?_, ?_⟩))) <;> first | omega | assumption | rfl) | (refine (Or.inr (Or.inr (Or.inr (Or.inl ⟨?_, ?_, ?_⟩)))) <;> first | omega | assumption | rfl) | (refine (Or.inr (Or.inr (Or.inr (Or.inr (Or.inl ⟨?_, ?_, ?_⟩))))) <;> first | omega | assumption | rfl) | (refine (Or.inr (Or.inr (Or.inr (Or.inr (Or.inr (Or.inl ⟨?_, ?_, ?_⟩)))))) <;> first | omega | assumption | rfl) | (refine (Or.inr (Or.inr (Or.inr (Or.inr (Or.inr (Or.inr ⟨?_, ?_, ?_⟩)))))) <;> first | omega | assumption | rfl) | (obtain ⟨-, hb9, he9⟩ := hi52; refine (Or.inr (Or.inr (Or.inl ⟨?_, ?_, ?_⟩))) <;> first | omega | rfl | (rw [he9, show b = σ 18 0 by omega])) | (obtain ⟨-, hb9, he9⟩ := hi86; refine (Or.inr (Or.inr (Or.inr (Or.inl ⟨?_, ?_, ?_⟩)))) <;> first | omega | rfl | (rw [he9, show b = σ 18 0 by omega])) | (obtain ⟨-, hb9, he9⟩ := hi130; refine (Or.inr (Or.inr (Or.inr (Or.inr (Or.inr (Or.inl ⟨?_, ?_, ?_⟩)))))) <;> first | omega | rfl | (rw [he9, show b = σ 18 1 by omega])))
  · skip
    refine r_tIn (off := 125) (tgt := 128) C dX6_count_3 (by omega) (by decide) (by decide) rfl (by decide) ?_
    refine r_iconst C dX6_count_128 ?_
    refine r_istore_n C dX6_count_129 (by decide) (fun z_ => [(3, iv z_), (2, iv s0), (0, .ref (a 18)), (1, iv 5)]) (fun _ => rfl) (fun b130 eb130 => ?_)
    have lp130 : ∀ (N : Nat) (su : Int) (b : Int), (σ 18 1 - b : Int) < N → (0 ≤ b ∧ b ≤ σ 18 1 ∧ su = laidN (σ 32) b.toNat) → J κ 0 0 a n σ [(0, .ref (a 18)), (1, iv 5), (2, iv su), (3, iv b)] 130 [] := by
      intro N
      induction N with
      | zero =>
        intro su b hm130 hi130
        exact absurd hm130 (by omega)
      | succ N ih130 =>
        intro su b hm130 hi130
        have hbd := laidN_bd (σ 32) b.toNat
        refine r_iload_n C dX6_count_130 3 rfl ?_
        refine r_aload_n C dX6_count_131 0 rfl ?_
        refine gX6_89 C dX6_count_132 (fun g14 => ?_)
        refine r_icmp_ge (tgt := 161) C dX6_count_135 (by decide) (by omega) (by omega) (fun h15 => ?_) (fun h15 => ?_)
        · skip
          refine r_iload_n C dX6_count_161 2 rfl ?_
          exact hret _ _ _ _ dX6_count_162 (by first | (refine (Or.inl ⟨?_, ?_, ?_⟩) <;> first | omega | assumption | rfl) | (refine (Or.inr (Or.inl ⟨?_, ?_, ?_⟩)) <;> first | omega | assumption | rfl) | (refine (Or.inr (Or.inr (Or.inl ⟨?_, ?_, ?_⟩))) <;> first | omega | assumption | rfl) | (refine (Or.inr (Or.inr (Or.inr (Or.inl ⟨?_, ?_, ?_⟩)))) <;> first | omega | assumption | rfl) | (refine (Or.inr (Or.inr (Or.inr (Or.inr (Or.inl ⟨?_, ?_, ?_⟩))))) <;> first | omega | assumption | rfl) | (refine (Or.inr (Or.inr (Or.inr (Or.inr (Or.inr (Or.inl ⟨?_, ?_, ?_⟩)))))) <;> first | omega | assumption | rfl) | (refine (Or.inr (Or.inr (Or.inr (Or.inr (Or.inr (Or.inr ⟨?_, ?_, ?_⟩)))))) <;> first | omega | assumption | rfl) | (obtain ⟨-, hb9, he9⟩ := hi52; refine (Or.inr (Or.inr (Or.inl ⟨?_, ?_, ?_⟩))) <;> first | omega | rfl | (rw [he9, show b = σ 18 0 by omega])) | (obtain ⟨-, hb9, he9⟩ := hi86; refine (Or.inr (Or.inr (Or.inr (Or.inl ⟨?_, ?_, ?_⟩)))) <;> first | omega | rfl | (rw [he9, show b = σ 18 0 by omega])) | (obtain ⟨-, hb9, he9⟩ := hi130; refine (Or.inr (Or.inr (Or.inr (Or.inr (Or.inr (Or.inl ⟨?_, ?_, ?_⟩)))))) <;> first | omega | rfl | (rw [he9, show b = σ 18 1 by omega])))
        · skip
          refine r_iload_n C dX6_count_138 2 rfl ?_
          refine r_aload_n C dX6_count_139 0 rfl ?_
          refine gX6_62 C dX6_count_140 ?_
          refine r_iload_n C dX6_count_143 3 rfl ?_
          refine r_iald 6 C dX6_count_144 (by omega) (fun _ => rfl) (by omega) (by omega) (by decide) (fun g17 => ?_)
          refine r_if_le (tgt := 152) C dX6_count_145 (by decide) (by omega) (fun hc => ?_) (fun hc => ?_)
          · skip
            refine r_iconst C dX6_count_152 ?_
            refine r_iadd C dX6_count_153 ?_
            refine r_istore_n C dX6_count_154 (by decide) (fun z_ => [(2, iv z_), (0, .ref (a 18)), (1, iv 5), (3, iv b)]) (fun _ => rfl) (fun s4 es4 => ?_)
            refine r_iinc C dX6_count_155 (by decide) 3 rfl (fun z_ => [(3, iv z_), (2, iv s4), (0, .ref (a 18)), (1, iv 5)]) (fun _ => rfl) (fun c4 ec4 => ?_)
            refine r_goto (tgt := 130) C dX6_count_158 (by decide) ?_
            refine r_sub [2, 3, 1, 0] (L' := [(0, .ref (a 18)), (1, iv 5), (2, iv s4), (3, iv c4)]) rfl ?_
            exact ih130 _ _ (by omega) (by subst ec4; subst es4; refine ⟨by omega, by omega, ?_⟩; rw [laidN_s _ (by omega)]; first | (rw [if_pos (by omega)]; omega) | (rw [if_neg (by omega)]; omega))
          · skip
            refine r_iconst C dX6_count_148 ?_
            refine r_goto (tgt := 153) C dX6_count_149 (by decide) ?_
            refine r_iadd C dX6_count_153 ?_
            refine r_istore_n C dX6_count_154 (by decide) (fun z_ => [(2, iv z_), (0, .ref (a 18)), (1, iv 5), (3, iv b)]) (fun _ => rfl) (fun s4 es4 => ?_)
            refine r_iinc C dX6_count_155 (by decide) 3 rfl (fun z_ => [(3, iv z_), (2, iv s4), (0, .ref (a 18)), (1, iv 5)]) (fun _ => rfl) (fun c4 ec4 => ?_)
            refine r_goto (tgt := 130) C dX6_count_158 (by decide) ?_
            refine r_sub [2, 3, 1, 0] (L' := [(0, .ref (a 18)), (1, iv 5), (2, iv s4), (3, iv c4)]) rfl ?_
            exact ih130 _ _ (by omega) (by subst ec4; subst es4; refine ⟨by omega, by omega, ?_⟩; rw [laidN_s _ (by omega)]; first | (rw [if_pos (by omega)]; omega) | (rw [if_neg (by omega)]; omega))
    refine r_sub [2, 3, 1, 0] (L' := [(0, .ref (a 18)), (1, iv 5), (2, iv s0), (3, iv b130)]) rfl ?_
    exact lp130 ((σ 18 1 : Int).toNat + 1) _ _ (by omega) (by subst es0; subst eb130; exact ⟨by omega, by omega, rfl⟩)
  · skip
    refine r_tOut (tgt := 163) C dX6_count_3 (by omega) (by omega) (by decide) ?_
    refine r_aload_n C dX6_count_163 1 rfl ?_
    refine r_iconst C dX6_count_164 ?_
    refine r_callI1 18 C dX6_count_165 lkX6_92 (m_X6_finds (by omega) (MS.F (by assumption) _)) ⟨rfl, rfl, Nat.le_of_ble_eq_true rfl, Nat.le_of_ble_eq_true rfl⟩ ⟨Nat.zero_le _, Nat.zero_le _⟩ rc18 (Nat.le_of_ble_eq_true rfl) (fun r19 s20 hr19 => ?_)
    obtain ⟨er19, hr19⟩ := hr19
    exact hret _ _ _ _ dX6_count_168 (by first | (refine (Or.inl ⟨?_, ?_, ?_⟩) <;> first | omega | assumption | rfl) | (refine (Or.inr (Or.inl ⟨?_, ?_, ?_⟩)) <;> first | omega | assumption | rfl) | (refine (Or.inr (Or.inr (Or.inl ⟨?_, ?_, ?_⟩))) <;> first | omega | assumption | rfl) | (refine (Or.inr (Or.inr (Or.inr (Or.inl ⟨?_, ?_, ?_⟩)))) <;> first | omega | assumption | rfl) | (refine (Or.inr (Or.inr (Or.inr (Or.inr (Or.inl ⟨?_, ?_, ?_⟩))))) <;> first | omega | assumption | rfl) | (refine (Or.inr (Or.inr (Or.inr (Or.inr (Or.inr (Or.inl ⟨?_, ?_, ?_⟩)))))) <;> first | omega | assumption | rfl) | (refine (Or.inr (Or.inr (Or.inr (Or.inr (Or.inr (Or.inr ⟨?_, ?_, ?_⟩)))))) <;> first | omega | assumption | rfl) | (obtain ⟨-, hb9, he9⟩ := hi52; refine (Or.inr (Or.inr (Or.inl ⟨?_, ?_, ?_⟩))) <;> first | omega | rfl | (rw [he9, show b = σ 18 0 by omega])) | (obtain ⟨-, hb9, he9⟩ := hi86; refine (Or.inr (Or.inr (Or.inr (Or.inl ⟨?_, ?_, ?_⟩)))) <;> first | omega | rfl | (rw [he9, show b = σ 18 0 by omega])) | (obtain ⟨-, hb9, he9⟩ := hi130; refine (Or.inr (Or.inr (Or.inr (Or.inr (Or.inr (Or.inl ⟨?_, ?_, ?_⟩)))))) <;> first | omega | rfl | (rw [he9, show b = σ 18 1 by omega])))
