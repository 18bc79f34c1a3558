def vlM (ρ : ST) (v k : Int) : Int := 100 * ρ 28 k + (1 + lenT (Pm ρ v) (Mm ρ) (ρ 18 18) (k + 1))
def rtM (ρ : ST) (v i : Int) : Int := restT (Pm ρ v) (Mm ρ) (vlM ρ v) (ρ 18 18) 0 i
set_option maxHeartbeats 4000000 in
set_option maxRecDepth 100000 in
theorem m_X6_rest {a : Nat → Nat} {n : Nat} {σ : ST} (hM : MS σ) {v i : Int} (hv1 : inR v) (hi1 : inR i) : MI yX6_rest cX6_rest 5 .int (RM 3 67) a n σ [.ref (a 18), iv v, iv i] (fun r σ1 => (((0 ≤ v ∧ v < σ 18 1) ∧ 0 ≤ i) ∧ ∃ ρ, FrM σ ρ ∧ RowOK (σ 20) (σ 18 0) (ρ 28) (ρ 18 18) ∧ ((0 ≤ rtM ρ v i ∧ r = rtM ρ v i ∧ σ1 = ρ) ∨ (rtM ρ v i = -1 ∧ r = -1000002 ∧ σ1 = fd ρ 27 2))) ∨ (¬ ((0 ≤ v ∧ v < σ 18 1) ∧ 0 ≤ i) ∧ r = -1000001 ∧ σ1 = fd σ 27 1)) := by
  refine MI.of (own := RX6) (by decide +kernel) rfl (Nat.le_of_ble_eq_true rfl) ?_
  intro κ C hret
  show J κ 0 0 a n σ [(0, .ref (a 18)), (1, iv v), (2, iv i)] 0 []
  obtain ⟨hb, hvn, hwt, hky, hdu, hwd, hli, hne, hse, hmk, hkd, hsh, hos, hpl, hld, hF, hlp, hpo⟩ := id hM
  refine r_aload_n C dX6_rest_0 0 rfl ?_
  refine r_iload_n C dX6_rest_1 1 rfl ?_
  refine r_callB1 18 C dX6_rest_2 lkX6_96 (m_X6_isVoice (by omega) (by omega)) ⟨rfl, rfl, Nat.le_of_ble_eq_true rfl, Nat.le_of_ble_eq_true rfl⟩ ⟨Nat.zero_le _, Nat.zero_le _⟩ rc18 (Nat.le_of_ble_eq_true rfl) (fun h1 => ?_) (fun h1 => ?_)
  · skip
    refine r_if_eq (tgt := 12) C dX6_rest_5 (by decide) (by decide) (fun q => absurd q (by decide)) (fun _ => ?_)
    refine r_iload_n C dX6_rest_8 2 rfl ?_
    refine r_if_ge (tgt := 18) C dX6_rest_9 (by decide) (by omega) (fun h3 => ?_) (fun h3 => ?_)
    · skip
      refine r_aload_n C dX6_rest_18 0 rfl ?_
      refine r_callV0 18 C dX6_rest_19 lkX6_116 (m_X6_findRow (by omega)) ⟨rfl, rfl, Nat.le_of_ble_eq_true rfl, Nat.le_of_ble_eq_true rfl⟩ ⟨Nat.zero_le _, Nat.zero_le _⟩ rc18 (Nat.le_of_ble_eq_true rfl) (fun ρ hr4 => ?_)
      obtain ⟨hfr, hro⟩ := hr4
      have hM2 := hfr.ms hM
      have hI := RowIn.of hro hb.1 hb.2
      have hrm := hI.2.1
      have hrm0 := hI.1
      have hf1 := hfr.2 1 (by decide)
      refine r_iload_n C dX6_rest_22 2 rfl ?_
      refine r_istore_n C dX6_rest_23 (by decide) (fun z_ => [(3, iv z_), (0, .ref (a 18)), (1, iv v), (2, iv i)]) (fun _ => rfl) (fun l0 el0 => ?_)
      refine r_iconst C dX6_rest_24 ?_
      refine r_istore C dX6_rest_25 (by decide) (fun z_ => [(4, iv z_), (3, iv l0), (0, .ref (a 18)), (1, iv v), (2, iv i)]) (fun _ => rfl) (fun k0 ek0 => ?_)
      have lp27 : ∀ (N : Nat) (lf : Int) (k : Int), (ρ 18 18 - k : Int) < N → (0 ≤ k ∧ k ≤ ρ 18 18 ∧ 0 ≤ lf ∧ lf ≤ i ∧ restT (Pm ρ v) (Mm ρ) (vlM ρ v) (ρ 18 18) k lf = rtM ρ v i) → J κ 0 0 a n ρ [(0, .ref (a 18)), (1, iv v), (2, iv i), (3, iv lf), (4, iv k)] 27 [] := by
        intro N
        induction N with
        | zero =>
          intro lf k hm27 hi27
          exact absurd hm27 (by omega)
        | succ N ih27 =>
          intro lf k hm27 hi27
          obtain ⟨hk1, hk2, hk3, hk4, hre⟩ := hi27
          refine r_iload C dX6_rest_27 4 rfl ?_
          refine r_aload_n C dX6_rest_29 0 rfl ?_
          refine gX6_106 C dX6_rest_30 (fun g5 => ?_)
          refine r_icmp_ge (tgt := 81) C dX6_rest_33 (by decide) (by omega) (by omega) (fun h6 => ?_) (fun h6 => ?_)
          · skip
            refine r_aload_n C dX6_rest_81 0 rfl ?_
            refine r_iconst C dX6_rest_82 ?_
            refine r_callI1 18 C dX6_rest_83 lkX6_92 (m_X6_finds (by omega) (MS.F (by assumption) _)) ⟨rfl, rfl, Nat.le_of_ble_eq_true rfl, Nat.le_of_ble_eq_true rfl⟩ ⟨Nat.zero_le _, Nat.zero_le _⟩ rc18 (Nat.le_of_ble_eq_true rfl) (fun r7 s8 hr7 => ?_)
            obtain ⟨er7, hr7⟩ := hr7
            exact hret _ _ _ _ dX6_rest_86 (Or.inl ⟨by omega, ρ, hfr, hro, Or.inr ⟨by rw [← hre, restT_e (by omega)], by omega, by assumption⟩⟩)
          · skip
            refine r_aload_n C dX6_rest_36 0 rfl ?_
            refine r_iload_n C dX6_rest_37 1 rfl ?_
            refine r_iload C dX6_rest_38 4 rfl ?_
            refine r_callB2 18 C dX6_rest_40 lkX6_113 (m_X6_begins hI (by omega) (by omega)) ⟨rfl, rfl, Nat.le_of_ble_eq_true rfl, Nat.le_of_ble_eq_true rfl⟩ ⟨Nat.zero_le _, Nat.zero_le _⟩ rc18 (Nat.le_of_ble_eq_true rfl) (fun hbg => ?_) (fun hbg => ?_)
            · skip
              refine r_if_ne (tgt := 49) C dX6_rest_43 (by decide) (by decide) (fun _ => ?_) (fun q => absurd q (by decide))
              refine r_iload_n C dX6_rest_49 3 rfl ?_
              refine r_if_ne (tgt := 72) C dX6_rest_50 (by decide) (by omega) (fun hl0 => ?_) (fun hl0 => ?_)
              · skip
                refine r_iinc C dX6_rest_72 (by decide) 3 rfl (fun z_ => [(3, iv z_), (0, .ref (a 18)), (1, iv v), (2, iv i), (4, iv k)]) (fun _ => rfl) (fun l2 el2 => ?_)
                refine r_iinc C dX6_rest_75 (by decide) 4 rfl (fun z_ => [(4, iv z_), (3, iv l2), (0, .ref (a 18)), (1, iv v), (2, iv i)]) (fun _ => rfl) (fun k2 ek2 => ?_)
                refine r_goto (tgt := 27) C dX6_rest_78 (by decide) ?_
                refine r_sub [2, 3, 4, 1, 0] (L' := [(0, .ref (a 18)), (1, iv v), (2, iv i), (3, iv l2), (4, iv k2)]) rfl ?_
                exact ih27 _ _ (by omega) (by subst ek2; subst el2; refine ⟨by omega, by omega, by omega, by omega, ?_⟩; rw [← hre, restT_s (show k < ρ 18 18 by omega), if_pos hbg, if_neg hl0, show lf + -1 = lf - 1 by omega])
              · skip
                have hri := hI.2.2 k (by omega) (by omega)
                have hlb := lenT_bd (P := Pm ρ v) (M := Mm ρ) (many := ρ 18 18) (j := k + 1) (by omega)
                refine r_bipush C dX6_rest_53 (by decide) ?_
                refine r_aload_n C dX6_rest_55 0 rfl ?_
                refine gX6_50 C dX6_rest_56 ?_
                refine r_iload C dX6_rest_59 4 rfl ?_
                refine r_iald 40 C dX6_rest_61 (by omega) (fun _ => rfl) (by omega) (by omega) (by decide) (fun g12 => ?_)
                refine r_imul C dX6_rest_62 ?_
                refine r_aload_n C dX6_rest_63 0 rfl ?_
                refine r_iload_n C dX6_rest_64 1 rfl ?_
                refine r_iload C dX6_rest_65 4 rfl ?_
                refine r_callP2 18 C dX6_rest_67 lkX6_119 (m_X6_restsFrom hI (by omega) (by omega)) ⟨rfl, rfl, Nat.le_of_ble_eq_true rfl, Nat.le_of_ble_eq_true rfl⟩ ⟨Nat.zero_le _, Nat.zero_le _⟩ rc18 (Nat.le_of_ble_eq_true rfl) (fun cu hcu => ?_)
                refine r_iadd C dX6_rest_70 ?_
                exact hret _ _ _ _ dX6_rest_71 (by rw [restT_s (show k < ρ 18 18 by omega), if_pos hbg, if_pos hl0] at hre; exact Or.inl ⟨by omega, ρ, hfr, hro, Or.inl ⟨by rw [← hre]; unfold vlM; omega, by rw [← hre]; unfold vlM; omega, rfl⟩⟩)
            · skip
              refine r_if_ne (tgt := 49) C dX6_rest_43 (by decide) (by decide) (fun q => absurd q (by decide)) (fun _ => ?_)
              refine r_goto (tgt := 75) C dX6_rest_46 (by decide) ?_
              refine r_iinc C dX6_rest_75 (by decide) 4 rfl (fun z_ => [(4, iv z_), (0, .ref (a 18)), (1, iv v), (2, iv i), (3, iv lf)]) (fun _ => rfl) (fun k2 ek2 => ?_)
              refine r_goto (tgt := 27) C dX6_rest_78 (by decide) ?_
              refine r_sub [1, 2, 3, 4, 0] (L' := [(0, .ref (a 18)), (1, iv v), (2, iv i), (3, iv lf), (4, iv k2)]) rfl ?_
              exact ih27 _ _ (by omega) (by subst ek2; refine ⟨by omega, by omega, by omega, by omega, ?_⟩; rw [← hre, restT_s (show k < ρ 18 18 by omega), if_neg hbg])
      refine r_sub [2, 3, 4, 1, 0] (L' := [(0, .ref (a 18)), (1, iv v), (2, iv i), (3, iv l0), (4, iv k0)]) rfl ?_
      exact lp27 ((ρ 18 18 : Int).toNat + 1) _ _ (by omega) (by subst el0; subst ek0; exact ⟨by omega, by omega, by omega, by omega, rfl⟩)
    · skip
      refine r_aload_n C dX6_rest_12 0 rfl ?_
      refine r_iconst C dX6_rest_13 ?_
      refine r_callI1 18 C dX6_rest_14 lkX6_92 (m_X6_finds (by omega) (MS.F (by assumption) _)) ⟨rfl, rfl, Nat.le_of_ble_eq_true rfl, Nat.le_of_ble_eq_true rfl⟩ ⟨Nat.zero_le _, Nat.zero_le _⟩ rc18 (Nat.le_of_ble_eq_true rfl) (fun r14 s15 hr14 => ?_)
      obtain ⟨er14, hr14⟩ := hr14
      exact hret _ _ _ _ dX6_rest_17 (by refine Or.inr ⟨?_, ?_, ?_⟩ <;> first | omega | assumption)
  · skip
    refine r_if_eq (tgt := 12) C dX6_rest_5 (by decide) (by decide) (fun _ => ?_) (fun q => absurd q (by decide))
    refine r_aload_n C dX6_rest_12 0 rfl ?_
    refine r_iconst C dX6_rest_13 ?_
    refine r_callI1 18 C dX6_rest_14 lkX6_92 (m_X6_finds (by omega) (MS.F (by assumption) _)) ⟨rfl, rfl, Nat.le_of_ble_eq_true rfl, Nat.le_of_ble_eq_true rfl⟩ ⟨Nat.zero_le _, Nat.zero_le _⟩ rc18 (Nat.le_of_ble_eq_true rfl) (fun r17 s18 hr17 => ?_)
    obtain ⟨er17, hr17⟩ := hr17
    exact hret _ _ _ _ dX6_rest_17 (by refine Or.inr ⟨?_, ?_, ?_⟩ <;> first | omega | assumption)

set_option maxHeartbeats 4000000 in
set_option maxRecDepth 100000 in
theorem m_X6_cue {a : Nat → Nat} {n : Nat} {σ : ST} (hM : MS σ) {v b : Int} (hv1 : inR v) (hb1 : inR b) : MI yX6_cue cX6_cue 4 .int (RM 2 48) a n σ [.ref (a 18), iv v, iv b] (fun r σ1 => (((0 ≤ v ∧ v < σ 18 1) ∧ 0 ≤ b ∧ b < σ 18 0) ∧ ∃ ρ, FrM σ ρ ∧ RowOK (σ 20) (σ 18 0) (ρ 28) (ρ 18 18) ∧ ((∃ k, 0 ≤ k ∧ k < ρ 18 18 ∧ ρ 28 k = b ∧ 0 ≤ cueM ρ v k ∧ r = cueM ρ v k ∧ σ1 = ρ) ∨ ((∀ k, 0 ≤ k → k < ρ 18 18 → ρ 28 k = b → cueM ρ v k < 0) ∧ r = -1000002 ∧ σ1 = fd ρ 27 2))) ∨ (¬ ((0 ≤ v ∧ v < σ 18 1) ∧ 0 ≤ b ∧ b < σ 18 0) ∧ r = -1000001 ∧ σ1 = fd σ 27 1)) := by
  refine MI.of (own := RX6) (by decide +kernel) rfl (Nat.le_of_ble_eq_true rfl) ?_
  intro κ C hret
  show J κ 0 0 a n σ [(0, .ref (a 18)), (1, iv v), (2, iv b)] 0 []
  obtain ⟨hb, hvn, hwt, hky, hdu, hwd, hli, hne, hse, hmk, hkd, hsh, hos, hpl, hld, hF, hlp, hpo⟩ := id hM
  refine r_aload_n C dX6_cue_0 0 rfl ?_
  refine r_iload_n C dX6_cue_1 1 rfl ?_
  refine r_callB1 18 C dX6_cue_2 lkX6_96 (m_X6_isVoice (by omega) (by omega)) ⟨rfl, rfl, Nat.le_of_ble_eq_true rfl, Nat.le_of_ble_eq_true rfl⟩ ⟨Nat.zero_le _, Nat.zero_le _⟩ rc18 (Nat.le_of_ble_eq_true rfl) (fun h1 => ?_) (fun h1 => ?_)
  · skip
    refine r_if_eq (tgt := 16) C dX6_cue_5 (by decide) (by decide) (fun q => absurd q (by decide)) (fun _ => ?_)
    refine r_aload_n C dX6_cue_8 0 rfl ?_
    refine r_iload_n C dX6_cue_9 2 rfl ?_
    refine r_callB1 18 C dX6_cue_10 lkX6_100 (m_X6_isBar (by omega) (by omega)) ⟨rfl, rfl, Nat.le_of_ble_eq_true rfl, Nat.le_of_ble_eq_true rfl⟩ ⟨Nat.zero_le _, Nat.zero_le _⟩ rc18 (Nat.le_of_ble_eq_true rfl) (fun h3 => ?_) (fun h3 => ?_)
    · skip
      refine r_if_ne (tgt := 22) C dX6_cue_13 (by decide) (by decide) (fun _ => ?_) (fun q => absurd q (by decide))
      refine r_aload_n C dX6_cue_22 0 rfl ?_
      refine r_callV0 18 C dX6_cue_23 lkX6_116 (m_X6_findRow (by omega)) ⟨rfl, rfl, Nat.le_of_ble_eq_true rfl, Nat.le_of_ble_eq_true rfl⟩ ⟨Nat.zero_le _, Nat.zero_le _⟩ rc18 (Nat.le_of_ble_eq_true rfl) (fun ρ hr5 => ?_)
      obtain ⟨hfr, hro⟩ := hr5
      have hM2 := hfr.ms hM
      have hI := RowIn.of hro hb.1 hb.2
      have hrm := hI.2.1
      have hrm0 := hI.1
      have hf1 := hfr.2 1 (by decide)
      refine r_iconst C dX6_cue_26 ?_
      refine r_istore_n C dX6_cue_27 (by decide) (fun z_ => [(3, iv z_), (0, .ref (a 18)), (1, iv v), (2, iv b)]) (fun _ => rfl) (fun i0 ei0 => ?_)
      have lp28 : ∀ (N : Nat) (i : Int), (ρ 18 18 - i : Int) < N → (0 ≤ i ∧ i ≤ ρ 18 18 ∧ ∀ k, 0 ≤ k → k < i → ρ 28 k = b → cueM ρ v k < 0) → J κ 0 0 a n ρ [(0, .ref (a 18)), (1, iv v), (2, iv b), (3, iv i)] 28 [] := by
        intro N
        induction N with
        | zero =>
          intro i hm28 hi28
          exact absurd hm28 (by omega)
        | succ N ih28 =>
          intro i hm28 hi28
          obtain ⟨hk1, hk2, hk3⟩ := hi28
          refine r_iload_n C dX6_cue_28 3 rfl ?_
          refine r_aload_n C dX6_cue_29 0 rfl ?_
          refine gX6_106 C dX6_cue_30 (fun g6 => ?_)
          refine r_icmp_ge (tgt := 68) C dX6_cue_33 (by decide) (by omega) (by omega) (fun h7 => ?_) (fun h7 => ?_)
          · skip
            refine r_aload_n C dX6_cue_68 0 rfl ?_
            refine r_iconst C dX6_cue_69 ?_
            refine r_callI1 18 C dX6_cue_70 lkX6_92 (m_X6_finds (by omega) (MS.F (by assumption) _)) ⟨rfl, rfl, Nat.le_of_ble_eq_true rfl, Nat.le_of_ble_eq_true rfl⟩ ⟨Nat.zero_le _, Nat.zero_le _⟩ rc18 (Nat.le_of_ble_eq_true rfl) (fun r8 s9 hr8 => ?_)
            obtain ⟨er8, hr8⟩ := hr8
            exact hret _ _ _ _ dX6_cue_73 (by first | (refine Or.inr ⟨?_, ?_, ?_⟩ <;> first | omega | assumption) | exact Or.inl ⟨by omega, ρ, hfr, hro, Or.inr ⟨fun k h1 h2 h3 => hk3 k h1 (by omega) h3, by omega, by assumption⟩⟩ | exact Or.inl ⟨by omega, ρ, hfr, hro, Or.inl ⟨i, by omega, by omega, by assumption, by omega, by assumption, rfl⟩⟩)
          · skip
            refine r_aload_n C dX6_cue_36 0 rfl ?_
            refine gX6_50 C dX6_cue_37 ?_
            refine r_iload_n C dX6_cue_40 3 rfl ?_
            refine r_iald 40 C dX6_cue_41 (by omega) (fun _ => rfl) (by omega) (by omega) (by decide) (fun g11 => ?_)
            refine r_iload_n C dX6_cue_42 2 rfl ?_
            refine r_icmp_ne (tgt := 62) C dX6_cue_43 (by decide) (by omega) (by omega) (fun hrb => ?_) (fun hrb => ?_)
            · skip
              refine r_iinc C dX6_cue_62 (by decide) 3 rfl (fun z_ => [(3, iv z_), (0, .ref (a 18)), (1, iv v), (2, iv b)]) (fun _ => rfl) (fun i2 ei2 => ?_)
              refine r_goto (tgt := 28) C dX6_cue_65 (by decide) ?_
              refine r_sub [1, 2, 3, 0] (L' := [(0, .ref (a 18)), (1, iv v), (2, iv b), (3, iv i2)]) rfl ?_
              exact ih28 _ (by omega) (by subst ei2; refine ⟨by omega, by omega, fun k h1 h2 h3 => ?_⟩; by_cases hki : k = i; (subst hki; first | omega | exact absurd h3 hrb); exact hk3 k h1 (by omega) h3)
            · skip
              have hcb := cueM_bd (v := v) (i := i) hM2
              refine r_aload_n C dX6_cue_46 0 rfl ?_
              refine r_iload_n C dX6_cue_47 1 rfl ?_
              refine r_iload_n C dX6_cue_48 3 rfl ?_
              refine r_callP2 18 C dX6_cue_49 lkX6_123 (m_X6_cueAt (by assumption) hI (by omega) (by omega)) ⟨rfl, rfl, Nat.le_of_ble_eq_true rfl, Nat.le_of_ble_eq_true rfl⟩ ⟨Nat.zero_le _, Nat.zero_le _⟩ rc18 (Nat.le_of_ble_eq_true rfl) (fun cu hcu => ?_)
              refine r_if_lt (tgt := 62) C dX6_cue_52 (by decide) (by omega) (fun hcl => ?_) (fun hcl => ?_)
              · skip
                refine r_iinc C dX6_cue_62 (by decide) 3 rfl (fun z_ => [(3, iv z_), (0, .ref (a 18)), (1, iv v), (2, iv b)]) (fun _ => rfl) (fun i2 ei2 => ?_)
                refine r_goto (tgt := 28) C dX6_cue_65 (by decide) ?_
                refine r_sub [1, 2, 3, 0] (L' := [(0, .ref (a 18)), (1, iv v), (2, iv b), (3, iv i2)]) rfl ?_
                exact ih28 _ (by omega) (by subst ei2; refine ⟨by omega, by omega, fun k h1 h2 h3 => ?_⟩; by_cases hki : k = i; (subst hki; first | omega | exact absurd h3 hrb); exact hk3 k h1 (by omega) h3)
              · skip
                refine r_aload_n C dX6_cue_55 0 rfl ?_
                refine r_iload_n C dX6_cue_56 1 rfl ?_
                refine r_iload_n C dX6_cue_57 3 rfl ?_
                refine r_callP2 18 C dX6_cue_58 lkX6_123 (m_X6_cueAt (by assumption) hI (by omega) (by omega)) ⟨rfl, rfl, Nat.le_of_ble_eq_true rfl, Nat.le_of_ble_eq_true rfl⟩ ⟨Nat.zero_le _, Nat.zero_le _⟩ rc18 (Nat.le_of_ble_eq_true rfl) (fun cv hcv => ?_)
                exact hret _ _ _ _ dX6_cue_61 (by first | (refine Or.inr ⟨?_, ?_, ?_⟩ <;> first | omega | assumption) | exact Or.inl ⟨by omega, ρ, hfr, hro, Or.inr ⟨fun k h1 h2 h3 => hk3 k h1 (by omega) h3, by omega, by assumption⟩⟩ | exact Or.inl ⟨by omega, ρ, hfr, hro, Or.inl ⟨i, by omega, by omega, by assumption, by omega, by assumption, rfl⟩⟩)
      refine r_sub [1, 2, 3, 0] (L' := [(0, .ref (a 18)), (1, iv v), (2, iv b), (3, iv i0)]) rfl ?_
      exact lp28 ((ρ 18 18 : Int).toNat + 1) _ (by omega) (by subst ei0; exact ⟨by omega, by omega, fun k h1 h2 => by omega⟩)
    · skip
      refine r_if_ne (tgt := 22) C dX6_cue_13 (by decide) (by decide) (fun q => absurd q (by decide)) (fun _ => ?_)
      refine r_aload_n C dX6_cue_16 0 rfl ?_
      refine r_iconst C dX6_cue_17 ?_
      refine r_callI1 18 C dX6_cue_18 lkX6_92 (m_X6_finds (by omega) (MS.F (by assumption) _)) ⟨rfl, rfl, Nat.le_of_ble_eq_true rfl, Nat.le_of_ble_eq_true rfl⟩ ⟨Nat.zero_le _, Nat.zero_le _⟩ rc18 (Nat.le_of_ble_eq_true rfl) (fun r15 s16 hr15 => ?_)
      obtain ⟨er15, hr15⟩ := hr15
      exact hret _ _ _ _ dX6_cue_21 (by first | (refine Or.inr ⟨?_, ?_, ?_⟩ <;> first | omega | assumption) | exact Or.inl ⟨by omega, ρ, hfr, hro, Or.inr ⟨fun k h1 h2 h3 => hk3 k h1 (by omega) h3, by omega, by assumption⟩⟩ | exact Or.inl ⟨by omega, ρ, hfr, hro, Or.inl ⟨i, by omega, by omega, by assumption, by omega, by assumption, rfl⟩⟩)
  · skip
    refine r_if_eq (tgt := 16) C dX6_cue_5 (by decide) (by decide) (fun _ => ?_) (fun q => absurd q (by decide))
    refine r_aload_n C dX6_cue_16 0 rfl ?_
    refine r_iconst C dX6_cue_17 ?_
    refine r_callI1 18 C dX6_cue_18 lkX6_92 (m_X6_finds (by omega) (MS.F (by assumption) _)) ⟨rfl, rfl, Nat.le_of_ble_eq_true rfl, Nat.le_of_ble_eq_true rfl⟩ ⟨Nat.zero_le _, Nat.zero_le _⟩ rc18 (Nat.le_of_ble_eq_true rfl) (fun r18 s19 hr18 => ?_)
    obtain ⟨er18, hr18⟩ := hr18
    exact hret _ _ _ _ dX6_cue_21 (by first | (refine Or.inr ⟨?_, ?_, ?_⟩ <;> first | omega | assumption) | exact Or.inl ⟨by omega, ρ, hfr, hro, Or.inr ⟨fun k h1 h2 h3 => hk3 k h1 (by omega) h3, by omega, by assumption⟩⟩ | exact Or.inl ⟨by omega, ρ, hfr, hro, Or.inl ⟨i, by omega, by omega, by assumption, by omega, by assumption, rfl⟩⟩)

theorem sys_fit {w wf : Int → Int} {wide x i nn fl own : Int} (h : (nn, fl) = sysF w wf wide x (i - x).toNat) (hx : x ≤ i) (ho : own = if i = x then wf i else w i) (hle : ¬ wide < fl + own) : (nn, fl + own) = sysF w wf wide x (i + 1 - x).toNat := by
  rw [sysF_s _ _ _ _ hx, ← h, ← ho, if_neg (by simp only; omega)]
theorem sys_new {w wf : Int → Int} {wide x i nn fl own o2 : Int} (h : (nn, fl) = sysF w wf wide x (i - x).toNat) (hx : x ≤ i) (ho : own = if i = x then wf i else w i) (hlt : wide < fl + own) (h2 : o2 = wf i) : (nn + 1, 0 + o2) = sysF w wf wide x (i + 1 - x).toNat := by
  rw [sysF_s _ _ _ _ hx, ← h, ← ho, if_pos (by simp only; omega), h2, Int.zero_add]
set_option maxHeartbeats 4000000 in
set_option maxRecDepth 100000 in
theorem m_X6_systemsOf {a : Nat → Nat} {n : Nat} {σ : ST} {v x y : Int} (hM : MS σ) (hI : RowIn σ) (hv : 0 ≤ v ∧ v < 6) (hxy : 0 ≤ x ∧ x ≤ y ∧ y ≤ σ 18 18) : MP yX6_systemsOf cX6_systemsOf 9 .int (RM 3 71) a n σ [.ref (a 18), iv v, iv x, iv y] (fun r => r = syM σ v x (y - x)) := by
  refine MI.of (own := RX6) (by decide +kernel) rfl (Nat.le_of_ble_eq_true rfl) ?_
  intro κ C hret
  show J κ 0 0 a n σ [(0, .ref (a 18)), (1, iv v), (2, iv x), (3, iv y)] 0 []
  obtain ⟨hb, hvn, hwt, hky, hdu, hwd, hli, hne, hse, hmk, hkd, hsh, hos, hpl, hld, hF, hlp, hpo⟩ := id hM
  have hrm := hI.2.1
  refine r_iconst C dX6_systemsOf_0 ?_
  refine r_istore C dX6_systemsOf_1 (by decide) (fun z_ => [(4, iv z_), (0, .ref (a 18)), (1, iv v), (2, iv x), (3, iv y)]) (fun _ => rfl) (fun n0 en0 => ?_)
  refine r_iconst C dX6_systemsOf_3 ?_
  refine r_istore C dX6_systemsOf_4 (by decide) (fun z_ => [(5, iv z_), (4, iv n0), (0, .ref (a 18)), (1, iv v), (2, iv x), (3, iv y)]) (fun _ => rfl) (fun f0 ef0 => ?_)
  refine r_iload_n C dX6_systemsOf_6 4 rfl ?_
  refine r_istore C dX6_systemsOf_7 (by decide) (fun z_ => [(6, iv z_), (5, iv f0), (4, iv n0), (0, .ref (a 18)), (1, iv v), (2, iv x), (3, iv y)]) (fun _ => rfl) (fun i0 ei0 => ?_)
  have lp9 : ∀ (N : Nat) (nn : Int) (fl : Int) (i : Int), (y - i : Int) < N → (x ≤ i ∧ i ≤ y ∧ (nn, fl) = sysF (wM σ v) (wfM σ v) (σ 18 5) x (i - x).toNat) → J κ 0 0 a n σ [(0, .ref (a 18)), (1, iv v), (2, iv x), (3, iv y), (4, iv nn), (5, iv fl), (6, iv i)] 9 [] := by
    intro N
    induction N with
    | zero =>
      intro nn fl i hm9 hi9
      exact absurd hm9 (by omega)
    | succ N ih9 =>
      intro nn fl i hm9 hi9
      obtain ⟨hi1, hi2, hsy⟩ := hi9
      have hsb := sysF_bd (wM σ v) (wfM σ v) (σ 18 5) x (wM_bd hM) (wfM_bd hM) (i - x).toNat
      rw [← hsy] at hsb
      simp only at hsb
      have hwb := wM_bd (v := v) hM i
      have hwfb := wfM_bd (v := v) hM i
      refine r_iload C dX6_systemsOf_9 6 rfl ?_
      refine r_iload_n C dX6_systemsOf_11 3 rfl ?_
      refine r_icmp_ge (tgt := 80) C dX6_systemsOf_12 (by decide) (by omega) (by omega) (fun h1 => ?_) (fun h1 => ?_)
      · skip
        refine r_iload C dX6_systemsOf_80 4 rfl ?_
        exact hret _ _ _ _ dX6_systemsOf_82 ⟨rfl, by unfold syM; rw [show y = i by omega, ← hsy]⟩
      · skip
        refine r_iload C dX6_systemsOf_15 6 rfl ?_
        refine r_iload_n C dX6_systemsOf_17 2 rfl ?_
        refine r_icmp_ne (tgt := 25) C dX6_systemsOf_18 (by decide) (by omega) (by omega) (fun hix => ?_) (fun hix => ?_)
        · skip
          refine r_iconst C dX6_systemsOf_25 ?_
          refine r_istore C dX6_systemsOf_26 (by decide) (fun z_ => [(7, iv z_), (0, .ref (a 18)), (1, iv v), (2, iv x), (3, iv y), (4, iv nn), (5, iv fl), (6, iv i)]) (fun _ => rfl) (fun fi efi => ?_)
          refine r_aload_n C dX6_systemsOf_28 1 rfl ?_
          refine r_iload_n C dX6_systemsOf_29 2 rfl ?_
          refine r_iload C dX6_systemsOf_30 7 rfl ?_
          refine r_iload C dX6_systemsOf_32 0 rfl ?_
          refine r_callP3 18 C dX6_systemsOf_34 lkX6_129 (m_X6_widthOf (by assumption) hI (by omega) (by omega) (by omega)) ⟨rfl, rfl, Nat.le_of_ble_eq_true rfl, Nat.le_of_ble_eq_true rfl⟩ ⟨Nat.zero_le _, Nat.zero_le _⟩ rc18 (Nat.le_of_ble_eq_true rfl) (fun w1 hw1 => ?_)
          refine r_istore C dX6_systemsOf_37 (by decide) (fun z_ => [(8, iv z_), (7, iv fi), (0, .ref (a 18)), (1, iv v), (2, iv x), (3, iv y), (4, iv nn), (5, iv fl), (6, iv i)]) (fun _ => rfl) (fun ow eow => ?_)
          refine r_iload C dX6_systemsOf_39 7 rfl ?_
          refine r_iload C dX6_systemsOf_41 0 rfl ?_
          refine r_iadd C dX6_systemsOf_43 ?_
          refine r_aload_n C dX6_systemsOf_44 2 rfl ?_
          refine gX6_13 C dX6_systemsOf_45 (fun g3 => ?_)
          refine r_icmp_le (tgt := 67) C dX6_systemsOf_48 (by decide) (by omega) (by omega) (fun hwi => ?_) (fun hwi => ?_)
          · skip
            refine r_iload C dX6_systemsOf_67 7 rfl ?_
            refine r_iload C dX6_systemsOf_69 0 rfl ?_
            refine r_iadd C dX6_systemsOf_71 ?_
            refine r_istore C dX6_systemsOf_72 (by decide) (fun z_ => [(5, iv z_), (8, iv ow), (7, iv fi), (0, .ref (a 18)), (1, iv v), (2, iv x), (3, iv y), (4, iv nn), (6, iv i)]) (fun _ => rfl) (fun f2 ef2 => ?_)
            refine r_iinc C dX6_systemsOf_74 (by decide) 8 rfl (fun z_ => [(6, iv z_), (5, iv f2), (8, iv ow), (7, iv fi), (0, .ref (a 18)), (1, iv v), (2, iv x), (3, iv y), (4, iv nn)]) (fun _ => rfl) (fun i2 ei2 => ?_)
            refine r_goto (tgt := 9) C dX6_systemsOf_77 (by decide) ?_
            refine r_sub [4, 5, 6, 7, 8, 1, 0] (L' := [(0, .ref (a 18)), (1, iv v), (2, iv x), (3, iv y), (4, iv nn), (5, iv f2), (6, iv i2)]) rfl ?_
            exact ih9 _ _ _ (by omega) (by subst ei2; refine ⟨by omega, by omega, ?_⟩; have hob : ow = if i = x then wfM σ v i else wM σ v i := (by first | (rw [if_pos hix]; omega) | (rw [if_neg hix]; omega)); first | (subst ef2; exact sys_fit hsy hi1 hob (by omega)) | (subst ef2; subst ef1; subst en2; exact sys_new hsy hi1 hob (by omega) (by omega)))
          · skip
            refine r_iinc C dX6_systemsOf_51 (by decide) 6 rfl (fun z_ => [(4, iv z_), (8, iv ow), (7, iv fi), (0, .ref (a 18)), (1, iv v), (2, iv x), (3, iv y), (5, iv fl), (6, iv i)]) (fun _ => rfl) (fun n2 en2 => ?_)
            refine r_iconst C dX6_systemsOf_54 ?_
            refine r_istore C dX6_systemsOf_55 (by decide) (fun z_ => [(5, iv z_), (4, iv n2), (8, iv ow), (7, iv fi), (0, .ref (a 18)), (1, iv v), (2, iv x), (3, iv y), (6, iv i)]) (fun _ => rfl) (fun f1 ef1 => ?_)
            refine r_aload_n C dX6_systemsOf_57 4 rfl ?_
            refine r_iload_n C dX6_systemsOf_58 5 rfl ?_
            refine r_iload C dX6_systemsOf_59 8 rfl ?_
            refine r_iconst C dX6_systemsOf_61 ?_
            refine r_callP3 18 C dX6_systemsOf_62 lkX6_129 (m_X6_widthOf (by assumption) hI (by omega) (by omega) (by omega)) ⟨rfl, rfl, Nat.le_of_ble_eq_true rfl, Nat.le_of_ble_eq_true rfl⟩ ⟨Nat.zero_le _, Nat.zero_le _⟩ rc18 (Nat.le_of_ble_eq_true rfl) (fun w2 hw2 => ?_)
            refine r_istore C dX6_systemsOf_65 (by decide) (fun z_ => [(8, iv z_), (5, iv f1), (4, iv n2), (7, iv fi), (0, .ref (a 18)), (1, iv v), (2, iv x), (3, iv y), (6, iv i)]) (fun _ => rfl) (fun o1 eo1 => ?_)
            refine r_iload C dX6_systemsOf_67 1 rfl ?_
            refine r_iload C dX6_systemsOf_69 0 rfl ?_
            refine r_iadd C dX6_systemsOf_71 ?_
            refine r_istore C dX6_systemsOf_72 (by decide) (fun z_ => [(5, iv z_), (8, iv o1), (4, iv n2), (7, iv fi), (0, .ref (a 18)), (1, iv v), (2, iv x), (3, iv y), (6, iv i)]) (fun _ => rfl) (fun f2 ef2 => ?_)
            refine r_iinc C dX6_systemsOf_74 (by decide) 8 rfl (fun z_ => [(6, iv z_), (5, iv f2), (8, iv o1), (4, iv n2), (7, iv fi), (0, .ref (a 18)), (1, iv v), (2, iv x), (3, iv y)]) (fun _ => rfl) (fun i2 ei2 => ?_)
            refine r_goto (tgt := 9) C dX6_systemsOf_77 (by decide) ?_
            refine r_sub [5, 6, 7, 8, 3, 1, 0] (L' := [(0, .ref (a 18)), (1, iv v), (2, iv x), (3, iv y), (4, iv n2), (5, iv f2), (6, iv i2)]) rfl ?_
            exact ih9 _ _ _ (by omega) (by subst ei2; refine ⟨by omega, by omega, ?_⟩; have hob : ow = if i = x then wfM σ v i else wM σ v i := (by first | (rw [if_pos hix]; omega) | (rw [if_neg hix]; omega)); first | (subst ef2; exact sys_fit hsy hi1 hob (by omega)) | (subst ef2; subst ef1; subst en2; exact sys_new hsy hi1 hob (by omega) (by omega)))
        · skip
          refine r_iconst C dX6_systemsOf_21 ?_
          refine r_goto (tgt := 26) C dX6_systemsOf_22 (by decide) ?_
          refine r_istore C dX6_systemsOf_26 (by decide) (fun z_ => [(7, iv z_), (0, .ref (a 18)), (1, iv v), (2, iv x), (3, iv y), (4, iv nn), (5, iv fl), (6, iv i)]) (fun _ => rfl) (fun fi efi => ?_)
          refine r_aload_n C dX6_systemsOf_28 1 rfl ?_
          refine r_iload_n C dX6_systemsOf_29 2 rfl ?_
          refine r_iload C dX6_systemsOf_30 7 rfl ?_
          refine r_iload C dX6_systemsOf_32 0 rfl ?_
          refine r_callP3 18 C dX6_systemsOf_34 lkX6_129 (m_X6_widthOf (by assumption) hI (by omega) (by omega) (by omega)) ⟨rfl, rfl, Nat.le_of_ble_eq_true rfl, Nat.le_of_ble_eq_true rfl⟩ ⟨Nat.zero_le _, Nat.zero_le _⟩ rc18 (Nat.le_of_ble_eq_true rfl) (fun w1 hw1 => ?_)
          refine r_istore C dX6_systemsOf_37 (by decide) (fun z_ => [(8, iv z_), (7, iv fi), (0, .ref (a 18)), (1, iv v), (2, iv x), (3, iv y), (4, iv nn), (5, iv fl), (6, iv i)]) (fun _ => rfl) (fun ow eow => ?_)
          refine r_iload C dX6_systemsOf_39 7 rfl ?_
          refine r_iload C dX6_systemsOf_41 0 rfl ?_
          refine r_iadd C dX6_systemsOf_43 ?_
          refine r_aload_n C dX6_systemsOf_44 2 rfl ?_
          refine gX6_13 C dX6_systemsOf_45 (fun g5 => ?_)
          refine r_icmp_le (tgt := 67) C dX6_systemsOf_48 (by decide) (by omega) (by omega) (fun hwi => ?_) (fun hwi => ?_)
          · skip
            refine r_iload C dX6_systemsOf_67 7 rfl ?_
            refine r_iload C dX6_systemsOf_69 0 rfl ?_
            refine r_iadd C dX6_systemsOf_71 ?_
            refine r_istore C dX6_systemsOf_72 (by decide) (fun z_ => [(5, iv z_), (8, iv ow), (7, iv fi), (0, .ref (a 18)), (1, iv v), (2, iv x), (3, iv y), (4, iv nn), (6, iv i)]) (fun _ => rfl) (fun f2 ef2 => ?_)
            refine r_iinc C dX6_systemsOf_74 (by decide) 8 rfl (fun z_ => [(6, iv z_), (5, iv f2), (8, iv ow), (7, iv fi), (0, .ref (a 18)), (1, iv v), (2, iv x), (3, iv y), (4, iv nn)]) (fun _ => rfl) (fun i2 ei2 => ?_)
            refine r_goto (tgt := 9) C dX6_systemsOf_77 (by decide) ?_
            refine r_sub [4, 5, 6, 7, 8, 1, 0] (L' := [(0, .ref (a 18)), (1, iv v), (2, iv x), (3, iv y), (4, iv nn), (5, iv f2), (6, iv i2)]) rfl ?_
            exact ih9 _ _ _ (by omega) (by subst ei2; refine ⟨by omega, by omega, ?_⟩; have hob : ow = if i = x then wfM σ v i else wM σ v i := (by first | (rw [if_pos hix]; omega) | (rw [if_neg hix]; omega)); first | (subst ef2; exact sys_fit hsy hi1 hob (by omega)) | (subst ef2; subst ef1; subst en2; exact sys_new hsy hi1 hob (by omega) (by omega)))
          · skip
            refine r_iinc C dX6_systemsOf_51 (by decide) 6 rfl (fun z_ => [(4, iv z_), (8, iv ow), (7, iv fi), (0, .ref (a 18)), (1, iv v), (2, iv x), (3, iv y), (5, iv fl), (6, iv i)]) (fun _ => rfl) (fun n2 en2 => ?_)
            refine r_iconst C dX6_systemsOf_54 ?_
            refine r_istore C dX6_systemsOf_55 (by decide) (fun z_ => [(5, iv z_), (4, iv n2), (8, iv ow), (7, iv fi), (0, .ref (a 18)), (1, iv v), (2, iv x), (3, iv y), (6, iv i)]) (fun _ => rfl) (fun f1 ef1 => ?_)
            refine r_aload_n C dX6_systemsOf_57 4 rfl ?_
            refine r_iload_n C dX6_systemsOf_58 5 rfl ?_
            refine r_iload C dX6_systemsOf_59 8 rfl ?_
            refine r_iconst C dX6_systemsOf_61 ?_
            refine r_callP3 18 C dX6_systemsOf_62 lkX6_129 (m_X6_widthOf (by assumption) hI (by omega) (by omega) (by omega)) ⟨rfl, rfl, Nat.le_of_ble_eq_true rfl, Nat.le_of_ble_eq_true rfl⟩ ⟨Nat.zero_le _, Nat.zero_le _⟩ rc18 (Nat.le_of_ble_eq_true rfl) (fun w2 hw2 => ?_)
            refine r_istore C dX6_systemsOf_65 (by decide) (fun z_ => [(8, iv z_), (5, iv f1), (4, iv n2), (7, iv fi), (0, .ref (a 18)), (1, iv v), (2, iv x), (3, iv y), (6, iv i)]) (fun _ => rfl) (fun o1 eo1 => ?_)
            refine r_iload C dX6_systemsOf_67 1 rfl ?_
            refine r_iload C dX6_systemsOf_69 0 rfl ?_
            refine r_iadd C dX6_systemsOf_71 ?_
            refine r_istore C dX6_systemsOf_72 (by decide) (fun z_ => [(5, iv z_), (8, iv o1), (4, iv n2), (7, iv fi), (0, .ref (a 18)), (1, iv v), (2, iv x), (3, iv y), (6, iv i)]) (fun _ => rfl) (fun f2 ef2 => ?_)
            refine r_iinc C dX6_systemsOf_74 (by decide) 8 rfl (fun z_ => [(6, iv z_), (5, iv f2), (8, iv o1), (4, iv n2), (7, iv fi), (0, .ref (a 18)), (1, iv v), (2, iv x), (3, iv y)]) (fun _ => rfl) (fun i2 ei2 => ?_)
            refine r_goto (tgt := 9) C dX6_systemsOf_77 (by decide) ?_
            refine r_sub [5, 6, 7, 8, 3, 1, 0] (L' := [(0, .ref (a 18)), (1, iv v), (2, iv x), (3, iv y), (4, iv n2), (5, iv f2), (6, iv i2)]) rfl ?_
            exact ih9 _ _ _ (by omega) (by subst ei2; refine ⟨by omega, by omega, ?_⟩; have hob : ow = if i = x then wfM σ v i else wM σ v i := (by first | (rw [if_pos hix]; omega) | (rw [if_neg hix]; omega)); first | (subst ef2; exact sys_fit hsy hi1 hob (by omega)) | (subst ef2; subst ef1; subst en2; exact sys_new hsy hi1 hob (by omega) (by omega)))
  refine r_sub [3, 4, 5, 6, 2, 1, 0] (L' := [(0, .ref (a 18)), (1, iv v), (2, iv x), (3, iv y), (4, iv n0), (5, iv f0), (6, iv i0)]) rfl ?_
  exact lp9 ((y - x : Int).toNat + 1) _ _ _ (by omega) (by refine ⟨by omega, by omega, ?_⟩; rw [en0, ef0, ei0, show (x - x).toNat = 0 by omega]; rfl)

set_option maxHeartbeats 4000000 in
set_option maxRecDepth 100000 in
theorem m_X6_freeAt {a : Nat → Nat} {n : Nat} {σ : ST} {v i : Int} (hM : MS σ) (hI : RowIn σ) (hv : 0 ≤ v ∧ v < 6) (hi : 0 ≤ i ∧ i ≤ σ 18 18) : MP yX6_freeAt cX6_freeAt 5 .int (RM 1 22) a n σ [.ref (a 18), iv v, iv i] (fun r => r = frM σ v i) := by
  refine MI.of (own := RX6) (by decide +kernel) rfl (Nat.le_of_ble_eq_true rfl) ?_
  intro κ C hret
  show J κ 0 0 a n σ [(0, .ref (a 18)), (1, iv v), (2, iv i)] 0 []
  obtain ⟨hb, hvn, hwt, hky, hdu, hwd, hli, hne, hse, hmk, hkd, hsh, hos, hpl, hld, hF, hlp, hpo⟩ := id hM
  have hrm := hI.2.1
  have hS : ∀ j, 0 ≤ Sm σ j ∧ Sm σ j ≤ 60 := fun j => hse _
  have hdi := dnF_bd (Pm σ v) (Sm σ) hS i.toNat
  refine r_iconst C dX6_freeAt_0 ?_
  refine r_istore_n C dX6_freeAt_1 (by decide) (fun z_ => [(3, iv z_), (0, .ref (a 18)), (1, iv v), (2, iv i)]) (fun _ => rfl) (fun s0 es0 => ?_)
  refine r_iload_n C dX6_freeAt_2 3 rfl ?_
  refine r_iconst C dX6_freeAt_3 ?_
  refine r_isub C dX6_freeAt_4 ?_
  refine r_istore C dX6_freeAt_5 (by decide) (fun z_ => [(4, iv z_), (3, iv s0), (0, .ref (a 18)), (1, iv v), (2, iv i)]) (fun _ => rfl) (fun k0 ek0 => ?_)
  have lp7 : ∀ (N : Nat) (su : Int) (k : Int), (k + 1 : Int) < N → (-1 ≤ k ∧ k < i ∧ 0 ≤ su ∧ su + dnF (Pm σ v) (Sm σ) (k + 1).toNat = dnF (Pm σ v) (Sm σ) i.toNat) → J κ 0 0 a n σ [(0, .ref (a 18)), (1, iv v), (2, iv i), (3, iv su), (4, iv k)] 7 [] := by
    intro N
    induction N with
    | zero =>
      intro su k hm7 hi7
      exact absurd hm7 (by omega)
    | succ N ih7 =>
      intro su k hm7 hi7
      obtain ⟨hk1, hk2, hk3, hsm⟩ := hi7
      have hdk := dnF_bd (Pm σ v) (Sm σ) hS (k + 1).toNat
      refine r_iload C dX6_freeAt_7 4 rfl ?_
      refine r_if_lt (tgt := 43) C dX6_freeAt_9 (by decide) (by omega) (fun hk0 => ?_) (fun hk0 => ?_)
      · skip
        refine r_iload_n C dX6_freeAt_43 2 rfl ?_
        refine r_istore C dX6_freeAt_44 (by decide) (fun z_ => [(4, iv z_), (0, .ref (a 18)), (1, iv v), (2, iv i), (3, iv su)]) (fun _ => rfl) (fun j0 ej0 => ?_)
        have lp46 : ∀ (N : Nat) (su2 : Int) (j : Int), (σ 18 18 - j : Int) < N → (i ≤ j ∧ j ≤ σ 18 18 ∧ 0 ≤ su2 ∧ su2 + upT (Pm σ v) (Sm σ) (σ 18 18) j = frM σ v i) → J κ 0 0 a n σ [(0, .ref (a 18)), (1, iv v), (2, iv i), (3, iv su2), (4, iv j)] 46 [] := by
          intro N
          induction N with
          | zero =>
            intro su2 j hm46 hi46
            exact absurd hm46 (by omega)
          | succ N ih46 =>
            intro su2 j hm46 hi46
            obtain ⟨hj1, hj2, hj3, hst⟩ := hi46
            have huj := upF_bd (Pm σ v) (Sm σ) hS (σ 18 18 - j).toNat j
            have hfb := freF_bd (P := Pm σ v) hS hi.1 hi.2 hrm
            have huj2 : 0 ≤ upT (Pm σ v) (Sm σ) (σ 18 18) j := huj.1
            change su2 + upT (Pm σ v) (Sm σ) (σ 18 18) j = freF (Pm σ v) (Sm σ) (σ 18 18) i at hst
            refine r_iload C dX6_freeAt_46 4 rfl ?_
            refine r_aload_n C dX6_freeAt_48 0 rfl ?_
            refine gX6_106 C dX6_freeAt_49 (fun g2 => ?_)
            refine r_icmp_ge (tgt := 86) C dX6_freeAt_52 (by decide) (by omega) (by omega) (fun hjm => ?_) (fun hjm => ?_)
            · skip
              refine r_iload_n C dX6_freeAt_86 3 rfl ?_
              exact hret _ _ _ _ dX6_freeAt_87 ⟨rfl, by show _ = freF _ _ _ _; first | (rw [upT_e (by omega)] at hst; omega) | (rw [upT_s (show j < σ 18 18 by omega), if_neg hrj] at hst; omega)⟩
            · skip
              refine r_aload_n C dX6_freeAt_55 0 rfl ?_
              refine r_iload_n C dX6_freeAt_56 1 rfl ?_
              refine r_iload C dX6_freeAt_57 4 rfl ?_
              refine r_callB2 18 C dX6_freeAt_59 lkX6_109 (m_X6_rests hI (by omega) (by omega)) ⟨rfl, rfl, Nat.le_of_ble_eq_true rfl, Nat.le_of_ble_eq_true rfl⟩ ⟨Nat.zero_le _, Nat.zero_le _⟩ rc18 (Nat.le_of_ble_eq_true rfl) (fun hrj => ?_) (fun hrj => ?_)
              · skip
                refine r_if_eq (tgt := 86) C dX6_freeAt_62 (by decide) (by decide) (fun q => absurd q (by decide)) (fun _ => ?_)
                have hrij := hI.2.2 j (by omega) (by omega)
                have hsj := hS j
                unfold Sm at hsj
                refine r_iload_n C dX6_freeAt_65 3 rfl ?_
                refine r_aload_n C dX6_freeAt_66 0 rfl ?_
                refine gX6_22 C dX6_freeAt_67 ?_
                refine r_aload_n C dX6_freeAt_70 0 rfl ?_
                refine gX6_50 C dX6_freeAt_71 ?_
                refine r_iload C dX6_freeAt_74 4 rfl ?_
                refine r_iald 40 C dX6_freeAt_76 (by omega) (fun _ => rfl) (by omega) (by omega) (by decide) (fun g7 => ?_)
                refine r_iald 40 C dX6_freeAt_77 (by omega) (fun _ => rfl) (by omega) (by omega) (by decide) (fun g8 => ?_)
                refine r_iadd C dX6_freeAt_78 ?_
                refine r_istore_n C dX6_freeAt_79 (by decide) (fun z_ => [(3, iv z_), (0, .ref (a 18)), (1, iv v), (2, iv i), (4, iv j)]) (fun _ => rfl) (fun t2 et2 => ?_)
                refine r_iinc C dX6_freeAt_80 (by decide) 4 rfl (fun z_ => [(4, iv z_), (3, iv t2), (0, .ref (a 18)), (1, iv v), (2, iv i)]) (fun _ => rfl) (fun j2 ej2 => ?_)
                refine r_goto (tgt := 46) C dX6_freeAt_83 (by decide) ?_
                refine r_sub [2, 3, 4, 1, 0] (L' := [(0, .ref (a 18)), (1, iv v), (2, iv i), (3, iv t2), (4, iv j2)]) rfl ?_
                exact ih46 _ _ (by omega) (by subst et2; subst ej2; rw [upT_s (show j < σ 18 18 by omega), if_pos hrj] at hst; refine ⟨by omega, by omega, by omega, ?_⟩; show _ = freF _ _ _ _; rw [← hst]; unfold Sm; omega)
              · skip
                refine r_if_eq (tgt := 86) C dX6_freeAt_62 (by decide) (by decide) (fun _ => ?_) (fun q => absurd q (by decide))
                refine r_iload_n C dX6_freeAt_86 3 rfl ?_
                exact hret _ _ _ _ dX6_freeAt_87 ⟨rfl, by show _ = freF _ _ _ _; first | (rw [upT_e (by omega)] at hst; omega) | (rw [upT_s (show j < σ 18 18 by omega), if_neg hrj] at hst; omega)⟩
        refine r_sub [1, 2, 3, 4, 0] (L' := [(0, .ref (a 18)), (1, iv v), (2, iv i), (3, iv su), (4, iv j0)]) rfl ?_
        exact lp46 ((σ 18 18 - i : Int).toNat + 1) _ _ (by omega) (by subst ej0; refine ⟨by omega, by omega, by omega, ?_⟩; unfold frM freF; first | (rw [show (k + 1).toNat = 0 by omega] at hsm; simp only [dnF] at hsm; omega) | (rw [dnF_s _ _ (show (0 : Int) ≤ k by omega), if_neg hrk] at hsm; omega))
      · skip
        refine r_aload_n C dX6_freeAt_12 0 rfl ?_
        refine r_iload_n C dX6_freeAt_13 1 rfl ?_
        refine r_iload C dX6_freeAt_14 4 rfl ?_
        refine r_callB2 18 C dX6_freeAt_16 lkX6_109 (m_X6_rests hI (by omega) (by omega)) ⟨rfl, rfl, Nat.le_of_ble_eq_true rfl, Nat.le_of_ble_eq_true rfl⟩ ⟨Nat.zero_le _, Nat.zero_le _⟩ rc18 (Nat.le_of_ble_eq_true rfl) (fun hrk => ?_) (fun hrk => ?_)
        · skip
          refine r_if_eq (tgt := 43) C dX6_freeAt_19 (by decide) (by decide) (fun q => absurd q (by decide)) (fun _ => ?_)
          have hri := hI.2.2 k (by omega) (by omega)
          have hsk := hS k
          unfold Sm at hsk
          refine r_iload_n C dX6_freeAt_22 3 rfl ?_
          refine r_aload_n C dX6_freeAt_23 0 rfl ?_
          refine gX6_22 C dX6_freeAt_24 ?_
          refine r_aload_n C dX6_freeAt_27 0 rfl ?_
          refine gX6_50 C dX6_freeAt_28 ?_
          refine r_iload C dX6_freeAt_31 4 rfl ?_
          refine r_iald 40 C dX6_freeAt_33 (by omega) (fun _ => rfl) (by omega) (by omega) (by decide) (fun g13 => ?_)
          refine r_iald 40 C dX6_freeAt_34 (by omega) (fun _ => rfl) (by omega) (by omega) (by decide) (fun g14 => ?_)
          refine r_iadd C dX6_freeAt_35 ?_
          refine r_istore_n C dX6_freeAt_36 (by decide) (fun z_ => [(3, iv z_), (0, .ref (a 18)), (1, iv v), (2, iv i), (4, iv k)]) (fun _ => rfl) (fun s2 es2 => ?_)
          refine r_iinc C dX6_freeAt_37 (by decide) 4 rfl (fun z_ => [(4, iv z_), (3, iv s2), (0, .ref (a 18)), (1, iv v), (2, iv i)]) (fun _ => rfl) (fun k2 ek2 => ?_)
          refine r_goto (tgt := 7) C dX6_freeAt_40 (by decide) ?_
          refine r_sub [2, 3, 4, 1, 0] (L' := [(0, .ref (a 18)), (1, iv v), (2, iv i), (3, iv s2), (4, iv k2)]) rfl ?_
          exact ih7 _ _ (by omega) (by subst es2; subst ek2; rw [dnF_s _ _ (show (0 : Int) ≤ k by omega), if_pos hrk] at hsm; refine ⟨by omega, by omega, by omega, ?_⟩; rw [show k + -1 + 1 = k by omega]; show _ = dnF _ _ _; rw [← hsm]; unfold Sm; omega)
        · skip
          refine r_if_eq (tgt := 43) C dX6_freeAt_19 (by decide) (by decide) (fun _ => ?_) (fun q => absurd q (by decide))
          refine r_iload_n C dX6_freeAt_43 2 rfl ?_
          refine r_istore C dX6_freeAt_44 (by decide) (fun z_ => [(4, iv z_), (0, .ref (a 18)), (1, iv v), (2, iv i), (3, iv su)]) (fun _ => rfl) (fun j0 ej0 => ?_)
          have lp46 : ∀ (N : Nat) (su2 : Int) (j : Int), (σ 18 18 - j : Int) < N → (i ≤ j ∧ j ≤ σ 18 18 ∧ 0 ≤ su2 ∧ su2 + upT (Pm σ v) (Sm σ) (σ 18 18) j = frM σ v i) → J κ 0 0 a n σ [(0, .ref (a 18)), (1, iv v), (2, iv i), (3, iv su2), (4, iv j)] 46 [] := by
            intro N
            induction N with
            | zero =>
              intro su2 j hm46 hi46
              exact absurd hm46 (by omega)
            | succ N ih46 =>
              intro su2 j hm46 hi46
              obtain ⟨hj1, hj2, hj3, hst⟩ := hi46
              have huj := upF_bd (Pm σ v) (Sm σ) hS (σ 18 18 - j).toNat j
              have hfb := freF_bd (P := Pm σ v) hS hi.1 hi.2 hrm
              have huj2 : 0 ≤ upT (Pm σ v) (Sm σ) (σ 18 18) j := huj.1
              change su2 + upT (Pm σ v) (Sm σ) (σ 18 18) j = freF (Pm σ v) (Sm σ) (σ 18 18) i at hst
              refine r_iload C dX6_freeAt_46 4 rfl ?_
              refine r_aload_n C dX6_freeAt_48 0 rfl ?_
              refine gX6_106 C dX6_freeAt_49 (fun g16 => ?_)
              refine r_icmp_ge (tgt := 86) C dX6_freeAt_52 (by decide) (by omega) (by omega) (fun hjm => ?_) (fun hjm => ?_)
              · skip
                refine r_iload_n C dX6_freeAt_86 3 rfl ?_
                exact hret _ _ _ _ dX6_freeAt_87 ⟨rfl, by show _ = freF _ _ _ _; first | (rw [upT_e (by omega)] at hst; omega) | (rw [upT_s (show j < σ 18 18 by omega), if_neg hrj] at hst; omega)⟩
              · skip
                refine r_aload_n C dX6_freeAt_55 0 rfl ?_
                refine r_iload_n C dX6_freeAt_56 1 rfl ?_
                refine r_iload C dX6_freeAt_57 4 rfl ?_
                refine r_callB2 18 C dX6_freeAt_59 lkX6_109 (m_X6_rests hI (by omega) (by omega)) ⟨rfl, rfl, Nat.le_of_ble_eq_true rfl, Nat.le_of_ble_eq_true rfl⟩ ⟨Nat.zero_le _, Nat.zero_le _⟩ rc18 (Nat.le_of_ble_eq_true rfl) (fun hrj => ?_) (fun hrj => ?_)
                · skip
                  refine r_if_eq (tgt := 86) C dX6_freeAt_62 (by decide) (by decide) (fun q => absurd q (by decide)) (fun _ => ?_)
                  have hrij := hI.2.2 j (by omega) (by omega)
                  have hsj := hS j
                  unfold Sm at hsj
                  refine r_iload_n C dX6_freeAt_65 3 rfl ?_
                  refine r_aload_n C dX6_freeAt_66 0 rfl ?_
                  refine gX6_22 C dX6_freeAt_67 ?_
                  refine r_aload_n C dX6_freeAt_70 0 rfl ?_
                  refine gX6_50 C dX6_freeAt_71 ?_
                  refine r_iload C dX6_freeAt_74 4 rfl ?_
                  refine r_iald 40 C dX6_freeAt_76 (by omega) (fun _ => rfl) (by omega) (by omega) (by decide) (fun g21 => ?_)
                  refine r_iald 40 C dX6_freeAt_77 (by omega) (fun _ => rfl) (by omega) (by omega) (by decide) (fun g22 => ?_)
                  refine r_iadd C dX6_freeAt_78 ?_
                  refine r_istore_n C dX6_freeAt_79 (by decide) (fun z_ => [(3, iv z_), (0, .ref (a 18)), (1, iv v), (2, iv i), (4, iv j)]) (fun _ => rfl) (fun t2 et2 => ?_)
                  refine r_iinc C dX6_freeAt_80 (by decide) 4 rfl (fun z_ => [(4, iv z_), (3, iv t2), (0, .ref (a 18)), (1, iv v), (2, iv i)]) (fun _ => rfl) (fun j2 ej2 => ?_)
                  refine r_goto (tgt := 46) C dX6_freeAt_83 (by decide) ?_
                  refine r_sub [2, 3, 4, 1, 0] (L' := [(0, .ref (a 18)), (1, iv v), (2, iv i), (3, iv t2), (4, iv j2)]) rfl ?_
                  exact ih46 _ _ (by omega) (by subst et2; subst ej2; rw [upT_s (show j < σ 18 18 by omega), if_pos hrj] at hst; refine ⟨by omega, by omega, by omega, ?_⟩; show _ = freF _ _ _ _; rw [← hst]; unfold Sm; omega)
                · skip
                  refine r_if_eq (tgt := 86) C dX6_freeAt_62 (by decide) (by decide) (fun _ => ?_) (fun q => absurd q (by decide))
                  refine r_iload_n C dX6_freeAt_86 3 rfl ?_
                  exact hret _ _ _ _ dX6_freeAt_87 ⟨rfl, by show _ = freF _ _ _ _; first | (rw [upT_e (by omega)] at hst; omega) | (rw [upT_s (show j < σ 18 18 by omega), if_neg hrj] at hst; omega)⟩
          refine r_sub [1, 2, 3, 4, 0] (L' := [(0, .ref (a 18)), (1, iv v), (2, iv i), (3, iv su), (4, iv j0)]) rfl ?_
          exact lp46 ((σ 18 18 - i : Int).toNat + 1) _ _ (by omega) (by subst ej0; refine ⟨by omega, by omega, by omega, ?_⟩; unfold frM freF; first | (rw [show (k + 1).toNat = 0 by omega] at hsm; simp only [dnF] at hsm; omega) | (rw [dnF_s _ _ (show (0 : Int) ≤ k by omega), if_neg hrk] at hsm; omega))
  refine r_sub [2, 3, 4, 1, 0] (L' := [(0, .ref (a 18)), (1, iv v), (2, iv i), (3, iv s0), (4, iv k0)]) rfl ?_
  exact lp7 ((i : Int).toNat + 1) _ _ (by omega) (by subst es0; subst ek0; refine ⟨by omega, by omega, by omega, ?_⟩; rw [show i - 1 + 1 = i by omega]; omega)

set_option maxHeartbeats 4000000 in
set_option maxRecDepth 100000 in
theorem m_X6_isBad {a : Nat → Nat} {n : Nat} {σ : ST} {v i : Int} (hM : MS σ) (hI : RowIn σ) (hv : 0 ≤ v ∧ v < 6) (hi : 0 ≤ i ∧ i ≤ σ 18 18) : MB yX6_isBad cX6_isBad 3 (RM 2 46) a n σ [.ref (a 18), iv v, iv i] (frM σ v i < ndM σ v) := by
  refine MI.ofB (own := RX6) (by decide +kernel) rfl (Nat.le_of_ble_eq_true rfl) ?_
  intro κ C hret
  show J κ 0 0 a n σ [(0, .ref (a 18)), (1, iv v), (2, iv i)] 0 []
  obtain ⟨hb, hvn, hwt, hky, hdu, hwd, hli, hne, hse, hmk, hkd, hsh, hos, hpl, hld, hF, hlp, hpo⟩ := id hM
  have hrm := hI.2.1
  have hfb : 0 ≤ frM σ v i ∧ frM σ v i ≤ 2400 := freF_bd (P := Pm σ v) (fun j => hse _) hi.1 hi.2 hrm
  have hkv := hkd v
  refine r_aload_n C dX6_isBad_0 0 rfl ?_
  refine r_iload_n C dX6_isBad_1 1 rfl ?_
  refine r_iload_n C dX6_isBad_2 2 rfl ?_
  refine r_callP2 18 C dX6_isBad_3 lkX6_133 (m_X6_freeAt (by assumption) hI (by omega) (by omega)) ⟨rfl, rfl, Nat.le_of_ble_eq_true rfl, Nat.le_of_ble_eq_true rfl⟩ ⟨Nat.zero_le _, Nat.zero_le _⟩ rc18 (Nat.le_of_ble_eq_true rfl) (fun fr hfr => ?_)
  refine r_aload_n C dX6_isBad_6 0 rfl ?_
  refine gX6_29 C dX6_isBad_7 ?_
  refine r_iload_n C dX6_isBad_10 1 rfl ?_
  refine r_iald 6 C dX6_isBad_11 (by omega) (fun _ => rfl) (by omega) (by omega) (by decide) (fun g2 => ?_)
  refine r_iconst C dX6_isBad_12 ?_
  refine r_icmp_ne (tgt := 25) C dX6_isBad_13 (by decide) (by omega) (by omega) (fun hk1 => ?_) (fun hk1 => ?_)
  · skip
    refine r_aload_n C dX6_isBad_25 0 rfl ?_
    refine gX6_19 C dX6_isBad_26 (fun g4 => ?_)
    refine r_icmp_ge (tgt := 36) C dX6_isBad_29 (by decide) (by omega) (by omega) (fun h5 => ?_) (fun h5 => ?_)
    · skip
      refine r_iconst C dX6_isBad_36 ?_
      exact hret _ _ _ _ dX6_isBad_37 (Or.inl rfl) (⟨rfl, Or.inr ⟨rfl, by unfold ndM; first | (rw [if_pos hk1]; omega) | (rw [if_neg hk1]; omega)⟩⟩)
    · skip
      refine r_iconst C dX6_isBad_32 ?_
      refine r_goto (tgt := 37) C dX6_isBad_33 (by decide) ?_
      exact hret _ _ _ _ dX6_isBad_37 (Or.inr rfl) (⟨rfl, Or.inl ⟨rfl, by unfold ndM; first | (rw [if_pos hk1]; omega) | (rw [if_neg hk1]; omega)⟩⟩)
  · skip
    refine r_aload_n C dX6_isBad_16 0 rfl ?_
    refine gX6_19 C dX6_isBad_17 (fun g6 => ?_)
    refine r_iconst C dX6_isBad_20 ?_
    refine r_idiv C dX6_isBad_21 (by omega) (by omega) (by omega) (by omega) ?_
    rw [Int.tdiv_eq_ediv_of_nonneg (by omega)]
    refine r_goto (tgt := 29) C dX6_isBad_22 (by decide) ?_
    refine r_icmp_ge (tgt := 36) C dX6_isBad_29 (by decide) (by omega) (by omega) (fun h7 => ?_) (fun h7 => ?_)
    · skip
      refine r_iconst C dX6_isBad_36 ?_
      exact hret _ _ _ _ dX6_isBad_37 (Or.inl rfl) (⟨rfl, Or.inr ⟨rfl, by unfold ndM; first | (rw [if_pos hk1]; omega) | (rw [if_neg hk1]; omega)⟩⟩)
    · skip
      refine r_iconst C dX6_isBad_32 ?_
      refine r_goto (tgt := 37) C dX6_isBad_33 (by decide) ?_
      exact hret _ _ _ _ dX6_isBad_37 (Or.inr rfl) (⟨rfl, Or.inl ⟨rfl, by unfold ndM; first | (rw [if_pos hk1]; omega) | (rw [if_neg hk1]; omega)⟩⟩)
