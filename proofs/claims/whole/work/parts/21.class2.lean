set_option maxHeartbeats 4000000 in
set_option maxRecDepth 100000 in
theorem m_X1_has {a : Nat → Nat} {n : Nat} {σ : ST} {p : Int} (hI : PIn σ) (hp : inR p)  : MB yX1_has cX1_has 2 (RM 0 0) a n σ [.ref (a 2), iv p] (0 ≤ p ∧ p < σ 2 3) := by
  refine MI.ofB (own := RX1) (by decide +kernel) rfl (Nat.le_of_ble_eq_true rfl) ?_
  intro κ C hret
  show J κ 0 0 a n σ [(0, .ref (a 2)), (1, iv p)] 0 []
  obtain ⟨hsz, hpin⟩ := id hI
  refine r_iload_n C dX1_has_0 1 rfl ?_
  refine r_if_lt (tgt := 16) C dX1_has_1 (by decide) (by omega) (fun h1 => ?_) (fun h1 => ?_)
  · skip
    refine r_iconst C dX1_has_16 ?_
    exact hret _ _ _ _ dX1_has_17 (Or.inl rfl) (⟨rfl, Or.inr ⟨rfl, by omega⟩⟩)
  · skip
    refine r_iload_n C dX1_has_4 1 rfl ?_
    refine r_aload_n C dX1_has_5 0 rfl ?_
    refine gX1_22 C dX1_has_6 (fun g2 => ?_)
    refine r_icmp_ge (tgt := 16) C dX1_has_9 (by decide) (by omega) (by omega) (fun h3 => ?_) (fun h3 => ?_)
    · skip
      refine r_iconst C dX1_has_16 ?_
      exact hret _ _ _ _ dX1_has_17 (Or.inl rfl) (⟨rfl, Or.inr ⟨rfl, by omega⟩⟩)
    · skip
      refine r_iconst C dX1_has_12 ?_
      refine r_goto (tgt := 17) C dX1_has_13 (by decide) ?_
      exact hret _ _ _ _ dX1_has_17 (Or.inr rfl) (⟨rfl, Or.inl ⟨rfl, by omega⟩⟩)

set_option maxHeartbeats 4000000 in
set_option maxRecDepth 100000 in
theorem m_X1_rests {a : Nat → Nat} {n : Nat} {σ : ST} {p : Int} (hI : PIn σ) (hp : inR p)  : MB yX1_rests cX1_rests 2 (RM 0 0) a n σ [.ref (a 2), iv p] ((0 ≤ p ∧ p < σ 2 3) ∧ σ 10 p = 0) := by
  refine MI.ofB (own := RX1) (by decide +kernel) rfl (Nat.le_of_ble_eq_true rfl) ?_
  intro κ C hret
  show J κ 0 0 a n σ [(0, .ref (a 2)), (1, iv p)] 0 []
  obtain ⟨hsz, hpin⟩ := id hI
  refine r_iload_n C dX1_rests_0 1 rfl ?_
  refine r_if_lt (tgt := 25) C dX1_rests_1 (by decide) (by omega) (fun h1 => ?_) (fun h1 => ?_)
  · skip
    refine r_iconst C dX1_rests_25 ?_
    exact hret _ _ _ _ dX1_rests_26 (Or.inl rfl) (⟨rfl, Or.inr ⟨rfl, by omega⟩⟩)
  · skip
    refine r_iload_n C dX1_rests_4 1 rfl ?_
    refine r_aload_n C dX1_rests_5 0 rfl ?_
    refine gX1_22 C dX1_rests_6 (fun g2 => ?_)
    refine r_icmp_ge (tgt := 25) C dX1_rests_9 (by decide) (by omega) (by omega) (fun h3 => ?_) (fun h3 => ?_)
    · skip
      refine r_iconst C dX1_rests_25 ?_
      exact hret _ _ _ _ dX1_rests_26 (Or.inl rfl) (⟨rfl, Or.inr ⟨rfl, by omega⟩⟩)
    · skip
      refine r_aload_n C dX1_rests_12 0 rfl ?_
      refine gX1_19 C dX1_rests_13 ?_
      refine r_iload_n C dX1_rests_16 1 rfl ?_
      refine r_iald 40 C dX1_rests_17 (by omega) (fun _ => rfl) (by omega) (by omega) (by decide) (fun g5 => ?_)
      refine r_if_ne (tgt := 25) C dX1_rests_18 (by decide) (by omega) (fun h6 => ?_) (fun h6 => ?_)
      · skip
        refine r_iconst C dX1_rests_25 ?_
        exact hret _ _ _ _ dX1_rests_26 (Or.inl rfl) (⟨rfl, Or.inr ⟨rfl, by omega⟩⟩)
      · skip
        refine r_iconst C dX1_rests_21 ?_
        refine r_goto (tgt := 26) C dX1_rests_22 (by decide) ?_
        exact hret _ _ _ _ dX1_rests_26 (Or.inr rfl) (⟨rfl, Or.inl ⟨rfl, by omega⟩⟩)

set_option maxHeartbeats 4000000 in
set_option maxRecDepth 100000 in
theorem m_X1_plays {a : Nat → Nat} {n : Nat} {σ : ST} {p : Int} (hI : PIn σ) (hp : inR p)  : MB yX1_plays cX1_plays 2 (RM 0 0) a n σ [.ref (a 2), iv p] ((0 ≤ p ∧ p < σ 2 3) ∧ 0 < σ 10 p) := by
  refine MI.ofB (own := RX1) (by decide +kernel) rfl (Nat.le_of_ble_eq_true rfl) ?_
  intro κ C hret
  show J κ 0 0 a n σ [(0, .ref (a 2)), (1, iv p)] 0 []
  obtain ⟨hsz, hpin⟩ := id hI
  refine r_iload_n C dX1_plays_0 1 rfl ?_
  refine r_if_lt (tgt := 25) C dX1_plays_1 (by decide) (by omega) (fun h1 => ?_) (fun h1 => ?_)
  · skip
    refine r_iconst C dX1_plays_25 ?_
    exact hret _ _ _ _ dX1_plays_26 (Or.inl rfl) (⟨rfl, Or.inr ⟨rfl, by omega⟩⟩)
  · skip
    refine r_iload_n C dX1_plays_4 1 rfl ?_
    refine r_aload_n C dX1_plays_5 0 rfl ?_
    refine gX1_22 C dX1_plays_6 (fun g2 => ?_)
    refine r_icmp_ge (tgt := 25) C dX1_plays_9 (by decide) (by omega) (by omega) (fun h3 => ?_) (fun h3 => ?_)
    · skip
      refine r_iconst C dX1_plays_25 ?_
      exact hret _ _ _ _ dX1_plays_26 (Or.inl rfl) (⟨rfl, Or.inr ⟨rfl, by omega⟩⟩)
    · skip
      refine r_aload_n C dX1_plays_12 0 rfl ?_
      refine gX1_19 C dX1_plays_13 ?_
      refine r_iload_n C dX1_plays_16 1 rfl ?_
      refine r_iald 40 C dX1_plays_17 (by omega) (fun _ => rfl) (by omega) (by omega) (by decide) (fun g5 => ?_)
      refine r_if_le (tgt := 25) C dX1_plays_18 (by decide) (by omega) (fun h6 => ?_) (fun h6 => ?_)
      · skip
        refine r_iconst C dX1_plays_25 ?_
        exact hret _ _ _ _ dX1_plays_26 (Or.inl rfl) (⟨rfl, Or.inr ⟨rfl, by omega⟩⟩)
      · skip
        refine r_iconst C dX1_plays_21 ?_
        refine r_goto (tgt := 26) C dX1_plays_22 (by decide) ?_
        exact hret _ _ _ _ dX1_plays_26 (Or.inr rfl) (⟨rfl, Or.inl ⟨rfl, by omega⟩⟩)

set_option maxHeartbeats 4000000 in
set_option maxRecDepth 100000 in
theorem m_X1_bears {a : Nat → Nat} {n : Nat} {σ : ST} {p : Int} (hI : PIn σ) (hp : inR p) {m : Int} (hm : inR m) : MB yX1_bears cX1_bears 3 (RM 1 21) a n σ [.ref (a 2), iv p, iv m] ((0 ≤ p ∧ p < σ 2 3) ∧ ¬ iand (σ 7 (σ 9 p)) m = 0) := by
  refine MI.ofB (own := RX1) (by decide +kernel) rfl (Nat.le_of_ble_eq_true rfl) ?_
  intro κ C hret
  show J κ 0 0 a n σ [(0, .ref (a 2)), (1, iv p), (2, iv m)] 0 []
  obtain ⟨hsz, hpin⟩ := id hI
  refine r_aload_n C dX1_bears_0 0 rfl ?_
  refine r_iload_n C dX1_bears_1 1 rfl ?_
  refine r_callB1 2 C dX1_bears_2 lkX1_45 (m_X1_has hI (by omega)) ⟨rfl, rfl, Nat.le_of_ble_eq_true rfl, Nat.le_of_ble_eq_true rfl⟩ ⟨Nat.zero_le _, Nat.zero_le _⟩ rc2 (Nat.le_of_ble_eq_true rfl) (fun h1 => ?_) (fun h1 => ?_)
  · skip
    refine r_if_eq (tgt := 31) C dX1_bears_5 (by decide) (by decide) (fun q => absurd q (by decide)) (fun _ => ?_)
    have hpp := hpin p (by omega) (by omega)
    refine r_aload_n C dX1_bears_8 0 rfl ?_
    refine gX1_9 C dX1_bears_9 ?_
    refine gX1_48 C dX1_bears_12 ?_
    refine r_aload_n C dX1_bears_15 0 rfl ?_
    refine gX1_15 C dX1_bears_16 ?_
    refine r_iload_n C dX1_bears_19 1 rfl ?_
    refine r_iald 40 C dX1_bears_20 (by omega) (fun _ => rfl) (by omega) (by omega) (by decide) (fun g6 => ?_)
    refine r_iald 40 C dX1_bears_21 (by omega) (fun _ => rfl) (by omega) (by omega) (by decide) (fun g7 => ?_)
    refine r_iload_n C dX1_bears_22 2 rfl ?_
    refine r_iand C dX1_bears_23 ?_
    have hii := iand_in (σ 7 (σ 9 p)) m
    refine r_if_eq (tgt := 31) C dX1_bears_24 (by decide) (by omega) (fun h8 => ?_) (fun h8 => ?_)
    · skip
      refine r_iconst C dX1_bears_31 ?_
      exact hret _ _ _ _ dX1_bears_32 (Or.inl rfl) (⟨rfl, Or.inr ⟨rfl, by omega⟩⟩)
    · skip
      refine r_iconst C dX1_bears_27 ?_
      refine r_goto (tgt := 32) C dX1_bears_28 (by decide) ?_
      exact hret _ _ _ _ dX1_bears_32 (Or.inr rfl) (⟨rfl, Or.inl ⟨rfl, by omega⟩⟩)
  · skip
    refine r_if_eq (tgt := 31) C dX1_bears_5 (by decide) (by decide) (fun _ => ?_) (fun q => absurd q (by decide))
    refine r_iconst C dX1_bears_31 ?_
    exact hret _ _ _ _ dX1_bears_32 (Or.inl rfl) (⟨rfl, Or.inr ⟨rfl, by omega⟩⟩)

set_option maxHeartbeats 4000000 in
set_option maxRecDepth 100000 in
theorem m_X1_opensRests {a : Nat → Nat} {n : Nat} {σ : ST} {p : Int} (hI : PIn σ) (hp : inR p) (hk : ∀ j, 0 ≤ σ 7 j ∧ σ 7 j ≤ 7) : MB yX1_opensRests cX1_opensRests 2 (RM 2 43) a n σ [.ref (a 2), iv p] ((0 ≤ p ∧ p < σ 2 3) ∧ bgP (σ 10) (Mc σ) p) := by
  refine MI.ofB (own := RX1) (by decide +kernel) rfl (Nat.le_of_ble_eq_true rfl) ?_
  intro κ C hret
  show J κ 0 0 a n σ [(0, .ref (a 2)), (1, iv p)] 0 []
  obtain ⟨hsz, hpin⟩ := id hI
  refine r_aload_n C dX1_opensRests_0 0 rfl ?_
  refine r_iload_n C dX1_opensRests_1 1 rfl ?_
  refine r_callB1 2 C dX1_opensRests_2 lkX1_51 (m_X1_rests hI (by omega)) ⟨rfl, rfl, Nat.le_of_ble_eq_true rfl, Nat.le_of_ble_eq_true rfl⟩ ⟨Nat.zero_le _, Nat.zero_le _⟩ rc2 (Nat.le_of_ble_eq_true rfl) (fun hr => ?_) (fun hr => ?_)
  · skip
    refine r_if_ne (tgt := 10) C dX1_opensRests_5 (by decide) (by decide) (fun _ => ?_) (fun q => absurd q (by decide))
    have hpp := hpin p (by omega) (by omega)
    have hkp := hk (σ 9 p)
    have hkq := hk (σ 9 (p - 1))
    have hi3 := iand_3 hkp
    have hi1 := iand_1 (x := σ 7 (σ 9 (p - 1))) (by omega)
    refine r_aload_n C dX1_opensRests_10 0 rfl ?_
    refine r_iload_n C dX1_opensRests_11 1 rfl ?_
    refine r_iconst C dX1_opensRests_12 ?_
    refine r_isub C dX1_opensRests_13 ?_
    refine r_callB1 2 C dX1_opensRests_14 lkX1_51 (m_X1_rests hI (by omega)) ⟨rfl, rfl, Nat.le_of_ble_eq_true rfl, Nat.le_of_ble_eq_true rfl⟩ ⟨Nat.zero_le _, Nat.zero_le _⟩ rc2 (Nat.le_of_ble_eq_true rfl) (fun hq => ?_) (fun hq => ?_)
    · skip
      refine r_if_eq (tgt := 40) C dX1_opensRests_17 (by decide) (by decide) (fun q => absurd q (by decide)) (fun _ => ?_)
      refine r_aload_n C dX1_opensRests_20 0 rfl ?_
      refine r_iload_n C dX1_opensRests_21 1 rfl ?_
      refine r_iconst C dX1_opensRests_22 ?_
      refine r_callB2 2 C dX1_opensRests_23 lkX1_54 (m_X1_bears hI (by omega) (by omega)) ⟨rfl, rfl, Nat.le_of_ble_eq_true rfl, Nat.le_of_ble_eq_true rfl⟩ ⟨Nat.zero_le _, Nat.zero_le _⟩ rc2 (Nat.le_of_ble_eq_true rfl) (fun hb3 => ?_) (fun hb3 => ?_)
      · skip
        refine r_if_ne (tgt := 40) C dX1_opensRests_26 (by decide) (by decide) (fun _ => ?_) (fun q => absurd q (by decide))
        refine r_iconst C dX1_opensRests_40 ?_
        refine r_goto (tgt := 45) C dX1_opensRests_41 (by decide) ?_
        exact hret _ _ _ _ dX1_opensRests_45 (Or.inr rfl) (⟨rfl, Or.inl ⟨rfl, by unfold bgP Mc; omega⟩⟩)
      · skip
        refine r_if_ne (tgt := 40) C dX1_opensRests_26 (by decide) (by decide) (fun q => absurd q (by decide)) (fun _ => ?_)
        refine r_aload_n C dX1_opensRests_29 0 rfl ?_
        refine r_iload_n C dX1_opensRests_30 1 rfl ?_
        refine r_iconst C dX1_opensRests_31 ?_
        refine r_isub C dX1_opensRests_32 ?_
        refine r_iconst C dX1_opensRests_33 ?_
        refine r_callB2 2 C dX1_opensRests_34 lkX1_54 (m_X1_bears hI (by omega) (by omega)) ⟨rfl, rfl, Nat.le_of_ble_eq_true rfl, Nat.le_of_ble_eq_true rfl⟩ ⟨Nat.zero_le _, Nat.zero_le _⟩ rc2 (Nat.le_of_ble_eq_true rfl) (fun hb1 => ?_) (fun hb1 => ?_)
        · skip
          refine r_if_eq (tgt := 44) C dX1_opensRests_37 (by decide) (by decide) (fun q => absurd q (by decide)) (fun _ => ?_)
          refine r_iconst C dX1_opensRests_40 ?_
          refine r_goto (tgt := 45) C dX1_opensRests_41 (by decide) ?_
          exact hret _ _ _ _ dX1_opensRests_45 (Or.inr rfl) (⟨rfl, Or.inl ⟨rfl, by unfold bgP Mc; omega⟩⟩)
        · skip
          refine r_if_eq (tgt := 44) C dX1_opensRests_37 (by decide) (by decide) (fun _ => ?_) (fun q => absurd q (by decide))
          refine r_iconst C dX1_opensRests_44 ?_
          exact hret _ _ _ _ dX1_opensRests_45 (Or.inl rfl) (⟨rfl, Or.inr ⟨rfl, by unfold bgP Mc; omega⟩⟩)
    · skip
      refine r_if_eq (tgt := 40) C dX1_opensRests_17 (by decide) (by decide) (fun _ => ?_) (fun q => absurd q (by decide))
      refine r_iconst C dX1_opensRests_40 ?_
      refine r_goto (tgt := 45) C dX1_opensRests_41 (by decide) ?_
      exact hret _ _ _ _ dX1_opensRests_45 (Or.inr rfl) (⟨rfl, Or.inl ⟨rfl, by unfold bgP Mc; omega⟩⟩)
  · skip
    refine r_if_ne (tgt := 10) C dX1_opensRests_5 (by decide) (by decide) (fun q => absurd q (by decide)) (fun _ => ?_)
    refine r_iconst C dX1_opensRests_8 ?_
    exact hret _ _ _ _ dX1_opensRests_9 (Or.inl rfl) (⟨rfl, Or.inr ⟨rfl, by unfold bgP Mc; omega⟩⟩)

set_option maxHeartbeats 4000000 in
set_option maxRecDepth 100000 in
theorem m_X1_restsLength {a : Nat → Nat} {n : Nat} {σ : ST} {p : Int} (hI : PIn σ) (hp : inR p) (hk : ∀ j, 0 ≤ σ 7 j ∧ σ 7 j ≤ 7) (hps : 0 ≤ p ∧ p < σ 2 3) : MP yX1_restsLength cX1_restsLength 4 .int (RM 3 64) a n σ [.ref (a 2), iv p] (fun r => r = 1 + lenT (σ 10) (Mc σ) (σ 2 3) (p + 1)) := by
  refine MI.of (own := RX1) (by decide +kernel) rfl (Nat.le_of_ble_eq_true rfl) ?_
  intro κ C hret
  show J κ 0 0 a n σ [(0, .ref (a 2)), (1, iv p)] 0 []
  obtain ⟨hsz, hpin⟩ := id hI
  refine r_iconst C dX1_restsLength_0 ?_
  refine r_istore_n C dX1_restsLength_1 (by decide) (fun z_ => [(2, iv z_), (0, .ref (a 2)), (1, iv p)]) (fun _ => rfl) (fun l0 el0 => ?_)
  refine r_iload_n C dX1_restsLength_2 2 rfl ?_
  refine r_iconst C dX1_restsLength_3 ?_
  refine r_iadd C dX1_restsLength_4 ?_
  refine r_istore_n C dX1_restsLength_5 (by decide) (fun z_ => [(3, iv z_), (2, iv l0), (0, .ref (a 2)), (1, iv p)]) (fun _ => rfl) (fun q0 eq0 => ?_)
  have lp6 : ∀ (N : Nat) (l : Int) (q : Int), (σ 2 3 - q : Int) < N → (1 ≤ l ∧ q = p + l ∧ q ≤ σ 2 3 ∧ 1 + lenT (σ 10) (Mc σ) (σ 2 3) (p + 1) = l + lenT (σ 10) (Mc σ) (σ 2 3) q) → J κ 0 0 a n σ [(0, .ref (a 2)), (1, iv p), (2, iv l), (3, iv q)] 6 [] := by
    intro N
    induction N with
    | zero =>
      intro l q hm6 hi6
      exact absurd hm6 (by omega)
    | succ N ih6 =>
      intro l q hm6 hi6
      obtain ⟨hi1, hi2, hi3, hi4⟩ := hi6
      refine r_iload_n C dX1_restsLength_6 3 rfl ?_
      refine r_aload_n C dX1_restsLength_7 0 rfl ?_
      refine gX1_22 C dX1_restsLength_8 (fun g1 => ?_)
      refine r_icmp_ge (tgt := 39) C dX1_restsLength_11 (by decide) (by omega) (by omega) (fun h2 => ?_) (fun h2 => ?_)
      · skip
        refine r_iload_n C dX1_restsLength_39 2 rfl ?_
        exact hret _ _ _ _ dX1_restsLength_40 ⟨rfl, by rw [hi4, lenT_f (fun q9 => by first | omega | exact hr ⟨by omega, q9.2.1⟩ | exact q9.2.2 hg.2)]; omega⟩
      · skip
        refine r_aload_n C dX1_restsLength_14 0 rfl ?_
        refine r_iload_n C dX1_restsLength_15 3 rfl ?_
        refine r_callB1 2 C dX1_restsLength_16 lkX1_51 (m_X1_rests hI (by omega)) ⟨rfl, rfl, Nat.le_of_ble_eq_true rfl, Nat.le_of_ble_eq_true rfl⟩ ⟨Nat.zero_le _, Nat.zero_le _⟩ rc2 (Nat.le_of_ble_eq_true rfl) (fun hr => ?_) (fun hr => ?_)
        · skip
          refine r_if_eq (tgt := 39) C dX1_restsLength_19 (by decide) (by decide) (fun q => absurd q (by decide)) (fun _ => ?_)
          refine r_aload_n C dX1_restsLength_22 0 rfl ?_
          refine r_iload_n C dX1_restsLength_23 3 rfl ?_
          refine r_callB1 2 C dX1_restsLength_24 lkX1_58 (m_X1_opensRests hI (by omega) hk) ⟨rfl, rfl, Nat.le_of_ble_eq_true rfl, Nat.le_of_ble_eq_true rfl⟩ ⟨Nat.zero_le _, Nat.zero_le _⟩ rc2 (Nat.le_of_ble_eq_true rfl) (fun hg => ?_) (fun hg => ?_)
          · skip
            refine r_if_ne (tgt := 39) C dX1_restsLength_27 (by decide) (by decide) (fun _ => ?_) (fun q => absurd q (by decide))
            refine r_iload_n C dX1_restsLength_39 2 rfl ?_
            exact hret _ _ _ _ dX1_restsLength_40 ⟨rfl, by rw [hi4, lenT_f (fun q9 => by first | omega | exact hr ⟨by omega, q9.2.1⟩ | exact q9.2.2 hg.2)]; omega⟩
          · skip
            refine r_if_ne (tgt := 39) C dX1_restsLength_27 (by decide) (by decide) (fun q => absurd q (by decide)) (fun _ => ?_)
            refine r_iinc C dX1_restsLength_30 (by decide) 2 rfl (fun z_ => [(2, iv z_), (0, .ref (a 2)), (1, iv p), (3, iv q)]) (fun _ => rfl) (fun l2 el2 => ?_)
            refine r_iinc C dX1_restsLength_33 (by decide) 3 rfl (fun z_ => [(3, iv z_), (2, iv l2), (0, .ref (a 2)), (1, iv p)]) (fun _ => rfl) (fun q2 eq2 => ?_)
            refine r_goto (tgt := 6) C dX1_restsLength_36 (by decide) ?_
            refine r_sub [2, 3, 1, 0] (L' := [(0, .ref (a 2)), (1, iv p), (2, iv l2), (3, iv q2)]) rfl ?_
            exact ih6 _ _ (by omega) (by subst el2; subst eq2; exact ⟨by omega, by omega, by omega, by rw [hi4, lenT_t (by omega) hr.2 (fun q9 => hg ⟨by omega, q9⟩)]; omega⟩)
        · skip
          refine r_if_eq (tgt := 39) C dX1_restsLength_19 (by decide) (by decide) (fun _ => ?_) (fun q => absurd q (by decide))
          refine r_iload_n C dX1_restsLength_39 2 rfl ?_
          exact hret _ _ _ _ dX1_restsLength_40 ⟨rfl, by rw [hi4, lenT_f (fun q9 => by first | omega | exact hr ⟨by omega, q9.2.1⟩ | exact q9.2.2 hg.2)]; omega⟩
  refine r_sub [2, 3, 1, 0] (L' := [(0, .ref (a 2)), (1, iv p), (2, iv l0), (3, iv q0)]) rfl ?_
  exact lp6 ((σ 2 3 - p - 1 : Int).toNat + 1) _ _ (by omega) (by subst el0; subst eq0; exact ⟨by omega, by omega, by omega, rfl⟩)

def vlC (σ : ST) (k : Int) : Int := 100 * σ 9 k + (1 + lenT (σ 10) (Mc σ) (σ 2 3) (k + 1))
def rtC (σ : ST) (i : Int) : Int := restT (σ 10) (Mc σ) (vlC σ) (σ 2 3) 0 i
set_option maxHeartbeats 4000000 in
set_option maxRecDepth 100000 in
theorem m_X1_restsAt {a : Nat → Nat} {n : Nat} {σ : ST} {p : Int} (hI : PIn σ) (hp : inR p) (hk : ∀ j, 0 ≤ σ 7 j ∧ σ 7 j ≤ 7) (hp0 : 0 ≤ p) : MP yX1_restsAt cX1_restsAt 4 .int (RM 4 87) a n σ [.ref (a 2), iv p] (fun r => (0 ≤ rtC σ p ∧ r = rtC σ p ∧ r ≤ 5000) ∨ (rtC σ p = -1 ∧ r = -1000002)) := by
  refine MI.of (own := RX1) (by decide +kernel) rfl (Nat.le_of_ble_eq_true rfl) ?_
  intro κ C hret
  show J κ 0 0 a n σ [(0, .ref (a 2)), (1, iv p)] 0 []
  obtain ⟨hsz, hpin⟩ := id hI
  refine r_iload_n C dX1_restsAt_0 1 rfl ?_
  refine r_istore_n C dX1_restsAt_1 (by decide) (fun z_ => [(2, iv z_), (0, .ref (a 2)), (1, iv p)]) (fun _ => rfl) (fun l0 el0 => ?_)
  refine r_iconst C dX1_restsAt_2 ?_
  refine r_istore_n C dX1_restsAt_3 (by decide) (fun z_ => [(3, iv z_), (2, iv l0), (0, .ref (a 2)), (1, iv p)]) (fun _ => rfl) (fun k0 ek0 => ?_)
  have lp4 : ∀ (N : Nat) (lf : Int) (k : Int), (σ 2 3 - k : Int) < N → (0 ≤ k ∧ k ≤ σ 2 3 ∧ 0 ≤ lf ∧ lf ≤ p ∧ restT (σ 10) (Mc σ) (vlC σ) (σ 2 3) k lf = rtC σ p) → J κ 0 0 a n σ [(0, .ref (a 2)), (1, iv p), (2, iv lf), (3, iv k)] 4 [] := by
    intro N
    induction N with
    | zero =>
      intro lf k hm4 hi4
      exact absurd hm4 (by omega)
    | succ N ih4 =>
      intro lf k hm4 hi4
      obtain ⟨hk1, hk2, hk3, hk4, hre⟩ := hi4
      refine r_iload_n C dX1_restsAt_4 3 rfl ?_
      refine r_aload_n C dX1_restsAt_5 0 rfl ?_
      refine gX1_22 C dX1_restsAt_6 (fun g1 => ?_)
      refine r_icmp_ge (tgt := 49) C dX1_restsAt_9 (by decide) (by omega) (by omega) (fun h2 => ?_) (fun h2 => ?_)
      · skip
        refine r_ldc (-1000002) C dX1_restsAt_49 tw302 (by decide +kernel) ?_
        exact hret _ _ _ _ dX1_restsAt_51 ⟨rfl, Or.inr ⟨by rw [← hre, restT_e (by omega)], rfl⟩⟩
      · skip
        refine r_aload_n C dX1_restsAt_12 0 rfl ?_
        refine r_iload_n C dX1_restsAt_13 3 rfl ?_
        refine r_callB1 2 C dX1_restsAt_14 lkX1_58 (m_X1_opensRests hI (by omega) hk) ⟨rfl, rfl, Nat.le_of_ble_eq_true rfl, Nat.le_of_ble_eq_true rfl⟩ ⟨Nat.zero_le _, Nat.zero_le _⟩ rc2 (Nat.le_of_ble_eq_true rfl) (fun hg => ?_) (fun hg => ?_)
        · skip
          refine r_if_eq (tgt := 43) C dX1_restsAt_17 (by decide) (by decide) (fun q => absurd q (by decide)) (fun _ => ?_)
          refine r_iload_n C dX1_restsAt_20 2 rfl ?_
          refine r_if_ne (tgt := 40) C dX1_restsAt_21 (by decide) (by omega) (fun hl0 => ?_) (fun hl0 => ?_)
          · skip
            refine r_iinc C dX1_restsAt_40 (by decide) 2 rfl (fun z_ => [(2, iv z_), (0, .ref (a 2)), (1, iv p), (3, iv k)]) (fun _ => rfl) (fun l2 el2 => ?_)
            refine r_iinc C dX1_restsAt_43 (by decide) 3 rfl (fun z_ => [(3, iv z_), (2, iv l2), (0, .ref (a 2)), (1, iv p)]) (fun _ => rfl) (fun k2 ek2 => ?_)
            refine r_goto (tgt := 4) C dX1_restsAt_46 (by decide) ?_
            refine r_sub [2, 3, 1, 0] (L' := [(0, .ref (a 2)), (1, iv p), (2, iv l2), (3, iv k2)]) rfl ?_
            exact ih4 _ _ (by omega) (by subst ek2; subst el2; refine ⟨by omega, by omega, by omega, by omega, ?_⟩; rw [← hre, restT_s (show k < σ 2 3 by omega), if_pos hg.2, if_neg hl0, show lf + -1 = lf - 1 by omega])
          · skip
            have hri := hpin k (by omega) (by omega)
            have hlb := lenT_bd (P := σ 10) (M := Mc σ) (many := σ 2 3) (j := k + 1) (by omega)
            refine r_bipush C dX1_restsAt_24 (by decide) ?_
            refine r_aload_n C dX1_restsAt_26 0 rfl ?_
            refine gX1_15 C dX1_restsAt_27 ?_
            refine r_iload_n C dX1_restsAt_30 3 rfl ?_
            refine r_iald 40 C dX1_restsAt_31 (by omega) (fun _ => rfl) (by omega) (by omega) (by decide) (fun g6 => ?_)
            refine r_imul C dX1_restsAt_32 ?_
            refine r_aload_n C dX1_restsAt_33 0 rfl ?_
            refine r_iload_n C dX1_restsAt_34 3 rfl ?_
            refine r_callP1 2 C dX1_restsAt_35 lkX1_61 (m_X1_restsLength hI (by omega) hk (by omega)) ⟨rfl, rfl, Nat.le_of_ble_eq_true rfl, Nat.le_of_ble_eq_true rfl⟩ ⟨Nat.zero_le _, Nat.zero_le _⟩ rc2 (Nat.le_of_ble_eq_true rfl) (fun cu hcu => ?_)
            refine r_iadd C dX1_restsAt_38 ?_
            exact hret _ _ _ _ dX1_restsAt_39 ⟨rfl, by rw [restT_s (show k < σ 2 3 by omega), if_pos hg.2, if_pos hl0] at hre; exact Or.inl ⟨by rw [← hre]; unfold vlC; omega, by rw [← hre]; unfold vlC; omega, by omega⟩⟩
        · skip
          refine r_if_eq (tgt := 43) C dX1_restsAt_17 (by decide) (by decide) (fun _ => ?_) (fun q => absurd q (by decide))
          refine r_iinc C dX1_restsAt_43 (by decide) 3 rfl (fun z_ => [(3, iv z_), (0, .ref (a 2)), (1, iv p), (2, iv lf)]) (fun _ => rfl) (fun k2 ek2 => ?_)
          refine r_goto (tgt := 4) C dX1_restsAt_46 (by decide) ?_
          refine r_sub [1, 2, 3, 0] (L' := [(0, .ref (a 2)), (1, iv p), (2, iv lf), (3, iv k2)]) rfl ?_
          exact ih4 _ _ (by omega) (by subst ek2; refine ⟨by omega, by omega, by omega, by omega, ?_⟩; rw [← hre, restT_s (show k < σ 2 3 by omega), if_neg (fun q => hg ⟨by omega, q⟩)])
  refine r_sub [2, 3, 1, 0] (L' := [(0, .ref (a 2)), (1, iv p), (2, iv l0), (3, iv k0)]) rfl ?_
  exact lp4 ((σ 2 3 : Int).toNat + 1) _ _ (by omega) (by subst el0; subst ek0; exact ⟨by omega, by omega, by omega, by omega, rfl⟩)

set_option maxHeartbeats 4000000 in
set_option maxRecDepth 100000 in
theorem m_X1_placeOf {a : Nat → Nat} {n : Nat} {σ : ST} {p : Int} (hI : PIn σ) (hp : inR p)  : MP yX1_placeOf cX1_placeOf 3 .int (RM 0 0) a n σ [.ref (a 2), iv p] (fun r => ((0 ≤ r ∧ r < σ 2 3) ∧ σ 9 r = p) ∨ (r = -1 ∧ ∀ k, 0 ≤ k → k < σ 2 3 → σ 9 k ≠ p)) := by
  refine MI.of (own := RX1) (by decide +kernel) rfl (Nat.le_of_ble_eq_true rfl) ?_
  intro κ C hret
  show J κ 0 0 a n σ [(0, .ref (a 2)), (1, iv p)] 0 []
  obtain ⟨hsz, hpin⟩ := id hI
  refine r_iconst C dX1_placeOf_0 ?_
  refine r_istore_n C dX1_placeOf_1 (by decide) (fun z_ => [(2, iv z_), (0, .ref (a 2)), (1, iv p)]) (fun _ => rfl) (fun k0 ek0 => ?_)
  have lp2 : ∀ (N : Nat) (k : Int), (σ 2 3 - k : Int) < N → (0 ≤ k ∧ k ≤ σ 2 3 ∧ ∀ j, 0 ≤ j → j < k → σ 9 j ≠ p) → J κ 0 0 a n σ [(0, .ref (a 2)), (1, iv p), (2, iv k)] 2 [] := by
    intro N
    induction N with
    | zero =>
      intro k hm2 hi2
      exact absurd hm2 (by omega)
    | succ N ih2 =>
      intro k hm2 hi2
      obtain ⟨hk1, hk2, hk3⟩ := hi2
      refine r_iload_n C dX1_placeOf_2 2 rfl ?_
      refine r_aload_n C dX1_placeOf_3 0 rfl ?_
      refine gX1_22 C dX1_placeOf_4 (fun g1 => ?_)
      refine r_icmp_ge (tgt := 28) C dX1_placeOf_7 (by decide) (by omega) (by omega) (fun h2 => ?_) (fun h2 => ?_)
      · skip
        refine r_iconst C dX1_placeOf_28 ?_
        exact hret _ _ _ _ dX1_placeOf_29 ⟨rfl, by first | exact Or.inl ⟨by omega, hne⟩ | exact Or.inr ⟨rfl, fun j h1 h2 => hk3 j h1 (by omega)⟩⟩
      · skip
        refine r_aload_n C dX1_placeOf_10 0 rfl ?_
        refine gX1_15 C dX1_placeOf_11 ?_
        refine r_iload_n C dX1_placeOf_14 2 rfl ?_
        refine r_iald 40 C dX1_placeOf_15 (by omega) (fun _ => rfl) (by omega) (by omega) (by decide) (fun g4 => ?_)
        refine r_iload_n C dX1_placeOf_16 1 rfl ?_
        refine r_icmp_ne (tgt := 22) C dX1_placeOf_17 (by decide) (by omega) (by omega) (fun hne => ?_) (fun hne => ?_)
        · skip
          refine r_iinc C dX1_placeOf_22 (by decide) 2 rfl (fun z_ => [(2, iv z_), (0, .ref (a 2)), (1, iv p)]) (fun _ => rfl) (fun k2 ek2 => ?_)
          refine r_goto (tgt := 2) C dX1_placeOf_25 (by decide) ?_
          refine r_sub [1, 2, 0] (L' := [(0, .ref (a 2)), (1, iv p), (2, iv k2)]) rfl ?_
          exact ih2 _ (by omega) (by subst ek2; refine ⟨by omega, by omega, fun j h1 h2 => ?_⟩; by_cases hj : j = k; (subst hj; exact hne); exact hk3 j h1 (by omega))
        · skip
          refine r_iload_n C dX1_placeOf_20 2 rfl ?_
          exact hret _ _ _ _ dX1_placeOf_21 ⟨rfl, by first | exact Or.inl ⟨by omega, hne⟩ | exact Or.inr ⟨rfl, fun j h1 h2 => hk3 j h1 (by omega)⟩⟩
  refine r_sub [1, 2, 0] (L' := [(0, .ref (a 2)), (1, iv p), (2, iv k0)]) rfl ?_
  exact lp2 ((σ 2 3 : Int).toNat + 1) _ (by omega) (by subst ek0; exact ⟨by omega, by omega, fun j h1 h2 => by omega⟩)

set_option maxHeartbeats 4000000 in
set_option maxRecDepth 100000 in
theorem m_X1_barAt {a : Nat → Nat} {n : Nat} {σ : ST} {p : Int} (hI : PIn σ) (hp : inR p)  : MP yX1_barAt cX1_barAt 2 .int (RM 1 21) a n σ [.ref (a 2), iv p] (fun r => ((0 ≤ p ∧ p < σ 2 3) ∧ r = σ 9 p) ∨ (¬ (0 ≤ p ∧ p < σ 2 3) ∧ r = -1000002)) := by
  refine MI.of (own := RX1) (by decide +kernel) rfl (Nat.le_of_ble_eq_true rfl) ?_
  intro κ C hret
  show J κ 0 0 a n σ [(0, .ref (a 2)), (1, iv p)] 0 []
  obtain ⟨hsz, hpin⟩ := id hI
  refine r_aload_n C dX1_barAt_0 0 rfl ?_
  refine r_iload_n C dX1_barAt_1 1 rfl ?_
  refine r_callB1 2 C dX1_barAt_2 lkX1_45 (m_X1_has hI (by omega)) ⟨rfl, rfl, Nat.le_of_ble_eq_true rfl, Nat.le_of_ble_eq_true rfl⟩ ⟨Nat.zero_le _, Nat.zero_le _⟩ rc2 (Nat.le_of_ble_eq_true rfl) (fun h1 => ?_) (fun h1 => ?_)
  · skip
    refine r_if_eq (tgt := 17) C dX1_barAt_5 (by decide) (by decide) (fun q => absurd q (by decide)) (fun _ => ?_)
    refine r_aload_n C dX1_barAt_8 0 rfl ?_
    refine gX1_15 C dX1_barAt_9 ?_
    refine r_iload_n C dX1_barAt_12 1 rfl ?_
    refine r_iald 40 C dX1_barAt_13 (by omega) (fun _ => rfl) (by omega) (by omega) (by decide) (fun g4 => ?_)
    refine r_goto (tgt := 19) C dX1_barAt_14 (by decide) ?_
    exact hret _ _ _ _ dX1_barAt_19 ⟨rfl, by first | (refine (Or.inl ⟨?_, ?_⟩) <;> first | omega | assumption | rfl) | (refine (Or.inr ⟨?_, ?_⟩) <;> first | omega | assumption | rfl)⟩
  · skip
    refine r_if_eq (tgt := 17) C dX1_barAt_5 (by decide) (by decide) (fun _ => ?_) (fun q => absurd q (by decide))
    refine r_ldc (-1000002) C dX1_barAt_17 tw302 (by decide +kernel) ?_
    exact hret _ _ _ _ dX1_barAt_19 ⟨rfl, by first | (refine (Or.inl ⟨?_, ?_⟩) <;> first | omega | assumption | rfl) | (refine (Or.inr ⟨?_, ?_⟩) <;> first | omega | assumption | rfl)⟩

set_option maxHeartbeats 4000000 in
set_option maxRecDepth 100000 in
theorem m_X1_secondsAt {a : Nat → Nat} {n : Nat} {σ : ST} {p : Int} (hI : PIn σ) (hp : inR p)  : MP yX1_secondsAt cX1_secondsAt 2 .int (RM 1 21) a n σ [.ref (a 2), iv p] (fun r => ((0 ≤ p ∧ p < σ 2 3) ∧ r = σ 6 (σ 9 p)) ∨ (¬ (0 ≤ p ∧ p < σ 2 3) ∧ r = 0)) := by
  refine MI.of (own := RX1) (by decide +kernel) rfl (Nat.le_of_ble_eq_true rfl) ?_
  intro κ C hret
  show J κ 0 0 a n σ [(0, .ref (a 2)), (1, iv p)] 0 []
  obtain ⟨hsz, hpin⟩ := id hI
  refine r_aload_n C dX1_secondsAt_0 0 rfl ?_
  refine r_iload_n C dX1_secondsAt_1 1 rfl ?_
  refine r_callB1 2 C dX1_secondsAt_2 lkX1_45 (m_X1_has hI (by omega)) ⟨rfl, rfl, Nat.le_of_ble_eq_true rfl, Nat.le_of_ble_eq_true rfl⟩ ⟨Nat.zero_le _, Nat.zero_le _⟩ rc2 (Nat.le_of_ble_eq_true rfl) (fun h1 => ?_) (fun h1 => ?_)
  · skip
    refine r_if_eq (tgt := 25) C dX1_secondsAt_5 (by decide) (by decide) (fun q => absurd q (by decide)) (fun _ => ?_)
    have hpp := hpin p (by omega) (by omega)
    refine r_aload_n C dX1_secondsAt_8 0 rfl ?_
    refine gX1_9 C dX1_secondsAt_9 ?_
    refine gX1_66 C dX1_secondsAt_12 ?_
    refine r_aload_n C dX1_secondsAt_15 0 rfl ?_
    refine gX1_15 C dX1_secondsAt_16 ?_
    refine r_iload_n C dX1_secondsAt_19 1 rfl ?_
    refine r_iald 40 C dX1_secondsAt_20 (by omega) (fun _ => rfl) (by omega) (by omega) (by decide) (fun g6 => ?_)
    refine r_iald 40 C dX1_secondsAt_21 (by omega) (fun _ => rfl) (by omega) (by omega) (by decide) (fun g7 => ?_)
    refine r_goto (tgt := 26) C dX1_secondsAt_22 (by decide) ?_
    exact hret _ _ _ _ dX1_secondsAt_26 ⟨rfl, by first | (refine (Or.inl ⟨?_, ?_⟩) <;> first | omega | assumption | rfl) | (refine (Or.inr ⟨?_, ?_⟩) <;> first | omega | assumption | rfl)⟩
  · skip
    refine r_if_eq (tgt := 25) C dX1_secondsAt_5 (by decide) (by decide) (fun _ => ?_) (fun q => absurd q (by decide))
    refine r_iconst C dX1_secondsAt_25 ?_
    exact hret _ _ _ _ dX1_secondsAt_26 ⟨rfl, by first | (refine (Or.inl ⟨?_, ?_⟩) <;> first | omega | assumption | rfl) | (refine (Or.inr ⟨?_, ?_⟩) <;> first | omega | assumption | rfl)⟩

set_option maxHeartbeats 4000000 in
set_option maxRecDepth 100000 in
theorem m_X1_notesAt {a : Nat → Nat} {n : Nat} {σ : ST} {p : Int} (hI : PIn σ) (hp : inR p)  : MP yX1_notesAt cX1_notesAt 2 .int (RM 1 21) a n σ [.ref (a 2), iv p] (fun r => ((0 ≤ p ∧ p < σ 2 3) ∧ r = σ 10 p) ∨ (¬ (0 ≤ p ∧ p < σ 2 3) ∧ r = 0)) := by
  refine MI.of (own := RX1) (by decide +kernel) rfl (Nat.le_of_ble_eq_true rfl) ?_
  intro κ C hret
  show J κ 0 0 a n σ [(0, .ref (a 2)), (1, iv p)] 0 []
  obtain ⟨hsz, hpin⟩ := id hI
  refine r_aload_n C dX1_notesAt_0 0 rfl ?_
  refine r_iload_n C dX1_notesAt_1 1 rfl ?_
  refine r_callB1 2 C dX1_notesAt_2 lkX1_45 (m_X1_has hI (by omega)) ⟨rfl, rfl, Nat.le_of_ble_eq_true rfl, Nat.le_of_ble_eq_true rfl⟩ ⟨Nat.zero_le _, Nat.zero_le _⟩ rc2 (Nat.le_of_ble_eq_true rfl) (fun h1 => ?_) (fun h1 => ?_)
  · skip
    refine r_if_eq (tgt := 17) C dX1_notesAt_5 (by decide) (by decide) (fun q => absurd q (by decide)) (fun _ => ?_)
    refine r_aload_n C dX1_notesAt_8 0 rfl ?_
    refine gX1_19 C dX1_notesAt_9 ?_
    refine r_iload_n C dX1_notesAt_12 1 rfl ?_
    refine r_iald 40 C dX1_notesAt_13 (by omega) (fun _ => rfl) (by omega) (by omega) (by decide) (fun g4 => ?_)
    refine r_goto (tgt := 18) C dX1_notesAt_14 (by decide) ?_
    exact hret _ _ _ _ dX1_notesAt_18 ⟨rfl, by first | (refine (Or.inl ⟨?_, ?_⟩) <;> first | omega | assumption | rfl) | (refine (Or.inr ⟨?_, ?_⟩) <;> first | omega | assumption | rfl)⟩
  · skip
    refine r_if_eq (tgt := 17) C dX1_notesAt_5 (by decide) (by decide) (fun _ => ?_) (fun q => absurd q (by decide))
    refine r_iconst C dX1_notesAt_17 ?_
    exact hret _ _ _ _ dX1_notesAt_18 ⟨rfl, by first | (refine (Or.inl ⟨?_, ?_⟩) <;> first | omega | assumption | rfl) | (refine (Or.inr ⟨?_, ?_⟩) <;> first | omega | assumption | rfl)⟩

set_option maxHeartbeats 4000000 in
set_option maxRecDepth 100000 in
theorem m_X1_restsAhead {a : Nat → Nat} {n : Nat} {σ : ST} {p : Int} (hI : PIn σ) (hp : inR p) (hd : 1 ≤ σ 2 5 ∧ σ 2 5 ≤ 20) (hp2 : -1 ≤ p ∧ p ≤ 40) : MB yX1_restsAhead cX1_restsAhead 3 (RM 1 21) a n σ [.ref (a 2), iv p] (∀ q, p - σ 2 5 ≤ q → q < p → (0 ≤ q ∧ q < σ 2 3) ∧ σ 10 q = 0) := by
  refine MI.ofB (own := RX1) (by decide +kernel) rfl (Nat.le_of_ble_eq_true rfl) ?_
  intro κ C hret
  show J κ 0 0 a n σ [(0, .ref (a 2)), (1, iv p)] 0 []
  obtain ⟨hsz, hpin⟩ := id hI
  refine r_iload_n C dX1_restsAhead_0 1 rfl ?_
  refine r_aload_n C dX1_restsAhead_1 0 rfl ?_
  refine gX1_29 C dX1_restsAhead_2 (fun g1 => ?_)
  refine r_isub C dX1_restsAhead_5 ?_
  refine r_istore_n C dX1_restsAhead_6 (by decide) (fun z_ => [(2, iv z_), (0, .ref (a 2)), (1, iv p)]) (fun _ => rfl) (fun q0 eq0 => ?_)
  have lp7 : ∀ (N : Nat) (q : Int), (p - q : Int) < N → (p - σ 2 5 ≤ q ∧ q ≤ p ∧ ∀ j, p - σ 2 5 ≤ j → j < q → (0 ≤ j ∧ j < σ 2 3) ∧ σ 10 j = 0) → J κ 0 0 a n σ [(0, .ref (a 2)), (1, iv p), (2, iv q)] 7 [] := by
    intro N
    induction N with
    | zero =>
      intro q hm7 hi7
      exact absurd hm7 (by omega)
    | succ N ih7 =>
      intro q hm7 hi7
      obtain ⟨hk1, hk2, hk3⟩ := hi7
      refine r_iload_n C dX1_restsAhead_7 2 rfl ?_
      refine r_iload_n C dX1_restsAhead_8 1 rfl ?_
      refine r_icmp_ge (tgt := 28) C dX1_restsAhead_9 (by decide) (by omega) (by omega) (fun h2 => ?_) (fun h2 => ?_)
      · skip
        refine r_iconst C dX1_restsAhead_28 ?_
        exact hret _ _ _ _ dX1_restsAhead_29 (Or.inr rfl) (⟨rfl, Or.inl ⟨rfl, fun j h1 h2 => hk3 j h1 (by omega)⟩⟩)
      · skip
        refine r_aload_n C dX1_restsAhead_12 0 rfl ?_
        refine r_iload_n C dX1_restsAhead_13 2 rfl ?_
        refine r_callB1 2 C dX1_restsAhead_14 lkX1_51 (m_X1_rests hI (by omega)) ⟨rfl, rfl, Nat.le_of_ble_eq_true rfl, Nat.le_of_ble_eq_true rfl⟩ ⟨Nat.zero_le _, Nat.zero_le _⟩ rc2 (Nat.le_of_ble_eq_true rfl) (fun hr => ?_) (fun hr => ?_)
        · skip
          refine r_if_ne (tgt := 22) C dX1_restsAhead_17 (by decide) (by decide) (fun _ => ?_) (fun q => absurd q (by decide))
          refine r_iinc C dX1_restsAhead_22 (by decide) 2 rfl (fun z_ => [(2, iv z_), (0, .ref (a 2)), (1, iv p)]) (fun _ => rfl) (fun q2 eq2 => ?_)
          refine r_goto (tgt := 7) C dX1_restsAhead_25 (by decide) ?_
          refine r_sub [1, 2, 0] (L' := [(0, .ref (a 2)), (1, iv p), (2, iv q2)]) rfl ?_
          exact ih7 _ (by omega) (by subst eq2; refine ⟨by omega, by omega, fun j h1 h2 => ?_⟩; by_cases hj : j = q; (subst hj; exact hr); exact hk3 j h1 (by omega))
        · skip
          refine r_if_ne (tgt := 22) C dX1_restsAhead_17 (by decide) (by decide) (fun q => absurd q (by decide)) (fun _ => ?_)
          refine r_iconst C dX1_restsAhead_20 ?_
          exact hret _ _ _ _ dX1_restsAhead_21 (Or.inl rfl) (⟨rfl, Or.inr ⟨rfl, fun h9 => hr (h9 q (by omega) (by omega))⟩⟩)
  refine r_sub [1, 2, 0] (L' := [(0, .ref (a 2)), (1, iv p), (2, iv q0)]) rfl ?_
  exact lp7 ((σ 2 5 : Int).toNat + 1) _ (by omega) (by subst eq0; exact ⟨by omega, by omega, fun j h1 h2 => by omega⟩)

def hsF (f : Int → Int) (q0 : Int) : Nat → Int
  | 0 => 0
  | k + 1 => hsF f q0 k + f (q0 + k)
theorem hsF_s (f : Int → Int) (q0 : Int) {q : Int} (h : q0 ≤ q) : hsF f q0 (q + 1 - q0).toNat = hsF f q0 (q - q0).toNat + f q := by
  rw [show (q + 1 - q0).toNat = (q - q0).toNat + 1 by omega]
  show hsF f q0 (q - q0).toNat + f (q0 + ((q - q0).toNat : Int)) = _
  rw [show q0 + ((q - q0).toNat : Int) = q by omega]
theorem hsF_bd (f : Int → Int) (hf : ∀ j, 0 ≤ f j ∧ f j ≤ 9) (q0 : Int) : ∀ k : Nat, 0 ≤ hsF f q0 k ∧ hsF f q0 k ≤ 9 * k
  | 0 => by simp [hsF]
  | k + 1 => by
    have h1 := hsF_bd f hf q0 k
    have h2 := hf (q0 + k)
    unfold hsF
    omega
set_option maxHeartbeats 4000000 in
set_option maxRecDepth 100000 in
theorem m_X1_heardAhead {a : Nat → Nat} {n : Nat} {σ : ST} {p : Int} (hI : PIn σ) (hp : inR p) {o : Int} (hC : CS σ n) (ho : 0 ≤ o ∧ o < n) (hd : 1 ≤ σ 2 5 ∧ σ 2 5 ≤ 20) (hp2 : σ 2 5 ≤ p ∧ p < σ 2 3) : MP yX1_heardAhead cX1_heardAhead 6 .int (RM 1 21) a n σ [.ref (a 2), iv o, iv p] (fun r => r = (if stC σ o = 0 then 0 else Lc σ o (p - 1) + (if 1 < σ 2 5 then Lc σ o (p - 2) else 0)) ∧ 0 ≤ r ∧ r ≤ 18) := by
  refine MI.of (own := RX1) (by decide +kernel) rfl (Nat.le_of_ble_eq_true rfl) ?_
  intro κ C hret
  show J κ 0 0 a n σ [(0, .ref (a 2)), (1, iv o), (2, iv p)] 0 []
  obtain ⟨hsz, hpin⟩ := id hI
  have hvo := hC.2.2.2.2.2.2.2.2.2.2.2 o.toNat (by omega)
  have hLb : ∀ j, 0 ≤ Lc σ o j ∧ Lc σ o j ≤ 9 := fun j => hvo.2.2.2.2.2 _
  have hn1 := hC.2.1
  refine r_aload_n C dX1_heardAhead_0 0 rfl ?_
  refine gX1_9 C dX1_heardAhead_1 ?_
  refine r_iload_n C dX1_heardAhead_4 1 rfl ?_
  refine r_callO1 1 C dX1_heardAhead_5 lkX1_32 (m_X2_voiceAt (by omega) (by omega)) ⟨rfl, rfl, Nat.le_of_ble_eq_true rfl, Nat.le_of_ble_eq_true rfl⟩ ⟨Nat.zero_le _, Nat.zero_le _⟩ rc1 (Nat.le_of_ble_eq_true rfl) (fun r2 hr2 => ?_)
  rcases hr2 with ⟨er2, hr2⟩ | ⟨er2, hr2⟩
  · rw [er2]
    show J _ _ _ _ _ _ _ _ (.ref (a (39 + 5 * o.toNat)) :: _)
    refine r_astore_n C dX1_heardAhead_8 (by decide) [(3, .ref (a (39 + 5 * o.toNat))), (0, .ref (a 2)), (1, iv o), (2, iv p)] rfl ?_
    refine r_aload_n C dX1_heardAhead_9 0 rfl ?_
    refine r_ifnull C dX1_heardAhead_10 ?_
    refine r_aload_n C dX1_heardAhead_13 0 rfl ?_
    refine gX1_82 o.toNat (by omega) C dX1_heardAhead_14 (fun g3 => ?_)
    refine r_if_ne (tgt := 22) C dX1_heardAhead_17 (by decide) (by omega) (fun hst => ?_) (fun hst => ?_)
    · skip
      refine r_iconst C dX1_heardAhead_22 ?_
      refine r_istore C dX1_heardAhead_23 (by decide) (fun z_ => [(4, iv z_), (3, .ref (a (39 + 5 * o.toNat))), (0, .ref (a 2)), (1, iv o), (2, iv p)]) (fun _ => rfl) (fun s0 es0 => ?_)
      refine r_iload_n C dX1_heardAhead_25 4 rfl ?_
      refine r_aload_n C dX1_heardAhead_26 2 rfl ?_
      refine gX1_29 C dX1_heardAhead_27 (fun g5 => ?_)
      refine r_iconst C dX1_heardAhead_30 ?_
      refine r_callSP2 C dX1_heardAhead_31 lkX1_86 (m_J9_min_7cf53 (by omega) (by omega)) ⟨rfl, rfl, Nat.le_of_ble_eq_true rfl, Nat.le_of_ble_eq_true rfl⟩ ⟨Nat.zero_le _, Nat.zero_le _⟩ (Nat.le_of_ble_eq_true rfl) (fun mn hmn => ?_)
      refine r_isub C dX1_heardAhead_34 ?_
      refine r_istore C dX1_heardAhead_35 (by decide) (fun z_ => [(5, iv z_), (4, iv s0), (3, .ref (a (39 + 5 * o.toNat))), (0, .ref (a 2)), (1, iv o), (2, iv p)]) (fun _ => rfl) (fun q0 eq0 => ?_)
      have lp37 : ∀ (N : Nat) (su : Int) (q : Int), (p - q : Int) < N → (p - mn ≤ q ∧ q ≤ p ∧ su = hsF (Lc σ o) (p - mn) (q - (p - mn)).toNat) → J κ 0 0 a n σ [(0, .ref (a 2)), (1, iv o), (2, iv p), (3, .ref (a (39 + 5 * o.toNat))), (4, iv su), (5, iv q)] 37 [] := by
        intro N
        induction N with
        | zero =>
          intro su q hm37 hi37
          exact absurd hm37 (by omega)
        | succ N ih37 =>
          intro su q hm37 hi37
          obtain ⟨hk1, hk2, hk3⟩ := hi37
          have hsb := hsF_bd (Lc σ o) hLb (p - mn) (q - (p - mn)).toNat
          refine r_iload C dX1_heardAhead_37 5 rfl ?_
          refine r_iload_n C dX1_heardAhead_39 2 rfl ?_
          refine r_icmp_ge (tgt := 75) C dX1_heardAhead_40 (by decide) (by omega) (by omega) (fun h6 => ?_) (fun h6 => ?_)
          · skip
            refine r_iload C dX1_heardAhead_75 4 rfl ?_
            exact hret _ _ _ _ dX1_heardAhead_77 ⟨rfl, by first | (exfalso; omega) | (rw [if_pos (show stC σ o = 0 by unfold stC; omega)]; omega) | (rw [if_neg (show ¬ stC σ o = 0 by unfold stC; omega)]; have hl1 := hLb (p - 1); have hl2 := hLb (p - 2); rw [show q = p by omega] at hk3; rcases hmn with ⟨h8, h9⟩ | ⟨h8, h9⟩; (rcases (show mn = 1 ∨ mn = 2 by omega) with h7 | h7; (subst h7; rw [show (p - (p - 1)).toNat = 1 by omega] at hk3; simp only [hsF] at hk3; rw [if_neg (by omega)]; rw [show p - 1 + ((0 : Nat) : Int) = p - 1 by omega] at hk3; omega); (subst h7; rw [show (p - (p - 2)).toNat = 2 by omega] at hk3; simp only [hsF] at hk3; rw [if_pos (by omega)]; rw [show p - 2 + ((0 : Nat) : Int) = p - 2 by omega, show p - 2 + ((0 + 1 : Nat) : Int) = p - 1 by omega] at hk3; omega)); (subst h9; rw [show (p - (p - 2)).toNat = 2 by omega] at hk3; simp only [hsF] at hk3; rw [if_pos (by omega)]; rw [show p - 2 + ((0 : Nat) : Int) = p - 2 by omega, show p - 2 + ((0 + 1 : Nat) : Int) = p - 1 by omega] at hk3; omega))⟩
          · skip
            refine r_aload_n C dX1_heardAhead_43 0 rfl ?_
            refine r_iload C dX1_heardAhead_44 5 rfl ?_
            refine r_callB1 2 C dX1_heardAhead_46 lkX1_45 (m_X1_has hI (by omega)) ⟨rfl, rfl, Nat.le_of_ble_eq_true rfl, Nat.le_of_ble_eq_true rfl⟩ ⟨Nat.zero_le _, Nat.zero_le _⟩ rc2 (Nat.le_of_ble_eq_true rfl) (fun hh => ?_) (fun hh => ?_)
            · skip
              refine r_if_eq (tgt := 69) C dX1_heardAhead_49 (by decide) (by decide) (fun q => absurd q (by decide)) (fun _ => ?_)
              refine r_iload C dX1_heardAhead_52 4 rfl ?_
              have hqq := hpin q (by omega) (by omega)
              have hlq := hLb q
              refine r_aload_n C dX1_heardAhead_54 3 rfl ?_
              refine gX1_91 o.toNat (by omega) C dX1_heardAhead_55 ?_
              refine r_aload_n C dX1_heardAhead_58 0 rfl ?_
              refine gX1_15 C dX1_heardAhead_59 ?_
              refine r_iload C dX1_heardAhead_62 5 rfl ?_
              refine r_iald 40 C dX1_heardAhead_64 (by omega) (fun _ => rfl) (by omega) (by omega) (by decide) (fun g10 => ?_)
              refine r_iald 40 C dX1_heardAhead_65 (by omega) (fun _ => cF_vk _ (by omega) (by omega)) (by omega) (by omega) (by decide) (fun g11 => ?_)
              refine r_iadd C dX1_heardAhead_66 ?_
              refine r_istore C dX1_heardAhead_67 (by decide) (fun z_ => [(4, iv z_), (0, .ref (a 2)), (1, iv o), (2, iv p), (3, .ref (a (39 + 5 * o.toNat))), (5, iv q)]) (fun _ => rfl) (fun s2 es2 => ?_)
              refine r_iinc C dX1_heardAhead_69 (by decide) 5 rfl (fun z_ => [(5, iv z_), (4, iv s2), (0, .ref (a 2)), (1, iv o), (2, iv p), (3, .ref (a (39 + 5 * o.toNat)))]) (fun _ => rfl) (fun q2 eq2 => ?_)
              refine r_goto (tgt := 37) C dX1_heardAhead_72 (by decide) ?_
              refine r_sub [2, 3, 4, 5, 1, 0] (L' := [(0, .ref (a 2)), (1, iv o), (2, iv p), (3, .ref (a (39 + 5 * o.toNat))), (4, iv s2), (5, iv q2)]) rfl ?_
              exact ih37 _ _ (by omega) (by subst eq2; first | (exfalso; omega) | (refine ⟨by omega, by omega, ?_⟩; rw [hsF_s _ _ hk1, ← hk3, es2]; rfl))
            · skip
              refine r_if_eq (tgt := 69) C dX1_heardAhead_49 (by decide) (by decide) (fun _ => ?_) (fun q => absurd q (by decide))
              refine r_iinc C dX1_heardAhead_69 (by decide) 5 rfl (fun z_ => [(5, iv z_), (0, .ref (a 2)), (1, iv o), (2, iv p), (3, .ref (a (39 + 5 * o.toNat))), (4, iv su)]) (fun _ => rfl) (fun q2 eq2 => ?_)
              refine r_goto (tgt := 37) C dX1_heardAhead_72 (by decide) ?_
              refine r_sub [1, 2, 3, 4, 5, 0] (L' := [(0, .ref (a 2)), (1, iv o), (2, iv p), (3, .ref (a (39 + 5 * o.toNat))), (4, iv su), (5, iv q2)]) rfl ?_
              exact ih37 _ _ (by omega) (by subst eq2; first | (exfalso; omega) | (refine ⟨by omega, by omega, ?_⟩; rw [hsF_s _ _ hk1, ← hk3, es2]; rfl))
      refine r_sub [3, 4, 5, 2, 1, 0] (L' := [(0, .ref (a 2)), (1, iv o), (2, iv p), (3, .ref (a (39 + 5 * o.toNat))), (4, iv s0), (5, iv q0)]) rfl ?_
      exact lp37 ((mn : Int).toNat + 1) _ _ (by omega) (by rw [es0, eq0, show (p - mn - (p - mn)).toNat = 0 by omega]; exact ⟨by omega, by omega, rfl⟩)
    · skip
      refine r_iconst C dX1_heardAhead_20 ?_
      exact hret _ _ _ _ dX1_heardAhead_21 ⟨rfl, by first | (exfalso; omega) | (rw [if_pos (show stC σ o = 0 by unfold stC; omega)]; omega) | (rw [if_neg (show ¬ stC σ o = 0 by unfold stC; omega)]; have hl1 := hLb (p - 1); have hl2 := hLb (p - 2); rw [show q = p by omega] at hk3; rcases hmn with ⟨h8, h9⟩ | ⟨h8, h9⟩; (rcases (show mn = 1 ∨ mn = 2 by omega) with h7 | h7; (subst h7; rw [show (p - (p - 1)).toNat = 1 by omega] at hk3; simp only [hsF] at hk3; rw [if_neg (by omega)]; rw [show p - 1 + ((0 : Nat) : Int) = p - 1 by omega] at hk3; omega); (subst h7; rw [show (p - (p - 2)).toNat = 2 by omega] at hk3; simp only [hsF] at hk3; rw [if_pos (by omega)]; rw [show p - 2 + ((0 : Nat) : Int) = p - 2 by omega, show p - 2 + ((0 + 1 : Nat) : Int) = p - 1 by omega] at hk3; omega)); (subst h9; rw [show (p - (p - 2)).toNat = 2 by omega] at hk3; simp only [hsF] at hk3; rw [if_pos (by omega)]; rw [show p - 2 + ((0 : Nat) : Int) = p - 2 by omega, show p - 2 + ((0 + 1 : Nat) : Int) = p - 1 by omega] at hk3; omega))⟩
  · rw [er2]
    show J _ _ _ _ _ _ _ _ (.null :: _)
    refine r_astore_nN C dX1_heardAhead_8 (by decide) [(3, .null), (0, .ref (a 2)), (1, iv o), (2, iv p)] rfl ?_
    refine r_aload_nN C dX1_heardAhead_9 0 rfl ?_
    refine r_ifnullN (tgt := 20) C dX1_heardAhead_10 (by decide) ?_
    refine r_iconst C dX1_heardAhead_20 ?_
    exact hret _ _ _ _ dX1_heardAhead_21 ⟨rfl, by first | (exfalso; omega) | (rw [if_pos (show stC σ o = 0 by unfold stC; omega)]; omega) | (rw [if_neg (show ¬ stC σ o = 0 by unfold stC; omega)]; have hl1 := hLb (p - 1); have hl2 := hLb (p - 2); rw [show q = p by omega] at hk3; rcases hmn with ⟨h8, h9⟩ | ⟨h8, h9⟩; (rcases (show mn = 1 ∨ mn = 2 by omega) with h7 | h7; (subst h7; rw [show (p - (p - 1)).toNat = 1 by omega] at hk3; simp only [hsF] at hk3; rw [if_neg (by omega)]; rw [show p - 1 + ((0 : Nat) : Int) = p - 1 by omega] at hk3; omega); (subst h7; rw [show (p - (p - 2)).toNat = 2 by omega] at hk3; simp only [hsF] at hk3; rw [if_pos (by omega)]; rw [show p - 2 + ((0 : Nat) : Int) = p - 2 by omega, show p - 2 + ((0 + 1 : Nat) : Int) = p - 1 by omega] at hk3; omega)); (subst h9; rw [show (p - (p - 2)).toNat = 2 by omega] at hk3; simp only [hsF] at hk3; rw [if_pos (by omega)]; rw [show p - 2 + ((0 : Nat) : Int) = p - 2 by omega, show p - 2 + ((0 + 1 : Nat) : Int) = p - 1 by omega] at hk3; omega))⟩
