set_option maxHeartbeats 4000000 in
set_option maxRecDepth 100000 in
theorem m_X6_in {a : Nat → Nat} {n : Nat} {σ : ST} {x y z : Int} (hx : inR x) (hy : inR y) (hz : inR z) : MB yX6_in cX6_in 3 (RM 0 0) a n σ [iv x, iv y, iv z] (y ≤ x ∧ x ≤ z) := by
  refine MI.ofB (own := RX6) (by decide +kernel) rfl (Nat.le_of_ble_eq_true rfl) ?_
  intro κ C hret
  show J κ 0 0 a n σ [(0, iv x), (1, iv y), (2, iv z)] 0 []
  refine r_iload_n C dX6_in_0 0 rfl ?_
  refine r_iload_n C dX6_in_1 1 rfl ?_
  refine r_icmp_lt (tgt := 14) C dX6_in_2 (by decide) (by omega) (by omega) (fun h1 => ?_) (fun h1 => ?_)
  · skip
    refine r_iconst C dX6_in_14 ?_
    exact hret _ _ _ _ dX6_in_15 (Or.inl rfl) (⟨rfl, Or.inr ⟨rfl, by omega⟩⟩)
  · skip
    refine r_iload_n C dX6_in_5 0 rfl ?_
    refine r_iload_n C dX6_in_6 2 rfl ?_
    refine r_icmp_gt (tgt := 14) C dX6_in_7 (by decide) (by omega) (by omega) (fun h2 => ?_) (fun h2 => ?_)
    · skip
      refine r_iconst C dX6_in_14 ?_
      exact hret _ _ _ _ dX6_in_15 (Or.inl rfl) (⟨rfl, Or.inr ⟨rfl, by omega⟩⟩)
    · skip
      refine r_iconst C dX6_in_10 ?_
      refine r_goto (tgt := 15) C dX6_in_11 (by decide) ?_
      exact hret _ _ _ _ dX6_in_15 (Or.inr rfl) (⟨rfl, Or.inl ⟨rfl, by omega⟩⟩)

set_option maxHeartbeats 4000000 in
set_option maxRecDepth 100000 in
theorem m_X6_finds {a : Nat → Nat} {n : Nat} {σ : ST} {k : Int} (hk : 1 ≤ k ∧ k ≤ 5) (hc : 0 ≤ σ 27 k ∧ σ 27 k < 1000000) : MI yX6_finds cX6_finds 2 .int (RM 0 0) a n σ [.ref (a 18), iv k] (fun r σ1 => r = -1000000 - k ∧ σ1 = fd σ 27 k) := by
  refine MI.of (own := RX6) (by decide +kernel) rfl (Nat.le_of_ble_eq_true rfl) ?_
  intro κ C hret
  show J κ 0 0 a n σ [(0, .ref (a 18)), (1, iv k)] 0 []
  refine r_aload_n C dX6_finds_0 0 rfl ?_
  refine gX6_47 C dX6_finds_1 ?_
  refine r_iload_n C dX6_finds_4 1 rfl ?_
  refine r_dup2 C dX6_finds_5 rfl rfl ?_
  refine r_iald 6 C dX6_finds_6 (by omega) (fun _ => rfl) (by omega) (by omega) (by decide) (fun g2 => ?_)
  refine r_iconst C dX6_finds_7 ?_
  refine r_iadd C dX6_finds_8 ?_
  refine r_iast 6 C dX6_finds_9 (by omega) (fun _ _ => rfl) (by omega) (by omega) (by decide) (by omega) ?_
  refine r_ldc (-1000000) C dX6_finds_10 tw619 (by decide +kernel) ?_
  refine r_iload_n C dX6_finds_12 1 rfl ?_
  refine r_isub C dX6_finds_13 ?_
  exact hret _ _ _ _ dX6_finds_14 (⟨rfl, rfl⟩)

set_option maxHeartbeats 4000000 in
set_option maxRecDepth 100000 in
theorem m_X6_isBar {a : Nat → Nat} {n : Nat} {σ : ST} {b : Int} (hb : inR b) (hn : 0 ≤ σ 18 0 ∧ σ 18 0 ≤ 40) : MB yX6_isBar cX6_isBar 2 (RM 1 22) a n σ [.ref (a 18), iv b] (0 ≤ b ∧ b < σ 18 0) := by
  refine MI.ofB (own := RX6) (by decide +kernel) rfl (Nat.le_of_ble_eq_true rfl) ?_
  intro κ C hret
  show J κ 0 0 a n σ [(0, .ref (a 18)), (1, iv b)] 0 []
  refine r_iload_n C dX6_isBar_0 1 rfl ?_
  refine r_iconst C dX6_isBar_1 ?_
  refine r_aload_n C dX6_isBar_2 0 rfl ?_
  refine gX6_82 C dX6_isBar_3 (fun g1 => ?_)
  refine r_iconst C dX6_isBar_6 ?_
  refine r_isub C dX6_isBar_7 ?_
  refine r_callSB3 C dX6_isBar_8 lkX6_85 (m_X6_in (by omega) (by omega) (by omega)) ⟨rfl, rfl, Nat.le_of_ble_eq_true rfl, Nat.le_of_ble_eq_true rfl⟩ ⟨Nat.zero_le _, Nat.zero_le _⟩ (Nat.le_of_ble_eq_true rfl) (fun h2 => ?_) (fun h2 => ?_)
  · skip
    exact hret _ _ _ _ dX6_isBar_11 (Or.inr rfl) (⟨rfl, Or.inl ⟨rfl, by omega⟩⟩)
  · skip
    exact hret _ _ _ _ dX6_isBar_11 (Or.inl rfl) (⟨rfl, Or.inr ⟨rfl, by omega⟩⟩)

set_option maxHeartbeats 4000000 in
set_option maxRecDepth 100000 in
theorem m_X6_isVoice {a : Nat → Nat} {n : Nat} {σ : ST} {v : Int} (hb : inR v) (hn : 0 ≤ σ 18 1 ∧ σ 18 1 ≤ 6) : MB yX6_isVoice cX6_isVoice 2 (RM 1 22) a n σ [.ref (a 18), iv v] (0 ≤ v ∧ v < σ 18 1) := by
  refine MI.ofB (own := RX6) (by decide +kernel) rfl (Nat.le_of_ble_eq_true rfl) ?_
  intro κ C hret
  show J κ 0 0 a n σ [(0, .ref (a 18)), (1, iv v)] 0 []
  refine r_iload_n C dX6_isVoice_0 1 rfl ?_
  refine r_iconst C dX6_isVoice_1 ?_
  refine r_aload_n C dX6_isVoice_2 0 rfl ?_
  refine gX6_89 C dX6_isVoice_3 (fun g1 => ?_)
  refine r_iconst C dX6_isVoice_6 ?_
  refine r_isub C dX6_isVoice_7 ?_
  refine r_callSB3 C dX6_isVoice_8 lkX6_85 (m_X6_in (by omega) (by omega) (by omega)) ⟨rfl, rfl, Nat.le_of_ble_eq_true rfl, Nat.le_of_ble_eq_true rfl⟩ ⟨Nat.zero_le _, Nat.zero_le _⟩ (Nat.le_of_ble_eq_true rfl) (fun h2 => ?_) (fun h2 => ?_)
  · skip
    exact hret _ _ _ _ dX6_isVoice_11 (Or.inr rfl) (⟨rfl, Or.inl ⟨rfl, by omega⟩⟩)
  · skip
    exact hret _ _ _ _ dX6_isVoice_11 (Or.inl rfl) (⟨rfl, Or.inr ⟨rfl, by omega⟩⟩)

set_option maxHeartbeats 4000000 in
set_option maxRecDepth 100000 in
theorem m_X6_isCut {a : Nat → Nat} {n : Nat} {σ : ST} {b : Int} (hb : 0 ≤ b ∧ b < 40) : MB yX6_isCut cX6_isCut 2 (RM 0 0) a n σ [.ref (a 18), iv b] (3 < σ 20 b) := by
  refine MI.ofB (own := RX6) (by decide +kernel) rfl (Nat.le_of_ble_eq_true rfl) ?_
  intro κ C hret
  show J κ 0 0 a n σ [(0, .ref (a 18)), (1, iv b)] 0 []
  refine r_aload_n C dX6_isCut_0 0 rfl ?_
  refine gX6_26 C dX6_isCut_1 ?_
  refine r_iload_n C dX6_isCut_4 1 rfl ?_
  refine r_iald 40 C dX6_isCut_5 (by omega) (fun _ => rfl) (by omega) (by omega) (by decide) (fun g2 => ?_)
  refine r_iconst C dX6_isCut_6 ?_
  refine r_icmp_le (tgt := 14) C dX6_isCut_7 (by decide) (by omega) (by omega) (fun h3 => ?_) (fun h3 => ?_)
  · skip
    refine r_iconst C dX6_isCut_14 ?_
    exact hret _ _ _ _ dX6_isCut_15 (Or.inl rfl) (⟨rfl, Or.inr ⟨rfl, by omega⟩⟩)
  · skip
    refine r_iconst C dX6_isCut_10 ?_
    refine r_goto (tgt := 15) C dX6_isCut_11 (by decide) ?_
    exact hret _ _ _ _ dX6_isCut_15 (Or.inr rfl) (⟨rfl, Or.inl ⟨rfl, by omega⟩⟩)

set_option maxHeartbeats 4000000 in
set_option maxRecDepth 100000 in
theorem m_X6_rests {a : Nat → Nat} {n : Nat} {σ : ST} {v i : Int} (hI : RowIn σ) (hv : 0 ≤ v ∧ v < 6) (hi : 0 ≤ i ∧ i < σ 18 18) : MB yX6_rests cX6_rests 3 (RM 0 0) a n σ [.ref (a 18), iv v, iv i] (Pm σ v i = 0) := by
  refine MI.ofB (own := RX6) (by decide +kernel) rfl (Nat.le_of_ble_eq_true rfl) ?_
  intro κ C hret
  show J κ 0 0 a n σ [(0, .ref (a 18)), (1, iv v), (2, iv i)] 0 []
  have hri := hI.2.2 i hi.1 hi.2
  have hrm := hI.2.1
  refine r_aload_n C dX6_rests_0 0 rfl ?_
  refine gX6_38 C dX6_rests_1 ?_
  refine r_bipush C dX6_rests_4 (by decide) ?_
  refine r_iload_n C dX6_rests_6 1 rfl ?_
  refine r_imul C dX6_rests_7 ?_
  refine r_aload_n C dX6_rests_8 0 rfl ?_
  refine gX6_50 C dX6_rests_9 ?_
  refine r_iload_n C dX6_rests_12 2 rfl ?_
  refine r_iald 40 C dX6_rests_13 (by omega) (fun _ => rfl) (by omega) (by omega) (by decide) (fun g3 => ?_)
  refine r_iadd C dX6_rests_14 ?_
  refine r_iald 240 C dX6_rests_15 (by omega) (fun _ => rfl) (by omega) (by omega) (by decide) (fun g4 => ?_)
  refine r_if_ne (tgt := 23) C dX6_rests_16 (by decide) (by omega) (fun h5 => ?_) (fun h5 => ?_)
  · skip
    refine r_iconst C dX6_rests_23 ?_
    exact hret _ _ _ _ dX6_rests_24 (Or.inl rfl) (⟨rfl, Or.inr ⟨rfl, by unfold Pm; omega⟩⟩)
  · skip
    refine r_iconst C dX6_rests_19 ?_
    refine r_goto (tgt := 24) C dX6_rests_20 (by decide) ?_
    exact hret _ _ _ _ dX6_rests_24 (Or.inr rfl) (⟨rfl, Or.inl ⟨rfl, by unfold Pm; omega⟩⟩)

set_option maxHeartbeats 4000000 in
set_option maxRecDepth 100000 in
theorem m_X6_begins {a : Nat → Nat} {n : Nat} {σ : ST} {v i : Int} (hI : RowIn σ) (hv : 0 ≤ v ∧ v < 6) (hi : 0 ≤ i ∧ i < σ 18 18) : MB yX6_begins cX6_begins 3 (RM 1 22) a n σ [.ref (a 18), iv v, iv i] (bgP (Pm σ v) (Mm σ) i) := by
  refine MI.ofB (own := RX6) (by decide +kernel) rfl (Nat.le_of_ble_eq_true rfl) ?_
  intro κ C hret
  show J κ 0 0 a n σ [(0, .ref (a 18)), (1, iv v), (2, iv i)] 0 []
  have hri := hI.2.2 i hi.1 hi.2
  have hrm := hI.2.1
  refine r_aload_n C dX6_begins_0 0 rfl ?_
  refine r_iload_n C dX6_begins_1 1 rfl ?_
  refine r_iload_n C dX6_begins_2 2 rfl ?_
  refine r_callB2 18 C dX6_begins_3 lkX6_109 (m_X6_rests hI (by omega) (by omega)) ⟨rfl, rfl, Nat.le_of_ble_eq_true rfl, Nat.le_of_ble_eq_true rfl⟩ ⟨Nat.zero_le _, Nat.zero_le _⟩ rc18 (Nat.le_of_ble_eq_true rfl) (fun h1 => ?_) (fun h1 => ?_)
  · skip
    refine r_if_ne (tgt := 11) C dX6_begins_6 (by decide) (by decide) (fun _ => ?_) (fun q => absurd q (by decide))
    refine r_iload_n C dX6_begins_11 2 rfl ?_
    refine r_if_eq (tgt := 59) C dX6_begins_12 (by decide) (by omega) (fun h3 => ?_) (fun h3 => ?_)
    · skip
      refine r_iconst C dX6_begins_59 ?_
      refine r_goto (tgt := 64) C dX6_begins_60 (by decide) ?_
      exact hret _ _ _ _ dX6_begins_64 (Or.inr rfl) (⟨rfl, Or.inl ⟨rfl, by unfold bgP Mm; omega⟩⟩)
    · skip
      have hrj := hI.2.2 (i - 1) (by omega) (by omega)
      refine r_aload_n C dX6_begins_15 0 rfl ?_
      refine r_iload_n C dX6_begins_16 1 rfl ?_
      refine r_iload_n C dX6_begins_17 2 rfl ?_
      refine r_iconst C dX6_begins_18 ?_
      refine r_isub C dX6_begins_19 ?_
      refine r_callB2 18 C dX6_begins_20 lkX6_109 (m_X6_rests hI (by omega) (by omega)) ⟨rfl, rfl, Nat.le_of_ble_eq_true rfl, Nat.le_of_ble_eq_true rfl⟩ ⟨Nat.zero_le _, Nat.zero_le _⟩ rc18 (Nat.le_of_ble_eq_true rfl) (fun h4 => ?_) (fun h4 => ?_)
      · skip
        refine r_if_eq (tgt := 59) C dX6_begins_23 (by decide) (by decide) (fun q => absurd q (by decide)) (fun _ => ?_)
        refine r_aload_n C dX6_begins_26 0 rfl ?_
        refine gX6_26 C dX6_begins_27 ?_
        refine r_aload_n C dX6_begins_30 0 rfl ?_
        refine gX6_50 C dX6_begins_31 ?_
        refine r_iload_n C dX6_begins_34 2 rfl ?_
        refine r_iald 40 C dX6_begins_35 (by omega) (fun _ => rfl) (by omega) (by omega) (by decide) (fun g8 => ?_)
        refine r_iald 40 C dX6_begins_36 (by omega) (fun _ => rfl) (by omega) (by omega) (by decide) (fun g9 => ?_)
        refine r_if_ne (tgt := 59) C dX6_begins_37 (by decide) (by omega) (fun h10 => ?_) (fun h10 => ?_)
        · skip
          refine r_iconst C dX6_begins_59 ?_
          refine r_goto (tgt := 64) C dX6_begins_60 (by decide) ?_
          exact hret _ _ _ _ dX6_begins_64 (Or.inr rfl) (⟨rfl, Or.inl ⟨rfl, by unfold bgP Mm; omega⟩⟩)
        · skip
          refine r_aload_n C dX6_begins_40 0 rfl ?_
          refine gX6_26 C dX6_begins_41 ?_
          refine r_aload_n C dX6_begins_44 0 rfl ?_
          refine gX6_50 C dX6_begins_45 ?_
          refine r_iload_n C dX6_begins_48 2 rfl ?_
          refine r_iconst C dX6_begins_49 ?_
          refine r_isub C dX6_begins_50 ?_
          refine r_iald 40 C dX6_begins_51 (by omega) (fun _ => rfl) (by omega) (by omega) (by decide) (fun g13 => ?_)
          refine r_iald 40 C dX6_begins_52 (by omega) (fun _ => rfl) (by omega) (by omega) (by decide) (fun g14 => ?_)
          refine r_iconst C dX6_begins_53 ?_
          refine r_iand C dX6_begins_54 ?_
          rw [iand_1 (by omega)]
          refine r_iconst C dX6_begins_55 ?_
          refine r_icmp_ne (tgt := 63) C dX6_begins_56 (by decide) (by omega) (by omega) (fun h15 => ?_) (fun h15 => ?_)
          · skip
            refine r_iconst C dX6_begins_63 ?_
            exact hret _ _ _ _ dX6_begins_64 (Or.inl rfl) (⟨rfl, Or.inr ⟨rfl, by unfold bgP Mm; omega⟩⟩)
          · skip
            refine r_iconst C dX6_begins_59 ?_
            refine r_goto (tgt := 64) C dX6_begins_60 (by decide) ?_
            exact hret _ _ _ _ dX6_begins_64 (Or.inr rfl) (⟨rfl, Or.inl ⟨rfl, by unfold bgP Mm; omega⟩⟩)
      · skip
        refine r_if_eq (tgt := 59) C dX6_begins_23 (by decide) (by decide) (fun _ => ?_) (fun q => absurd q (by decide))
        refine r_iconst C dX6_begins_59 ?_
        refine r_goto (tgt := 64) C dX6_begins_60 (by decide) ?_
        exact hret _ _ _ _ dX6_begins_64 (Or.inr rfl) (⟨rfl, Or.inl ⟨rfl, by unfold bgP Mm; omega⟩⟩)
  · skip
    refine r_if_ne (tgt := 11) C dX6_begins_6 (by decide) (by decide) (fun q => absurd q (by decide)) (fun _ => ?_)
    refine r_iconst C dX6_begins_9 ?_
    exact hret _ _ _ _ dX6_begins_10 (Or.inl rfl) (⟨rfl, Or.inr ⟨rfl, by unfold bgP Mm; omega⟩⟩)

set_option maxHeartbeats 4000000 in
set_option maxRecDepth 100000 in
theorem m_X6_restsFrom {a : Nat → Nat} {n : Nat} {σ : ST} {v i : Int} (hI : RowIn σ) (hv : 0 ≤ v ∧ v < 6) (hi : 0 ≤ i ∧ i < σ 18 18) : MP yX6_restsFrom cX6_restsFrom 4 .int (RM 2 44) a n σ [.ref (a 18), iv v, iv i] (fun r => r = 1 + lenT (Pm σ v) (Mm σ) (σ 18 18) (i + 1)) := by
  refine MI.of (own := RX6) (by decide +kernel) rfl (Nat.le_of_ble_eq_true rfl) ?_
  intro κ C hret
  show J κ 0 0 a n σ [(0, .ref (a 18)), (1, iv v), (2, iv i)] 0 []
  have hrm := hI.2.1
  refine r_iconst C dX6_restsFrom_0 ?_
  refine r_istore_n C dX6_restsFrom_1 (by decide) (fun z_ => [(3, iv z_), (0, .ref (a 18)), (1, iv v), (2, iv i)]) (fun _ => rfl) (fun m0 em0 => ?_)
  have lp2 : ∀ (N : Nat) (m : Int), (σ 18 18 - i - m : Int) < N → (1 ≤ m ∧ i + m ≤ σ 18 18 ∧ 1 + lenT (Pm σ v) (Mm σ) (σ 18 18) (i + 1) = m + lenT (Pm σ v) (Mm σ) (σ 18 18) (i + m)) → J κ 0 0 a n σ [(0, .ref (a 18)), (1, iv v), (2, iv i), (3, iv m)] 2 [] := by
    intro N
    induction N with
    | zero =>
      intro m hm2 hi2
      exact absurd hm2 (by omega)
    | succ N ih2 =>
      intro m hm2 hi2
      obtain ⟨hi1, hi2, hi3⟩ := hi2
      refine r_iload_n C dX6_restsFrom_2 2 rfl ?_
      refine r_iload_n C dX6_restsFrom_3 3 rfl ?_
      refine r_iadd C dX6_restsFrom_4 ?_
      refine r_aload_n C dX6_restsFrom_5 0 rfl ?_
      refine gX6_106 C dX6_restsFrom_6 (fun g1 => ?_)
      refine r_icmp_ge (tgt := 40) C dX6_restsFrom_9 (by decide) (by omega) (by omega) (fun h2 => ?_) (fun h2 => ?_)
      · skip
        refine r_iload_n C dX6_restsFrom_40 3 rfl ?_
        exact hret _ _ _ _ dX6_restsFrom_41 ⟨rfl, by rw [hi3, lenT_f (fun q => by first | omega | exact hr q.2.1 | exact q.2.2 hg)]; omega⟩
      · skip
        refine r_aload_n C dX6_restsFrom_12 0 rfl ?_
        refine r_iload_n C dX6_restsFrom_13 1 rfl ?_
        refine r_iload_n C dX6_restsFrom_14 2 rfl ?_
        refine r_iload_n C dX6_restsFrom_15 3 rfl ?_
        refine r_iadd C dX6_restsFrom_16 ?_
        refine r_callB2 18 C dX6_restsFrom_17 lkX6_109 (m_X6_rests hI (by omega) (by omega)) ⟨rfl, rfl, Nat.le_of_ble_eq_true rfl, Nat.le_of_ble_eq_true rfl⟩ ⟨Nat.zero_le _, Nat.zero_le _⟩ rc18 (Nat.le_of_ble_eq_true rfl) (fun hr => ?_) (fun hr => ?_)
        · skip
          refine r_if_eq (tgt := 40) C dX6_restsFrom_20 (by decide) (by decide) (fun q => absurd q (by decide)) (fun _ => ?_)
          refine r_aload_n C dX6_restsFrom_23 0 rfl ?_
          refine r_iload_n C dX6_restsFrom_24 1 rfl ?_
          refine r_iload_n C dX6_restsFrom_25 2 rfl ?_
          refine r_iload_n C dX6_restsFrom_26 3 rfl ?_
          refine r_iadd C dX6_restsFrom_27 ?_
          refine r_callB2 18 C dX6_restsFrom_28 lkX6_113 (m_X6_begins hI (by omega) (by omega)) ⟨rfl, rfl, Nat.le_of_ble_eq_true rfl, Nat.le_of_ble_eq_true rfl⟩ ⟨Nat.zero_le _, Nat.zero_le _⟩ rc18 (Nat.le_of_ble_eq_true rfl) (fun hg => ?_) (fun hg => ?_)
          · skip
            refine r_if_ne (tgt := 40) C dX6_restsFrom_31 (by decide) (by decide) (fun _ => ?_) (fun q => absurd q (by decide))
            refine r_iload_n C dX6_restsFrom_40 3 rfl ?_
            exact hret _ _ _ _ dX6_restsFrom_41 ⟨rfl, by rw [hi3, lenT_f (fun q => by first | omega | exact hr q.2.1 | exact q.2.2 hg)]; omega⟩
          · skip
            refine r_if_ne (tgt := 40) C dX6_restsFrom_31 (by decide) (by decide) (fun q => absurd q (by decide)) (fun _ => ?_)
            refine r_iinc C dX6_restsFrom_34 (by decide) 3 rfl (fun z_ => [(3, iv z_), (0, .ref (a 18)), (1, iv v), (2, iv i)]) (fun _ => rfl) (fun m2 em2 => ?_)
            refine r_goto (tgt := 2) C dX6_restsFrom_37 (by decide) ?_
            refine r_sub [1, 2, 3, 0] (L' := [(0, .ref (a 18)), (1, iv v), (2, iv i), (3, iv m2)]) rfl ?_
            exact ih2 _ (by omega) (by subst em2; exact ⟨by omega, by omega, by rw [hi3, lenT_t (by omega) hr hg, show i + m + 1 = i + (m + 1) by omega]; omega⟩)
        · skip
          refine r_if_eq (tgt := 40) C dX6_restsFrom_20 (by decide) (by decide) (fun _ => ?_) (fun q => absurd q (by decide))
          refine r_iload_n C dX6_restsFrom_40 3 rfl ?_
          exact hret _ _ _ _ dX6_restsFrom_41 ⟨rfl, by rw [hi3, lenT_f (fun q => by first | omega | exact hr q.2.1 | exact q.2.2 hg)]; omega⟩
  refine r_sub [1, 2, 3, 0] (L' := [(0, .ref (a 18)), (1, iv v), (2, iv i), (3, iv m0)]) rfl ?_
  exact lp2 ((σ 18 18 - i - 1 : Int).toNat + 1) _ (by omega) (by subst em0; exact ⟨by omega, by omega, rfl⟩)

def FRI (σ τ : ST) (b : Int) : Prop := 0 ≤ b ∧ b ≤ σ 18 0 ∧ FrM σ τ ∧ τ 18 18 = cntN (σ 20) b.toNat ∧ ∀ c : Nat, (c : Int) < b → σ 20 c ≤ 3 → τ 28 (cntN (σ 20) c) = c
theorem FRI.skip {σ τ : ST} {b : Int} (h : FRI σ τ b) (hb : b < σ 18 0) (hc : 3 < σ 20 b) : FRI σ τ (b + 1) := by
  obtain ⟨h1, h2, h3, h4, h5⟩ := h
  refine ⟨by omega, by omega, h3, ?_, fun c h6 h7 => ?_⟩
  · rw [cntN_s _ h1, if_neg (by omega)]; omega
  · by_cases h8 : (c : Int) = b
    · rw [h8] at h7; omega
    · exact h5 c (by omega) h7
theorem cntN_mono (mk : Int → Int) : ∀ (b c : Nat), b ≤ c → cntN mk b ≤ cntN mk c
  | b, 0, h => by
    have : b = 0 := by omega
    subst this; exact Int.le_refl _
  | b, c + 1, h => by
    by_cases h1 : b = c + 1
    · subst h1; exact Int.le_refl _
    · have h2 := cntN_mono mk b c (by omega)
      have h3 : cntN mk c ≤ cntN mk (c + 1) := by
        conv => rhs; unfold cntN
        split <;> omega
      omega
theorem cntN_lt (mk : Int → Int) {b c : Nat} (h : b < c) (hb : mk b ≤ 3) : cntN mk b < cntN mk c := by
  have h1 := cntN_mono mk (b + 1) c h
  have h2 : cntN mk (b + 1) = cntN mk b + 1 := by
    conv => lhs; unfold cntN
    rw [if_pos hb]
  omega
theorem FRI.add {σ τ : ST} {b : Int} (h : FRI σ τ b) (hb : b < σ 18 0) (hc : ¬ 3 < σ 20 b) : FRI σ (up2 (up2 τ 28 (τ 18 18) b) 18 18 (τ 18 18 + 1)) (b + 1) := by
  obtain ⟨h1, h2, h3, h4, h5⟩ := h
  refine ⟨by omega, by omega, (h3.up (Or.inl rfl) _ _).up18 _, ?_, fun c h6 h7 => ?_⟩
  · rw [up2_self, cntN_s _ h1, if_pos (by omega)]; omega
  · rw [up2_ne (by decide)]
    by_cases h8 : (c : Int) = b
    · have e : b.toNat = c := by omega
      rw [h4, e, up2_self]; omega
    · have h9 : cntN (σ 20) c < cntN (σ 20) b.toNat := cntN_lt _ (by omega) h7
      rw [up2_at (by omega)]
      exact h5 c (by omega) h7
set_option maxHeartbeats 4000000 in
set_option maxRecDepth 100000 in
theorem m_X6_findRow {a : Nat → Nat} {n : Nat} {σ : ST} (hn : 0 ≤ σ 18 0 ∧ σ 18 0 ≤ 40) : MV yX6_findRow cX6_findRow 2 (RM 1 21) a n σ [.ref (a 18)] (fun σ1 => FrM σ σ1 ∧ RowOK (σ 20) (σ 18 0) (σ1 28) (σ1 18 18)) := by
  refine MV.of (own := RX6) (by decide +kernel) rfl (Nat.le_of_ble_eq_true rfl) ?_
  intro κ C hret
  show J κ 0 0 a n σ [(0, .ref (a 18))] 0 []
  refine r_aload_n C dX6_findRow_0 0 rfl ?_
  refine r_iconst C dX6_findRow_1 ?_
  refine pX6_106 C dX6_findRow_2 (by omega) ?_
  refine r_iconst C dX6_findRow_5 ?_
  refine r_istore_n C dX6_findRow_6 (by decide) (fun z_ => [(1, iv z_), (0, .ref (a 18))]) (fun _ => rfl) (fun b0 eb0 => ?_)
  have lp7 : ∀ (N : Nat) (b : Int) (τ : ST), (σ 18 0 - b : Int) < N → (FRI σ τ b) → J κ 0 0 a n τ [(0, .ref (a 18)), (1, iv b)] 7 [] := by
    intro N
    induction N with
    | zero =>
      intro b τ hm7 hi7
      exact absurd hm7 (by have := hi7.2.1; omega)
    | succ N ih7 =>
      intro b τ hm7 hi7
      have e0 := hi7.2.2.1.2 0 (by decide)
      have e20 := hi7.2.2.1.1 20 (by decide) (by decide) (by decide) (by decide) (by decide) (by decide)
      have hb0 := hi7.1
      have hb1 := hi7.2.1
      have hcn := cntN_bd (σ 20) b.toNat
      have h4 := hi7.2.2.2.1
      refine r_iload_n C dX6_findRow_7 1 rfl ?_
      refine r_aload_n C dX6_findRow_8 0 rfl ?_
      refine gX6_82 C dX6_findRow_9 (fun g1 => ?_)
      refine r_icmp_ge (tgt := 52) C dX6_findRow_12 (by decide) (by omega) (by omega) (fun h2 => ?_) (fun h2 => ?_)
      · skip
        exact hret _ _ _ dX6_findRow_52 (by have hbe : b = σ 18 0 := (by omega); subst hbe; exact ⟨hi7.2.2.1, hi7.2.2.2.1, hi7.2.2.2.2⟩)
      · skip
        refine r_aload_n C dX6_findRow_15 0 rfl ?_
        refine r_iload_n C dX6_findRow_16 1 rfl ?_
        refine r_callB1 18 C dX6_findRow_17 lkX6_103 (m_X6_isCut (by omega)) ⟨rfl, rfl, Nat.le_of_ble_eq_true rfl, Nat.le_of_ble_eq_true rfl⟩ ⟨Nat.zero_le _, Nat.zero_le _⟩ rc18 (Nat.le_of_ble_eq_true rfl) (fun hc => ?_) (fun hc => ?_)
        · skip
          refine r_if_eq (tgt := 26) C dX6_findRow_20 (by decide) (by decide) (fun q => absurd q (by decide)) (fun _ => ?_)
          refine r_goto (tgt := 46) C dX6_findRow_23 (by decide) ?_
          refine r_iinc C dX6_findRow_46 (by decide) 1 rfl (fun z_ => [(1, iv z_), (0, .ref (a 18))]) (fun _ => rfl) (fun b2 eb2 => ?_)
          refine r_goto (tgt := 7) C dX6_findRow_49 (by decide) ?_
          refine r_sub [1, 0] (L' := [(0, .ref (a 18)), (1, iv b2)]) rfl ?_
          exact ih7 _ _ (by omega) (by subst eb2; exact hi7.skip (by omega) (by rw [e20] at hc; exact hc))
        · skip
          refine r_if_eq (tgt := 26) C dX6_findRow_20 (by decide) (by decide) (fun _ => ?_) (fun q => absurd q (by decide))
          refine r_aload_n C dX6_findRow_26 0 rfl ?_
          refine gX6_50 C dX6_findRow_27 ?_
          refine r_aload_n C dX6_findRow_30 0 rfl ?_
          refine gX6_106 C dX6_findRow_31 (fun g6 => ?_)
          refine r_iload_n C dX6_findRow_34 1 rfl ?_
          refine r_iast 40 C dX6_findRow_35 (by omega) (fun _ _ => rfl) (by omega) (by omega) (by decide) (by omega) ?_
          refine r_aload_n C dX6_findRow_36 0 rfl ?_
          refine r_dup C dX6_findRow_37 rfl ?_
          refine gX6_106 C dX6_findRow_38 (fun g7 => ?_)
          rw [up2_ne (show (18 : Nat) ≠ 28 from by decide)] at g7 ⊢
          refine r_iconst C dX6_findRow_41 ?_
          refine r_iadd C dX6_findRow_42 ?_
          refine pX6_106 C dX6_findRow_43 (by omega) ?_
          refine r_iinc C dX6_findRow_46 (by decide) 1 rfl (fun z_ => [(1, iv z_), (0, .ref (a 18))]) (fun _ => rfl) (fun b2 eb2 => ?_)
          refine r_goto (tgt := 7) C dX6_findRow_49 (by decide) ?_
          refine r_sub [1, 0] (L' := [(0, .ref (a 18)), (1, iv b2)]) rfl ?_
          exact ih7 _ _ (by omega) (by subst eb2; exact hi7.add (by omega) (by rw [e20] at hc; exact hc))
  refine r_sub [1, 0] (L' := [(0, .ref (a 18)), (1, iv b0)]) rfl ?_
  exact lp7 ((σ 18 0 : Int).toNat + 1) _ _ (by omega) (by subst eb0; exact ⟨by omega, by omega, FrM.rf.up18 _, up2_self, fun c h => by omega⟩)
