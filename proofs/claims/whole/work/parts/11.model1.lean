set_option maxHeartbeats 4000000 in
set_option maxRecDepth 100000 in
theorem m_X6_in {a : Nat → Nat} {n : Nat} {σ : ST} {x y z : Int} (hx : inR x) (hy : inR y) (hz : inR z) : MB yX6_in cX6_in 3 (RM 0 0) a n σ [iv x, iv y, iv z] (y ≤ x ∧ x ≤ z) := by
  refine MI.ofB (own := RX6) (by decide +kernel) rfl (Nat.le_of_ble_eq_true rfl) ?_
  intro κ C hret
  show J κ 0 0 a n σ [(0, iv x), (1, iv y), (2, iv z)] 0 []
  refine r_iload_n C dX6_in_0 0 rfl ?_
  refine r_iload_n C dX6_in_1 1 rfl ?_
  refine r_icmp_lt (tgt := 14) C dX6_in_2 (by decide) (by omega) (by omega) (fun h1 => ?_) (fun h1 => ?_)
  · skip
    refine r_iconst C dX6_in_14 ?_
    exact hret _ _ _ _ dX6_in_15 (Or.inl rfl) (⟨rfl, Or.inr ⟨rfl, by omega⟩⟩)
  · skip
    refine r_iload_n C dX6_in_5 0 rfl ?_
    refine r_iload_n C dX6_in_6 2 rfl ?_
    refine r_icmp_gt (tgt := 14) C dX6_in_7 (by decide) (by omega) (by omega) (fun h2 => ?_) (fun h2 => ?_)
    · skip
      refine r_iconst C dX6_in_14 ?_
      exact hret _ _ _ _ dX6_in_15 (Or.inl rfl) (⟨rfl, Or.inr ⟨rfl, by omega⟩⟩)
    · skip
      refine r_iconst C dX6_in_10 ?_
      refine r_goto (tgt := 15) C dX6_in_11 (by decide) ?_
      exact hret _ _ _ _ dX6_in_15 (Or.inr rfl) (⟨rfl, Or.inl ⟨rfl, by omega⟩⟩)

set_option maxHeartbeats 4000000 in
set_option maxRecDepth 100000 in
theorem m_X6_finds {a : Nat → Nat} {n : Nat} {σ : ST} {k : Int} (hk : 1 ≤ k ∧ k ≤ 5) (hc : 0 ≤ σ 27 k ∧ σ 27 k < 1000000) : MI yX6_finds cX6_finds 2 .int (RM 0 0) a n σ [.ref (a 18), iv k] (fun r σ1 => r = -1000000 - k ∧ σ1 = up2 σ 27 k (σ 27 k + 1)) := by
  refine MI.of (own := RX6) (by decide +kernel) rfl (Nat.le_of_ble_eq_true rfl) ?_
  intro κ C hret
  show J κ 0 0 a n σ [(0, .ref (a 18)), (1, iv k)] 0 []
  refine r_aload_n C dX6_finds_0 0 rfl ?_
  refine gX6_47 C dX6_finds_1 ?_
  refine r_iload_n C dX6_finds_4 1 rfl ?_
  refine r_dup2 C dX6_finds_5 rfl rfl ?_
  refine r_iald 6 C dX6_finds_6 (by omega) (fun _ => rfl) (by omega) (by omega) (by decide) (fun g2 => ?_)
  refine r_iconst C dX6_finds_7 ?_
  refine r_iadd C dX6_finds_8 ?_
  refine r_iast 6 C dX6_finds_9 (by omega) (fun _ _ => rfl) (by omega) (by omega) (by decide) (by omega) ?_
  refine r_ldc (-1000000) C dX6_finds_10 tw615 (by decide +kernel) ?_
  refine r_iload_n C dX6_finds_12 1 rfl ?_
  refine r_isub C dX6_finds_13 ?_
  exact hret _ _ _ _ dX6_finds_14 (⟨rfl, rfl⟩)

set_option maxHeartbeats 4000000 in
set_option maxRecDepth 100000 in
theorem m_X6_isBar {a : Nat → Nat} {n : Nat} {σ : ST} {b : Int} (hb : inR b) (hn : 0 ≤ σ 18 0 ∧ σ 18 0 ≤ 40) : MB yX6_isBar cX6_isBar 2 (RM 1 22) a n σ [.ref (a 18), iv b] (0 ≤ b ∧ b < σ 18 0) := by
  refine MI.ofB (own := RX6) (by decide +kernel) rfl (Nat.le_of_ble_eq_true rfl) ?_
  intro κ C hret
  show J κ 0 0 a n σ [(0, .ref (a 18)), (1, iv b)] 0 []
  refine r_iload_n C dX6_isBar_0 1 rfl ?_
  refine r_iconst C dX6_isBar_1 ?_
  refine r_aload_n C dX6_isBar_2 0 rfl ?_
  refine gX6_82 C dX6_isBar_3 (fun g1 => ?_)
  refine r_iconst C dX6_isBar_6 ?_
  refine r_isub C dX6_isBar_7 ?_
  refine r_callSB3 C dX6_isBar_8 lkX6_85 (m_X6_in (by omega) (by omega) (by omega)) ⟨rfl, rfl, Nat.le_of_ble_eq_true rfl, Nat.le_of_ble_eq_true rfl⟩ ⟨Nat.zero_le _, Nat.zero_le _⟩ (Nat.le_of_ble_eq_true rfl) (fun h2 => ?_) (fun h2 => ?_)
  · skip
    exact hret _ _ _ _ dX6_isBar_11 (Or.inr rfl) (⟨rfl, Or.inl ⟨rfl, by omega⟩⟩)
  · skip
    exact hret _ _ _ _ dX6_isBar_11 (Or.inl rfl) (⟨rfl, Or.inr ⟨rfl, by omega⟩⟩)

set_option maxHeartbeats 4000000 in
set_option maxRecDepth 100000 in
theorem m_X6_isVoice {a : Nat → Nat} {n : Nat} {σ : ST} {v : Int} (hb : inR v) (hn : 0 ≤ σ 18 1 ∧ σ 18 1 ≤ 6) : MB yX6_isVoice cX6_isVoice 2 (RM 1 22) a n σ [.ref (a 18), iv v] (0 ≤ v ∧ v < σ 18 1) := by
  refine MI.ofB (own := RX6) (by decide +kernel) rfl (Nat.le_of_ble_eq_true rfl) ?_
  intro κ C hret
  show J κ 0 0 a n σ [(0, .ref (a 18)), (1, iv v)] 0 []
  refine r_iload_n C dX6_isVoice_0 1 rfl ?_
  refine r_iconst C dX6_isVoice_1 ?_
  refine r_aload_n C dX6_isVoice_2 0 rfl ?_
  refine gX6_89 C dX6_isVoice_3 (fun g1 => ?_)
  refine r_iconst C dX6_isVoice_6 ?_
  refine r_isub C dX6_isVoice_7 ?_
  refine r_callSB3 C dX6_isVoice_8 lkX6_85 (m_X6_in (by omega) (by omega) (by omega)) ⟨rfl, rfl, Nat.le_of_ble_eq_true rfl, Nat.le_of_ble_eq_true rfl⟩ ⟨Nat.zero_le _, Nat.zero_le _⟩ (Nat.le_of_ble_eq_true rfl) (fun h2 => ?_) (fun h2 => ?_)
  · skip
    exact hret _ _ _ _ dX6_isVoice_11 (Or.inr rfl) (⟨rfl, Or.inl ⟨rfl, by omega⟩⟩)
  · skip
    exact hret _ _ _ _ dX6_isVoice_11 (Or.inl rfl) (⟨rfl, Or.inr ⟨rfl, by omega⟩⟩)

set_option maxHeartbeats 4000000 in
set_option maxRecDepth 100000 in
theorem m_X6_isCut {a : Nat → Nat} {n : Nat} {σ : ST} {b : Int} (hb : 0 ≤ b ∧ b < 40) : MB yX6_isCut cX6_isCut 2 (RM 0 0) a n σ [.ref (a 18), iv b] (3 < σ 20 b) := by
  refine MI.ofB (own := RX6) (by decide +kernel) rfl (Nat.le_of_ble_eq_true rfl) ?_
  intro κ C hret
  show J κ 0 0 a n σ [(0, .ref (a 18)), (1, iv b)] 0 []
  refine r_aload_n C dX6_isCut_0 0 rfl ?_
  refine gX6_26 C dX6_isCut_1 ?_
  refine r_iload_n C dX6_isCut_4 1 rfl ?_
  refine r_iald 40 C dX6_isCut_5 (by omega) (fun _ => rfl) (by omega) (by omega) (by decide) (fun g2 => ?_)
  refine r_iconst C dX6_isCut_6 ?_
  refine r_icmp_le (tgt := 14) C dX6_isCut_7 (by decide) (by omega) (by omega) (fun h3 => ?_) (fun h3 => ?_)
  · skip
    refine r_iconst C dX6_isCut_14 ?_
    exact hret _ _ _ _ dX6_isCut_15 (Or.inl rfl) (⟨rfl, Or.inr ⟨rfl, by omega⟩⟩)
  · skip
    refine r_iconst C dX6_isCut_10 ?_
    refine r_goto (tgt := 15) C dX6_isCut_11 (by decide) ?_
    exact hret _ _ _ _ dX6_isCut_15 (Or.inr rfl) (⟨rfl, Or.inl ⟨rfl, by omega⟩⟩)

set_option maxHeartbeats 4000000 in
set_option maxRecDepth 100000 in
theorem m_X6_rests {a : Nat → Nat} {n : Nat} {σ : ST} {v i : Int} (hI : RowIn σ) (hv : 0 ≤ v ∧ v < 6) (hi : 0 ≤ i ∧ i < σ 18 18) : MB yX6_rests cX6_rests 3 (RM 0 0) a n σ [.ref (a 18), iv v, iv i] (Pm σ v i = 0) := by
  refine MI.ofB (own := RX6) (by decide +kernel) rfl (Nat.le_of_ble_eq_true rfl) ?_
  intro κ C hret
  show J κ 0 0 a n σ [(0, .ref (a 18)), (1, iv v), (2, iv i)] 0 []
  have hri := hI.2.2 i hi.1 hi.2
  have hrm := hI.2.1
  refine r_aload_n C dX6_rests_0 0 rfl ?_
  refine gX6_38 C dX6_rests_1 ?_
  refine r_bipush C dX6_rests_4 (by decide) ?_
  refine r_iload_n C dX6_rests_6 1 rfl ?_
  refine r_imul C dX6_rests_7 ?_
  refine r_aload_n C dX6_rests_8 0 rfl ?_
  refine gX6_50 C dX6_rests_9 ?_
  refine r_iload_n C dX6_rests_12 2 rfl ?_
  refine r_iald 40 C dX6_rests_13 (by omega) (fun _ => rfl) (by omega) (by omega) (by decide) (fun g3 => ?_)
  refine r_iadd C dX6_rests_14 ?_
  refine r_iald 240 C dX6_rests_15 (by omega) (fun _ => rfl) (by omega) (by omega) (by decide) (fun g4 => ?_)
  refine r_if_ne (tgt := 23) C dX6_rests_16 (by decide) (by omega) (fun h5 => ?_) (fun h5 => ?_)
  · skip
    refine r_iconst C dX6_rests_23 ?_
    exact hret _ _ _ _ dX6_rests_24 (Or.inl rfl) (⟨rfl, Or.inr ⟨rfl, by unfold Pm; omega⟩⟩)
  · skip
    refine r_iconst C dX6_rests_19 ?_
    refine r_goto (tgt := 24) C dX6_rests_20 (by decide) ?_
    exact hret _ _ _ _ dX6_rests_24 (Or.inr rfl) (⟨rfl, Or.inl ⟨rfl, by unfold Pm; omega⟩⟩)

set_option maxHeartbeats 4000000 in
set_option maxRecDepth 100000 in
theorem m_X6_begins {a : Nat → Nat} {n : Nat} {σ : ST} {v i : Int} (hI : RowIn σ) (hv : 0 ≤ v ∧ v < 6) (hi : 0 ≤ i ∧ i < σ 18 18) : MB yX6_begins cX6_begins 3 (RM 1 22) a n σ [.ref (a 18), iv v, iv i] (bgP (Pm σ v) (Mm σ) i) := by
  refine MI.ofB (own := RX6) (by decide +kernel) rfl (Nat.le_of_ble_eq_true rfl) ?_
  intro κ C hret
  show J κ 0 0 a n σ [(0, .ref (a 18)), (1, iv v), (2, iv i)] 0 []
  have hri := hI.2.2 i hi.1 hi.2
  have hrm := hI.2.1
  refine r_aload_n C dX6_begins_0 0 rfl ?_
  refine r_iload_n C dX6_begins_1 1 rfl ?_
  refine r_iload_n C dX6_begins_2 2 rfl ?_
  refine r_callB2 18 C dX6_begins_3 lkX6_109 (m_X6_rests hI (by omega) (by omega)) ⟨rfl, rfl, Nat.le_of_ble_eq_true rfl, Nat.le_of_ble_eq_true rfl⟩ ⟨Nat.zero_le _, Nat.zero_le _⟩ rc18 (Nat.le_of_ble_eq_true rfl) (fun h1 => ?_) (fun h1 => ?_)
  · skip
    refine r_if_ne (tgt := 11) C dX6_begins_6 (by decide) (by decide) (fun _ => ?_) (fun q => absurd q (by decide))
    refine r_iload_n C dX6_begins_11 2 rfl ?_
    refine r_if_eq (tgt := 59) C dX6_begins_12 (by decide) (by omega) (fun h3 => ?_) (fun h3 => ?_)
    · skip
      refine r_iconst C dX6_begins_59 ?_
      refine r_goto (tgt := 64) C dX6_begins_60 (by decide) ?_
      exact hret _ _ _ _ dX6_begins_64 (Or.inr rfl) (⟨rfl, Or.inl ⟨rfl, by unfold bgP Mm; omega⟩⟩)
    · skip
      have hrj := hI.2.2 (i - 1) (by omega) (by omega)
      refine r_aload_n C dX6_begins_15 0 rfl ?_
      refine r_iload_n C dX6_begins_16 1 rfl ?_
      refine r_iload_n C dX6_begins_17 2 rfl ?_
      refine r_iconst C dX6_begins_18 ?_
      refine r_isub C dX6_begins_19 ?_
      refine r_callB2 18 C dX6_begins_20 lkX6_109 (m_X6_rests hI (by omega) (by omega)) ⟨rfl, rfl, Nat.le_of_ble_eq_true rfl, Nat.le_of_ble_eq_true rfl⟩ ⟨Nat.zero_le _, Nat.zero_le _⟩ rc18 (Nat.le_of_ble_eq_true rfl) (fun h4 => ?_) (fun h4 => ?_)
      · skip
        refine r_if_eq (tgt := 59) C dX6_begins_23 (by decide) (by decide) (fun q => absurd q (by decide)) (fun _ => ?_)
        refine r_aload_n C dX6_begins_26 0 rfl ?_
        refine gX6_26 C dX6_begins_27 ?_
        refine r_aload_n C dX6_begins_30 0 rfl ?_
        refine gX6_50 C dX6_begins_31 ?_
        refine r_iload_n C dX6_begins_34 2 rfl ?_
        refine r_iald 40 C dX6_begins_35 (by omega) (fun _ => rfl) (by omega) (by omega) (by decide) (fun g8 => ?_)
        refine r_iald 40 C dX6_begins_36 (by omega) (fun _ => rfl) (by omega) (by omega) (by decide) (fun g9 => ?_)
        refine r_if_ne (tgt := 59) C dX6_begins_37 (by decide) (by omega) (fun h10 => ?_) (fun h10 => ?_)
        · skip
          refine r_iconst C dX6_begins_59 ?_
          refine r_goto (tgt := 64) C dX6_begins_60 (by decide) ?_
          exact hret _ _ _ _ dX6_begins_64 (Or.inr rfl) (⟨rfl, Or.inl ⟨rfl, by unfold bgP Mm; omega⟩⟩)
        · skip
          refine r_aload_n C dX6_begins_40 0 rfl ?_
          refine gX6_26 C dX6_begins_41 ?_
          refine r_aload_n C dX6_begins_44 0 rfl ?_
          refine gX6_50 C dX6_begins_45 ?_
          refine r_iload_n C dX6_begins_48 2 rfl ?_
          refine r_iconst C dX6_begins_49 ?_
          refine r_isub C dX6_begins_50 ?_
          refine r_iald 40 C dX6_begins_51 (by omega) (fun _ => rfl) (by omega) (by omega) (by decide) (fun g13 => ?_)
          refine r_iald 40 C dX6_begins_52 (by omega) (fun _ => rfl) (by omega) (by omega) (by decide) (fun g14 => ?_)
          refine r_iconst C dX6_begins_53 ?_
          refine r_iand C dX6_begins_54 ?_
          rw [iand_1 (by omega)]
          refine r_iconst C dX6_begins_55 ?_
          refine r_icmp_ne (tgt := 63) C dX6_begins_56 (by decide) (by omega) (by omega) (fun h15 => ?_) (fun h15 => ?_)
          · skip
            refine r_iconst C dX6_begins_63 ?_
            exact hret _ _ _ _ dX6_begins_64 (Or.inl rfl) (⟨rfl, Or.inr ⟨rfl, by unfold bgP Mm; omega⟩⟩)
          · skip
            refine r_iconst C dX6_begins_59 ?_
            refine r_goto (tgt := 64) C dX6_begins_60 (by decide) ?_
            exact hret _ _ _ _ dX6_begins_64 (Or.inr rfl) (⟨rfl, Or.inl ⟨rfl, by unfold bgP Mm; omega⟩⟩)
      · skip
        refine r_if_eq (tgt := 59) C dX6_begins_23 (by decide) (by decide) (fun _ => ?_) (fun q => absurd q (by decide))
        refine r_iconst C dX6_begins_59 ?_
        refine r_goto (tgt := 64) C dX6_begins_60 (by decide) ?_
        exact hret _ _ _ _ dX6_begins_64 (Or.inr rfl) (⟨rfl, Or.inl ⟨rfl, by unfold bgP Mm; omega⟩⟩)
  · skip
    refine r_if_ne (tgt := 11) C dX6_begins_6 (by decide) (by decide) (fun q => absurd q (by decide)) (fun _ => ?_)
    refine r_iconst C dX6_begins_9 ?_
    exact hret _ _ _ _ dX6_begins_10 (Or.inl rfl) (⟨rfl, Or.inr ⟨rfl, by unfold bgP Mm; omega⟩⟩)
