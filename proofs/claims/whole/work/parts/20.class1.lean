set_option maxHeartbeats 4000000 in
set_option maxRecDepth 100000 in
theorem m_X5_within {a : Nat → Nat} {n : Nat} {σ : ST} {x y z : Int} (hx : inR x) (hy : inR y) (hz : inR z) : MB yX5_within cX5_within 3 (RM 0 0) a n σ [iv x, iv y, iv z] (y ≤ x ∧ x ≤ z) := by
  refine MI.ofB (own := RX5) (by decide +kernel) rfl (Nat.le_of_ble_eq_true rfl) ?_
  intro κ C hret
  show J κ 0 0 a n σ [(0, iv x), (1, iv y), (2, iv z)] 0 []
  refine r_iload_n C dX5_within_0 1 rfl ?_
  refine r_iload_n C dX5_within_1 0 rfl ?_
  refine r_icmp_gt (tgt := 14) C dX5_within_2 (by decide) (by omega) (by omega) (fun h1 => ?_) (fun h1 => ?_)
  · skip
    refine r_iconst C dX5_within_14 ?_
    exact hret _ _ _ _ dX5_within_15 (Or.inl rfl) (⟨rfl, Or.inr ⟨rfl, by omega⟩⟩)
  · skip
    refine r_iload_n C dX5_within_5 0 rfl ?_
    refine r_iload_n C dX5_within_6 2 rfl ?_
    refine r_icmp_gt (tgt := 14) C dX5_within_7 (by decide) (by omega) (by omega) (fun h2 => ?_) (fun h2 => ?_)
    · skip
      refine r_iconst C dX5_within_14 ?_
      exact hret _ _ _ _ dX5_within_15 (Or.inl rfl) (⟨rfl, Or.inr ⟨rfl, by omega⟩⟩)
    · skip
      refine r_iconst C dX5_within_10 ?_
      refine r_goto (tgt := 15) C dX5_within_11 (by decide) ?_
      exact hret _ _ _ _ dX5_within_15 (Or.inr rfl) (⟨rfl, Or.inl ⟨rfl, by omega⟩⟩)

set_option maxHeartbeats 4000000 in
set_option maxRecDepth 100000 in
theorem m_J9_min_7cf53 {a : Nat → Nat} {n : Nat} {σ : ST} {x y : Int} (hx : inR x) (hy : inR y) : MP yJ9_min_7cf53 cJ9_min_7cf53 2 .int (RM 0 0) a n σ [iv x, iv y] (fun r => (x ≤ y ∧ r = x) ∨ (¬ x ≤ y ∧ r = y)) := by
  refine MI.ofF (own := RJ9) (by decide +kernel) rfl (Nat.le_of_ble_eq_true rfl) ?_
  intro κ C hret
  show J κ 0 0 a n σ [(0, iv x), (1, iv y)] 0 []
  refine r_iload_n C dJ9_min_7cf53_0 0 rfl ?_
  refine r_iload_n C dJ9_min_7cf53_1 1 rfl ?_
  refine r_icmp_gt (tgt := 9) C dJ9_min_7cf53_2 (by decide) (by omega) (by omega) (fun h1 => ?_) (fun h1 => ?_)
  · skip
    refine r_iload_n C dJ9_min_7cf53_9 1 rfl ?_
    exact hret _ _ _ _ dJ9_min_7cf53_10 ⟨rfl, by omega⟩
  · skip
    refine r_iload_n C dJ9_min_7cf53_5 0 rfl ?_
    refine r_goto (tgt := 10) C dJ9_min_7cf53_6 (by decide) ?_
    exact hret _ _ _ _ dJ9_min_7cf53_10 ⟨rfl, by omega⟩

set_option maxHeartbeats 4000000 in
set_option maxRecDepth 100000 in
theorem m_X5_answer {a : Nat → Nat} {n : Nat} {σ : ST} {x : Int} (hx : inR x) (hF : F5 σ) : MI yX5_answer cX5_answer 2 .int (RM 1 22) a n σ [.ref (a 0), iv x] (fun r σ1 => r = x ∧ σ1 = ans σ x) := by
  refine MI.of (own := RX5) (by decide +kernel) rfl (Nat.le_of_ble_eq_true rfl) ?_
  intro κ C hret
  show J κ 0 0 a n σ [(0, .ref (a 0)), (1, iv x)] 0 []
  refine r_iload_n C dX5_answer_0 1 rfl ?_
  refine r_ldc (-1000005) C dX5_answer_1 tw173 (by decide +kernel) ?_
  refine r_ldc (-1000001) C dX5_answer_3 tw168 (by decide +kernel) ?_
  refine r_callSB3 C dX5_answer_5 lkX5_61 (m_X5_within (by omega) (by omega) (by omega)) ⟨rfl, rfl, Nat.le_of_ble_eq_true rfl, Nat.le_of_ble_eq_true rfl⟩ ⟨Nat.zero_le _, Nat.zero_le _⟩ (Nat.le_of_ble_eq_true rfl) (fun hw => ?_) (fun hw => ?_)
  · skip
    refine r_if_eq (tgt := 24) C dX5_answer_8 (by decide) (by decide) (fun q => absurd q (by decide)) (fun _ => ?_)
    have hFx := hF (-1000000 - x)
    refine r_aload_n C dX5_answer_11 0 rfl ?_
    refine gX5_41 C dX5_answer_12 ?_
    refine r_ldc (-1000000) C dX5_answer_15 tw174 (by decide +kernel) ?_
    refine r_iload_n C dX5_answer_17 1 rfl ?_
    refine r_isub C dX5_answer_18 ?_
    refine r_dup2 C dX5_answer_19 rfl rfl ?_
    refine r_iald 6 C dX5_answer_20 (by omega) (fun _ => rfl) (by omega) (by omega) (by decide) (fun g3 => ?_)
    refine r_iconst C dX5_answer_21 ?_
    refine r_iadd C dX5_answer_22 ?_
    refine r_iast 6 C dX5_answer_23 (by omega) (fun _ _ => rfl) (by omega) (by omega) (by decide) (by omega) ?_
    refine r_iload_n C dX5_answer_24 1 rfl ?_
    exact hret _ _ _ _ dX5_answer_25 (by refine ⟨rfl, ?_⟩; first | (rw [ans_y (by omega)]; rfl) | (rw [ans_n (by omega)]))
  · skip
    refine r_if_eq (tgt := 24) C dX5_answer_8 (by decide) (by decide) (fun _ => ?_) (fun q => absurd q (by decide))
    refine r_iload_n C dX5_answer_24 1 rfl ?_
    exact hret _ _ _ _ dX5_answer_25 (by refine ⟨rfl, ?_⟩; first | (rw [ans_y (by omega)]; rfl) | (rw [ans_n (by omega)]))

set_option maxHeartbeats 4000000 in
set_option maxRecDepth 100000 in
theorem m_X2_hasBar {a : Nat → Nat} {n : Nat} {σ : ST} {b : Int} (hb : inR b) (hn : 0 ≤ σ 1 3 ∧ σ 1 3 ≤ 40) : MB yX2_hasBar cX2_hasBar 2 (RM 0 0) a n σ [.ref (a 1), iv b] (0 ≤ b ∧ b < σ 1 3) := by
  refine MI.ofB (own := RX2) (by decide +kernel) rfl (Nat.le_of_ble_eq_true rfl) ?_
  intro κ C hret
  show J κ 0 0 a n σ [(0, .ref (a 1)), (1, iv b)] 0 []
  refine r_iload_n C dX2_hasBar_0 1 rfl ?_
  refine r_if_lt (tgt := 16) C dX2_hasBar_1 (by decide) (by omega) (fun h1 => ?_) (fun h1 => ?_)
  · skip
    refine r_iconst C dX2_hasBar_16 ?_
    exact hret _ _ _ _ dX2_hasBar_17 (Or.inl rfl) (⟨rfl, Or.inr ⟨rfl, by omega⟩⟩)
  · skip
    refine r_iload_n C dX2_hasBar_4 1 rfl ?_
    refine r_aload_n C dX2_hasBar_5 0 rfl ?_
    refine gX2_24 C dX2_hasBar_6 (fun g2 => ?_)
    refine r_icmp_ge (tgt := 16) C dX2_hasBar_9 (by decide) (by omega) (by omega) (fun h3 => ?_) (fun h3 => ?_)
    · skip
      refine r_iconst C dX2_hasBar_16 ?_
      exact hret _ _ _ _ dX2_hasBar_17 (Or.inl rfl) (⟨rfl, Or.inr ⟨rfl, by omega⟩⟩)
    · skip
      refine r_iconst C dX2_hasBar_12 ?_
      refine r_goto (tgt := 17) C dX2_hasBar_13 (by decide) ?_
      exact hret _ _ _ _ dX2_hasBar_17 (Or.inr rfl) (⟨rfl, Or.inl ⟨rfl, by omega⟩⟩)

set_option maxHeartbeats 4000000 in
set_option maxRecDepth 100000 in
theorem m_X2_isThere {a : Nat → Nat} {n : Nat} {σ : ST} {b : Int} (hb : inR b) (hn : 0 ≤ σ 1 3 ∧ σ 1 3 ≤ 40) (hk : ∀ j, 0 ≤ σ 7 j ∧ σ 7 j ≤ 7) : MB yX2_isThere cX2_isThere 2 (RM 1 21) a n σ [.ref (a 1), iv b] ((0 ≤ b ∧ b < σ 1 3) ∧ ¬ 3 < σ 7 b) := by
  refine MI.ofB (own := RX2) (by decide +kernel) rfl (Nat.le_of_ble_eq_true rfl) ?_
  intro κ C hret
  show J κ 0 0 a n σ [(0, .ref (a 1)), (1, iv b)] 0 []
  refine r_aload_n C dX2_isThere_0 0 rfl ?_
  refine r_iload_n C dX2_isThere_1 1 rfl ?_
  refine r_callB1 1 C dX2_isThere_2 lkX2_35 (m_X2_hasBar (by omega) (by omega)) ⟨rfl, rfl, Nat.le_of_ble_eq_true rfl, Nat.le_of_ble_eq_true rfl⟩ ⟨Nat.zero_le _, Nat.zero_le _⟩ rc1 (Nat.le_of_ble_eq_true rfl) (fun h1 => ?_) (fun h1 => ?_)
  · skip
    refine r_if_eq (tgt := 23) C dX2_isThere_5 (by decide) (by decide) (fun q => absurd q (by decide)) (fun _ => ?_)
    refine r_aload_n C dX2_isThere_8 0 rfl ?_
    refine gX2_15 C dX2_isThere_9 ?_
    refine r_iload_n C dX2_isThere_12 1 rfl ?_
    refine r_iald 40 C dX2_isThere_13 (by omega) (fun _ => rfl) (by omega) (by omega) (by decide) (fun g4 => ?_)
    refine r_iconst C dX2_isThere_14 ?_
    refine r_iand C dX2_isThere_15 ?_
    have hiz := iand_4o (hk b)
    refine r_if_ne (tgt := 23) C dX2_isThere_16 (by decide) (by omega) (fun h5 => ?_) (fun h5 => ?_)
    · skip
      refine r_iconst C dX2_isThere_23 ?_
      exact hret _ _ _ _ dX2_isThere_24 (Or.inl rfl) (⟨rfl, Or.inr ⟨rfl, by omega⟩⟩)
    · skip
      refine r_iconst C dX2_isThere_19 ?_
      refine r_goto (tgt := 24) C dX2_isThere_20 (by decide) ?_
      exact hret _ _ _ _ dX2_isThere_24 (Or.inr rfl) (⟨rfl, Or.inl ⟨rfl, by omega⟩⟩)
  · skip
    refine r_if_eq (tgt := 23) C dX2_isThere_5 (by decide) (by decide) (fun _ => ?_) (fun q => absurd q (by decide))
    refine r_iconst C dX2_isThere_23 ?_
    exact hret _ _ _ _ dX2_isThere_24 (Or.inl rfl) (⟨rfl, Or.inr ⟨rfl, by omega⟩⟩)

set_option maxHeartbeats 4000000 in
set_option maxRecDepth 100000 in
theorem m_X2_voiceAt {a : Nat → Nat} {n : Nat} {σ : ST} {v : Int} (hv : inR v) (hn : σ 1 4 = n ∧ n ≤ 6) : MO yX2_voiceAt cX2_voiceAt 2 (.object "PartRoom$Voice") (RM 0 0) a n σ [.ref (a 1), iv v] (fun r => (r = some (a (39 + 5 * v.toNat)) ∧ 0 ≤ v ∧ v < n) ∨ (r = none ∧ ¬ (0 ≤ v ∧ v < n))) := by
  refine MO.of (own := RX2) (by decide +kernel) rfl (Nat.le_of_ble_eq_true rfl) ?_
  intro κ C hret
  show J κ 0 0 a n σ [(0, .ref (a 1)), (1, iv v)] 0 []
  refine r_iload_n C dX2_voiceAt_0 1 rfl ?_
  refine r_if_lt (tgt := 21) C dX2_voiceAt_1 (by decide) (by omega) (fun h1 => ?_) (fun h1 => ?_)
  · skip
    refine r_null C dX2_voiceAt_21 ?_
    exact hret _ _ none dX2_voiceAt_22 (by first | exact Or.inl ⟨rfl, by omega⟩ | exact Or.inr ⟨rfl, by omega⟩)
  · skip
    refine r_iload_n C dX2_voiceAt_4 1 rfl ?_
    refine r_aload_n C dX2_voiceAt_5 0 rfl ?_
    refine gX2_28 C dX2_voiceAt_6 (fun g2 => ?_)
    refine r_icmp_ge (tgt := 21) C dX2_voiceAt_9 (by decide) (by omega) (by omega) (fun h3 => ?_) (fun h3 => ?_)
    · skip
      refine r_null C dX2_voiceAt_21 ?_
      exact hret _ _ none dX2_voiceAt_22 (by first | exact Or.inl ⟨rfl, by omega⟩ | exact Or.inr ⟨rfl, by omega⟩)
    · skip
      refine r_aload_n C dX2_voiceAt_12 0 rfl ?_
      refine gX2_20 C dX2_voiceAt_13 ?_
      refine r_iload_n C dX2_voiceAt_16 1 rfl ?_
      refine r_aald C dX2_voiceAt_17 (by omega) (by omega) (by omega) ?_
      refine r_goto (tgt := 22) C dX2_voiceAt_18 (by decide) ?_
      exact hret _ _ (some (a (39 + 5 * (v).toNat))) dX2_voiceAt_22 (by first | exact Or.inl ⟨rfl, by omega⟩ | exact Or.inr ⟨rfl, by omega⟩)

set_option maxHeartbeats 4000000 in
set_option maxRecDepth 100000 in
theorem m_X2_cutBars {a : Nat → Nat} {n : Nat} {σ : ST} (hn : 0 ≤ σ 1 3 ∧ σ 1 3 ≤ 40) (hk : ∀ j, 0 ≤ σ 7 j ∧ σ 7 j ≤ 7) : MP yX2_cutBars cX2_cutBars 3 .int (RM 2 42) a n σ [.ref (a 1)] (fun r => r = σ 1 3 - cntN (σ 7) (σ 1 3).toNat) := by
  refine MI.of (own := RX2) (by decide +kernel) rfl (Nat.le_of_ble_eq_true rfl) ?_
  intro κ C hret
  show J κ 0 0 a n σ [(0, .ref (a 1))] 0 []
  refine r_iconst C dX2_cutBars_0 ?_
  refine r_istore_n C dX2_cutBars_1 (by decide) (fun z_ => [(1, iv z_), (0, .ref (a 1))]) (fun _ => rfl) (fun c0 ec0 => ?_)
  refine r_iconst C dX2_cutBars_2 ?_
  refine r_istore_n C dX2_cutBars_3 (by decide) (fun z_ => [(2, iv z_), (1, iv c0), (0, .ref (a 1))]) (fun _ => rfl) (fun b0 eb0 => ?_)
  have lp4 : ∀ (N : Nat) (cu : Int) (b : Int), (σ 1 3 - b : Int) < N → (0 ≤ b ∧ b ≤ σ 1 3 ∧ cu = b - cntN (σ 7) b.toNat) → J κ 0 0 a n σ [(0, .ref (a 1)), (1, iv cu), (2, iv b)] 4 [] := by
    intro N
    induction N with
    | zero =>
      intro cu b hm4 hi4
      exact absurd hm4 (by omega)
    | succ N ih4 =>
      intro cu b hm4 hi4
      have hbd := cntN_bd (σ 7) b.toNat
      refine r_iload_n C dX2_cutBars_4 2 rfl ?_
      refine r_aload_n C dX2_cutBars_5 0 rfl ?_
      refine gX2_24 C dX2_cutBars_6 (fun g1 => ?_)
      refine r_icmp_ge (tgt := 29) C dX2_cutBars_9 (by decide) (by omega) (by omega) (fun h2 => ?_) (fun h2 => ?_)
      · skip
        refine r_iload_n C dX2_cutBars_29 1 rfl ?_
        exact hret _ _ _ _ dX2_cutBars_30 ⟨rfl, by obtain ⟨-, hb9, h9⟩ := hi4; rw [h9, show b = σ 1 3 by omega]⟩
      · skip
        refine r_aload_n C dX2_cutBars_12 0 rfl ?_
        refine r_iload_n C dX2_cutBars_13 2 rfl ?_
        refine r_callB1 1 C dX2_cutBars_14 lkX2_39 (m_X2_isThere (by omega) (by omega) hk) ⟨rfl, rfl, Nat.le_of_ble_eq_true rfl, Nat.le_of_ble_eq_true rfl⟩ ⟨Nat.zero_le _, Nat.zero_le _⟩ rc1 (Nat.le_of_ble_eq_true rfl) (fun ht => ?_) (fun ht => ?_)
        · skip
          refine r_if_ne (tgt := 23) C dX2_cutBars_17 (by decide) (by decide) (fun _ => ?_) (fun q => absurd q (by decide))
          refine r_iinc C dX2_cutBars_23 (by decide) 2 rfl (fun z_ => [(2, iv z_), (0, .ref (a 1)), (1, iv cu)]) (fun _ => rfl) (fun b2 eb2 => ?_)
          refine r_goto (tgt := 4) C dX2_cutBars_26 (by decide) ?_
          refine r_sub [1, 2, 0] (L' := [(0, .ref (a 1)), (1, iv cu), (2, iv b2)]) rfl ?_
          exact ih4 _ _ (by omega) (by subst eb2; refine ⟨by omega, by omega, ?_⟩; rw [cntN_s _ (by omega)]; first | (rw [if_pos (by omega)]; omega) | (rw [if_neg (by omega)]; omega))
        · skip
          refine r_if_ne (tgt := 23) C dX2_cutBars_17 (by decide) (by decide) (fun q => absurd q (by decide)) (fun _ => ?_)
          refine r_iinc C dX2_cutBars_20 (by decide) 1 rfl (fun z_ => [(1, iv z_), (0, .ref (a 1)), (2, iv b)]) (fun _ => rfl) (fun c2 ec2 => ?_)
          refine r_iinc C dX2_cutBars_23 (by decide) 2 rfl (fun z_ => [(2, iv z_), (1, iv c2), (0, .ref (a 1))]) (fun _ => rfl) (fun b2 eb2 => ?_)
          refine r_goto (tgt := 4) C dX2_cutBars_26 (by decide) ?_
          refine r_sub [2, 1, 0] (L' := [(0, .ref (a 1)), (1, iv c2), (2, iv b2)]) rfl ?_
          exact ih4 _ _ (by omega) (by subst eb2; refine ⟨by omega, by omega, ?_⟩; rw [cntN_s _ (by omega)]; first | (rw [if_pos (by omega)]; omega) | (rw [if_neg (by omega)]; omega))
  refine r_sub [2, 1, 0] (L' := [(0, .ref (a 1)), (1, iv c0), (2, iv b0)]) rfl ?_
  exact lp4 ((σ 1 3 : Int).toNat + 1) _ _ (by omega) (by subst ec0; subst eb0; exact ⟨by omega, by omega, rfl⟩)

set_option maxHeartbeats 4000000 in
set_option maxRecDepth 100000 in
theorem m_X2_secondsLeft {a : Nat → Nat} {n : Nat} {σ : ST} (hn : 0 ≤ σ 1 3 ∧ σ 1 3 ≤ 40) (hk : ∀ j, 0 ≤ σ 7 j ∧ σ 7 j ≤ 7) (hse : ∀ j, 0 ≤ σ 6 j ∧ σ 6 j ≤ 60) : MP yX2_secondsLeft cX2_secondsLeft 3 .int (RM 2 42) a n σ [.ref (a 1)] (fun r => r = secN (σ 7) (σ 6) (σ 1 3).toNat) := by
  refine MI.of (own := RX2) (by decide +kernel) rfl (Nat.le_of_ble_eq_true rfl) ?_
  intro κ C hret
  show J κ 0 0 a n σ [(0, .ref (a 1))] 0 []
  refine r_iconst C dX2_secondsLeft_0 ?_
  refine r_istore_n C dX2_secondsLeft_1 (by decide) (fun z_ => [(1, iv z_), (0, .ref (a 1))]) (fun _ => rfl) (fun c0 ec0 => ?_)
  refine r_iconst C dX2_secondsLeft_2 ?_
  refine r_istore_n C dX2_secondsLeft_3 (by decide) (fun z_ => [(2, iv z_), (1, iv c0), (0, .ref (a 1))]) (fun _ => rfl) (fun b0 eb0 => ?_)
  have lp4 : ∀ (N : Nat) (cu : Int) (b : Int), (σ 1 3 - b : Int) < N → (0 ≤ b ∧ b ≤ σ 1 3 ∧ cu = secN (σ 7) (σ 6) b.toNat) → J κ 0 0 a n σ [(0, .ref (a 1)), (1, iv cu), (2, iv b)] 4 [] := by
    intro N
    induction N with
    | zero =>
      intro cu b hm4 hi4
      exact absurd hm4 (by omega)
    | succ N ih4 =>
      intro cu b hm4 hi4
      have hbd := secN_bd (σ 7) (σ 6) hse b.toNat
      refine r_iload_n C dX2_secondsLeft_4 2 rfl ?_
      refine r_aload_n C dX2_secondsLeft_5 0 rfl ?_
      refine gX2_24 C dX2_secondsLeft_6 (fun g1 => ?_)
      refine r_icmp_ge (tgt := 35) C dX2_secondsLeft_9 (by decide) (by omega) (by omega) (fun h2 => ?_) (fun h2 => ?_)
      · skip
        refine r_iload_n C dX2_secondsLeft_35 1 rfl ?_
        exact hret _ _ _ _ dX2_secondsLeft_36 ⟨rfl, by obtain ⟨-, hb9, h9⟩ := hi4; rw [h9, show b = σ 1 3 by omega]⟩
      · skip
        refine r_aload_n C dX2_secondsLeft_12 0 rfl ?_
        refine r_iload_n C dX2_secondsLeft_13 2 rfl ?_
        refine r_callB1 1 C dX2_secondsLeft_14 lkX2_39 (m_X2_isThere (by omega) (by omega) hk) ⟨rfl, rfl, Nat.le_of_ble_eq_true rfl, Nat.le_of_ble_eq_true rfl⟩ ⟨Nat.zero_le _, Nat.zero_le _⟩ rc1 (Nat.le_of_ble_eq_true rfl) (fun ht => ?_) (fun ht => ?_)
        · skip
          refine r_if_eq (tgt := 29) C dX2_secondsLeft_17 (by decide) (by decide) (fun q => absurd q (by decide)) (fun _ => ?_)
          have hsb := hse b
          refine r_iload_n C dX2_secondsLeft_20 1 rfl ?_
          refine r_aload_n C dX2_secondsLeft_21 0 rfl ?_
          refine gX2_9 C dX2_secondsLeft_22 ?_
          refine r_iload_n C dX2_secondsLeft_25 2 rfl ?_
          refine r_iald 40 C dX2_secondsLeft_26 (by omega) (fun _ => rfl) (by omega) (by omega) (by decide) (fun g5 => ?_)
          refine r_iadd C dX2_secondsLeft_27 ?_
          refine r_istore_n C dX2_secondsLeft_28 (by decide) (fun z_ => [(1, iv z_), (0, .ref (a 1)), (2, iv b)]) (fun _ => rfl) (fun c2 ec2 => ?_)
          refine r_iinc C dX2_secondsLeft_29 (by decide) 2 rfl (fun z_ => [(2, iv z_), (1, iv c2), (0, .ref (a 1))]) (fun _ => rfl) (fun b2 eb2 => ?_)
          refine r_goto (tgt := 4) C dX2_secondsLeft_32 (by decide) ?_
          refine r_sub [2, 1, 0] (L' := [(0, .ref (a 1)), (1, iv c2), (2, iv b2)]) rfl ?_
          exact ih4 _ _ (by omega) (by subst eb2; refine ⟨by omega, by omega, ?_⟩; rw [secN_s _ _ (by omega)]; first | (rw [if_pos (by omega)]; omega) | (rw [if_neg (by omega)]; omega))
        · skip
          refine r_if_eq (tgt := 29) C dX2_secondsLeft_17 (by decide) (by decide) (fun _ => ?_) (fun q => absurd q (by decide))
          refine r_iinc C dX2_secondsLeft_29 (by decide) 2 rfl (fun z_ => [(2, iv z_), (0, .ref (a 1)), (1, iv cu)]) (fun _ => rfl) (fun b2 eb2 => ?_)
          refine r_goto (tgt := 4) C dX2_secondsLeft_32 (by decide) ?_
          refine r_sub [1, 2, 0] (L' := [(0, .ref (a 1)), (1, iv cu), (2, iv b2)]) rfl ?_
          exact ih4 _ _ (by omega) (by subst eb2; refine ⟨by omega, by omega, ?_⟩; rw [secN_s _ _ (by omega)]; first | (rw [if_pos (by omega)]; omega) | (rw [if_neg (by omega)]; omega))
  refine r_sub [2, 1, 0] (L' := [(0, .ref (a 1)), (1, iv c0), (2, iv b0)]) rfl ?_
  exact lp4 ((σ 1 3 : Int).toNat + 1) _ _ (by omega) (by subst ec0; subst eb0; exact ⟨by omega, by omega, rfl⟩)

set_option maxHeartbeats 4000000 in
set_option maxRecDepth 100000 in
theorem m_X2_laidVoices {a : Nat → Nat} {n : Nat} {σ : ST} (hn : σ 1 4 = n ∧ n ≤ 6) : MP yX2_laidVoices cX2_laidVoices 4 .int (RM 0 0) a n σ [.ref (a 1)] (fun r => r = laidN (fun o => σ (39 + 5 * o.toNat) 7) n) := by
  refine MI.of (own := RX2) (by decide +kernel) rfl (Nat.le_of_ble_eq_true rfl) ?_
  intro κ C hret
  show J κ 0 0 a n σ [(0, .ref (a 1))] 0 []
  refine r_iconst C dX2_laidVoices_0 ?_
  refine r_istore_n C dX2_laidVoices_1 (by decide) (fun z_ => [(1, iv z_), (0, .ref (a 1))]) (fun _ => rfl) (fun c0 ec0 => ?_)
  refine r_iconst C dX2_laidVoices_2 ?_
  refine r_istore_n C dX2_laidVoices_3 (by decide) (fun z_ => [(2, iv z_), (1, iv c0), (0, .ref (a 1))]) (fun _ => rfl) (fun b0 eb0 => ?_)
  have lp4 : ∀ (N : Nat) (cu : Int) (b : Int), (n - b : Int) < N → (0 ≤ b ∧ b ≤ n ∧ cu = laidN (fun o => σ (39 + 5 * o.toNat) 7) b.toNat) → J κ 0 0 a n σ [(0, .ref (a 1)), (1, iv cu), (2, iv b)] 4 [] := by
    intro N
    induction N with
    | zero =>
      intro cu b hm4 hi4
      exact absurd hm4 (by omega)
    | succ N ih4 =>
      intro cu b hm4 hi4
      have hbd := laidN_bd (fun o => σ (39 + 5 * o.toNat) 7) b.toNat
      refine r_iload_n C dX2_laidVoices_4 2 rfl ?_
      refine r_aload_n C dX2_laidVoices_5 0 rfl ?_
      refine gX2_28 C dX2_laidVoices_6 (fun g1 => ?_)
      refine r_icmp_ge (tgt := 39) C dX2_laidVoices_9 (by decide) (by omega) (by omega) (fun h2 => ?_) (fun h2 => ?_)
      · skip
        refine r_iload_n C dX2_laidVoices_39 1 rfl ?_
        exact hret _ _ _ _ dX2_laidVoices_40 ⟨rfl, by obtain ⟨-, hb9, h9⟩ := hi4; rw [h9, show b.toNat = n by omega]⟩
      · skip
        refine r_aload_n C dX2_laidVoices_12 0 rfl ?_
        refine gX2_20 C dX2_laidVoices_13 ?_
        refine r_iload_n C dX2_laidVoices_16 2 rfl ?_
        refine r_aald C dX2_laidVoices_17 (by omega) (by omega) (by omega) ?_
        refine r_astore_n C dX2_laidVoices_18 (by decide) [(3, .ref (a (39 + 5 * (b).toNat))), (0, .ref (a 1)), (1, iv cu), (2, iv b)] rfl ?_
        refine r_aload_n C dX2_laidVoices_19 0 rfl ?_
        refine r_ifnull C dX2_laidVoices_20 ?_
        refine r_aload_n C dX2_laidVoices_23 0 rfl ?_
        refine gX2_42 (b).toNat (by omega) C dX2_laidVoices_24 (fun g4 => ?_)
        refine r_if_le (tgt := 33) C dX2_laidVoices_27 (by decide) (by omega) (fun hlp => ?_) (fun hlp => ?_)
        · skip
          refine r_iinc C dX2_laidVoices_33 (by decide) 3 rfl (fun z_ => [(2, iv z_), (3, .ref (a (39 + 5 * (b).toNat))), (0, .ref (a 1)), (1, iv cu)]) (fun _ => rfl) (fun b2 eb2 => ?_)
          refine r_goto (tgt := 4) C dX2_laidVoices_36 (by decide) ?_
          refine r_sub [2, 3, 0] (L' := [(0, .ref (a 1)), (1, iv cu), (2, iv b2)]) rfl ?_
          exact ih4 _ _ (by omega) (by subst eb2; refine ⟨by omega, by omega, ?_⟩; rw [laidN_s _ (by omega)]; first | (rw [if_pos (by show 0 < σ (39 + 5 * b.toNat) 7; omega)]; omega) | (rw [if_neg (by show ¬ 0 < σ (39 + 5 * b.toNat) 7; omega)]; omega))
        · skip
          refine r_iinc C dX2_laidVoices_30 (by decide) 2 rfl (fun z_ => [(1, iv z_), (3, .ref (a (39 + 5 * (b).toNat))), (0, .ref (a 1)), (2, iv b)]) (fun _ => rfl) (fun c2 ec2 => ?_)
          refine r_iinc C dX2_laidVoices_33 (by decide) 3 rfl (fun z_ => [(2, iv z_), (1, iv c2), (3, .ref (a (39 + 5 * (b).toNat))), (0, .ref (a 1))]) (fun _ => rfl) (fun b2 eb2 => ?_)
          refine r_goto (tgt := 4) C dX2_laidVoices_36 (by decide) ?_
          refine r_sub [3, 1, 0] (L' := [(0, .ref (a 1)), (1, iv c2), (2, iv b2)]) rfl ?_
          exact ih4 _ _ (by omega) (by subst eb2; refine ⟨by omega, by omega, ?_⟩; rw [laidN_s _ (by omega)]; first | (rw [if_pos (by show 0 < σ (39 + 5 * b.toNat) 7; omega)]; omega) | (rw [if_neg (by show ¬ 0 < σ (39 + 5 * b.toNat) 7; omega)]; omega))
  refine r_sub [2, 1, 0] (L' := [(0, .ref (a 1)), (1, iv c0), (2, iv b0)]) rfl ?_
  exact lp4 ((n : Int).toNat + 1) _ _ (by omega) (by subst ec0; subst eb0; exact ⟨by omega, by omega, rfl⟩)

set_option maxHeartbeats 4000000 in
set_option maxRecDepth 100000 in
theorem m_X2_setCut {a : Nat → Nat} {n : Nat} {σ : ST} {x y z : Int} (hn : 0 ≤ σ 1 3 ∧ σ 1 3 ≤ 40) (hk : ∀ j, 0 ≤ σ 7 j ∧ σ 7 j ≤ 7) (hx : 0 ≤ x ∧ x ≤ y) (hy : y < σ 1 3) (hz : z = 0 ∨ z = 1) : MI yX2_setCut cX2_setCut 6 .int (RM 2 42) a n σ [.ref (a 1), iv x, iv y, iv z] (fun r σ1 => CutI 7 σ σ1 z x (y + 1) r) := by
  refine MI.of (own := RX2) (by decide +kernel) rfl (Nat.le_of_ble_eq_true rfl) ?_
  intro κ C hret
  show J κ 0 0 a n σ [(0, .ref (a 1)), (1, iv x), (2, iv y), (3, iv z)] 0 []
  refine r_iconst C dX2_setCut_0 ?_
  refine r_istore C dX2_setCut_1 (by decide) (fun z_ => [(4, iv z_), (0, .ref (a 1)), (1, iv x), (2, iv y), (3, iv z)]) (fun _ => rfl) (fun c0 ec0 => ?_)
  refine r_iload_n C dX2_setCut_3 2 rfl ?_
  refine r_istore C dX2_setCut_4 (by decide) (fun z_ => [(5, iv z_), (4, iv c0), (0, .ref (a 1)), (1, iv x), (2, iv y), (3, iv z)]) (fun _ => rfl) (fun b0 eb0 => ?_)
  have lp6 : ∀ (N : Nat) (ch : Int) (b : Int) (τ : ST), (y + 1 - b : Int) < N → (CutI 7 σ τ z x b ch ∧ b ≤ y + 1 ∧ ∀ j, 0 ≤ τ 7 j ∧ τ 7 j ≤ 7) → J κ 0 0 a n τ [(0, .ref (a 1)), (1, iv x), (2, iv y), (3, iv z), (4, iv ch), (5, iv b)] 6 [] := by
    intro N
    induction N with
    | zero =>
      intro ch b τ hm6 hi6
      exact absurd hm6 (by omega)
    | succ N ih6 =>
      intro ch b τ hm6 hi6
      have hb0 := hi6.1.1
      have hkt := hi6.2.2
      have hcb := chgN_bd (σ 7) z x (b - x).toNat
      have hce := hi6.1.2.1
      have hsm := hi6.1.same
      have hmb := hk b
      have e1 := hi6.1.2.2.1 1 (by decide)
      have e13 : τ 1 3 = σ 1 3 := by rw [e1]
      refine r_iload C dX2_setCut_6 5 rfl ?_
      refine r_iload_n C dX2_setCut_8 2 rfl ?_
      refine r_icmp_gt (tgt := 51) C dX2_setCut_9 (by decide) (by omega) (by omega) (fun h1 => ?_) (fun h1 => ?_)
      · skip
        refine r_iload C dX2_setCut_51 4 rfl ?_
        exact hret _ _ _ _ dX2_setCut_53 (by rw [show y + 1 = b by omega]; exact hi6.1)
      · skip
        refine r_iload C dX2_setCut_12 5 rfl ?_
        refine r_aload_n C dX2_setCut_14 0 rfl ?_
        refine gX2_24 C dX2_setCut_15 (fun g2 => ?_)
        refine r_icmp_ge (tgt := 51) C dX2_setCut_18 (by decide) (by omega) (by omega) (fun h3 => ?_) (fun h3 => ?_)
        · skip
          refine r_iload C dX2_setCut_51 4 rfl ?_
          exact hret _ _ _ _ dX2_setCut_53 (by rw [show y + 1 = b by omega]; exact hi6.1)
        · skip
          refine r_aload_n C dX2_setCut_21 0 rfl ?_
          refine r_iload C dX2_setCut_22 5 rfl ?_
          refine r_callB1 1 C dX2_setCut_24 lkX2_39 (m_X2_isThere (by omega) (by omega) hkt) ⟨rfl, rfl, Nat.le_of_ble_eq_true rfl, Nat.le_of_ble_eq_true rfl⟩ ⟨Nat.zero_le _, Nat.zero_le _⟩ rc1 (Nat.le_of_ble_eq_true rfl) (fun ht => ?_) (fun ht => ?_)
          · skip
            refine r_iload_n C dX2_setCut_27 3 rfl ?_
            refine r_icmp_ne (tgt := 45) C dX2_setCut_28 (by decide) (by omega) (by omega) (fun hne => ?_) (fun hne => ?_)
            · skip
              refine r_iinc C dX2_setCut_45 (by decide) 5 rfl (fun z_ => [(5, iv z_), (0, .ref (a 1)), (1, iv x), (2, iv y), (3, iv z), (4, iv ch)]) (fun _ => rfl) (fun b2 eb2 => ?_)
              refine r_goto (tgt := 6) C dX2_setCut_48 (by decide) ?_
              refine r_sub [1, 2, 3, 4, 5, 0] (L' := [(0, .ref (a 1)), (1, iv x), (2, iv y), (3, iv z), (4, iv ch), (5, iv b2)]) rfl ?_
              exact ih6 _ _ _ (by omega) (by subst eb2; first | (subst ec2; rw [hsm] at *; have hv : ixor (σ 7 b) 4 = σ 7 b % 4 + 4 * z := (by omega); rw [hv]; refine ⟨hi6.1.go (by rw [if_neg (by omega)]), by omega, fun j => ?_⟩; by_cases hj : j = b; (subst hj; rw [up2_self]; omega); (rw [up2_at hj]; exact hkt j)) | (refine ⟨?_, by omega, hkt⟩; have hg := hi6.1.go (d := 0) (by rw [if_pos (by omega)]); rw [show σ 7 b % 4 + 4 * z = τ 7 b by omega, Int.add_zero] at hg; have hsame : up2 τ 7 b (τ 7 b) = τ := (by funext c j; by_cases hc : c = 7; (subst hc; by_cases hj : j = b; (subst hj; exact up2_self); exact up2_at hj); rw [up2_ne hc]); rw [hsame] at hg; exact hg))
            · skip
              refine r_aload_n C dX2_setCut_31 0 rfl ?_
              refine gX2_15 C dX2_setCut_32 ?_
              refine r_iload C dX2_setCut_35 5 rfl ?_
              refine r_dup2 C dX2_setCut_37 rfl rfl ?_
              refine r_iald 40 C dX2_setCut_38 (by omega) (fun _ => rfl) (by omega) (by omega) (by decide) (fun g6 => ?_)
              refine r_iconst C dX2_setCut_39 ?_
              refine r_ixor C dX2_setCut_40 ?_
              rw [hsm]
              have hxo := ixor_4o (hk b)
              refine r_iast 40 C dX2_setCut_41 (by omega) (fun _ _ => rfl) (by omega) (by omega) (by decide) (by omega) ?_
              refine r_iinc C dX2_setCut_42 (by decide) 4 rfl (fun z_ => [(4, iv z_), (0, .ref (a 1)), (1, iv x), (2, iv y), (3, iv z), (5, iv b)]) (fun _ => rfl) (fun c2 ec2 => ?_)
              refine r_iinc C dX2_setCut_45 (by decide) 5 rfl (fun z_ => [(5, iv z_), (4, iv c2), (0, .ref (a 1)), (1, iv x), (2, iv y), (3, iv z)]) (fun _ => rfl) (fun b2 eb2 => ?_)
              refine r_goto (tgt := 6) C dX2_setCut_48 (by decide) ?_
              refine r_sub [2, 3, 4, 5, 1, 0] (L' := [(0, .ref (a 1)), (1, iv x), (2, iv y), (3, iv z), (4, iv c2), (5, iv b2)]) rfl ?_
              exact ih6 _ _ _ (by omega) (by subst eb2; first | (subst ec2; rw [hsm] at *; have hv : ixor (σ 7 b) 4 = σ 7 b % 4 + 4 * z := (by omega); rw [hv]; refine ⟨hi6.1.go (by rw [if_neg (by omega)]), by omega, fun j => ?_⟩; by_cases hj : j = b; (subst hj; rw [up2_self]; omega); (rw [up2_at hj]; exact hkt j)) | (refine ⟨?_, by omega, hkt⟩; have hg := hi6.1.go (d := 0) (by rw [if_pos (by omega)]); rw [show σ 7 b % 4 + 4 * z = τ 7 b by omega, Int.add_zero] at hg; have hsame : up2 τ 7 b (τ 7 b) = τ := (by funext c j; by_cases hc : c = 7; (subst hc; by_cases hj : j = b; (subst hj; exact up2_self); exact up2_at hj); rw [up2_ne hc]); rw [hsame] at hg; exact hg))
          · skip
            refine r_iload_n C dX2_setCut_27 3 rfl ?_
            refine r_icmp_ne (tgt := 45) C dX2_setCut_28 (by decide) (by omega) (by omega) (fun hne => ?_) (fun hne => ?_)
            · skip
              refine r_iinc C dX2_setCut_45 (by decide) 5 rfl (fun z_ => [(5, iv z_), (0, .ref (a 1)), (1, iv x), (2, iv y), (3, iv z), (4, iv ch)]) (fun _ => rfl) (fun b2 eb2 => ?_)
              refine r_goto (tgt := 6) C dX2_setCut_48 (by decide) ?_
              refine r_sub [1, 2, 3, 4, 5, 0] (L' := [(0, .ref (a 1)), (1, iv x), (2, iv y), (3, iv z), (4, iv ch), (5, iv b2)]) rfl ?_
              exact ih6 _ _ _ (by omega) (by subst eb2; first | (subst ec2; rw [hsm] at *; have hv : ixor (σ 7 b) 4 = σ 7 b % 4 + 4 * z := (by omega); rw [hv]; refine ⟨hi6.1.go (by rw [if_neg (by omega)]), by omega, fun j => ?_⟩; by_cases hj : j = b; (subst hj; rw [up2_self]; omega); (rw [up2_at hj]; exact hkt j)) | (refine ⟨?_, by omega, hkt⟩; have hg := hi6.1.go (d := 0) (by rw [if_pos (by omega)]); rw [show σ 7 b % 4 + 4 * z = τ 7 b by omega, Int.add_zero] at hg; have hsame : up2 τ 7 b (τ 7 b) = τ := (by funext c j; by_cases hc : c = 7; (subst hc; by_cases hj : j = b; (subst hj; exact up2_self); exact up2_at hj); rw [up2_ne hc]); rw [hsame] at hg; exact hg))
            · skip
              refine r_aload_n C dX2_setCut_31 0 rfl ?_
              refine gX2_15 C dX2_setCut_32 ?_
              refine r_iload C dX2_setCut_35 5 rfl ?_
              refine r_dup2 C dX2_setCut_37 rfl rfl ?_
              refine r_iald 40 C dX2_setCut_38 (by omega) (fun _ => rfl) (by omega) (by omega) (by decide) (fun g9 => ?_)
              refine r_iconst C dX2_setCut_39 ?_
              refine r_ixor C dX2_setCut_40 ?_
              rw [hsm]
              have hxo := ixor_4o (hk b)
              refine r_iast 40 C dX2_setCut_41 (by omega) (fun _ _ => rfl) (by omega) (by omega) (by decide) (by omega) ?_
              refine r_iinc C dX2_setCut_42 (by decide) 4 rfl (fun z_ => [(4, iv z_), (0, .ref (a 1)), (1, iv x), (2, iv y), (3, iv z), (5, iv b)]) (fun _ => rfl) (fun c2 ec2 => ?_)
              refine r_iinc C dX2_setCut_45 (by decide) 5 rfl (fun z_ => [(5, iv z_), (4, iv c2), (0, .ref (a 1)), (1, iv x), (2, iv y), (3, iv z)]) (fun _ => rfl) (fun b2 eb2 => ?_)
              refine r_goto (tgt := 6) C dX2_setCut_48 (by decide) ?_
              refine r_sub [2, 3, 4, 5, 1, 0] (L' := [(0, .ref (a 1)), (1, iv x), (2, iv y), (3, iv z), (4, iv c2), (5, iv b2)]) rfl ?_
              exact ih6 _ _ _ (by omega) (by subst eb2; first | (subst ec2; rw [hsm] at *; have hv : ixor (σ 7 b) 4 = σ 7 b % 4 + 4 * z := (by omega); rw [hv]; refine ⟨hi6.1.go (by rw [if_neg (by omega)]), by omega, fun j => ?_⟩; by_cases hj : j = b; (subst hj; rw [up2_self]; omega); (rw [up2_at hj]; exact hkt j)) | (refine ⟨?_, by omega, hkt⟩; have hg := hi6.1.go (d := 0) (by rw [if_pos (by omega)]); rw [show σ 7 b % 4 + 4 * z = τ 7 b by omega, Int.add_zero] at hg; have hsame : up2 τ 7 b (τ 7 b) = τ := (by funext c j; by_cases hc : c = 7; (subst hc; by_cases hj : j = b; (subst hj; exact up2_self); exact up2_at hj); rw [up2_ne hc]); rw [hsame] at hg; exact hg))
  refine r_sub [2, 3, 4, 5, 1, 0] (L' := [(0, .ref (a 1)), (1, iv x), (2, iv y), (3, iv z), (4, iv c0), (5, iv b0)]) rfl ?_
  exact lp6 ((y + 1 - x : Int).toNat + 1) _ _ _ (by omega) (by refine ⟨⟨by omega, ?_, fun _ _ => rfl, fun j => by rw [if_neg (by omega)]⟩, by omega, hk⟩; rw [ec0, eb0, show (x - x).toNat = 0 by omega]; rfl)

set_option maxHeartbeats 4000000 in
set_option maxRecDepth 100000 in
theorem m_X2_addBar {a : Nat → Nat} {n : Nat} {σ : ST} {x : Int} (hx : inR x) (hn : 0 ≤ σ 1 3 ∧ σ 1 3 ≤ 40) : MI yX2_addBar cX2_addBar 2 .int (RM 0 0) a n σ [.ref (a 1), iv x] (fun r σ1 => (σ 1 3 < 40 ∧ r = σ 1 3 ∧ σ1 = up2 (up2 σ 6 (σ 1 3) x) 1 3 (σ 1 3 + 1)) ∨ (σ 1 3 = 40 ∧ r = -1000004 ∧ σ1 = σ)) := by
  refine MI.of (own := RX2) (by decide +kernel) rfl (Nat.le_of_ble_eq_true rfl) ?_
  intro κ C hret
  show J κ 0 0 a n σ [(0, .ref (a 1)), (1, iv x)] 0 []
  refine r_aload_n C dX2_addBar_0 0 rfl ?_
  refine gX2_24 C dX2_addBar_1 (fun g1 => ?_)
  refine r_bipush C dX2_addBar_4 (by decide) ?_
  refine r_icmp_lt (tgt := 12) C dX2_addBar_6 (by decide) (by omega) (by omega) (fun h2 => ?_) (fun h2 => ?_)
  · skip
    refine r_aload_n C dX2_addBar_12 0 rfl ?_
    refine gX2_9 C dX2_addBar_13 ?_
    refine r_aload_n C dX2_addBar_16 0 rfl ?_
    refine gX2_24 C dX2_addBar_17 (fun g4 => ?_)
    refine r_iload_n C dX2_addBar_20 1 rfl ?_
    refine r_iast 40 C dX2_addBar_21 (by omega) (fun _ _ => rfl) (by omega) (by omega) (by decide) (by omega) ?_
    refine r_aload_n C dX2_addBar_22 0 rfl ?_
    refine r_dup C dX2_addBar_23 rfl ?_
    refine gX2_24 C dX2_addBar_24 (fun g5 => ?_)
    rw [up2_ne (show (1 : Nat) ≠ 6 from by decide)] at g5 ⊢
    refine r_iconst C dX2_addBar_27 ?_
    refine r_iadd C dX2_addBar_28 ?_
    refine pX2_24 C dX2_addBar_29 (by omega) ?_
    refine r_aload_n C dX2_addBar_32 0 rfl ?_
    refine gX2_24 C dX2_addBar_33 (fun g6 => ?_)
    rw [up2_self] at g6 ⊢
    refine r_iconst C dX2_addBar_36 ?_
    refine r_isub C dX2_addBar_37 ?_
    exact hret _ _ _ _ dX2_addBar_38 (by first | (refine (Or.inl ⟨?_, ?_, ?_⟩) <;> first | omega | assumption | rfl) | (refine (Or.inr ⟨?_, ?_, ?_⟩) <;> first | omega | assumption | rfl))
  · skip
    refine r_ldc (-1000004) C dX2_addBar_9 tw179 (by decide +kernel) ?_
    exact hret _ _ _ _ dX2_addBar_11 (by first | (refine (Or.inl ⟨?_, ?_, ?_⟩) <;> first | omega | assumption | rfl) | (refine (Or.inr ⟨?_, ?_, ?_⟩) <;> first | omega | assumption | rfl))

set_option maxHeartbeats 4000000 in
set_option maxRecDepth 100000 in
theorem m_X3_add {a : Nat → Nat} {n : Nat} {σ : ST} {x : Int} (hx : inR x) (hn : 0 ≤ σ 4 1 ∧ σ 4 1 ≤ 40) : MI yX3_add cX3_add 2 .int (RM 0 0) a n σ [.ref (a 4), iv x] (fun r σ1 => (σ 4 1 < 40 ∧ r = σ 4 1 + 1 ∧ σ1 = up2 (up2 σ 17 (σ 4 1) x) 4 1 (σ 4 1 + 1)) ∨ (σ 4 1 = 40 ∧ r = -1000004 ∧ σ1 = σ)) := by
  refine MI.of (own := RX3) (by decide +kernel) rfl (Nat.le_of_ble_eq_true rfl) ?_
  intro κ C hret
  show J κ 0 0 a n σ [(0, .ref (a 4)), (1, iv x)] 0 []
  refine r_aload_n C dX3_add_0 0 rfl ?_
  refine gX3_15 C dX3_add_1 (fun g1 => ?_)
  refine r_bipush C dX3_add_4 (by decide) ?_
  refine r_icmp_lt (tgt := 12) C dX3_add_6 (by decide) (by omega) (by omega) (fun h2 => ?_) (fun h2 => ?_)
  · skip
    refine r_aload_n C dX3_add_12 0 rfl ?_
    refine gX3_9 C dX3_add_13 ?_
    refine r_aload_n C dX3_add_16 0 rfl ?_
    refine gX3_15 C dX3_add_17 (fun g4 => ?_)
    refine r_iload_n C dX3_add_20 1 rfl ?_
    refine r_iast 40 C dX3_add_21 (by omega) (fun _ _ => rfl) (by omega) (by omega) (by decide) (by omega) ?_
    refine r_aload_n C dX3_add_22 0 rfl ?_
    refine r_dup C dX3_add_23 rfl ?_
    refine gX3_15 C dX3_add_24 (fun g5 => ?_)
    rw [up2_ne (show (4 : Nat) ≠ 17 from by decide)] at g5 ⊢
    refine r_iconst C dX3_add_27 ?_
    refine r_iadd C dX3_add_28 ?_
    refine pX3_15 C dX3_add_29 (by omega) ?_
    refine r_aload_n C dX3_add_32 0 rfl ?_
    refine gX3_15 C dX3_add_33 (fun g6 => ?_)
    rw [up2_self] at g6 ⊢
    exact hret _ _ _ _ dX3_add_36 (by first | (refine (Or.inl ⟨?_, ?_, ?_⟩) <;> first | omega | assumption | rfl) | (refine (Or.inr ⟨?_, ?_, ?_⟩) <;> first | omega | assumption | rfl))
  · skip
    refine r_ldc (-1000004) C dX3_add_9 tw479 (by decide +kernel) ?_
    exact hret _ _ _ _ dX3_add_11 (by first | (refine (Or.inl ⟨?_, ?_, ?_⟩) <;> first | omega | assumption | rfl) | (refine (Or.inr ⟨?_, ?_, ?_⟩) <;> first | omega | assumption | rfl))

set_option maxHeartbeats 4000000 in
set_option maxRecDepth 100000 in
theorem m_X3_takeAll {a : Nat → Nat} {n : Nat} {σ : ST}  : MI yX3_takeAll cX3_takeAll 2 .int (RM 0 0) a n σ [.ref (a 4)] (fun r σ1 => r = σ 4 1 ∧ σ1 = up2 σ 4 1 0) := by
  refine MI.of (own := RX3) (by decide +kernel) rfl (Nat.le_of_ble_eq_true rfl) ?_
  intro κ C hret
  show J κ 0 0 a n σ [(0, .ref (a 4))] 0 []
  refine r_aload_n C dX3_takeAll_0 0 rfl ?_
  refine gX3_15 C dX3_takeAll_1 (fun g1 => ?_)
  refine r_istore_n C dX3_takeAll_4 (by decide) (fun z_ => [(1, iv z_), (0, .ref (a 4))]) (fun _ => rfl) (fun w0 ew0 => ?_)
  refine r_aload_n C dX3_takeAll_5 1 rfl ?_
  refine r_iconst C dX3_takeAll_6 ?_
  refine pX3_15 C dX3_takeAll_7 (by omega) ?_
  refine r_iload_n C dX3_takeAll_10 0 rfl ?_
  exact hret _ _ _ _ dX3_takeAll_11 (⟨ew0, rfl⟩)

set_option maxHeartbeats 4000000 in
set_option maxRecDepth 100000 in
theorem m_X4_isOf {a : Nat → Nat} {n : Nat} {σ : ST} {i : Nat} (hi : i < n) {k : Int} (hk : inR k) : MB yX4_isOf cX4_isOf 2 (RM 0 0) a n σ [.ref (a (39 + 5 * i)), iv k] (k = 0 ∨ σ (39 + 5 * i) 0 = k) := by
  refine MI.ofB (own := RX4) (by decide +kernel) rfl (Nat.le_of_ble_eq_true rfl) ?_
  intro κ C hret
  show J κ 0 0 a n σ [(0, .ref (a (39 + 5 * i))), (1, iv k)] 0 []
  refine r_iload_n C dX4_isOf_0 1 rfl ?_
  refine r_if_eq (tgt := 12) C dX4_isOf_1 (by decide) (by omega) (fun h1 => ?_) (fun h1 => ?_)
  · skip
    refine r_iconst C dX4_isOf_12 ?_
    refine r_goto (tgt := 17) C dX4_isOf_13 (by decide) ?_
    exact hret _ _ _ _ dX4_isOf_17 (Or.inr rfl) (⟨rfl, Or.inl ⟨rfl, by omega⟩⟩)
  · skip
    refine r_iload_n C dX4_isOf_4 1 rfl ?_
    refine r_aload_n C dX4_isOf_5 0 rfl ?_
    refine gX4_9 i hi C dX4_isOf_6 (fun g2 => ?_)
    refine r_icmp_ne (tgt := 16) C dX4_isOf_9 (by decide) (by omega) (by omega) (fun h3 => ?_) (fun h3 => ?_)
    · skip
      refine r_iconst C dX4_isOf_16 ?_
      exact hret _ _ _ _ dX4_isOf_17 (Or.inl rfl) (⟨rfl, Or.inr ⟨rfl, by omega⟩⟩)
    · skip
      refine r_iconst C dX4_isOf_12 ?_
      refine r_goto (tgt := 17) C dX4_isOf_13 (by decide) ?_
      exact hret _ _ _ _ dX4_isOf_17 (Or.inr rfl) (⟨rfl, Or.inl ⟨rfl, by omega⟩⟩)

set_option maxHeartbeats 4000000 in
set_option maxRecDepth 100000 in
theorem m_X4_needOf {a : Nat → Nat} {n : Nat} {σ : ST} {i : Nat} (hi : i < n) {x : Int} (hx : 0 ≤ x ∧ x ≤ 60) : MP yX4_needOf cX4_needOf 2 .int (RM 0 0) a n σ [.ref (a (39 + 5 * i)), iv x] (fun r => r = if σ (39 + 5 * i) 0 = 1 then x / 2 else x) := by
  refine MI.of (own := RX4) (by decide +kernel) rfl (Nat.le_of_ble_eq_true rfl) ?_
  intro κ C hret
  show J κ 0 0 a n σ [(0, .ref (a (39 + 5 * i))), (1, iv x)] 0 []
  refine r_aload_n C dX4_needOf_0 0 rfl ?_
  refine gX4_9 i hi C dX4_needOf_1 (fun g1 => ?_)
  refine r_iconst C dX4_needOf_4 ?_
  refine r_icmp_ne (tgt := 14) C dX4_needOf_5 (by decide) (by omega) (by omega) (fun hk1 => ?_) (fun hk1 => ?_)
  · skip
    refine r_iload_n C dX4_needOf_14 1 rfl ?_
    exact hret _ _ _ _ dX4_needOf_15 ⟨rfl, by first | rw [if_pos hk1] | rw [if_neg hk1]⟩
  · skip
    refine r_iload_n C dX4_needOf_8 1 rfl ?_
    refine r_iconst C dX4_needOf_9 ?_
    refine r_idiv C dX4_needOf_10 (by omega) (by omega) (by omega) (by omega) ?_
    rw [Int.tdiv_eq_ediv_of_nonneg (by omega)]
    refine r_goto (tgt := 15) C dX4_needOf_11 (by decide) ?_
    exact hret _ _ _ _ dX4_needOf_15 ⟨rfl, by first | rw [if_pos hk1] | rw [if_neg hk1]⟩

/-- what is kept of a bar when a voice is laid -/
def mkC (σ : ST) (i : Nat) (b : Int) : Int := if (0 ≤ b ∧ b < σ 1 3) ∧ ¬ 3 < σ 7 b then (σ (40 + 5 * i) b * 16 + σ (41 + 5 * i) b) * 4 + σ 7 b % 4 else -1
set_option maxHeartbeats 4000000 in
set_option maxRecDepth 100000 in
theorem m_X4_markOf {a : Nat → Nat} {n : Nat} {σ : ST} {i : Nat} (hi : i < n) {b : Int} (hn : 0 ≤ σ 1 3 ∧ σ 1 3 ≤ 40) (hk : ∀ j, 0 ≤ σ 7 j ∧ σ 7 j ≤ 7) (hb : 0 ≤ b ∧ b < 40) : MP yX4_markOf cX4_markOf 3 .int (RM 2 42) a n σ [.ref (a (39 + 5 * i)), .ref (a 1), iv b] (fun r => r = mkC σ i b) := by
  refine MI.of (own := RX4) (by decide +kernel) rfl (Nat.le_of_ble_eq_true rfl) ?_
  intro κ C hret
  show J κ 0 0 a n σ [(0, .ref (a (39 + 5 * i))), (1, .ref (a 1)), (2, iv b)] 0 []
  refine r_aload_n C dX4_markOf_0 1 rfl ?_
  refine r_iload_n C dX4_markOf_1 2 rfl ?_
  refine r_callB1 1 C dX4_markOf_2 lkX4_38 (m_X2_isThere (by omega) (by omega) hk) ⟨rfl, rfl, Nat.le_of_ble_eq_true rfl, Nat.le_of_ble_eq_true rfl⟩ ⟨Nat.zero_le _, Nat.zero_le _⟩ rc1 (Nat.le_of_ble_eq_true rfl) (fun ht => ?_) (fun ht => ?_)
  · skip
    refine r_if_ne (tgt := 10) C dX4_markOf_5 (by decide) (by decide) (fun _ => ?_) (fun q => absurd q (by decide))
    refine r_aload_n C dX4_markOf_10 0 rfl ?_
    refine gX4_18 i hi C dX4_markOf_11 ?_
    refine r_iload_n C dX4_markOf_14 2 rfl ?_
    refine r_iald 40 C dX4_markOf_15 (by omega) (fun _ => cF_vk _ (by omega) (by omega)) (by omega) (by omega) (by decide) (fun g3 => ?_)
    refine r_bipush C dX4_markOf_16 (by decide) ?_
    refine r_imul C dX4_markOf_18 ?_
    refine r_aload_n C dX4_markOf_19 0 rfl ?_
    refine gX4_22 i hi C dX4_markOf_20 ?_
    refine r_iload_n C dX4_markOf_23 2 rfl ?_
    refine r_iald 40 C dX4_markOf_24 (by omega) (fun _ => cF_vk _ (by omega) (by omega)) (by omega) (by omega) (by decide) (fun g5 => ?_)
    refine r_iadd C dX4_markOf_25 ?_
    refine r_iconst C dX4_markOf_26 ?_
    refine r_imul C dX4_markOf_27 ?_
    refine r_aload_n C dX4_markOf_28 1 rfl ?_
    refine gX4_44 C dX4_markOf_29 ?_
    refine r_iload_n C dX4_markOf_32 2 rfl ?_
    refine r_iald 40 C dX4_markOf_33 (by omega) (fun _ => rfl) (by omega) (by omega) (by decide) (fun g7 => ?_)
    refine r_iconst C dX4_markOf_34 ?_
    refine r_iand C dX4_markOf_35 ?_
    rw [iand_3 (hk b)]
    refine r_iadd C dX4_markOf_36 ?_
    exact hret _ _ _ _ dX4_markOf_37 ⟨rfl, by unfold mkC; first | rw [if_pos ht] | rw [if_neg ht]⟩
  · skip
    refine r_if_ne (tgt := 10) C dX4_markOf_5 (by decide) (by decide) (fun q => absurd q (by decide)) (fun _ => ?_)
    refine r_iconst C dX4_markOf_8 ?_
    exact hret _ _ _ _ dX4_markOf_9 ⟨rfl, by unfold mkC; first | rw [if_pos ht] | rw [if_neg ht]⟩
