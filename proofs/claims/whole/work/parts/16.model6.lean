def FPm (σ ρ : ST) (v : Int) : Prop := FrM σ ρ ∧ RowOK (σ 20) (σ 18 0) (ρ 28) (ρ 18 18) ∧ DPOK (syM ρ v) (ρ 18 6) (btM ρ v) (ρ 18 18) (ρ 29) (ρ 30) (ρ 31)
theorem walk_bd {sy : Int → Int → Int} {lines : Int} {bt : Int → Int} {many : Int} {B G Z : Int → Int} (h : DPOK sy lines bt many B G Z) (h1 : ∀ i, sy i 1 ≤ lines) (h0 : 0 ≤ many) : ∀ k : Nat, 0 ≤ walkF Z many k ∧ walkF Z many k ≤ many
  | 0 => ⟨Int.le_refl _, h0⟩
  | k + 1 => by
    have h2 := walk_bd h h1 h0 k
    unfold walkF
    split
    · rename_i h3
      have := h.step h1 h2.1 h3
      omega
    · exact h2
set_option maxHeartbeats 4000000 in
set_option maxRecDepth 100000 in
theorem m_X6_pages {a : Nat → Nat} {n : Nat} {σ : ST} (hM : MS σ) {v w : Int} (hv1 : inR v) (hw1 : inR w) : MI yX6_pages cX6_pages 3 .int (RM 5 124) a n σ [.ref (a 18), iv v, iv w] (fun r σ1 => (((0 ≤ v ∧ v < σ 18 1) ∧ 0 ≤ w ∧ w ≤ 1) ∧ ∃ ρ, FPm σ ρ v ∧ ((ρ 18 18 = 0 ∧ r = -1000002 ∧ σ1 = fd ρ 27 2) ∨ (0 < ρ 18 18 ∧ w = 0 ∧ r = ρ 30 0 ∧ σ1 = ρ) ∨ (0 < ρ 18 18 ∧ w = 1 ∧ r = ρ 29 0 ∧ σ1 = ρ))) ∨ (¬ ((0 ≤ v ∧ v < σ 18 1) ∧ 0 ≤ w ∧ w ≤ 1) ∧ r = -1000001 ∧ σ1 = fd σ 27 1)) := by
  refine MI.of (own := RX6) (by decide +kernel) rfl (Nat.le_of_ble_eq_true rfl) ?_
  intro κ C hret
  show J κ 0 0 a n σ [(0, .ref (a 18)), (1, iv v), (2, iv w)] 0 []
  obtain ⟨hb, hvn, hwt, hky, hdu, hwd, hli, hne, hse, hmk, hkd, hsh, hos, hpl, hld, hF, hlp, hpo⟩ := id hM
  refine r_aload_n C dX6_pages_0 0 rfl ?_
  refine r_iload_n C dX6_pages_1 1 rfl ?_
  refine r_callB1 18 C dX6_pages_2 lkX6_96 (m_X6_isVoice (by omega) (by omega)) ⟨rfl, rfl, Nat.le_of_ble_eq_true rfl, Nat.le_of_ble_eq_true rfl⟩ ⟨Nat.zero_le _, Nat.zero_le _⟩ rc18 (Nat.le_of_ble_eq_true rfl) (fun h1 => ?_) (fun h1 => ?_)
  · skip
    refine r_if_eq (tgt := 17) C dX6_pages_5 (by decide) (by decide) (fun q => absurd q (by decide)) (fun _ => ?_)
    refine r_iload_n C dX6_pages_8 2 rfl ?_
    refine r_iconst C dX6_pages_9 ?_
    refine r_iconst C dX6_pages_10 ?_
    refine r_callSB3 C dX6_pages_11 lkX6_85 (m_X6_in (by omega) (by omega) (by omega)) ⟨rfl, rfl, Nat.le_of_ble_eq_true rfl, Nat.le_of_ble_eq_true rfl⟩ ⟨Nat.zero_le _, Nat.zero_le _⟩ (Nat.le_of_ble_eq_true rfl) (fun h3 => ?_) (fun h3 => ?_)
    · skip
      refine r_if_ne (tgt := 23) C dX6_pages_14 (by decide) (by decide) (fun _ => ?_) (fun q => absurd q (by decide))
      refine r_aload_n C dX6_pages_23 0 rfl ?_
      refine r_iload_n C dX6_pages_24 1 rfl ?_
      refine r_callV1 18 C dX6_pages_25 lkX6_143 (m_X6_findPages hM (by omega)) ⟨rfl, rfl, Nat.le_of_ble_eq_true rfl, Nat.le_of_ble_eq_true rfl⟩ ⟨Nat.zero_le _, Nat.zero_le _⟩ rc18 (Nat.le_of_ble_eq_true rfl) (fun ρ hr5 => ?_)
      obtain ⟨hfr, hro, hdp⟩ := hr5
      have hM2 := hfr.ms hM
      have hI := RowIn.of hro hb.1 hb.2
      have hrm := hI.2.1
      have hrm0 := hI.1
      have hf1 := hfr.2 1 (by decide)
      refine r_aload_n C dX6_pages_28 0 rfl ?_
      refine gX6_106 C dX6_pages_29 (fun g6 => ?_)
      refine r_if_ne (tgt := 41) C dX6_pages_32 (by decide) (by omega) (fun h7 => ?_) (fun h7 => ?_)
      · skip
        refine r_iload_n C dX6_pages_41 2 rfl ?_
        refine r_if_ne (tgt := 54) C dX6_pages_42 (by decide) (by omega) (fun h8 => ?_) (fun h8 => ?_)
        · skip
          refine r_aload_n C dX6_pages_54 0 rfl ?_
          refine gX6_53 C dX6_pages_55 ?_
          refine r_iconst C dX6_pages_58 ?_
          refine r_iald 41 C dX6_pages_59 (by omega) (fun _ => rfl) (by omega) (by omega) (by decide) (fun g10 => ?_)
          exact hret _ _ _ _ dX6_pages_60 (by first | (refine Or.inr ⟨?_, ?_, ?_⟩ <;> first | omega | assumption) | exact Or.inl ⟨by omega, ρ, ⟨hfr, hro, hdp⟩, Or.inl ⟨by omega, by omega, by assumption⟩⟩ | exact Or.inl ⟨by omega, ρ, ⟨hfr, hro, hdp⟩, Or.inr (Or.inl ⟨by omega, by omega, rfl, rfl⟩)⟩ | exact Or.inl ⟨by omega, ρ, ⟨hfr, hro, hdp⟩, Or.inr (Or.inr ⟨by omega, by omega, rfl, rfl⟩)⟩)
        · skip
          refine r_aload_n C dX6_pages_45 0 rfl ?_
          refine gX6_56 C dX6_pages_46 ?_
          refine r_iconst C dX6_pages_49 ?_
          refine r_iald 41 C dX6_pages_50 (by omega) (fun _ => rfl) (by omega) (by omega) (by decide) (fun g12 => ?_)
          refine r_goto (tgt := 60) C dX6_pages_51 (by decide) ?_
          exact hret _ _ _ _ dX6_pages_60 (by first | (refine Or.inr ⟨?_, ?_, ?_⟩ <;> first | omega | assumption) | exact Or.inl ⟨by omega, ρ, ⟨hfr, hro, hdp⟩, Or.inl ⟨by omega, by omega, by assumption⟩⟩ | exact Or.inl ⟨by omega, ρ, ⟨hfr, hro, hdp⟩, Or.inr (Or.inl ⟨by omega, by omega, rfl, rfl⟩)⟩ | exact Or.inl ⟨by omega, ρ, ⟨hfr, hro, hdp⟩, Or.inr (Or.inr ⟨by omega, by omega, rfl, rfl⟩)⟩)
      · skip
        refine r_aload_n C dX6_pages_35 0 rfl ?_
        refine r_iconst C dX6_pages_36 ?_
        refine r_callI1 18 C dX6_pages_37 lkX6_92 (m_X6_finds (by omega) (MS.F (by assumption) _)) ⟨rfl, rfl, Nat.le_of_ble_eq_true rfl, Nat.le_of_ble_eq_true rfl⟩ ⟨Nat.zero_le _, Nat.zero_le _⟩ rc18 (Nat.le_of_ble_eq_true rfl) (fun r13 s14 hr13 => ?_)
        obtain ⟨er13, hr13⟩ := hr13
        exact hret _ _ _ _ dX6_pages_40 (by first | (refine Or.inr ⟨?_, ?_, ?_⟩ <;> first | omega | assumption) | exact Or.inl ⟨by omega, ρ, ⟨hfr, hro, hdp⟩, Or.inl ⟨by omega, by omega, by assumption⟩⟩ | exact Or.inl ⟨by omega, ρ, ⟨hfr, hro, hdp⟩, Or.inr (Or.inl ⟨by omega, by omega, rfl, rfl⟩)⟩ | exact Or.inl ⟨by omega, ρ, ⟨hfr, hro, hdp⟩, Or.inr (Or.inr ⟨by omega, by omega, rfl, rfl⟩)⟩)
    · skip
      refine r_if_ne (tgt := 23) C dX6_pages_14 (by decide) (by decide) (fun q => absurd q (by decide)) (fun _ => ?_)
      refine r_aload_n C dX6_pages_17 0 rfl ?_
      refine r_iconst C dX6_pages_18 ?_
      refine r_callI1 18 C dX6_pages_19 lkX6_92 (m_X6_finds (by omega) (MS.F (by assumption) _)) ⟨rfl, rfl, Nat.le_of_ble_eq_true rfl, Nat.le_of_ble_eq_true rfl⟩ ⟨Nat.zero_le _, Nat.zero_le _⟩ rc18 (Nat.le_of_ble_eq_true rfl) (fun r16 s17 hr16 => ?_)
      obtain ⟨er16, hr16⟩ := hr16
      exact hret _ _ _ _ dX6_pages_22 (by first | (refine Or.inr ⟨?_, ?_, ?_⟩ <;> first | omega | assumption) | exact Or.inl ⟨by omega, ρ, ⟨hfr, hro, hdp⟩, Or.inl ⟨by omega, by omega, by assumption⟩⟩ | exact Or.inl ⟨by omega, ρ, ⟨hfr, hro, hdp⟩, Or.inr (Or.inl ⟨by omega, by omega, rfl, rfl⟩)⟩ | exact Or.inl ⟨by omega, ρ, ⟨hfr, hro, hdp⟩, Or.inr (Or.inr ⟨by omega, by omega, rfl, rfl⟩)⟩)
  · skip
    refine r_if_eq (tgt := 17) C dX6_pages_5 (by decide) (by decide) (fun _ => ?_) (fun q => absurd q (by decide))
    refine r_aload_n C dX6_pages_17 0 rfl ?_
    refine r_iconst C dX6_pages_18 ?_
    refine r_callI1 18 C dX6_pages_19 lkX6_92 (m_X6_finds (by omega) (MS.F (by assumption) _)) ⟨rfl, rfl, Nat.le_of_ble_eq_true rfl, Nat.le_of_ble_eq_true rfl⟩ ⟨Nat.zero_le _, Nat.zero_le _⟩ rc18 (Nat.le_of_ble_eq_true rfl) (fun r19 s20 hr19 => ?_)
    obtain ⟨er19, hr19⟩ := hr19
    exact hret _ _ _ _ dX6_pages_22 (by first | (refine Or.inr ⟨?_, ?_, ?_⟩ <;> first | omega | assumption) | exact Or.inl ⟨by omega, ρ, ⟨hfr, hro, hdp⟩, Or.inl ⟨by omega, by omega, by assumption⟩⟩ | exact Or.inl ⟨by omega, ρ, ⟨hfr, hro, hdp⟩, Or.inr (Or.inl ⟨by omega, by omega, rfl, rfl⟩)⟩ | exact Or.inl ⟨by omega, ρ, ⟨hfr, hro, hdp⟩, Or.inr (Or.inr ⟨by omega, by omega, rfl, rfl⟩)⟩)

set_option maxHeartbeats 4000000 in
set_option maxRecDepth 100000 in
theorem m_X6_pageAt {a : Nat → Nat} {n : Nat} {σ : ST} {v g : Int} (hM : MS σ) (hv : 0 ≤ v ∧ v < 6) (hg0 : 0 ≤ g) (hg1 : inR g) : MI yX6_pageAt cX6_pageAt 5 .int (RM 5 124) a n σ [.ref (a 18), iv v, iv g] (fun r σ1 => FPm σ σ1 v ∧ ((walkF (σ1 31) (σ1 18 18) g.toNat < σ1 18 18 ∧ r = walkF (σ1 31) (σ1 18 18) g.toNat) ∨ (¬ walkF (σ1 31) (σ1 18 18) g.toNat < σ1 18 18 ∧ r = -1))) := by
  refine MI.of (own := RX6) (by decide +kernel) rfl (Nat.le_of_ble_eq_true rfl) ?_
  intro κ C hret
  show J κ 0 0 a n σ [(0, .ref (a 18)), (1, iv v), (2, iv g)] 0 []
  obtain ⟨hb, hvn, hwt, hky, hdu, hwd, hli, hne, hse, hmk, hkd, hsh, hos, hpl, hld, hF, hlp, hpo⟩ := id hM
  refine r_aload_n C dX6_pageAt_0 0 rfl ?_
  refine r_iload_n C dX6_pageAt_1 1 rfl ?_
  refine r_callV1 18 C dX6_pageAt_2 lkX6_143 (m_X6_findPages hM (by omega)) ⟨rfl, rfl, Nat.le_of_ble_eq_true rfl, Nat.le_of_ble_eq_true rfl⟩ ⟨Nat.zero_le _, Nat.zero_le _⟩ rc18 (Nat.le_of_ble_eq_true rfl) (fun ρ hr1 => ?_)
  obtain ⟨hfr, hro, hdp⟩ := hr1
  have hM2 := hfr.ms hM
  have hI := RowIn.of hro hb.1 hb.2
  have hrm := hI.2.1
  have hrm0 := hI.1
  have hf1 := hfr.2 1 (by decide)
  refine r_iconst C dX6_pageAt_5 ?_
  refine r_istore_n C dX6_pageAt_6 (by decide) (fun z_ => [(3, iv z_), (0, .ref (a 18)), (1, iv v), (2, iv g)]) (fun _ => rfl) (fun i0 ei0 => ?_)
  refine r_iconst C dX6_pageAt_7 ?_
  refine r_istore C dX6_pageAt_8 (by decide) (fun z_ => [(4, iv z_), (3, iv i0), (0, .ref (a 18)), (1, iv v), (2, iv g)]) (fun _ => rfl) (fun k0 ek0 => ?_)
  have lp10 : ∀ (N : Nat) (i : Int) (k : Int), (g - k : Int) < N → (0 ≤ k ∧ k ≤ g ∧ 0 ≤ i ∧ i ≤ ρ 18 18 ∧ i = walkF (ρ 31) (ρ 18 18) k.toNat) → J κ 0 0 a n ρ [(0, .ref (a 18)), (1, iv v), (2, iv g), (3, iv i), (4, iv k)] 10 [] := by
    intro N
    induction N with
    | zero =>
      intro i k hm10 hi10
      exact absurd hm10 (by omega)
    | succ N ih10 =>
      intro i k hm10 hi10
      obtain ⟨hk0, hk1, hi0, hi1, hik⟩ := hi10
      refine r_iload C dX6_pageAt_10 4 rfl ?_
      refine r_iload_n C dX6_pageAt_12 2 rfl ?_
      refine r_icmp_ge (tgt := 39) C dX6_pageAt_13 (by decide) (by omega) (by omega) (fun h2 => ?_) (fun h2 => ?_)
      · skip
        refine r_iload_n C dX6_pageAt_39 3 rfl ?_
        refine r_aload_n C dX6_pageAt_40 0 rfl ?_
        refine gX6_106 C dX6_pageAt_41 (fun g3 => ?_)
        refine r_icmp_ge (tgt := 51) C dX6_pageAt_44 (by decide) (by omega) (by omega) (fun h4 => ?_) (fun h4 => ?_)
        · skip
          refine r_iconst C dX6_pageAt_51 ?_
          exact hret _ _ _ _ dX6_pageAt_52 (by have hw : walkF (ρ 31) (ρ 18 18) g.toNat = i := (by first | (rw [show g = k by omega, ← hik]) | (have h9 := walkF_stay (ρ 31) (ρ 18 18) k.toNat (by rw [← hik]; omega) (g.toNat - k.toNat); rw [show k.toNat + (g.toNat - k.toNat) = g.toNat by omega] at h9; rw [h9, ← hik])); refine ⟨⟨hfr, hro, hdp⟩, ?_⟩; rw [hw]; omega)
        · skip
          refine r_iload_n C dX6_pageAt_47 3 rfl ?_
          refine r_goto (tgt := 52) C dX6_pageAt_48 (by decide) ?_
          exact hret _ _ _ _ dX6_pageAt_52 (by have hw : walkF (ρ 31) (ρ 18 18) g.toNat = i := (by first | (rw [show g = k by omega, ← hik]) | (have h9 := walkF_stay (ρ 31) (ρ 18 18) k.toNat (by rw [← hik]; omega) (g.toNat - k.toNat); rw [show k.toNat + (g.toNat - k.toNat) = g.toNat by omega] at h9; rw [h9, ← hik])); refine ⟨⟨hfr, hro, hdp⟩, ?_⟩; rw [hw]; omega)
      · skip
        refine r_iload_n C dX6_pageAt_16 3 rfl ?_
        refine r_aload_n C dX6_pageAt_17 0 rfl ?_
        refine gX6_106 C dX6_pageAt_18 (fun g5 => ?_)
        refine r_icmp_ge (tgt := 39) C dX6_pageAt_21 (by decide) (by omega) (by omega) (fun h6 => ?_) (fun h6 => ?_)
        · skip
          refine r_iload_n C dX6_pageAt_39 3 rfl ?_
          refine r_aload_n C dX6_pageAt_40 0 rfl ?_
          refine gX6_106 C dX6_pageAt_41 (fun g7 => ?_)
          refine r_icmp_ge (tgt := 51) C dX6_pageAt_44 (by decide) (by omega) (by omega) (fun h8 => ?_) (fun h8 => ?_)
          · skip
            refine r_iconst C dX6_pageAt_51 ?_
            exact hret _ _ _ _ dX6_pageAt_52 (by have hw : walkF (ρ 31) (ρ 18 18) g.toNat = i := (by first | (rw [show g = k by omega, ← hik]) | (have h9 := walkF_stay (ρ 31) (ρ 18 18) k.toNat (by rw [← hik]; omega) (g.toNat - k.toNat); rw [show k.toNat + (g.toNat - k.toNat) = g.toNat by omega] at h9; rw [h9, ← hik])); refine ⟨⟨hfr, hro, hdp⟩, ?_⟩; rw [hw]; omega)
          · skip
            refine r_iload_n C dX6_pageAt_47 3 rfl ?_
            refine r_goto (tgt := 52) C dX6_pageAt_48 (by decide) ?_
            exact hret _ _ _ _ dX6_pageAt_52 (by have hw : walkF (ρ 31) (ρ 18 18) g.toNat = i := (by first | (rw [show g = k by omega, ← hik]) | (have h9 := walkF_stay (ρ 31) (ρ 18 18) k.toNat (by rw [← hik]; omega) (g.toNat - k.toNat); rw [show k.toNat + (g.toNat - k.toNat) = g.toNat by omega] at h9; rw [h9, ← hik])); refine ⟨⟨hfr, hro, hdp⟩, ?_⟩; rw [hw]; omega)
        · skip
          have hst := hdp.step (syM_1 hM2 v) hi0 (show i < ρ 18 18 by omega)
          refine r_iload_n C dX6_pageAt_24 3 rfl ?_
          refine r_aload_n C dX6_pageAt_25 0 rfl ?_
          refine gX6_59 C dX6_pageAt_26 ?_
          refine r_iload_n C dX6_pageAt_29 3 rfl ?_
          refine r_iald 41 C dX6_pageAt_30 (by omega) (fun _ => rfl) (by omega) (by omega) (by decide) (fun g10 => ?_)
          refine r_iadd C dX6_pageAt_31 ?_
          refine r_istore_n C dX6_pageAt_32 (by decide) (fun z_ => [(3, iv z_), (0, .ref (a 18)), (1, iv v), (2, iv g), (4, iv k)]) (fun _ => rfl) (fun i2 ei2 => ?_)
          refine r_iinc C dX6_pageAt_33 (by decide) 4 rfl (fun z_ => [(4, iv z_), (3, iv i2), (0, .ref (a 18)), (1, iv v), (2, iv g)]) (fun _ => rfl) (fun k2 ek2 => ?_)
          refine r_goto (tgt := 10) C dX6_pageAt_36 (by decide) ?_
          refine r_sub [2, 3, 4, 1, 0] (L' := [(0, .ref (a 18)), (1, iv v), (2, iv g), (3, iv i2), (4, iv k2)]) rfl ?_
          exact ih10 _ _ (by omega) (by subst ei2; subst ek2; refine ⟨by omega, by omega, by omega, by omega, ?_⟩; rw [walkF_s _ _ hk0, ← hik, if_pos (by omega)])
  refine r_sub [2, 3, 4, 1, 0] (L' := [(0, .ref (a 18)), (1, iv v), (2, iv g), (3, iv i0), (4, iv k0)]) rfl ?_
  exact lp10 ((g : Int).toNat + 1) _ _ (by omega) (by subst ei0; subst ek0; exact ⟨by omega, by omega, by omega, by omega, rfl⟩)

set_option maxHeartbeats 4000000 in
set_option maxRecDepth 100000 in
theorem m_X6_page {a : Nat → Nat} {n : Nat} {σ : ST} (hM : MS σ) {v i : Int} (hv1 : inR v) (hi1 : inR i) : MI yX6_page cX6_page 4 .int (RM 6 148) a n σ [.ref (a 18), iv v, iv i] (fun r σ1 => (((0 ≤ v ∧ v < σ 18 1) ∧ 0 ≤ i) ∧ ∃ ρ, FPm σ ρ v ∧ ((walkF (ρ 31) (ρ 18 18) i.toNat < ρ 18 18 ∧ r = ρ 28 (walkF (ρ 31) (ρ 18 18) i.toNat) ∧ σ1 = ρ) ∨ (¬ walkF (ρ 31) (ρ 18 18) i.toNat < ρ 18 18 ∧ r = -1000002 ∧ σ1 = fd ρ 27 2))) ∨ (¬ ((0 ≤ v ∧ v < σ 18 1) ∧ 0 ≤ i) ∧ r = -1000001 ∧ σ1 = fd σ 27 1)) := by
  refine MI.of (own := RX6) (by decide +kernel) rfl (Nat.le_of_ble_eq_true rfl) ?_
  intro κ C hret
  show J κ 0 0 a n σ [(0, .ref (a 18)), (1, iv v), (2, iv i)] 0 []
  obtain ⟨hb, hvn, hwt, hky, hdu, hwd, hli, hne, hse, hmk, hkd, hsh, hos, hpl, hld, hF, hlp, hpo⟩ := id hM
  refine r_aload_n C dX6_page_0 0 rfl ?_
  refine r_iload_n C dX6_page_1 1 rfl ?_
  refine r_callB1 18 C dX6_page_2 lkX6_96 (m_X6_isVoice (by omega) (by omega)) ⟨rfl, rfl, Nat.le_of_ble_eq_true rfl, Nat.le_of_ble_eq_true rfl⟩ ⟨Nat.zero_le _, Nat.zero_le _⟩ rc18 (Nat.le_of_ble_eq_true rfl) (fun h1 => ?_) (fun h1 => ?_)
  · skip
    refine r_if_eq (tgt := 12) C dX6_page_5 (by decide) (by decide) (fun q => absurd q (by decide)) (fun _ => ?_)
    refine r_iload_n C dX6_page_8 2 rfl ?_
    refine r_if_ge (tgt := 18) C dX6_page_9 (by decide) (by omega) (fun h3 => ?_) (fun h3 => ?_)
    · skip
      refine r_aload_n C dX6_page_18 0 rfl ?_
      refine r_iload_n C dX6_page_19 1 rfl ?_
      refine r_iload_n C dX6_page_20 2 rfl ?_
      refine r_callI2 18 C dX6_page_21 lkX6_147 (m_X6_pageAt hM (by omega) (by omega) (by omega)) ⟨rfl, rfl, Nat.le_of_ble_eq_true rfl, Nat.le_of_ble_eq_true rfl⟩ ⟨Nat.zero_le _, Nat.zero_le _⟩ rc18 (Nat.le_of_ble_eq_true rfl) (fun pa ρ hpa => ?_)
      obtain ⟨hfp, hpa⟩ := hpa
      obtain ⟨hfr, hro, hdp⟩ := id hfp
      have hM2 := hfr.ms hM
      have hI := RowIn.of hro hb.1 hb.2
      have hrm := hI.2.1
      have hrm0 := hI.1
      have hf1 := hfr.2 1 (by decide)
      have hwb := walk_bd hdp (syM_1 hM2 v) hrm0 i.toNat
      obtain ⟨wk, hwk⟩ : ∃ z, z = walkF (ρ 31) (ρ 18 18) i.toNat := ⟨_, rfl⟩
      rw [← hwk] at hpa hwb
      refine r_istore_n C dX6_page_24 (by decide) (fun z_ => [(3, iv z_), (0, .ref (a 18)), (1, iv v), (2, iv i)]) (fun _ => rfl) (fun at0 eat0 => ?_)
      refine r_iload_n C dX6_page_25 0 rfl ?_
      refine r_if_ge (tgt := 37) C dX6_page_26 (by decide) (by omega) (fun h4 => ?_) (fun h4 => ?_)
      · skip
        have hpw : at0 = wk := by omega
        refine r_aload_n C dX6_page_37 1 rfl ?_
        refine gX6_50 C dX6_page_38 ?_
        refine r_iload_n C dX6_page_41 0 rfl ?_
        refine r_iald 40 C dX6_page_42 (by omega) (fun _ => rfl) (by omega) (by omega) (by decide) (fun g6 => ?_)
        exact hret _ _ _ _ dX6_page_43 (by first | (refine Or.inr ⟨?_, ?_, ?_⟩ <;> first | omega | assumption) | exact Or.inl ⟨by omega, ρ, hfp, Or.inr ⟨by rw [← hwk]; omega, by omega, by assumption⟩⟩ | exact Or.inl ⟨by omega, ρ, hfp, Or.inl ⟨by rw [← hwk]; omega, by rw [← hwk, hpw], rfl⟩⟩)
      · skip
        refine r_aload_n C dX6_page_29 1 rfl ?_
        refine r_iconst C dX6_page_30 ?_
        refine r_callI1 18 C dX6_page_31 lkX6_92 (m_X6_finds (by omega) (MS.F (by assumption) _)) ⟨rfl, rfl, Nat.le_of_ble_eq_true rfl, Nat.le_of_ble_eq_true rfl⟩ ⟨Nat.zero_le _, Nat.zero_le _⟩ rc18 (Nat.le_of_ble_eq_true rfl) (fun r7 s8 hr7 => ?_)
        obtain ⟨er7, hr7⟩ := hr7
        refine r_goto (tgt := 43) C dX6_page_34 (by decide) ?_
        exact hret _ _ _ _ dX6_page_43 (by first | (refine Or.inr ⟨?_, ?_, ?_⟩ <;> first | omega | assumption) | exact Or.inl ⟨by omega, ρ, hfp, Or.inr ⟨by rw [← hwk]; omega, by omega, by assumption⟩⟩ | exact Or.inl ⟨by omega, ρ, hfp, Or.inl ⟨by rw [← hwk]; omega, by rw [← hwk, hpw], rfl⟩⟩)
    · skip
      refine r_aload_n C dX6_page_12 0 rfl ?_
      refine r_iconst C dX6_page_13 ?_
      refine r_callI1 18 C dX6_page_14 lkX6_92 (m_X6_finds (by omega) (MS.F (by assumption) _)) ⟨rfl, rfl, Nat.le_of_ble_eq_true rfl, Nat.le_of_ble_eq_true rfl⟩ ⟨Nat.zero_le _, Nat.zero_le _⟩ rc18 (Nat.le_of_ble_eq_true rfl) (fun r9 s10 hr9 => ?_)
      obtain ⟨er9, hr9⟩ := hr9
      exact hret _ _ _ _ dX6_page_17 (by first | (refine Or.inr ⟨?_, ?_, ?_⟩ <;> first | omega | assumption) | exact Or.inl ⟨by omega, ρ, hfp, Or.inr ⟨by rw [← hwk]; omega, by omega, by assumption⟩⟩ | exact Or.inl ⟨by omega, ρ, hfp, Or.inl ⟨by rw [← hwk]; omega, by rw [← hwk, hpw], rfl⟩⟩)
  · skip
    refine r_if_eq (tgt := 12) C dX6_page_5 (by decide) (by decide) (fun _ => ?_) (fun q => absurd q (by decide))
    refine r_aload_n C dX6_page_12 0 rfl ?_
    refine r_iconst C dX6_page_13 ?_
    refine r_callI1 18 C dX6_page_14 lkX6_92 (m_X6_finds (by omega) (MS.F (by assumption) _)) ⟨rfl, rfl, Nat.le_of_ble_eq_true rfl, Nat.le_of_ble_eq_true rfl⟩ ⟨Nat.zero_le _, Nat.zero_le _⟩ rc18 (Nat.le_of_ble_eq_true rfl) (fun r12 s13 hr12 => ?_)
    obtain ⟨er12, hr12⟩ := hr12
    exact hret _ _ _ _ dX6_page_17 (by first | (refine Or.inr ⟨?_, ?_, ?_⟩ <;> first | omega | assumption) | exact Or.inl ⟨by omega, ρ, hfp, Or.inr ⟨by rw [← hwk]; omega, by omega, by assumption⟩⟩ | exact Or.inl ⟨by omega, ρ, hfp, Or.inl ⟨by rw [← hwk]; omega, by rw [← hwk, hpw], rfl⟩⟩)

set_option maxHeartbeats 4000000 in
set_option maxRecDepth 100000 in
theorem m_X6_free {a : Nat → Nat} {n : Nat} {σ : ST} (hM : MS σ) {v i : Int} (hv1 : inR v) (hi1 : inR i) : MI yX6_free cX6_free 4 .int (RM 6 148) a n σ [.ref (a 18), iv v, iv i] (fun r σ1 => (((0 ≤ v ∧ v < σ 18 1) ∧ 0 ≤ i) ∧ ∃ ρ, FPm σ ρ v ∧ (((walkF (ρ 31) (ρ 18 18) i.toNat < ρ 18 18 ∧ walkF (ρ 31) (ρ 18 18) i.toNat + ρ 31 (walkF (ρ 31) (ρ 18 18) i.toNat) < ρ 18 18) ∧ r = frM ρ v (walkF (ρ 31) (ρ 18 18) i.toNat + ρ 31 (walkF (ρ 31) (ρ 18 18) i.toNat)) ∧ σ1 = ρ) ∨ (¬ (walkF (ρ 31) (ρ 18 18) i.toNat < ρ 18 18 ∧ walkF (ρ 31) (ρ 18 18) i.toNat + ρ 31 (walkF (ρ 31) (ρ 18 18) i.toNat) < ρ 18 18) ∧ r = -1000002 ∧ σ1 = fd ρ 27 2))) ∨ (¬ ((0 ≤ v ∧ v < σ 18 1) ∧ 0 ≤ i) ∧ r = -1000001 ∧ σ1 = fd σ 27 1)) := by
  refine MI.of (own := RX6) (by decide +kernel) rfl (Nat.le_of_ble_eq_true rfl) ?_
  intro κ C hret
  show J κ 0 0 a n σ [(0, .ref (a 18)), (1, iv v), (2, iv i)] 0 []
  obtain ⟨hb, hvn, hwt, hky, hdu, hwd, hli, hne, hse, hmk, hkd, hsh, hos, hpl, hld, hF, hlp, hpo⟩ := id hM
  refine r_aload_n C dX6_free_0 0 rfl ?_
  refine r_iload_n C dX6_free_1 1 rfl ?_
  refine r_callB1 18 C dX6_free_2 lkX6_96 (m_X6_isVoice (by omega) (by omega)) ⟨rfl, rfl, Nat.le_of_ble_eq_true rfl, Nat.le_of_ble_eq_true rfl⟩ ⟨Nat.zero_le _, Nat.zero_le _⟩ rc18 (Nat.le_of_ble_eq_true rfl) (fun h1 => ?_) (fun h1 => ?_)
  · skip
    refine r_if_eq (tgt := 12) C dX6_free_5 (by decide) (by decide) (fun q => absurd q (by decide)) (fun _ => ?_)
    refine r_iload_n C dX6_free_8 2 rfl ?_
    refine r_if_ge (tgt := 18) C dX6_free_9 (by decide) (by omega) (fun h3 => ?_) (fun h3 => ?_)
    · skip
      refine r_aload_n C dX6_free_18 0 rfl ?_
      refine r_iload_n C dX6_free_19 1 rfl ?_
      refine r_iload_n C dX6_free_20 2 rfl ?_
      refine r_callI2 18 C dX6_free_21 lkX6_147 (m_X6_pageAt hM (by omega) (by omega) (by omega)) ⟨rfl, rfl, Nat.le_of_ble_eq_true rfl, Nat.le_of_ble_eq_true rfl⟩ ⟨Nat.zero_le _, Nat.zero_le _⟩ rc18 (Nat.le_of_ble_eq_true rfl) (fun pa ρ hpa => ?_)
      obtain ⟨hfp, hpa⟩ := hpa
      obtain ⟨hfr, hro, hdp⟩ := id hfp
      have hM2 := hfr.ms hM
      have hI := RowIn.of hro hb.1 hb.2
      have hrm := hI.2.1
      have hrm0 := hI.1
      have hf1 := hfr.2 1 (by decide)
      have hwb := walk_bd hdp (syM_1 hM2 v) hrm0 i.toNat
      obtain ⟨wk, hwk⟩ : ∃ z, z = walkF (ρ 31) (ρ 18 18) i.toNat := ⟨_, rfl⟩
      rw [← hwk] at hpa hwb
      refine r_istore_n C dX6_free_24 (by decide) (fun z_ => [(3, iv z_), (0, .ref (a 18)), (1, iv v), (2, iv i)]) (fun _ => rfl) (fun at0 eat0 => ?_)
      refine r_iload_n C dX6_free_25 0 rfl ?_
      refine r_if_lt (tgt := 44) C dX6_free_26 (by decide) (by omega) (fun h4 => ?_) (fun h4 => ?_)
      · skip
        refine r_aload_n C dX6_free_44 1 rfl ?_
        refine r_iconst C dX6_free_45 ?_
        refine r_callI1 18 C dX6_free_46 lkX6_92 (m_X6_finds (by omega) (MS.F (by assumption) _)) ⟨rfl, rfl, Nat.le_of_ble_eq_true rfl, Nat.le_of_ble_eq_true rfl⟩ ⟨Nat.zero_le _, Nat.zero_le _⟩ rc18 (Nat.le_of_ble_eq_true rfl) (fun r5 s6 hr5 => ?_)
        obtain ⟨er5, hr5⟩ := hr5
        refine r_goto (tgt := 65) C dX6_free_49 (by decide) ?_
        exact hret _ _ _ _ dX6_free_65 (by first | (refine Or.inr ⟨?_, ?_, ?_⟩ <;> first | omega | assumption) | exact Or.inl ⟨by omega, ρ, hfp, Or.inr ⟨by rw [← hwk]; omega, by omega, by assumption⟩⟩ | exact Or.inl ⟨by omega, ρ, hfp, Or.inl ⟨by rw [← hwk]; omega, by rw [← hwk]; exact (by assumption), rfl⟩⟩)
      · skip
        have hpw : at0 = wk := by omega
        subst hpw
        have hst := hdp.step (syM_1 hM2 v) (i := at0) (by omega) (by omega)
        refine r_iload_n C dX6_free_29 0 rfl ?_
        refine r_aload_n C dX6_free_30 1 rfl ?_
        refine gX6_59 C dX6_free_31 ?_
        refine r_iload_n C dX6_free_34 0 rfl ?_
        refine r_iald 41 C dX6_free_35 (by omega) (fun _ => rfl) (by omega) (by omega) (by decide) (fun g8 => ?_)
        refine r_iadd C dX6_free_36 ?_
        refine r_aload_n C dX6_free_37 1 rfl ?_
        refine gX6_106 C dX6_free_38 (fun g9 => ?_)
        refine r_icmp_ne (tgt := 52) C dX6_free_41 (by decide) (by omega) (by omega) (fun h10 => ?_) (fun h10 => ?_)
        · skip
          refine r_aload_n C dX6_free_52 1 rfl ?_
          refine r_iload_n C dX6_free_53 2 rfl ?_
          refine r_iload_n C dX6_free_54 0 rfl ?_
          refine r_aload_n C dX6_free_55 1 rfl ?_
          refine gX6_59 C dX6_free_56 ?_
          refine r_iload_n C dX6_free_59 0 rfl ?_
          refine r_iald 41 C dX6_free_60 (by omega) (fun _ => rfl) (by omega) (by omega) (by decide) (fun g12 => ?_)
          refine r_iadd C dX6_free_61 ?_
          refine r_callP2 18 C dX6_free_62 lkX6_133 (m_X6_freeAt hM2 hI (by omega) (by omega)) ⟨rfl, rfl, Nat.le_of_ble_eq_true rfl, Nat.le_of_ble_eq_true rfl⟩ ⟨Nat.zero_le _, Nat.zero_le _⟩ rc18 (Nat.le_of_ble_eq_true rfl) (fun fr hfr => ?_)
          exact hret _ _ _ _ dX6_free_65 (by first | (refine Or.inr ⟨?_, ?_, ?_⟩ <;> first | omega | assumption) | exact Or.inl ⟨by omega, ρ, hfp, Or.inr ⟨by rw [← hwk]; omega, by omega, by assumption⟩⟩ | exact Or.inl ⟨by omega, ρ, hfp, Or.inl ⟨by rw [← hwk]; omega, by rw [← hwk]; exact (by assumption), rfl⟩⟩)
        · skip
          refine r_aload_n C dX6_free_44 1 rfl ?_
          refine r_iconst C dX6_free_45 ?_
          refine r_callI1 18 C dX6_free_46 lkX6_92 (m_X6_finds (by omega) (MS.F (by assumption) _)) ⟨rfl, rfl, Nat.le_of_ble_eq_true rfl, Nat.le_of_ble_eq_true rfl⟩ ⟨Nat.zero_le _, Nat.zero_le _⟩ rc18 (Nat.le_of_ble_eq_true rfl) (fun r13 s14 hr13 => ?_)
          obtain ⟨er13, hr13⟩ := hr13
          refine r_goto (tgt := 65) C dX6_free_49 (by decide) ?_
          exact hret _ _ _ _ dX6_free_65 (by first | (refine Or.inr ⟨?_, ?_, ?_⟩ <;> first | omega | assumption) | exact Or.inl ⟨by omega, ρ, hfp, Or.inr ⟨by rw [← hwk]; omega, by omega, by assumption⟩⟩ | exact Or.inl ⟨by omega, ρ, hfp, Or.inl ⟨by rw [← hwk]; omega, by rw [← hwk]; exact (by assumption), rfl⟩⟩)
    · skip
      refine r_aload_n C dX6_free_12 0 rfl ?_
      refine r_iconst C dX6_free_13 ?_
      refine r_callI1 18 C dX6_free_14 lkX6_92 (m_X6_finds (by omega) (MS.F (by assumption) _)) ⟨rfl, rfl, Nat.le_of_ble_eq_true rfl, Nat.le_of_ble_eq_true rfl⟩ ⟨Nat.zero_le _, Nat.zero_le _⟩ rc18 (Nat.le_of_ble_eq_true rfl) (fun r15 s16 hr15 => ?_)
      obtain ⟨er15, hr15⟩ := hr15
      exact hret _ _ _ _ dX6_free_17 (by first | (refine Or.inr ⟨?_, ?_, ?_⟩ <;> first | omega | assumption) | exact Or.inl ⟨by omega, ρ, hfp, Or.inr ⟨by rw [← hwk]; omega, by omega, by assumption⟩⟩ | exact Or.inl ⟨by omega, ρ, hfp, Or.inl ⟨by rw [← hwk]; omega, by rw [← hwk]; exact (by assumption), rfl⟩⟩)
  · skip
    refine r_if_eq (tgt := 12) C dX6_free_5 (by decide) (by decide) (fun _ => ?_) (fun q => absurd q (by decide))
    refine r_aload_n C dX6_free_12 0 rfl ?_
    refine r_iconst C dX6_free_13 ?_
    refine r_callI1 18 C dX6_free_14 lkX6_92 (m_X6_finds (by omega) (MS.F (by assumption) _)) ⟨rfl, rfl, Nat.le_of_ble_eq_true rfl, Nat.le_of_ble_eq_true rfl⟩ ⟨Nat.zero_le _, Nat.zero_le _⟩ rc18 (Nat.le_of_ble_eq_true rfl) (fun r18 s19 hr18 => ?_)
    obtain ⟨er18, hr18⟩ := hr18
    exact hret _ _ _ _ dX6_free_17 (by first | (refine Or.inr ⟨?_, ?_, ?_⟩ <;> first | omega | assumption) | exact Or.inl ⟨by omega, ρ, hfp, Or.inr ⟨by rw [← hwk]; omega, by omega, by assumption⟩⟩ | exact Or.inl ⟨by omega, ρ, hfp, Or.inl ⟨by rw [← hwk]; omega, by rw [← hwk]; exact (by assumption), rfl⟩⟩)

set_option maxHeartbeats 4000000 in
set_option maxRecDepth 100000 in
theorem m_X6_systems {a : Nat → Nat} {n : Nat} {σ : ST} (hM : MS σ) {v i : Int} (hv1 : inR v) (hi1 : inR i) : MI yX6_systems cX6_systems 4 .int (RM 6 148) a n σ [.ref (a 18), iv v, iv i] (fun r σ1 => (((0 ≤ v ∧ v < σ 18 1) ∧ 0 ≤ i) ∧ ∃ ρ, FPm σ ρ v ∧ ((walkF (ρ 31) (ρ 18 18) i.toNat < ρ 18 18 ∧ r = syM ρ v (walkF (ρ 31) (ρ 18 18) i.toNat) (ρ 31 (walkF (ρ 31) (ρ 18 18) i.toNat)) ∧ σ1 = ρ) ∨ (¬ walkF (ρ 31) (ρ 18 18) i.toNat < ρ 18 18 ∧ r = -1000002 ∧ σ1 = fd ρ 27 2))) ∨ (¬ ((0 ≤ v ∧ v < σ 18 1) ∧ 0 ≤ i) ∧ r = -1000001 ∧ σ1 = fd σ 27 1)) := by
  refine MI.of (own := RX6) (by decide +kernel) rfl (Nat.le_of_ble_eq_true rfl) ?_
  intro κ C hret
  show J κ 0 0 a n σ [(0, .ref (a 18)), (1, iv v), (2, iv i)] 0 []
  obtain ⟨hb, hvn, hwt, hky, hdu, hwd, hli, hne, hse, hmk, hkd, hsh, hos, hpl, hld, hF, hlp, hpo⟩ := id hM
  refine r_aload_n C dX6_systems_0 0 rfl ?_
  refine r_iload_n C dX6_systems_1 1 rfl ?_
  refine r_callB1 18 C dX6_systems_2 lkX6_96 (m_X6_isVoice (by omega) (by omega)) ⟨rfl, rfl, Nat.le_of_ble_eq_true rfl, Nat.le_of_ble_eq_true rfl⟩ ⟨Nat.zero_le _, Nat.zero_le _⟩ rc18 (Nat.le_of_ble_eq_true rfl) (fun h1 => ?_) (fun h1 => ?_)
  · skip
    refine r_if_eq (tgt := 12) C dX6_systems_5 (by decide) (by decide) (fun q => absurd q (by decide)) (fun _ => ?_)
    refine r_iload_n C dX6_systems_8 2 rfl ?_
    refine r_if_ge (tgt := 18) C dX6_systems_9 (by decide) (by omega) (fun h3 => ?_) (fun h3 => ?_)
    · skip
      refine r_aload_n C dX6_systems_18 0 rfl ?_
      refine r_iload_n C dX6_systems_19 1 rfl ?_
      refine r_iload_n C dX6_systems_20 2 rfl ?_
      refine r_callI2 18 C dX6_systems_21 lkX6_147 (m_X6_pageAt hM (by omega) (by omega) (by omega)) ⟨rfl, rfl, Nat.le_of_ble_eq_true rfl, Nat.le_of_ble_eq_true rfl⟩ ⟨Nat.zero_le _, Nat.zero_le _⟩ rc18 (Nat.le_of_ble_eq_true rfl) (fun pa ρ hpa => ?_)
      obtain ⟨hfp, hpa⟩ := hpa
      obtain ⟨hfr, hro, hdp⟩ := id hfp
      have hM2 := hfr.ms hM
      have hI := RowIn.of hro hb.1 hb.2
      have hrm := hI.2.1
      have hrm0 := hI.1
      have hf1 := hfr.2 1 (by decide)
      have hwb := walk_bd hdp (syM_1 hM2 v) hrm0 i.toNat
      obtain ⟨wk, hwk⟩ : ∃ z, z = walkF (ρ 31) (ρ 18 18) i.toNat := ⟨_, rfl⟩
      rw [← hwk] at hpa hwb
      refine r_istore_n C dX6_systems_24 (by decide) (fun z_ => [(3, iv z_), (0, .ref (a 18)), (1, iv v), (2, iv i)]) (fun _ => rfl) (fun at0 eat0 => ?_)
      refine r_iload_n C dX6_systems_25 0 rfl ?_
      refine r_if_ge (tgt := 37) C dX6_systems_26 (by decide) (by omega) (fun h4 => ?_) (fun h4 => ?_)
      · skip
        have hpw : at0 = wk := by omega
        subst hpw
        have hst := hdp.step (syM_1 hM2 v) (i := at0) (by omega) (by omega)
        refine r_aload_n C dX6_systems_37 1 rfl ?_
        refine r_iload_n C dX6_systems_38 2 rfl ?_
        refine r_iload_n C dX6_systems_39 0 rfl ?_
        refine r_iload_n C dX6_systems_40 0 rfl ?_
        refine r_aload_n C dX6_systems_41 1 rfl ?_
        refine gX6_59 C dX6_systems_42 ?_
        refine r_iload_n C dX6_systems_45 0 rfl ?_
        refine r_iald 41 C dX6_systems_46 (by omega) (fun _ => rfl) (by omega) (by omega) (by decide) (fun g6 => ?_)
        refine r_iadd C dX6_systems_47 ?_
        refine r_callP3 18 C dX6_systems_48 lkX6_136 (m_X6_systemsOf hM2 hI (by omega) (by omega)) ⟨rfl, rfl, Nat.le_of_ble_eq_true rfl, Nat.le_of_ble_eq_true rfl⟩ ⟨Nat.zero_le _, Nat.zero_le _⟩ rc18 (Nat.le_of_ble_eq_true rfl) (fun sy hsy => ?_)
        rw [show at0 + ρ 31 at0 - at0 = ρ 31 at0 by omega] at hsy
        exact hret _ _ _ _ dX6_systems_51 (by first | (refine Or.inr ⟨?_, ?_, ?_⟩ <;> first | omega | assumption) | exact Or.inl ⟨by omega, ρ, hfp, Or.inr ⟨by rw [← hwk]; omega, by omega, by assumption⟩⟩ | exact Or.inl ⟨by omega, ρ, hfp, Or.inl ⟨by rw [← hwk]; omega, by rw [← hwk]; exact hsy, rfl⟩⟩)
      · skip
        refine r_aload_n C dX6_systems_29 1 rfl ?_
        refine r_iconst C dX6_systems_30 ?_
        refine r_callI1 18 C dX6_systems_31 lkX6_92 (m_X6_finds (by omega) (MS.F (by assumption) _)) ⟨rfl, rfl, Nat.le_of_ble_eq_true rfl, Nat.le_of_ble_eq_true rfl⟩ ⟨Nat.zero_le _, Nat.zero_le _⟩ rc18 (Nat.le_of_ble_eq_true rfl) (fun r7 s8 hr7 => ?_)
        obtain ⟨er7, hr7⟩ := hr7
        refine r_goto (tgt := 51) C dX6_systems_34 (by decide) ?_
        exact hret _ _ _ _ dX6_systems_51 (by first | (refine Or.inr ⟨?_, ?_, ?_⟩ <;> first | omega | assumption) | exact Or.inl ⟨by omega, ρ, hfp, Or.inr ⟨by rw [← hwk]; omega, by omega, by assumption⟩⟩ | exact Or.inl ⟨by omega, ρ, hfp, Or.inl ⟨by rw [← hwk]; omega, by rw [← hwk]; exact hsy, rfl⟩⟩)
    · skip
      refine r_aload_n C dX6_systems_12 0 rfl ?_
      refine r_iconst C dX6_systems_13 ?_
      refine r_callI1 18 C dX6_systems_14 lkX6_92 (m_X6_finds (by omega) (MS.F (by assumption) _)) ⟨rfl, rfl, Nat.le_of_ble_eq_true rfl, Nat.le_of_ble_eq_true rfl⟩ ⟨Nat.zero_le _, Nat.zero_le _⟩ rc18 (Nat.le_of_ble_eq_true rfl) (fun r9 s10 hr9 => ?_)
      obtain ⟨er9, hr9⟩ := hr9
      exact hret _ _ _ _ dX6_systems_17 (by first | (refine Or.inr ⟨?_, ?_, ?_⟩ <;> first | omega | assumption) | exact Or.inl ⟨by omega, ρ, hfp, Or.inr ⟨by rw [← hwk]; omega, by omega, by assumption⟩⟩ | exact Or.inl ⟨by omega, ρ, hfp, Or.inl ⟨by rw [← hwk]; omega, by rw [← hwk]; exact hsy, rfl⟩⟩)
  · skip
    refine r_if_eq (tgt := 12) C dX6_systems_5 (by decide) (by decide) (fun _ => ?_) (fun q => absurd q (by decide))
    refine r_aload_n C dX6_systems_12 0 rfl ?_
    refine r_iconst C dX6_systems_13 ?_
    refine r_callI1 18 C dX6_systems_14 lkX6_92 (m_X6_finds (by omega) (MS.F (by assumption) _)) ⟨rfl, rfl, Nat.le_of_ble_eq_true rfl, Nat.le_of_ble_eq_true rfl⟩ ⟨Nat.zero_le _, Nat.zero_le _⟩ rc18 (Nat.le_of_ble_eq_true rfl) (fun r12 s13 hr12 => ?_)
    obtain ⟨er12, hr12⟩ := hr12
    exact hret _ _ _ _ dX6_systems_17 (by first | (refine Or.inr ⟨?_, ?_, ?_⟩ <;> first | omega | assumption) | exact Or.inl ⟨by omega, ρ, hfp, Or.inr ⟨by rw [← hwk]; omega, by omega, by assumption⟩⟩ | exact Or.inl ⟨by omega, ρ, hfp, Or.inl ⟨by rw [← hwk]; omega, by rw [← hwk]; exact hsy, rfl⟩⟩)

/-- what check() tells -/
def chkF (P M wt : Int → Int) (told many : Int) : Nat → Int → Int → Int
  | 0, m, _ => if m < told then 99 else 0
  | f + 1, m, p => if ¬ P p = 0 ∨ bgP P M p then (if told ≤ m ∨ wt m ≠ (if P p = 0 then -(1 + lenT P M many (p + 1)) else P p) then 1 + m else chkF P M wt told many f (m + 1) (p + 1)) else chkF P M wt told many f m (p + 1)
def chkT (P M wt : Int → Int) (told many m p : Int) : Int := chkF P M wt told many (many - p).toNat m p
section CHK
variable {P M wt : Int → Int} {told many m p : Int}
theorem chkT_e (h : many ≤ p) : chkT P M wt told many m p = if m < told then 99 else 0 := by
  unfold chkT
  rw [show (many - p).toNat = 0 by omega]
  rfl
theorem chkT_s (h : p < many) : chkT P M wt told many m p = if ¬ P p = 0 ∨ bgP P M p then (if told ≤ m ∨ wt m ≠ (if P p = 0 then -(1 + lenT P M many (p + 1)) else P p) then 1 + m else chkT P M wt told many (m + 1) (p + 1)) else chkT P M wt told many m (p + 1) := by
  unfold chkT
  rw [show (many - p).toNat = (many - (p + 1)).toNat + 1 by omega]
  rfl
theorem chkT_skip : ∀ (f : Nat) (p : Int), p ≤ many → (many - p).toNat ≤ f → chkT P M wt told many m p = chkT P M wt told many m (p + lenT P M many p) ∧ (p + lenT P M many p < many → ¬ P (p + lenT P M many p) = 0 ∨ bgP P M (p + lenT P M many p))
  | 0, p, h, hf => by
    have h1 : many = p := by omega
    rw [lenT_f (by omega), Int.add_zero]
    exact ⟨rfl, fun h2 => by omega⟩
  | f + 1, p, h, hf => by
    by_cases hc : p < many ∧ P p = 0 ∧ ¬ bgP P M p
    · obtain ⟨h1, h2, h3⟩ := hc
      have ih := chkT_skip f (p + 1) (by omega) (by omega)
      rw [lenT_t h1 h2 h3, chkT_s h1, if_neg (fun q => q.elim (fun q => q h2) h3), ← Int.add_assoc]
      exact ih
    · rw [lenT_f hc, Int.add_zero]
      refine ⟨rfl, fun h1 => ?_⟩
      by_cases h2 : P p = 0
      · right
        by_cases h3 : bgP P M p
        · exact h3
        · exact absurd ⟨h1, h2, h3⟩ hc
      · exact Or.inl h2
end CHK
theorem MS.w0 {σ : ST} (h : MS σ) : MS (up2 σ 18 2 0) := by
  unfold MS
  rw [up2_at (show (0 : Int) ≠ 2 by decide), up2_at (show (1 : Int) ≠ 2 by decide), up2_self, up2_at (show (3 : Int) ≠ 2 by decide), up2_at (show (4 : Int) ≠ 2 by decide), up2_at (show (5 : Int) ≠ 2 by decide), up2_at (show (6 : Int) ≠ 2 by decide), up2_at (show (7 : Int) ≠ 2 by decide), up2_ne (show (19 : Nat) ≠ 18 by decide), up2_ne (show (20 : Nat) ≠ 18 by decide), up2_ne (show (21 : Nat) ≠ 18 by decide), up2_ne (show (22 : Nat) ≠ 18 by decide), up2_ne (show (23 : Nat) ≠ 18 by decide), up2_ne (show (24 : Nat) ≠ 18 by decide), up2_ne (show (25 : Nat) ≠ 18 by decide), up2_ne (show (27 : Nat) ≠ 18 by decide), up2_ne (show (32 : Nat) ≠ 18 by decide), up2_ne (show (33 : Nat) ≠ 18 by decide)]
  exact ⟨h.1, h.2.1, by omega, h.2.2.2⟩
def ckM (ρ : ST) (v told : Int) : Int := chkT (Pm ρ v) (Mm ρ) (ρ 26) told (ρ 18 18) 0 0
set_option maxHeartbeats 4000000 in
set_option maxRecDepth 100000 in
theorem m_X6_check {a : Nat → Nat} {n : Nat} {σ : ST} (hM : MS σ) {v : Int} (hv1 : inR v) : MI yX6_check cX6_check 7 .int (RM 3 67) a n σ [.ref (a 18), iv v] (fun r σ1 => ((0 ≤ v ∧ v < σ 18 1) ∧ FrM (up2 σ 18 2 0) σ1 ∧ RowOK (σ 20) (σ 18 0) (σ1 28) (σ1 18 18) ∧ r = ckM σ1 v (σ 18 2)) ∨ (¬ (0 ≤ v ∧ v < σ 18 1) ∧ r = -1000001 ∧ σ1 = fd (up2 σ 18 2 0) 27 1)) := by
  refine MI.of (own := RX6) (by decide +kernel) rfl (Nat.le_of_ble_eq_true rfl) ?_
  intro κ C hret
  show J κ 0 0 a n σ [(0, .ref (a 18)), (1, iv v)] 0 []
  obtain ⟨hb, hvn, hwt, hky, hdu, hwd, hli, hne, hse, hmk, hkd, hsh, hos, hpl, hld, hF, hlp, hpo⟩ := id hM
  refine r_aload_n C dX6_check_0 0 rfl ?_
  refine gX6_150 C dX6_check_1 (fun g1 => ?_)
  refine r_istore_n C dX6_check_4 (by decide) (fun z_ => [(2, iv z_), (0, .ref (a 18)), (1, iv v)]) (fun _ => rfl) (fun td etd => ?_)
  refine r_aload_n C dX6_check_5 1 rfl ?_
  refine r_iconst C dX6_check_6 ?_
  refine pX6_150 C dX6_check_7 (by omega) ?_
  refine r_st (fun ρ0 hρ0 => ?_)
  have hM0 : MS ρ0 := by rw [hρ0]; exact hM.w0
  have hq1 : ρ0 18 1 = σ 18 1 := by rw [hρ0]; exact up2_at (by decide)
  have hq0 : ρ0 18 0 = σ 18 0 := by rw [hρ0]; exact up2_at (by decide)
  have hq20 : ρ0 20 = σ 20 := by rw [hρ0]; exact up2_ne (by decide)
  refine r_aload_n C dX6_check_10 1 rfl ?_
  refine r_iload_n C dX6_check_11 2 rfl ?_
  refine r_callB1 18 C dX6_check_12 lkX6_96 (m_X6_isVoice (by omega) (by omega)) ⟨rfl, rfl, Nat.le_of_ble_eq_true rfl, Nat.le_of_ble_eq_true rfl⟩ ⟨Nat.zero_le _, Nat.zero_le _⟩ rc18 (Nat.le_of_ble_eq_true rfl) (fun h2 => ?_) (fun h2 => ?_)
  · skip
    refine r_if_ne (tgt := 24) C dX6_check_15 (by decide) (by decide) (fun _ => ?_) (fun q => absurd q (by decide))
    refine r_aload_n C dX6_check_24 1 rfl ?_
    refine r_callV0 18 C dX6_check_25 lkX6_116 (m_X6_findRow (by omega)) ⟨rfl, rfl, Nat.le_of_ble_eq_true rfl, Nat.le_of_ble_eq_true rfl⟩ ⟨Nat.zero_le _, Nat.zero_le _⟩ rc18 (Nat.le_of_ble_eq_true rfl) (fun ρ hr4 => ?_)
    obtain ⟨hfr, hro⟩ := hr4
    have hM2 := hfr.ms hM0
    rw [hq20, hq0] at hro
    have hI := RowIn.of hro hb.1 hb.2
    have hrm := hI.2.1
    have hrm0 := hI.1
    refine r_iconst C dX6_check_28 ?_
    refine r_istore_n C dX6_check_29 (by decide) (fun z_ => [(3, iv z_), (2, iv td), (0, .ref (a 18)), (1, iv v)]) (fun _ => rfl) (fun m0 em0 => ?_)
    refine r_iconst C dX6_check_30 ?_
    refine r_istore C dX6_check_31 (by decide) (fun z_ => [(4, iv z_), (3, iv m0), (2, iv td), (0, .ref (a 18)), (1, iv v)]) (fun _ => rfl) (fun i0 ei0 => ?_)
    have lp33 : ∀ (N : Nat) (m : Int) (i : Int), (ρ 18 18 - i : Int) < N → (0 ≤ m ∧ m ≤ i ∧ i ≤ ρ 18 18 ∧ (i < ρ 18 18 → ¬ Pm ρ v i = 0 ∨ bgP (Pm ρ v) (Mm ρ) i) ∧ chkT (Pm ρ v) (Mm ρ) (ρ 26) (σ 18 2) (ρ 18 18) m i = ckM ρ v (σ 18 2)) → J κ 0 0 a n ρ [(0, .ref (a 18)), (1, iv v), (2, iv td), (3, iv m), (4, iv i)] 33 [] := by
      intro N
      induction N with
      | zero =>
        intro m i hm33 hi33
        exact absurd hm33 (by omega)
      | succ N ih33 =>
        intro m i hm33 hi33
        obtain ⟨hm0, hm1, hm2, hbgi, hck⟩ := hi33
        refine r_iload C dX6_check_33 4 rfl ?_
        refine r_aload_n C dX6_check_35 0 rfl ?_
        refine gX6_106 C dX6_check_36 (fun g5 => ?_)
        refine r_icmp_ge (tgt := 133) C dX6_check_39 (by decide) (by omega) (by omega) (fun h6 => ?_) (fun h6 => ?_)
        · skip
          refine r_iload_n C dX6_check_133 2 rfl ?_
          refine r_iload_n C dX6_check_134 3 rfl ?_
          refine r_icmp_le (tgt := 143) C dX6_check_135 (by decide) (by omega) (by omega) (fun h7 => ?_) (fun h7 => ?_)
          · skip
            refine r_iconst C dX6_check_143 ?_
            exact hret _ _ _ _ dX6_check_144 (by first | (refine Or.inr ⟨?_, ?_, ?_⟩ <;> first | omega | (rw [← hρ0]; assumption)) | exact absurd hr1 hr2 | exact absurd hr2 hr1 | (rw [hρ0] at hfr; refine Or.inl ⟨by omega, hfr, hro, ?_⟩; first | (rw [chkT_e (by omega)] at hck; first | (rw [if_pos (by omega)] at hck; omega) | (rw [if_neg (by omega)] at hck; omega)) | (rw [if_pos (by first | exact Or.inl (by omega) | exact Or.inr hwt)] at hck; omega)))
          · skip
            refine r_bipush C dX6_check_138 (by decide) ?_
            refine r_goto (tgt := 144) C dX6_check_140 (by decide) ?_
            exact hret _ _ _ _ dX6_check_144 (by first | (refine Or.inr ⟨?_, ?_, ?_⟩ <;> first | omega | (rw [← hρ0]; assumption)) | exact absurd hr1 hr2 | exact absurd hr2 hr1 | (rw [hρ0] at hfr; refine Or.inl ⟨by omega, hfr, hro, ?_⟩; first | (rw [chkT_e (by omega)] at hck; first | (rw [if_pos (by omega)] at hck; omega) | (rw [if_neg (by omega)] at hck; omega)) | (rw [if_pos (by first | exact Or.inl (by omega) | exact Or.inr hwt)] at hck; omega)))
        · skip
          refine r_aload_n C dX6_check_42 0 rfl ?_
          refine r_iload_n C dX6_check_43 1 rfl ?_
          refine r_iload C dX6_check_44 4 rfl ?_
          refine r_callB2 18 C dX6_check_46 lkX6_109 (m_X6_rests hI (by omega) (by omega)) ⟨rfl, rfl, Nat.le_of_ble_eq_true rfl, Nat.le_of_ble_eq_true rfl⟩ ⟨Nat.zero_le _, Nat.zero_le _⟩ rc18 (Nat.le_of_ble_eq_true rfl) (fun hr1 => ?_) (fun hr1 => ?_)
          · skip
            refine r_if_eq (tgt := 62) C dX6_check_49 (by decide) (by decide) (fun q => absurd q (by decide)) (fun _ => ?_)
            have hlb := lenT_bd (P := Pm ρ v) (M := Mm ρ) (many := ρ 18 18) (j := i + 1) (by omega)
            refine r_aload_n C dX6_check_52 0 rfl ?_
            refine r_iload_n C dX6_check_53 1 rfl ?_
            refine r_iload C dX6_check_54 4 rfl ?_
            refine r_callP2 18 C dX6_check_56 lkX6_119 (m_X6_restsFrom hI (by omega) (by omega)) ⟨rfl, rfl, Nat.le_of_ble_eq_true rfl, Nat.le_of_ble_eq_true rfl⟩ ⟨Nat.zero_le _, Nat.zero_le _⟩ rc18 (Nat.le_of_ble_eq_true rfl) (fun ln hln => ?_)
            refine r_goto (tgt := 63) C dX6_check_59 (by decide) ?_
            refine r_istore C dX6_check_63 (by decide) (fun z_ => [(5, iv z_), (0, .ref (a 18)), (1, iv v), (2, iv td), (3, iv m), (4, iv i)]) (fun _ => rfl) (fun ow eow => ?_)
            refine r_aload_n C dX6_check_65 1 rfl ?_
            refine r_iload_n C dX6_check_66 2 rfl ?_
            refine r_iload C dX6_check_67 5 rfl ?_
            refine r_callB2 18 C dX6_check_69 lkX6_109 (m_X6_rests hI (by omega) (by omega)) ⟨rfl, rfl, Nat.le_of_ble_eq_true rfl, Nat.le_of_ble_eq_true rfl⟩ ⟨Nat.zero_le _, Nat.zero_le _⟩ rc18 (Nat.le_of_ble_eq_true rfl) (fun hr2 => ?_) (fun hr2 => ?_)
            · skip
              refine r_if_eq (tgt := 81) C dX6_check_72 (by decide) (by decide) (fun q => absurd q (by decide)) (fun _ => ?_)
              refine r_iload C dX6_check_75 0 rfl ?_
              refine r_ineg C dX6_check_77 ?_
              refine r_goto (tgt := 98) C dX6_check_78 (by decide) ?_
              refine r_istore C dX6_check_98 (by decide) (fun z_ => [(6, iv z_), (5, iv ow), (0, .ref (a 18)), (1, iv v), (2, iv td), (3, iv m), (4, iv i)]) (fun _ => rfl) (fun is eis => ?_)
              have his : is = if Pm ρ v i = 0 then -(1 + lenT (Pm ρ v) (Mm ρ) (ρ 18 18) (i + 1)) else Pm ρ v i := by first | exact absurd hr1 hr2 | exact absurd hr2 hr1 | (rw [if_pos hr1]; omega) | (rw [if_neg hr1]; exact eis)
              rw [chkT_s (show i < ρ 18 18 by omega), if_pos (hbgi (by omega)), ← his] at hck
              have hib : inR is := by omega
              refine r_iload_n C dX6_check_100 5 rfl ?_
              refine r_iload_n C dX6_check_101 4 rfl ?_
              refine r_icmp_ge (tgt := 116) C dX6_check_102 (by decide) (by omega) (by omega) (fun hmt => ?_) (fun hmt => ?_)
              · skip
                refine r_iconst C dX6_check_116 ?_
                refine r_iload_n C dX6_check_117 5 rfl ?_
                refine r_iadd C dX6_check_118 ?_
                exact hret _ _ _ _ dX6_check_119 (by first | (refine Or.inr ⟨?_, ?_, ?_⟩ <;> first | omega | (rw [← hρ0]; assumption)) | exact absurd hr1 hr2 | exact absurd hr2 hr1 | (rw [hρ0] at hfr; refine Or.inl ⟨by omega, hfr, hro, ?_⟩; first | (rw [chkT_e (by omega)] at hck; first | (rw [if_pos (by omega)] at hck; omega) | (rw [if_neg (by omega)] at hck; omega)) | (rw [if_pos (by first | exact Or.inl (by omega) | exact Or.inr hwt)] at hck; omega)))
              · skip
                refine r_aload_n C dX6_check_105 2 rfl ?_
                refine gX6_44 C dX6_check_106 ?_
                refine r_iload_n C dX6_check_109 5 rfl ?_
                refine r_iald 40 C dX6_check_110 (by omega) (fun _ => rfl) (by omega) (by omega) (by decide) (fun g12 => ?_)
                refine r_iload C dX6_check_111 0 rfl ?_
                refine r_icmp_eq (tgt := 120) C dX6_check_113 (by decide) (by omega) (by omega) (fun hwt => ?_) (fun hwt => ?_)
                · skip
                  refine r_iinc C dX6_check_120 (by decide) 5 rfl (fun z_ => [(3, iv z_), (6, iv is), (5, iv ow), (0, .ref (a 18)), (1, iv v), (2, iv td), (4, iv i)]) (fun _ => rfl) (fun m2 em2 => ?_)
                  refine r_iload C dX6_check_123 6 rfl ?_
                  refine r_iload C dX6_check_125 2 rfl ?_
                  refine r_iadd C dX6_check_127 ?_
                  refine r_istore C dX6_check_128 (by decide) (fun z_ => [(4, iv z_), (3, iv m2), (6, iv is), (5, iv ow), (0, .ref (a 18)), (1, iv v), (2, iv td)]) (fun _ => rfl) (fun i2 ei2 => ?_)
                  refine r_goto (tgt := 33) C dX6_check_130 (by decide) ?_
                  refine r_sub [4, 5, 6, 1, 0] (L' := [(0, .ref (a 18)), (1, iv v), (2, iv td), (3, iv m2), (4, iv i2)]) rfl ?_
                  exact ih33 _ _ (by omega) (by first | exact absurd hr1 hr2 | exact absurd hr2 hr1 | (rw [if_neg (fun q => q.elim (fun q => by omega) (fun q => q hwt))] at hck; subst em2; subst ei2; by_cases hp : Pm ρ v i = 0; (have hsk := chkT_skip (P := Pm ρ v) (M := Mm ρ) (wt := ρ 26) (told := σ 18 2) (many := ρ 18 18) (m := m + 1) 100 (i + 1) (by omega) (by omega); have hlb9 := lenT_bd (P := Pm ρ v) (M := Mm ρ) (many := ρ 18 18) (j := i + 1) (by omega); have hoe : i + ow = i + 1 + lenT (Pm ρ v) (Mm ρ) (ρ 18 18) (i + 1) := (by omega); rw [hoe]; exact ⟨by omega, by omega, by omega, hsk.2, by rw [← hsk.1]; exact hck⟩); (have hoe : i + ow = i + 1 := (by omega); rw [hoe]; refine ⟨by omega, by omega, by omega, fun _ => ?_, hck⟩; by_cases h9 : Pm ρ v (i + 1) = 0; (refine Or.inr ⟨h9, Or.inr (Or.inl ?_)⟩; rw [show i + 1 - 1 = i by omega]; exact hp); exact Or.inl h9)))
                · skip
                  refine r_iconst C dX6_check_116 ?_
                  refine r_iload_n C dX6_check_117 5 rfl ?_
                  refine r_iadd C dX6_check_118 ?_
                  exact hret _ _ _ _ dX6_check_119 (by first | (refine Or.inr ⟨?_, ?_, ?_⟩ <;> first | omega | (rw [← hρ0]; assumption)) | exact absurd hr1 hr2 | exact absurd hr2 hr1 | (rw [hρ0] at hfr; refine Or.inl ⟨by omega, hfr, hro, ?_⟩; first | (rw [chkT_e (by omega)] at hck; first | (rw [if_pos (by omega)] at hck; omega) | (rw [if_neg (by omega)] at hck; omega)) | (rw [if_pos (by first | exact Or.inl (by omega) | exact Or.inr hwt)] at hck; omega)))
            · skip
              refine r_if_eq (tgt := 81) C dX6_check_72 (by decide) (by decide) (fun _ => ?_) (fun q => absurd q (by decide))
              have hri := hI.2.2 i (by omega) (by omega)
              have hpb := hM2.2.2.2.2.2.2.2.2.2.2.2.2.2.1 (40 * v + ρ 28 i)
              refine r_aload_n C dX6_check_81 1 rfl ?_
              refine gX6_38 C dX6_check_82 ?_
              refine r_bipush C dX6_check_85 (by decide) ?_
              refine r_iload_n C dX6_check_87 2 rfl ?_
              refine r_imul C dX6_check_88 ?_
              refine r_aload_n C dX6_check_89 1 rfl ?_
              refine gX6_50 C dX6_check_90 ?_
              refine r_iload C dX6_check_93 5 rfl ?_
              refine r_iald 40 C dX6_check_95 (by omega) (fun _ => rfl) (by omega) (by omega) (by decide) (fun g17 => ?_)
              refine r_iadd C dX6_check_96 ?_
              refine r_iald 240 C dX6_check_97 (by omega) (fun _ => rfl) (by omega) (by omega) (by decide) (fun g18 => ?_)
              refine r_istore C dX6_check_98 (by decide) (fun z_ => [(6, iv z_), (5, iv ow), (0, .ref (a 18)), (1, iv v), (2, iv td), (3, iv m), (4, iv i)]) (fun _ => rfl) (fun is eis => ?_)
              have his : is = if Pm ρ v i = 0 then -(1 + lenT (Pm ρ v) (Mm ρ) (ρ 18 18) (i + 1)) else Pm ρ v i := by first | exact absurd hr1 hr2 | exact absurd hr2 hr1 | (rw [if_pos hr1]; omega) | (rw [if_neg hr1]; exact eis)
              rw [chkT_s (show i < ρ 18 18 by omega), if_pos (hbgi (by omega)), ← his] at hck
              have hib : inR is := by omega
              refine r_iload_n C dX6_check_100 5 rfl ?_
              refine r_iload_n C dX6_check_101 4 rfl ?_
              refine r_icmp_ge (tgt := 116) C dX6_check_102 (by decide) (by omega) (by omega) (fun hmt => ?_) (fun hmt => ?_)
              · skip
                refine r_iconst C dX6_check_116 ?_
                refine r_iload_n C dX6_check_117 5 rfl ?_
                refine r_iadd C dX6_check_118 ?_
                exact hret _ _ _ _ dX6_check_119 (by first | (refine Or.inr ⟨?_, ?_, ?_⟩ <;> first | omega | (rw [← hρ0]; assumption)) | exact absurd hr1 hr2 | exact absurd hr2 hr1 | (rw [hρ0] at hfr; refine Or.inl ⟨by omega, hfr, hro, ?_⟩; first | (rw [chkT_e (by omega)] at hck; first | (rw [if_pos (by omega)] at hck; omega) | (rw [if_neg (by omega)] at hck; omega)) | (rw [if_pos (by first | exact Or.inl (by omega) | exact Or.inr hwt)] at hck; omega)))
              · skip
                refine r_aload_n C dX6_check_105 2 rfl ?_
                refine gX6_44 C dX6_check_106 ?_
                refine r_iload_n C dX6_check_109 5 rfl ?_
                refine r_iald 40 C dX6_check_110 (by omega) (fun _ => rfl) (by omega) (by omega) (by decide) (fun g21 => ?_)
                refine r_iload C dX6_check_111 0 rfl ?_
                refine r_icmp_eq (tgt := 120) C dX6_check_113 (by decide) (by omega) (by omega) (fun hwt => ?_) (fun hwt => ?_)
                · skip
                  refine r_iinc C dX6_check_120 (by decide) 5 rfl (fun z_ => [(3, iv z_), (6, iv is), (5, iv ow), (0, .ref (a 18)), (1, iv v), (2, iv td), (4, iv i)]) (fun _ => rfl) (fun m2 em2 => ?_)
                  refine r_iload C dX6_check_123 6 rfl ?_
                  refine r_iload C dX6_check_125 2 rfl ?_
                  refine r_iadd C dX6_check_127 ?_
                  refine r_istore C dX6_check_128 (by decide) (fun z_ => [(4, iv z_), (3, iv m2), (6, iv is), (5, iv ow), (0, .ref (a 18)), (1, iv v), (2, iv td)]) (fun _ => rfl) (fun i2 ei2 => ?_)
                  refine r_goto (tgt := 33) C dX6_check_130 (by decide) ?_
                  refine r_sub [4, 5, 6, 1, 0] (L' := [(0, .ref (a 18)), (1, iv v), (2, iv td), (3, iv m2), (4, iv i2)]) rfl ?_
                  exact ih33 _ _ (by omega) (by first | exact absurd hr1 hr2 | exact absurd hr2 hr1 | (rw [if_neg (fun q => q.elim (fun q => by omega) (fun q => q hwt))] at hck; subst em2; subst ei2; by_cases hp : Pm ρ v i = 0; (have hsk := chkT_skip (P := Pm ρ v) (M := Mm ρ) (wt := ρ 26) (told := σ 18 2) (many := ρ 18 18) (m := m + 1) 100 (i + 1) (by omega) (by omega); have hlb9 := lenT_bd (P := Pm ρ v) (M := Mm ρ) (many := ρ 18 18) (j := i + 1) (by omega); have hoe : i + ow = i + 1 + lenT (Pm ρ v) (Mm ρ) (ρ 18 18) (i + 1) := (by omega); rw [hoe]; exact ⟨by omega, by omega, by omega, hsk.2, by rw [← hsk.1]; exact hck⟩); (have hoe : i + ow = i + 1 := (by omega); rw [hoe]; refine ⟨by omega, by omega, by omega, fun _ => ?_, hck⟩; by_cases h9 : Pm ρ v (i + 1) = 0; (refine Or.inr ⟨h9, Or.inr (Or.inl ?_)⟩; rw [show i + 1 - 1 = i by omega]; exact hp); exact Or.inl h9)))
                · skip
                  refine r_iconst C dX6_check_116 ?_
                  refine r_iload_n C dX6_check_117 5 rfl ?_
                  refine r_iadd C dX6_check_118 ?_
                  exact hret _ _ _ _ dX6_check_119 (by first | (refine Or.inr ⟨?_, ?_, ?_⟩ <;> first | omega | (rw [← hρ0]; assumption)) | exact absurd hr1 hr2 | exact absurd hr2 hr1 | (rw [hρ0] at hfr; refine Or.inl ⟨by omega, hfr, hro, ?_⟩; first | (rw [chkT_e (by omega)] at hck; first | (rw [if_pos (by omega)] at hck; omega) | (rw [if_neg (by omega)] at hck; omega)) | (rw [if_pos (by first | exact Or.inl (by omega) | exact Or.inr hwt)] at hck; omega)))
          · skip
            refine r_if_eq (tgt := 62) C dX6_check_49 (by decide) (by decide) (fun _ => ?_) (fun q => absurd q (by decide))
            refine r_iconst C dX6_check_62 ?_
            refine r_istore C dX6_check_63 (by decide) (fun z_ => [(5, iv z_), (0, .ref (a 18)), (1, iv v), (2, iv td), (3, iv m), (4, iv i)]) (fun _ => rfl) (fun ow eow => ?_)
            refine r_aload_n C dX6_check_65 1 rfl ?_
            refine r_iload_n C dX6_check_66 2 rfl ?_
            refine r_iload C dX6_check_67 5 rfl ?_
            refine r_callB2 18 C dX6_check_69 lkX6_109 (m_X6_rests hI (by omega) (by omega)) ⟨rfl, rfl, Nat.le_of_ble_eq_true rfl, Nat.le_of_ble_eq_true rfl⟩ ⟨Nat.zero_le _, Nat.zero_le _⟩ rc18 (Nat.le_of_ble_eq_true rfl) (fun hr2 => ?_) (fun hr2 => ?_)
            · skip
              refine r_if_eq (tgt := 81) C dX6_check_72 (by decide) (by decide) (fun q => absurd q (by decide)) (fun _ => ?_)
              refine r_iload C dX6_check_75 0 rfl ?_
              refine r_ineg C dX6_check_77 ?_
              refine r_goto (tgt := 98) C dX6_check_78 (by decide) ?_
              refine r_istore C dX6_check_98 (by decide) (fun z_ => [(6, iv z_), (5, iv ow), (0, .ref (a 18)), (1, iv v), (2, iv td), (3, iv m), (4, iv i)]) (fun _ => rfl) (fun is eis => ?_)
              have his : is = if Pm ρ v i = 0 then -(1 + lenT (Pm ρ v) (Mm ρ) (ρ 18 18) (i + 1)) else Pm ρ v i := by first | exact absurd hr1 hr2 | exact absurd hr2 hr1 | (rw [if_pos hr1]; omega) | (rw [if_neg hr1]; exact eis)
              rw [chkT_s (show i < ρ 18 18 by omega), if_pos (hbgi (by omega)), ← his] at hck
              have hib : inR is := by omega
              refine r_iload_n C dX6_check_100 5 rfl ?_
              refine r_iload_n C dX6_check_101 4 rfl ?_
              refine r_icmp_ge (tgt := 116) C dX6_check_102 (by decide) (by omega) (by omega) (fun hmt => ?_) (fun hmt => ?_)
              · skip
                refine r_iconst C dX6_check_116 ?_
                refine r_iload_n C dX6_check_117 5 rfl ?_
                refine r_iadd C dX6_check_118 ?_
                exact hret _ _ _ _ dX6_check_119 (by first | (refine Or.inr ⟨?_, ?_, ?_⟩ <;> first | omega | (rw [← hρ0]; assumption)) | exact absurd hr1 hr2 | exact absurd hr2 hr1 | (rw [hρ0] at hfr; refine Or.inl ⟨by omega, hfr, hro, ?_⟩; first | (rw [chkT_e (by omega)] at hck; first | (rw [if_pos (by omega)] at hck; omega) | (rw [if_neg (by omega)] at hck; omega)) | (rw [if_pos (by first | exact Or.inl (by omega) | exact Or.inr hwt)] at hck; omega)))
              · skip
                refine r_aload_n C dX6_check_105 2 rfl ?_
                refine gX6_44 C dX6_check_106 ?_
                refine r_iload_n C dX6_check_109 5 rfl ?_
                refine r_iald 40 C dX6_check_110 (by omega) (fun _ => rfl) (by omega) (by omega) (by decide) (fun g27 => ?_)
                refine r_iload C dX6_check_111 0 rfl ?_
                refine r_icmp_eq (tgt := 120) C dX6_check_113 (by decide) (by omega) (by omega) (fun hwt => ?_) (fun hwt => ?_)
                · skip
                  refine r_iinc C dX6_check_120 (by decide) 5 rfl (fun z_ => [(3, iv z_), (6, iv is), (5, iv ow), (0, .ref (a 18)), (1, iv v), (2, iv td), (4, iv i)]) (fun _ => rfl) (fun m2 em2 => ?_)
                  refine r_iload C dX6_check_123 6 rfl ?_
                  refine r_iload C dX6_check_125 2 rfl ?_
                  refine r_iadd C dX6_check_127 ?_
                  refine r_istore C dX6_check_128 (by decide) (fun z_ => [(4, iv z_), (3, iv m2), (6, iv is), (5, iv ow), (0, .ref (a 18)), (1, iv v), (2, iv td)]) (fun _ => rfl) (fun i2 ei2 => ?_)
                  refine r_goto (tgt := 33) C dX6_check_130 (by decide) ?_
                  refine r_sub [4, 5, 6, 1, 0] (L' := [(0, .ref (a 18)), (1, iv v), (2, iv td), (3, iv m2), (4, iv i2)]) rfl ?_
                  exact ih33 _ _ (by omega) (by first | exact absurd hr1 hr2 | exact absurd hr2 hr1 | (rw [if_neg (fun q => q.elim (fun q => by omega) (fun q => q hwt))] at hck; subst em2; subst ei2; by_cases hp : Pm ρ v i = 0; (have hsk := chkT_skip (P := Pm ρ v) (M := Mm ρ) (wt := ρ 26) (told := σ 18 2) (many := ρ 18 18) (m := m + 1) 100 (i + 1) (by omega) (by omega); have hlb9 := lenT_bd (P := Pm ρ v) (M := Mm ρ) (many := ρ 18 18) (j := i + 1) (by omega); have hoe : i + ow = i + 1 + lenT (Pm ρ v) (Mm ρ) (ρ 18 18) (i + 1) := (by omega); rw [hoe]; exact ⟨by omega, by omega, by omega, hsk.2, by rw [← hsk.1]; exact hck⟩); (have hoe : i + ow = i + 1 := (by omega); rw [hoe]; refine ⟨by omega, by omega, by omega, fun _ => ?_, hck⟩; by_cases h9 : Pm ρ v (i + 1) = 0; (refine Or.inr ⟨h9, Or.inr (Or.inl ?_)⟩; rw [show i + 1 - 1 = i by omega]; exact hp); exact Or.inl h9)))
                · skip
                  refine r_iconst C dX6_check_116 ?_
                  refine r_iload_n C dX6_check_117 5 rfl ?_
                  refine r_iadd C dX6_check_118 ?_
                  exact hret _ _ _ _ dX6_check_119 (by first | (refine Or.inr ⟨?_, ?_, ?_⟩ <;> first | omega | (rw [← hρ0]; assumption)) | exact absurd hr1 hr2 | exact absurd hr2 hr1 | (rw [hρ0] at hfr; refine Or.inl ⟨by omega, hfr, hro, ?_⟩; first | (rw [chkT_e (by omega)] at hck; first | (rw [if_pos (by omega)] at hck; omega) | (rw [if_neg (by omega)] at hck; omega)) | (rw [if_pos (by first | exact Or.inl (by omega) | exact Or.inr hwt)] at hck; omega)))
            · skip
              refine r_if_eq (tgt := 81) C dX6_check_72 (by decide) (by decide) (fun _ => ?_) (fun q => absurd q (by decide))
              have hri := hI.2.2 i (by omega) (by omega)
              have hpb := hM2.2.2.2.2.2.2.2.2.2.2.2.2.2.1 (40 * v + ρ 28 i)
              refine r_aload_n C dX6_check_81 1 rfl ?_
              refine gX6_38 C dX6_check_82 ?_
              refine r_bipush C dX6_check_85 (by decide) ?_
              refine r_iload_n C dX6_check_87 2 rfl ?_
              refine r_imul C dX6_check_88 ?_
              refine r_aload_n C dX6_check_89 1 rfl ?_
              refine gX6_50 C dX6_check_90 ?_
              refine r_iload C dX6_check_93 5 rfl ?_
              refine r_iald 40 C dX6_check_95 (by omega) (fun _ => rfl) (by omega) (by omega) (by decide) (fun g32 => ?_)
              refine r_iadd C dX6_check_96 ?_
              refine r_iald 240 C dX6_check_97 (by omega) (fun _ => rfl) (by omega) (by omega) (by decide) (fun g33 => ?_)
              refine r_istore C dX6_check_98 (by decide) (fun z_ => [(6, iv z_), (5, iv ow), (0, .ref (a 18)), (1, iv v), (2, iv td), (3, iv m), (4, iv i)]) (fun _ => rfl) (fun is eis => ?_)
              have his : is = if Pm ρ v i = 0 then -(1 + lenT (Pm ρ v) (Mm ρ) (ρ 18 18) (i + 1)) else Pm ρ v i := by first | exact absurd hr1 hr2 | exact absurd hr2 hr1 | (rw [if_pos hr1]; omega) | (rw [if_neg hr1]; exact eis)
              rw [chkT_s (show i < ρ 18 18 by omega), if_pos (hbgi (by omega)), ← his] at hck
              have hib : inR is := by omega
              refine r_iload_n C dX6_check_100 5 rfl ?_
              refine r_iload_n C dX6_check_101 4 rfl ?_
              refine r_icmp_ge (tgt := 116) C dX6_check_102 (by decide) (by omega) (by omega) (fun hmt => ?_) (fun hmt => ?_)
              · skip
                refine r_iconst C dX6_check_116 ?_
                refine r_iload_n C dX6_check_117 5 rfl ?_
                refine r_iadd C dX6_check_118 ?_
                exact hret _ _ _ _ dX6_check_119 (by first | (refine Or.inr ⟨?_, ?_, ?_⟩ <;> first | omega | (rw [← hρ0]; assumption)) | exact absurd hr1 hr2 | exact absurd hr2 hr1 | (rw [hρ0] at hfr; refine Or.inl ⟨by omega, hfr, hro, ?_⟩; first | (rw [chkT_e (by omega)] at hck; first | (rw [if_pos (by omega)] at hck; omega) | (rw [if_neg (by omega)] at hck; omega)) | (rw [if_pos (by first | exact Or.inl (by omega) | exact Or.inr hwt)] at hck; omega)))
              · skip
                refine r_aload_n C dX6_check_105 2 rfl ?_
                refine gX6_44 C dX6_check_106 ?_
                refine r_iload_n C dX6_check_109 5 rfl ?_
                refine r_iald 40 C dX6_check_110 (by omega) (fun _ => rfl) (by omega) (by omega) (by decide) (fun g36 => ?_)
                refine r_iload C dX6_check_111 0 rfl ?_
                refine r_icmp_eq (tgt := 120) C dX6_check_113 (by decide) (by omega) (by omega) (fun hwt => ?_) (fun hwt => ?_)
                · skip
                  refine r_iinc C dX6_check_120 (by decide) 5 rfl (fun z_ => [(3, iv z_), (6, iv is), (5, iv ow), (0, .ref (a 18)), (1, iv v), (2, iv td), (4, iv i)]) (fun _ => rfl) (fun m2 em2 => ?_)
                  refine r_iload C dX6_check_123 6 rfl ?_
                  refine r_iload C dX6_check_125 2 rfl ?_
                  refine r_iadd C dX6_check_127 ?_
                  refine r_istore C dX6_check_128 (by decide) (fun z_ => [(4, iv z_), (3, iv m2), (6, iv is), (5, iv ow), (0, .ref (a 18)), (1, iv v), (2, iv td)]) (fun _ => rfl) (fun i2 ei2 => ?_)
                  refine r_goto (tgt := 33) C dX6_check_130 (by decide) ?_
                  refine r_sub [4, 5, 6, 1, 0] (L' := [(0, .ref (a 18)), (1, iv v), (2, iv td), (3, iv m2), (4, iv i2)]) rfl ?_
                  exact ih33 _ _ (by omega) (by first | exact absurd hr1 hr2 | exact absurd hr2 hr1 | (rw [if_neg (fun q => q.elim (fun q => by omega) (fun q => q hwt))] at hck; subst em2; subst ei2; by_cases hp : Pm ρ v i = 0; (have hsk := chkT_skip (P := Pm ρ v) (M := Mm ρ) (wt := ρ 26) (told := σ 18 2) (many := ρ 18 18) (m := m + 1) 100 (i + 1) (by omega) (by omega); have hlb9 := lenT_bd (P := Pm ρ v) (M := Mm ρ) (many := ρ 18 18) (j := i + 1) (by omega); have hoe : i + ow = i + 1 + lenT (Pm ρ v) (Mm ρ) (ρ 18 18) (i + 1) := (by omega); rw [hoe]; exact ⟨by omega, by omega, by omega, hsk.2, by rw [← hsk.1]; exact hck⟩); (have hoe : i + ow = i + 1 := (by omega); rw [hoe]; refine ⟨by omega, by omega, by omega, fun _ => ?_, hck⟩; by_cases h9 : Pm ρ v (i + 1) = 0; (refine Or.inr ⟨h9, Or.inr (Or.inl ?_)⟩; rw [show i + 1 - 1 = i by omega]; exact hp); exact Or.inl h9)))
                · skip
                  refine r_iconst C dX6_check_116 ?_
                  refine r_iload_n C dX6_check_117 5 rfl ?_
                  refine r_iadd C dX6_check_118 ?_
                  exact hret _ _ _ _ dX6_check_119 (by first | (refine Or.inr ⟨?_, ?_, ?_⟩ <;> first | omega | (rw [← hρ0]; assumption)) | exact absurd hr1 hr2 | exact absurd hr2 hr1 | (rw [hρ0] at hfr; refine Or.inl ⟨by omega, hfr, hro, ?_⟩; first | (rw [chkT_e (by omega)] at hck; first | (rw [if_pos (by omega)] at hck; omega) | (rw [if_neg (by omega)] at hck; omega)) | (rw [if_pos (by first | exact Or.inl (by omega) | exact Or.inr hwt)] at hck; omega)))
    refine r_sub [3, 4, 2, 1, 0] (L' := [(0, .ref (a 18)), (1, iv v), (2, iv td), (3, iv m0), (4, iv i0)]) rfl ?_
    exact lp33 ((ρ 18 18 : Int).toNat + 1) _ _ (by omega) (by subst em0; subst ei0; refine ⟨by omega, by omega, by omega, fun _ => ?_, rfl⟩; by_cases h9 : Pm ρ v 0 = 0; exact Or.inr ⟨h9, Or.inl rfl⟩; exact Or.inl h9)
  · skip
    refine r_if_ne (tgt := 24) C dX6_check_15 (by decide) (by decide) (fun q => absurd q (by decide)) (fun _ => ?_)
    refine r_aload_n C dX6_check_18 1 rfl ?_
    refine r_iconst C dX6_check_19 ?_
    refine r_callI1 18 C dX6_check_20 lkX6_92 (m_X6_finds (by omega) (MS.F (by assumption) _)) ⟨rfl, rfl, Nat.le_of_ble_eq_true rfl, Nat.le_of_ble_eq_true rfl⟩ ⟨Nat.zero_le _, Nat.zero_le _⟩ rc18 (Nat.le_of_ble_eq_true rfl) (fun r39 s40 hr39 => ?_)
    obtain ⟨er39, hr39⟩ := hr39
    exact hret _ _ _ _ dX6_check_23 (by first | (refine Or.inr ⟨?_, ?_, ?_⟩ <;> first | omega | (rw [← hρ0]; assumption)) | exact absurd hr1 hr2 | exact absurd hr2 hr1 | (rw [hρ0] at hfr; refine Or.inl ⟨by omega, hfr, hro, ?_⟩; first | (rw [chkT_e (by omega)] at hck; first | (rw [if_pos (by omega)] at hck; omega) | (rw [if_neg (by omega)] at hck; omega)) | (rw [if_pos (by first | exact Or.inl (by omega) | exact Or.inr hwt)] at hck; omega)))
