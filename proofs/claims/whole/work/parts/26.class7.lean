/-- what keepLaid() leaves -/
def KpC (σ τ : ST) (i : Nat) : Prop := (∀ c, c ≠ 39 + 5 * i → c ≠ 42 + 5 * i → c ≠ 43 + 5 * i → τ c = σ c) ∧ (∀ k, k ≠ 7 → τ (39 + 5 * i) k = σ (39 + 5 * i) k) ∧ τ (39 + 5 * i) 7 = σ 15 0 ∧ (∀ k, 0 ≤ k → k < σ 15 0 → τ (42 + 5 * i) k = σ 9 (walkF (Zc σ) (σ 2 3) k.toNat)) ∧ ∀ b, 0 ≤ b → b < 40 → τ (43 + 5 * i) b = mkC σ i b
theorem mkC_bd {σ : ST} {n i : Nat} (hC : CS σ n) (hi : i < n) (b : Int) : -1 ≤ mkC σ i b ∧ mkC σ i b ≤ 1063 := by
  have h := hC.2.2.2.2.2.2.2.2.2.2.2 i hi
  have h1 := h.2.2.2.2.1 b
  have h2 := h.2.2.2.2.2 b
  unfold mkC
  split <;> omega
theorem mkC_eq {σ τ : ST} {i : Nat} (h : ∀ c, c ≠ 39 + 5 * i → c ≠ 42 + 5 * i → c ≠ 43 + 5 * i → τ c = σ c) (b : Int) : mkC τ i b = mkC σ i b := by
  unfold mkC
  rw [h 1 (by omega) (by omega) (by omega), h 7 (by omega) (by omega) (by omega), h (40 + 5 * i) (by omega) (by omega) (by omega), h (41 + 5 * i) (by omega) (by omega) (by omega)]
set_option maxHeartbeats 4000000 in
set_option maxRecDepth 100000 in
theorem m_X4_keepLaid {a : Nat → Nat} {n : Nat} {σ : ST} {i : Nat} (hi : i < n) (hC : CS σ n) (hI : PIn σ) (hz : ∀ i, 0 ≤ i → i < σ 2 3 → 1 ≤ Zc σ i ∧ i + Zc σ i ≤ σ 2 3) (hkk : WkIn σ) : MV yX4_keepLaid cX4_keepLaid 4 (RM 3 64) a n σ [.ref (a (39 + 5 * i)), .ref (a 1), .ref (a 3)] (fun σ1 => KpC σ σ1 i) := by
  refine MV.of (own := RX4) (by decide +kernel) rfl (Nat.le_of_ble_eq_true rfl) ?_
  intro κ C hret
  show J κ 0 0 a n σ [(0, .ref (a (39 + 5 * i))), (1, .ref (a 1)), (2, .ref (a 3))] 0 []
  obtain ⟨hsz, hpin⟩ := id hI
  have hb := hC.1
  have hk := hC.2.2.2.2.2.2.2.2.2.2.1
  obtain ⟨hpc, -, hwl⟩ := id hkk
  refine r_aload_n C dX4_keepLaid_0 0 rfl ?_
  refine r_aload_n C dX4_keepLaid_1 2 rfl ?_
  refine r_callP0 3 C dX4_keepLaid_2 lkX4_47 m_X0_pageCount ⟨rfl, rfl, Nat.le_of_ble_eq_true rfl, Nat.le_of_ble_eq_true rfl⟩ ⟨Nat.zero_le _, Nat.zero_le _⟩ rc3 (Nat.le_of_ble_eq_true rfl) (fun pc2 hpc2 => ?_)
  obtain ⟨hpc2, hpc3⟩ := hpc2
  refine pX4_35 i hi C dX4_keepLaid_5 (by omega) ?_
  refine r_iconst C dX4_keepLaid_8 ?_
  refine r_istore_n C dX4_keepLaid_9 (by decide) (fun z_ => [(3, iv z_), (0, .ref (a (39 + 5 * i))), (1, .ref (a 1)), (2, .ref (a 3))]) (fun _ => rfl) (fun k0 ek0 => ?_)
  have lp10 : ∀ (N : Nat) (k : Int) (τ : ST), (σ 15 0 - k : Int) < N → (0 ≤ k ∧ k ≤ σ 15 0 ∧ (∀ c, c ≠ 39 + 5 * i → c ≠ 42 + 5 * i → c ≠ 43 + 5 * i → τ c = σ c) ∧ (∀ j, j ≠ 7 → τ (39 + 5 * i) j = σ (39 + 5 * i) j) ∧ τ (39 + 5 * i) 7 = σ 15 0 ∧ ∀ j, 0 ≤ j → j < k → τ (42 + 5 * i) j = σ 9 (walkF (Zc σ) (σ 2 3) j.toNat)) → J κ 0 0 a n τ [(0, .ref (a (39 + 5 * i))), (1, .ref (a 1)), (2, .ref (a 3)), (3, iv k)] 10 [] := by
    intro N
    induction N with
    | zero =>
      intro k τ hm10 hi10
      exact absurd hm10 (by omega)
    | succ N ih10 =>
      intro k τ hm10 hi10
      obtain ⟨hk0, hk1, hfr, hv1, hv2, hq⟩ := hi10
      have e2 := hfr 2 (by omega) (by omega) (by omega)
      have e23 : τ 2 3 = σ 2 3 := by rw [e2]
      have e9 := hfr 9 (by omega) (by omega) (by omega)
      have e16 := hfr 16 (by omega) (by omega) (by omega)
      have eZ : Zc τ = Zc σ := by
        funext j
        unfold Zc
        rw [e16]
      have hIt : PIn τ := by
        unfold PIn
        rw [e2, e9, hfr 10 (by omega) (by omega) (by omega), hfr 7 (by omega) (by omega) (by omega)]
        exact hI
      have hzt : ∀ i, 0 ≤ i → i < τ 2 3 → 1 ≤ Zc τ i ∧ i + Zc τ i ≤ τ 2 3 := by
        rw [eZ, e23]
        exact hz
      have hkkt : WkIn τ := by
        unfold WkIn
        rw [eZ, e23, hfr 15 (by omega) (by omega) (by omega)]
        exact hkk
      refine r_iload_n C dX4_keepLaid_10 3 rfl ?_
      refine r_aload_n C dX4_keepLaid_11 0 rfl ?_
      refine gX4_35 i hi C dX4_keepLaid_12 (fun g1 => ?_)
      refine r_icmp_ge (tgt := 35) C dX4_keepLaid_15 (by decide) (by omega) (by omega) (fun h2 => ?_) (fun h2 => ?_)
      · skip
        refine r_iconst C dX4_keepLaid_35 ?_
        refine r_istore_n C dX4_keepLaid_36 (by decide) (fun z_ => [(3, iv z_), (0, .ref (a (39 + 5 * i))), (1, .ref (a 1)), (2, .ref (a 3))]) (fun _ => rfl) (fun b0 eb0 => ?_)
        have lp37 : ∀ (N : Nat) (b : Int) (τ2 : ST), (40 - b : Int) < N → (0 ≤ b ∧ b ≤ 40 ∧ (∀ c, c ≠ 39 + 5 * i → c ≠ 42 + 5 * i → c ≠ 43 + 5 * i → τ2 c = σ c) ∧ (∀ j, j ≠ 7 → τ2 (39 + 5 * i) j = σ (39 + 5 * i) j) ∧ τ2 (39 + 5 * i) 7 = σ 15 0 ∧ (∀ j, 0 ≤ j → j < σ 15 0 → τ2 (42 + 5 * i) j = σ 9 (walkF (Zc σ) (σ 2 3) j.toNat)) ∧ ∀ j, 0 ≤ j → j < b → τ2 (43 + 5 * i) j = mkC σ i j) → J κ 0 0 a n τ2 [(0, .ref (a (39 + 5 * i))), (1, .ref (a 1)), (2, .ref (a 3)), (3, iv b)] 37 [] := by
          intro N
          induction N with
          | zero =>
            intro b τ2 hm37 hi37
            exact absurd hm37 (by omega)
          | succ N ih37 =>
            intro b τ2 hm37 hi37
            obtain ⟨hb0, hb1, hfr2, hw1, hw2, hw3, hw4⟩ := hi37
            have e1 := hfr2 1 (by omega) (by omega) (by omega)
            have e13 : τ2 1 3 = σ 1 3 := by rw [e1]
            have hkt : ∀ j, 0 ≤ τ2 7 j ∧ τ2 7 j ≤ 7 := by rw [hfr2 7 (by omega) (by omega) (by omega)]; exact hk
            refine r_iload_n C dX4_keepLaid_37 3 rfl ?_
            refine r_bipush C dX4_keepLaid_38 (by decide) ?_
            refine r_icmp_ge (tgt := 61) C dX4_keepLaid_40 (by decide) (by omega) (by omega) (fun h3 => ?_) (fun h3 => ?_)
            · skip
              exact hret _ _ _ dX4_keepLaid_61 (⟨hfr2, hw1, hw2, hw3, fun j h1 h2 => hw4 j h1 (by omega)⟩)
            · skip
              refine r_aload_n C dX4_keepLaid_43 0 rfl ?_
              refine gX4_32 i hi C dX4_keepLaid_44 ?_
              refine r_iload_n C dX4_keepLaid_47 3 rfl ?_
              refine r_aload_n C dX4_keepLaid_48 0 rfl ?_
              refine r_aload_n C dX4_keepLaid_49 1 rfl ?_
              refine r_iload_n C dX4_keepLaid_50 3 rfl ?_
              refine r_callP2 (39 + 5 * i) C dX4_keepLaid_51 lkX4_57 (m_X4_markOf hi (by omega) hkt (by omega)) ⟨rfl, rfl, Nat.le_of_ble_eq_true rfl, Nat.le_of_ble_eq_true rfl⟩ ⟨Nat.zero_le _, Nat.zero_le _⟩ (rcV hi) (Nat.le_of_ble_eq_true rfl) (fun mo hmo => ?_)
              rw [mkC_eq hfr2] at hmo
              have hmb := mkC_bd hC hi b
              refine r_iast 40 C dX4_keepLaid_54 (by omega) (fun _ _ => cF_vk _ (by omega) (by omega)) (by omega) (by omega) (by decide) (by omega) ?_
              refine r_iinc C dX4_keepLaid_55 (by decide) 3 rfl (fun z_ => [(3, iv z_), (0, .ref (a (39 + 5 * i))), (1, .ref (a 1)), (2, .ref (a 3))]) (fun _ => rfl) (fun b2 eb2 => ?_)
              refine r_goto (tgt := 37) C dX4_keepLaid_58 (by decide) ?_
              refine r_sub [1, 2, 3, 0] (L' := [(0, .ref (a (39 + 5 * i))), (1, .ref (a 1)), (2, .ref (a 3)), (3, iv b2)]) rfl ?_
              exact ih37 _ _ (by omega) (by subst eb2; refine ⟨by omega, by omega, fun c c1 c2 c3 => by rw [up2_ne c3]; exact hfr2 c c1 c2 c3, fun j hj => by rw [up2_ne (by omega)]; exact hw1 j hj, by rw [up2_ne (by omega)]; exact hw2, fun j h1 h2 => by rw [up2_ne (by omega)]; exact hw3 j h1 h2, fun j h1 h2 => ?_⟩; by_cases hj : j = b; (subst hj; rw [up2_self]; exact hmo); (rw [up2_at hj]; exact hw4 j h1 (by omega)))
        refine r_sub [1, 2, 3, 0] (L' := [(0, .ref (a (39 + 5 * i))), (1, .ref (a 1)), (2, .ref (a 3)), (3, iv b0)]) rfl ?_
        exact lp37 ((40 : Int).toNat + 1) _ _ (by omega) (by subst eb0; exact ⟨by omega, by omega, hfr, hv1, hv2, fun j h1 h2 => hq j h1 (by omega), fun j h1 h2 => by omega⟩)
      · skip
        refine r_aload_n C dX4_keepLaid_18 0 rfl ?_
        refine gX4_29 i hi C dX4_keepLaid_19 ?_
        refine r_iload_n C dX4_keepLaid_22 3 rfl ?_
        refine r_aload_n C dX4_keepLaid_23 2 rfl ?_
        refine r_iload_n C dX4_keepLaid_24 3 rfl ?_
        refine r_callP1 3 C dX4_keepLaid_25 lkX4_53 (m_X0_firstBar hIt hzt hkkt (by omega)) ⟨rfl, rfl, Nat.le_of_ble_eq_true rfl, Nat.le_of_ble_eq_true rfl⟩ ⟨Nat.zero_le _, Nat.zero_le _⟩ rc3 (Nat.le_of_ble_eq_true rfl) (fun fb hfb => ?_)
        rw [eZ, e23, e9] at hfb
        have hwk := hwl k.toNat (by omega)
        have hwm := walk_mono hz hsz.1 k.toNat
        have hrow := hpin (walkF (Zc σ) (σ 2 3) k.toNat) hwm.1 hwk
        refine r_iast 40 C dX4_keepLaid_28 (by omega) (fun _ _ => cF_vk _ (by omega) (by omega)) (by omega) (by omega) (by decide) (by omega) ?_
        refine r_iinc C dX4_keepLaid_29 (by decide) 3 rfl (fun z_ => [(3, iv z_), (0, .ref (a (39 + 5 * i))), (1, .ref (a 1)), (2, .ref (a 3))]) (fun _ => rfl) (fun k2 ek2 => ?_)
        refine r_goto (tgt := 10) C dX4_keepLaid_32 (by decide) ?_
        refine r_sub [1, 2, 3, 0] (L' := [(0, .ref (a (39 + 5 * i))), (1, .ref (a 1)), (2, .ref (a 3)), (3, iv k2)]) rfl ?_
        exact ih10 _ _ (by omega) (by subst ek2; refine ⟨by omega, by omega, fun c c1 c2 c3 => by rw [up2_ne c2]; exact hfr c c1 c2 c3, fun j hj => by rw [up2_ne (by omega)]; exact hv1 j hj, by rw [up2_ne (by omega)]; exact hv2, fun j h1 h2 => ?_⟩; by_cases hj : j = k; (subst hj; rw [up2_self]; omega); (rw [up2_at hj]; exact hq j h1 (by omega)))
  refine r_sub [1, 2, 3, 0] (L' := [(0, .ref (a (39 + 5 * i))), (1, .ref (a 1)), (2, .ref (a 3)), (3, iv k0)]) rfl ?_
  exact lp10 ((σ 15 0 : Int).toNat + 1) _ _ (by omega) (by subst hpc2; rw [ek0]; exact ⟨by omega, by omega, fun c c1 _ _ => up2_ne c1, fun j hj => up2_at hj, up2_self, fun j h1 h2 => by omega⟩)

/-- stalePages(): how many, the page, the last stale one, when bars ahead of b are done -/
def stpF (F lm nw : Int → Int) (lp : Int) : Nat → Int × Int × Int
  | 0 => (0, 0, -1)
  | b + 1 => let q := stpF F lm nw lp b
             let pg := if q.2.1 + 1 < lp ∧ F (q.2.1 + 1) = b then q.2.1 + 1 else q.2.1
             if ¬ q.2.2 = pg ∧ ¬ lm b = nw b then (q.1 + 1, pg, pg) else (q.1, pg, q.2.2)
theorem stpF_s {F lm nw : Int → Int} {lp b st pg la pg2 : Int} (h : (st, pg, la) = stpF F lm nw lp b.toNat) (h0 : 0 ≤ b) (hp : (pg + 1 < lp ∧ F (pg + 1) = b ∧ pg2 = pg + 1) ∨ (¬ (pg + 1 < lp ∧ F (pg + 1) = b) ∧ pg2 = pg)) : stpF F lm nw lp (b + 1).toNat = if ¬ la = pg2 ∧ ¬ lm b = nw b then (st + 1, pg2, pg2) else (st, pg2, la) := by
  have e1 : (b + 1).toNat = b.toNat + 1 := by omega
  have e2 : ((b.toNat : Nat) : Int) = b := by omega
  rw [e1]
  unfold stpF
  simp only
  rw [← h, e2]
  simp only
  have e3 : (if pg + 1 < lp ∧ F (pg + 1) = b then pg + 1 else pg) = pg2 := by
    rcases hp with ⟨h1, h2, h3⟩ | ⟨h1, h2⟩
    · rw [if_pos ⟨h1, h2⟩, h3]
    · rw [if_neg h1, h2]
  rw [e3]
set_option maxHeartbeats 4000000 in
set_option maxRecDepth 100000 in
theorem m_X4_stalePages {a : Nat → Nat} {n : Nat} {σ : ST} {i : Nat} (hi : i < n) (hC : CS σ n) : MP yX4_stalePages cX4_stalePages 6 .int (RM 3 64) a n σ [.ref (a (39 + 5 * i)), .ref (a 1)] (fun r => r = (stpF (σ (42 + 5 * i)) (σ (43 + 5 * i)) (mkC σ i) (σ (39 + 5 * i) 7) 40).1 ∧ 0 ≤ r ∧ r ≤ 40) := by
  refine MI.of (own := RX4) (by decide +kernel) rfl (Nat.le_of_ble_eq_true rfl) ?_
  intro κ C hret
  show J κ 0 0 a n σ [(0, .ref (a (39 + 5 * i))), (1, .ref (a 1))] 0 []
  have hb := hC.1
  have hk := hC.2.2.2.2.2.2.2.2.2.2.1
  have hvi := hC.2.2.2.2.2.2.2.2.2.2.2 i hi
  refine r_iconst C dX4_stalePages_0 ?_
  refine r_istore_n C dX4_stalePages_1 (by decide) (fun z_ => [(2, iv z_), (0, .ref (a (39 + 5 * i))), (1, .ref (a 1))]) (fun _ => rfl) (fun s0 es0 => ?_)
  refine r_iconst C dX4_stalePages_2 ?_
  refine r_istore_n C dX4_stalePages_3 (by decide) (fun z_ => [(3, iv z_), (2, iv s0), (0, .ref (a (39 + 5 * i))), (1, .ref (a 1))]) (fun _ => rfl) (fun p0 ep0 => ?_)
  refine r_iconst C dX4_stalePages_4 ?_
  refine r_istore C dX4_stalePages_5 (by decide) (fun z_ => [(4, iv z_), (3, iv p0), (2, iv s0), (0, .ref (a (39 + 5 * i))), (1, .ref (a 1))]) (fun _ => rfl) (fun l0 el0 => ?_)
  refine r_iconst C dX4_stalePages_7 ?_
  refine r_istore C dX4_stalePages_8 (by decide) (fun z_ => [(5, iv z_), (4, iv l0), (3, iv p0), (2, iv s0), (0, .ref (a (39 + 5 * i))), (1, .ref (a 1))]) (fun _ => rfl) (fun b0 eb0 => ?_)
  have lp10 : ∀ (N : Nat) (st : Int) (pg : Int) (la : Int) (b : Int), (40 - b : Int) < N → (0 ≤ b ∧ b ≤ 40 ∧ (0 ≤ st ∧ st ≤ b) ∧ (0 ≤ pg ∧ pg ≤ b) ∧ (-1 ≤ la ∧ la ≤ 40) ∧ (st, pg, la) = stpF (σ (42 + 5 * i)) (σ (43 + 5 * i)) (mkC σ i) (σ (39 + 5 * i) 7) b.toNat) → J κ 0 0 a n σ [(0, .ref (a (39 + 5 * i))), (1, .ref (a 1)), (2, iv st), (3, iv pg), (4, iv la), (5, iv b)] 10 [] := by
    intro N
    induction N with
    | zero =>
      intro st pg la b hm10 hi10
      exact absurd hm10 (by omega)
    | succ N ih10 =>
      intro st pg la b hm10 hi10
      obtain ⟨hb0, hb1, hs0, hp0, hl0, hst⟩ := hi10
      refine r_iload C dX4_stalePages_10 5 rfl ?_
      refine r_bipush C dX4_stalePages_12 (by decide) ?_
      refine r_icmp_ge (tgt := 78) C dX4_stalePages_14 (by decide) (by omega) (by omega) (fun h1 => ?_) (fun h1 => ?_)
      · skip
        refine r_iload_n C dX4_stalePages_78 2 rfl ?_
        exact hret _ _ _ _ dX4_stalePages_79 ⟨rfl, by have hbe : b = 40 := (by omega); subst hbe; rw [show (40 : Int).toNat = 40 from rfl] at hst; rw [← hst]; exact ⟨rfl, by omega, by omega⟩⟩
      · skip
        refine r_iload_n C dX4_stalePages_17 3 rfl ?_
        refine r_iconst C dX4_stalePages_18 ?_
        refine r_iadd C dX4_stalePages_19 ?_
        refine r_aload_n C dX4_stalePages_20 0 rfl ?_
        refine gX4_35 i hi C dX4_stalePages_21 (fun g2 => ?_)
        refine r_icmp_ge (tgt := 43) C dX4_stalePages_24 (by decide) (by omega) (by omega) (fun hlp => ?_) (fun hlp => ?_)
        · skip
          refine r_iload C dX4_stalePages_43 4 rfl ?_
          refine r_iload_n C dX4_stalePages_45 3 rfl ?_
          refine r_icmp_eq (tgt := 72) C dX4_stalePages_46 (by decide) (by omega) (by omega) (fun hla => ?_) (fun hla => ?_)
          · skip
            refine r_iinc C dX4_stalePages_72 (by decide) 5 rfl (fun z_ => [(5, iv z_), (0, .ref (a (39 + 5 * i))), (1, .ref (a 1)), (2, iv st), (3, iv pg), (4, iv la)]) (fun _ => rfl) (fun b2 eb2 => ?_)
            refine r_goto (tgt := 10) C dX4_stalePages_75 (by decide) ?_
            refine r_sub [1, 2, 3, 4, 5, 0] (L' := [(0, .ref (a (39 + 5 * i))), (1, .ref (a 1)), (2, iv st), (3, iv pg), (4, iv la), (5, iv b2)]) rfl ?_
            exact ih10 _ _ _ _ (by omega) (by subst eb2; first | (have hS := stpF_s (pg2 := p2) hst hb0 (Or.inl ⟨by omega, by omega, by omega⟩); refine ⟨by omega, by omega, by omega, by omega, by omega, ?_⟩; rw [hS]; first | (rw [if_neg (show ¬ (¬ la = p2 ∧ ¬ σ (43 + 5 * i) b = mkC σ i b) by omega)]) | (rw [if_pos (show (¬ la = p2 ∧ ¬ σ (43 + 5 * i) b = mkC σ i b) by omega), el2, es2])) | (have hS := stpF_s (pg2 := pg) hst hb0 (Or.inr ⟨by omega, rfl⟩); refine ⟨by omega, by omega, by omega, by omega, by omega, ?_⟩; rw [hS]; first | (rw [if_neg (show ¬ (¬ la = pg ∧ ¬ σ (43 + 5 * i) b = mkC σ i b) by omega)]) | (rw [if_pos (show (¬ la = pg ∧ ¬ σ (43 + 5 * i) b = mkC σ i b) by omega), el2, es2])))
          · skip
            refine r_aload_n C dX4_stalePages_49 0 rfl ?_
            refine gX4_32 i hi C dX4_stalePages_50 ?_
            refine r_iload C dX4_stalePages_53 5 rfl ?_
            refine r_iald 40 C dX4_stalePages_55 (by omega) (fun _ => cF_vk _ (by omega) (by omega)) (by omega) (by omega) (by decide) (fun g6 => ?_)
            refine r_aload_n C dX4_stalePages_56 0 rfl ?_
            refine r_aload_n C dX4_stalePages_57 1 rfl ?_
            refine r_iload C dX4_stalePages_58 5 rfl ?_
            refine r_callP2 (39 + 5 * i) C dX4_stalePages_60 lkX4_57 (m_X4_markOf hi (by omega) hk (by omega)) ⟨rfl, rfl, Nat.le_of_ble_eq_true rfl, Nat.le_of_ble_eq_true rfl⟩ ⟨Nat.zero_le _, Nat.zero_le _⟩ (rcV hi) (Nat.le_of_ble_eq_true rfl) (fun mo hmo => ?_)
            have hmb := mkC_bd hC hi b
            refine r_icmp_eq (tgt := 72) C dX4_stalePages_63 (by decide) (by omega) (by omega) (fun hmk => ?_) (fun hmk => ?_)
            · skip
              refine r_iinc C dX4_stalePages_72 (by decide) 5 rfl (fun z_ => [(5, iv z_), (0, .ref (a (39 + 5 * i))), (1, .ref (a 1)), (2, iv st), (3, iv pg), (4, iv la)]) (fun _ => rfl) (fun b2 eb2 => ?_)
              refine r_goto (tgt := 10) C dX4_stalePages_75 (by decide) ?_
              refine r_sub [1, 2, 3, 4, 5, 0] (L' := [(0, .ref (a (39 + 5 * i))), (1, .ref (a 1)), (2, iv st), (3, iv pg), (4, iv la), (5, iv b2)]) rfl ?_
              exact ih10 _ _ _ _ (by omega) (by subst eb2; first | (have hS := stpF_s (pg2 := p2) hst hb0 (Or.inl ⟨by omega, by omega, by omega⟩); refine ⟨by omega, by omega, by omega, by omega, by omega, ?_⟩; rw [hS]; first | (rw [if_neg (show ¬ (¬ la = p2 ∧ ¬ σ (43 + 5 * i) b = mkC σ i b) by omega)]) | (rw [if_pos (show (¬ la = p2 ∧ ¬ σ (43 + 5 * i) b = mkC σ i b) by omega), el2, es2])) | (have hS := stpF_s (pg2 := pg) hst hb0 (Or.inr ⟨by omega, rfl⟩); refine ⟨by omega, by omega, by omega, by omega, by omega, ?_⟩; rw [hS]; first | (rw [if_neg (show ¬ (¬ la = pg ∧ ¬ σ (43 + 5 * i) b = mkC σ i b) by omega)]) | (rw [if_pos (show (¬ la = pg ∧ ¬ σ (43 + 5 * i) b = mkC σ i b) by omega), el2, es2])))
            · skip
              refine r_iload_n C dX4_stalePages_66 3 rfl ?_
              refine r_istore C dX4_stalePages_67 (by decide) (fun z_ => [(4, iv z_), (0, .ref (a (39 + 5 * i))), (1, .ref (a 1)), (2, iv st), (3, iv pg), (5, iv b)]) (fun _ => rfl) (fun l2 el2 => ?_)
              refine r_iinc C dX4_stalePages_69 (by decide) 3 rfl (fun z_ => [(2, iv z_), (4, iv l2), (0, .ref (a (39 + 5 * i))), (1, .ref (a 1)), (3, iv pg), (5, iv b)]) (fun _ => rfl) (fun s2 es2 => ?_)
              refine r_iinc C dX4_stalePages_72 (by decide) 5 rfl (fun z_ => [(5, iv z_), (2, iv s2), (4, iv l2), (0, .ref (a (39 + 5 * i))), (1, .ref (a 1)), (3, iv pg)]) (fun _ => rfl) (fun b2 eb2 => ?_)
              refine r_goto (tgt := 10) C dX4_stalePages_75 (by decide) ?_
              refine r_sub [3, 4, 1, 5, 2, 0] (L' := [(0, .ref (a (39 + 5 * i))), (1, .ref (a 1)), (2, iv s2), (3, iv pg), (4, iv l2), (5, iv b2)]) rfl ?_
              exact ih10 _ _ _ _ (by omega) (by subst eb2; first | (have hS := stpF_s (pg2 := p2) hst hb0 (Or.inl ⟨by omega, by omega, by omega⟩); refine ⟨by omega, by omega, by omega, by omega, by omega, ?_⟩; rw [hS]; first | (rw [if_neg (show ¬ (¬ la = p2 ∧ ¬ σ (43 + 5 * i) b = mkC σ i b) by omega)]) | (rw [if_pos (show (¬ la = p2 ∧ ¬ σ (43 + 5 * i) b = mkC σ i b) by omega), el2, es2])) | (have hS := stpF_s (pg2 := pg) hst hb0 (Or.inr ⟨by omega, rfl⟩); refine ⟨by omega, by omega, by omega, by omega, by omega, ?_⟩; rw [hS]; first | (rw [if_neg (show ¬ (¬ la = pg ∧ ¬ σ (43 + 5 * i) b = mkC σ i b) by omega)]) | (rw [if_pos (show (¬ la = pg ∧ ¬ σ (43 + 5 * i) b = mkC σ i b) by omega), el2, es2])))
        · skip
          refine r_aload_n C dX4_stalePages_27 0 rfl ?_
          refine gX4_29 i hi C dX4_stalePages_28 ?_
          refine r_iload_n C dX4_stalePages_31 3 rfl ?_
          refine r_iconst C dX4_stalePages_32 ?_
          refine r_iadd C dX4_stalePages_33 ?_
          refine r_iald 40 C dX4_stalePages_34 (by omega) (fun _ => cF_vk _ (by omega) (by omega)) (by omega) (by omega) (by decide) (fun g9 => ?_)
          refine r_iload C dX4_stalePages_35 5 rfl ?_
          refine r_icmp_ne (tgt := 43) C dX4_stalePages_37 (by decide) (by omega) (by omega) (fun hfb => ?_) (fun hfb => ?_)
          · skip
            refine r_iload C dX4_stalePages_43 4 rfl ?_
            refine r_iload_n C dX4_stalePages_45 3 rfl ?_
            refine r_icmp_eq (tgt := 72) C dX4_stalePages_46 (by decide) (by omega) (by omega) (fun hla => ?_) (fun hla => ?_)
            · skip
              refine r_iinc C dX4_stalePages_72 (by decide) 5 rfl (fun z_ => [(5, iv z_), (0, .ref (a (39 + 5 * i))), (1, .ref (a 1)), (2, iv st), (3, iv pg), (4, iv la)]) (fun _ => rfl) (fun b2 eb2 => ?_)
              refine r_goto (tgt := 10) C dX4_stalePages_75 (by decide) ?_
              refine r_sub [1, 2, 3, 4, 5, 0] (L' := [(0, .ref (a (39 + 5 * i))), (1, .ref (a 1)), (2, iv st), (3, iv pg), (4, iv la), (5, iv b2)]) rfl ?_
              exact ih10 _ _ _ _ (by omega) (by subst eb2; first | (have hS := stpF_s (pg2 := p2) hst hb0 (Or.inl ⟨by omega, by omega, by omega⟩); refine ⟨by omega, by omega, by omega, by omega, by omega, ?_⟩; rw [hS]; first | (rw [if_neg (show ¬ (¬ la = p2 ∧ ¬ σ (43 + 5 * i) b = mkC σ i b) by omega)]) | (rw [if_pos (show (¬ la = p2 ∧ ¬ σ (43 + 5 * i) b = mkC σ i b) by omega), el2, es2])) | (have hS := stpF_s (pg2 := pg) hst hb0 (Or.inr ⟨by omega, rfl⟩); refine ⟨by omega, by omega, by omega, by omega, by omega, ?_⟩; rw [hS]; first | (rw [if_neg (show ¬ (¬ la = pg ∧ ¬ σ (43 + 5 * i) b = mkC σ i b) by omega)]) | (rw [if_pos (show (¬ la = pg ∧ ¬ σ (43 + 5 * i) b = mkC σ i b) by omega), el2, es2])))
            · skip
              refine r_aload_n C dX4_stalePages_49 0 rfl ?_
              refine gX4_32 i hi C dX4_stalePages_50 ?_
              refine r_iload C dX4_stalePages_53 5 rfl ?_
              refine r_iald 40 C dX4_stalePages_55 (by omega) (fun _ => cF_vk _ (by omega) (by omega)) (by omega) (by omega) (by decide) (fun g13 => ?_)
              refine r_aload_n C dX4_stalePages_56 0 rfl ?_
              refine r_aload_n C dX4_stalePages_57 1 rfl ?_
              refine r_iload C dX4_stalePages_58 5 rfl ?_
              refine r_callP2 (39 + 5 * i) C dX4_stalePages_60 lkX4_57 (m_X4_markOf hi (by omega) hk (by omega)) ⟨rfl, rfl, Nat.le_of_ble_eq_true rfl, Nat.le_of_ble_eq_true rfl⟩ ⟨Nat.zero_le _, Nat.zero_le _⟩ (rcV hi) (Nat.le_of_ble_eq_true rfl) (fun mo hmo => ?_)
              have hmb := mkC_bd hC hi b
              refine r_icmp_eq (tgt := 72) C dX4_stalePages_63 (by decide) (by omega) (by omega) (fun hmk => ?_) (fun hmk => ?_)
              · skip
                refine r_iinc C dX4_stalePages_72 (by decide) 5 rfl (fun z_ => [(5, iv z_), (0, .ref (a (39 + 5 * i))), (1, .ref (a 1)), (2, iv st), (3, iv pg), (4, iv la)]) (fun _ => rfl) (fun b2 eb2 => ?_)
                refine r_goto (tgt := 10) C dX4_stalePages_75 (by decide) ?_
                refine r_sub [1, 2, 3, 4, 5, 0] (L' := [(0, .ref (a (39 + 5 * i))), (1, .ref (a 1)), (2, iv st), (3, iv pg), (4, iv la), (5, iv b2)]) rfl ?_
                exact ih10 _ _ _ _ (by omega) (by subst eb2; first | (have hS := stpF_s (pg2 := p2) hst hb0 (Or.inl ⟨by omega, by omega, by omega⟩); refine ⟨by omega, by omega, by omega, by omega, by omega, ?_⟩; rw [hS]; first | (rw [if_neg (show ¬ (¬ la = p2 ∧ ¬ σ (43 + 5 * i) b = mkC σ i b) by omega)]) | (rw [if_pos (show (¬ la = p2 ∧ ¬ σ (43 + 5 * i) b = mkC σ i b) by omega), el2, es2])) | (have hS := stpF_s (pg2 := pg) hst hb0 (Or.inr ⟨by omega, rfl⟩); refine ⟨by omega, by omega, by omega, by omega, by omega, ?_⟩; rw [hS]; first | (rw [if_neg (show ¬ (¬ la = pg ∧ ¬ σ (43 + 5 * i) b = mkC σ i b) by omega)]) | (rw [if_pos (show (¬ la = pg ∧ ¬ σ (43 + 5 * i) b = mkC σ i b) by omega), el2, es2])))
              · skip
                refine r_iload_n C dX4_stalePages_66 3 rfl ?_
                refine r_istore C dX4_stalePages_67 (by decide) (fun z_ => [(4, iv z_), (0, .ref (a (39 + 5 * i))), (1, .ref (a 1)), (2, iv st), (3, iv pg), (5, iv b)]) (fun _ => rfl) (fun l2 el2 => ?_)
                refine r_iinc C dX4_stalePages_69 (by decide) 3 rfl (fun z_ => [(2, iv z_), (4, iv l2), (0, .ref (a (39 + 5 * i))), (1, .ref (a 1)), (3, iv pg), (5, iv b)]) (fun _ => rfl) (fun s2 es2 => ?_)
                refine r_iinc C dX4_stalePages_72 (by decide) 5 rfl (fun z_ => [(5, iv z_), (2, iv s2), (4, iv l2), (0, .ref (a (39 + 5 * i))), (1, .ref (a 1)), (3, iv pg)]) (fun _ => rfl) (fun b2 eb2 => ?_)
                refine r_goto (tgt := 10) C dX4_stalePages_75 (by decide) ?_
                refine r_sub [3, 4, 1, 5, 2, 0] (L' := [(0, .ref (a (39 + 5 * i))), (1, .ref (a 1)), (2, iv s2), (3, iv pg), (4, iv l2), (5, iv b2)]) rfl ?_
                exact ih10 _ _ _ _ (by omega) (by subst eb2; first | (have hS := stpF_s (pg2 := p2) hst hb0 (Or.inl ⟨by omega, by omega, by omega⟩); refine ⟨by omega, by omega, by omega, by omega, by omega, ?_⟩; rw [hS]; first | (rw [if_neg (show ¬ (¬ la = p2 ∧ ¬ σ (43 + 5 * i) b = mkC σ i b) by omega)]) | (rw [if_pos (show (¬ la = p2 ∧ ¬ σ (43 + 5 * i) b = mkC σ i b) by omega), el2, es2])) | (have hS := stpF_s (pg2 := pg) hst hb0 (Or.inr ⟨by omega, rfl⟩); refine ⟨by omega, by omega, by omega, by omega, by omega, ?_⟩; rw [hS]; first | (rw [if_neg (show ¬ (¬ la = pg ∧ ¬ σ (43 + 5 * i) b = mkC σ i b) by omega)]) | (rw [if_pos (show (¬ la = pg ∧ ¬ σ (43 + 5 * i) b = mkC σ i b) by omega), el2, es2])))
          · skip
            refine r_iinc C dX4_stalePages_40 (by decide) 3 rfl (fun z_ => [(3, iv z_), (0, .ref (a (39 + 5 * i))), (1, .ref (a 1)), (2, iv st), (4, iv la), (5, iv b)]) (fun _ => rfl) (fun p2 ep2 => ?_)
            refine r_iload C dX4_stalePages_43 4 rfl ?_
            refine r_iload_n C dX4_stalePages_45 0 rfl ?_
            refine r_icmp_eq (tgt := 72) C dX4_stalePages_46 (by decide) (by omega) (by omega) (fun hla => ?_) (fun hla => ?_)
            · skip
              refine r_iinc C dX4_stalePages_72 (by decide) 5 rfl (fun z_ => [(5, iv z_), (3, iv p2), (0, .ref (a (39 + 5 * i))), (1, .ref (a 1)), (2, iv st), (4, iv la)]) (fun _ => rfl) (fun b2 eb2 => ?_)
              refine r_goto (tgt := 10) C dX4_stalePages_75 (by decide) ?_
              refine r_sub [2, 3, 4, 1, 5, 0] (L' := [(0, .ref (a (39 + 5 * i))), (1, .ref (a 1)), (2, iv st), (3, iv p2), (4, iv la), (5, iv b2)]) rfl ?_
              exact ih10 _ _ _ _ (by omega) (by subst eb2; first | (have hS := stpF_s (pg2 := p2) hst hb0 (Or.inl ⟨by omega, by omega, by omega⟩); refine ⟨by omega, by omega, by omega, by omega, by omega, ?_⟩; rw [hS]; first | (rw [if_neg (show ¬ (¬ la = p2 ∧ ¬ σ (43 + 5 * i) b = mkC σ i b) by omega)]) | (rw [if_pos (show (¬ la = p2 ∧ ¬ σ (43 + 5 * i) b = mkC σ i b) by omega), el2, es2])) | (have hS := stpF_s (pg2 := pg) hst hb0 (Or.inr ⟨by omega, rfl⟩); refine ⟨by omega, by omega, by omega, by omega, by omega, ?_⟩; rw [hS]; first | (rw [if_neg (show ¬ (¬ la = pg ∧ ¬ σ (43 + 5 * i) b = mkC σ i b) by omega)]) | (rw [if_pos (show (¬ la = pg ∧ ¬ σ (43 + 5 * i) b = mkC σ i b) by omega), el2, es2])))
            · skip
              refine r_aload_n C dX4_stalePages_49 1 rfl ?_
              refine gX4_32 i hi C dX4_stalePages_50 ?_
              refine r_iload C dX4_stalePages_53 5 rfl ?_
              refine r_iald 40 C dX4_stalePages_55 (by omega) (fun _ => cF_vk _ (by omega) (by omega)) (by omega) (by omega) (by decide) (fun g17 => ?_)
              refine r_aload_n C dX4_stalePages_56 1 rfl ?_
              refine r_aload_n C dX4_stalePages_57 2 rfl ?_
              refine r_iload C dX4_stalePages_58 5 rfl ?_
              refine r_callP2 (39 + 5 * i) C dX4_stalePages_60 lkX4_57 (m_X4_markOf hi (by omega) hk (by omega)) ⟨rfl, rfl, Nat.le_of_ble_eq_true rfl, Nat.le_of_ble_eq_true rfl⟩ ⟨Nat.zero_le _, Nat.zero_le _⟩ (rcV hi) (Nat.le_of_ble_eq_true rfl) (fun mo hmo => ?_)
              have hmb := mkC_bd hC hi b
              refine r_icmp_eq (tgt := 72) C dX4_stalePages_63 (by decide) (by omega) (by omega) (fun hmk => ?_) (fun hmk => ?_)
              · skip
                refine r_iinc C dX4_stalePages_72 (by decide) 5 rfl (fun z_ => [(5, iv z_), (3, iv p2), (0, .ref (a (39 + 5 * i))), (1, .ref (a 1)), (2, iv st), (4, iv la)]) (fun _ => rfl) (fun b2 eb2 => ?_)
                refine r_goto (tgt := 10) C dX4_stalePages_75 (by decide) ?_
                refine r_sub [2, 3, 4, 1, 5, 0] (L' := [(0, .ref (a (39 + 5 * i))), (1, .ref (a 1)), (2, iv st), (3, iv p2), (4, iv la), (5, iv b2)]) rfl ?_
                exact ih10 _ _ _ _ (by omega) (by subst eb2; first | (have hS := stpF_s (pg2 := p2) hst hb0 (Or.inl ⟨by omega, by omega, by omega⟩); refine ⟨by omega, by omega, by omega, by omega, by omega, ?_⟩; rw [hS]; first | (rw [if_neg (show ¬ (¬ la = p2 ∧ ¬ σ (43 + 5 * i) b = mkC σ i b) by omega)]) | (rw [if_pos (show (¬ la = p2 ∧ ¬ σ (43 + 5 * i) b = mkC σ i b) by omega), el2, es2])) | (have hS := stpF_s (pg2 := pg) hst hb0 (Or.inr ⟨by omega, rfl⟩); refine ⟨by omega, by omega, by omega, by omega, by omega, ?_⟩; rw [hS]; first | (rw [if_neg (show ¬ (¬ la = pg ∧ ¬ σ (43 + 5 * i) b = mkC σ i b) by omega)]) | (rw [if_pos (show (¬ la = pg ∧ ¬ σ (43 + 5 * i) b = mkC σ i b) by omega), el2, es2])))
              · skip
                refine r_iload_n C dX4_stalePages_66 0 rfl ?_
                refine r_istore C dX4_stalePages_67 (by decide) (fun z_ => [(4, iv z_), (3, iv p2), (0, .ref (a (39 + 5 * i))), (1, .ref (a 1)), (2, iv st), (5, iv b)]) (fun _ => rfl) (fun l2 el2 => ?_)
                refine r_iinc C dX4_stalePages_69 (by decide) 4 rfl (fun z_ => [(2, iv z_), (4, iv l2), (3, iv p2), (0, .ref (a (39 + 5 * i))), (1, .ref (a 1)), (5, iv b)]) (fun _ => rfl) (fun s2 es2 => ?_)
                refine r_iinc C dX4_stalePages_72 (by decide) 5 rfl (fun z_ => [(5, iv z_), (2, iv s2), (4, iv l2), (3, iv p2), (0, .ref (a (39 + 5 * i))), (1, .ref (a 1))]) (fun _ => rfl) (fun b2 eb2 => ?_)
                refine r_goto (tgt := 10) C dX4_stalePages_75 (by decide) ?_
                refine r_sub [4, 5, 1, 3, 2, 0] (L' := [(0, .ref (a (39 + 5 * i))), (1, .ref (a 1)), (2, iv s2), (3, iv p2), (4, iv l2), (5, iv b2)]) rfl ?_
                exact ih10 _ _ _ _ (by omega) (by subst eb2; first | (have hS := stpF_s (pg2 := p2) hst hb0 (Or.inl ⟨by omega, by omega, by omega⟩); refine ⟨by omega, by omega, by omega, by omega, by omega, ?_⟩; rw [hS]; first | (rw [if_neg (show ¬ (¬ la = p2 ∧ ¬ σ (43 + 5 * i) b = mkC σ i b) by omega)]) | (rw [if_pos (show (¬ la = p2 ∧ ¬ σ (43 + 5 * i) b = mkC σ i b) by omega), el2, es2])) | (have hS := stpF_s (pg2 := pg) hst hb0 (Or.inr ⟨by omega, rfl⟩); refine ⟨by omega, by omega, by omega, by omega, by omega, ?_⟩; rw [hS]; first | (rw [if_neg (show ¬ (¬ la = pg ∧ ¬ σ (43 + 5 * i) b = mkC σ i b) by omega)]) | (rw [if_pos (show (¬ la = pg ∧ ¬ σ (43 + 5 * i) b = mkC σ i b) by omega), el2, es2])))
  refine r_sub [4, 5, 3, 2, 1, 0] (L' := [(0, .ref (a (39 + 5 * i))), (1, .ref (a 1)), (2, iv s0), (3, iv p0), (4, iv l0), (5, iv b0)]) rfl ?_
  exact lp10 ((40 : Int).toNat + 1) _ _ _ _ (by omega) (by subst es0; subst ep0; subst el0; subst eb0; exact ⟨by omega, by omega, by omega, by omega, by omega, rfl⟩)

/-- what plan(voice) leaves -/
def ndC (σ : ST) (v : Int) : Int := if σ (39 + 5 * v.toNat) 0 = 1 then σ 0 9 / 2 else σ 0 9
def PlR (σ τ : ST) (n : Nat) (v : Int) : Prop := ∃ ρ, DrC σ ρ v (σ 0 6) ∧ PlC ρ τ n (σ 0 7) (σ 0 8) (ndC σ v)
set_option maxHeartbeats 4000000 in
set_option maxRecDepth 100000 in
theorem m_X5_plan {a : Nat → Nat} {n : Nat} {σ : ST} {v : Int} (hC : CS σ n) (hv : 0 ≤ v ∧ v < n) : MV yX5_plan cX5_plan 3 (RM 5 117) a n σ [.ref (a 0), iv v, .ref (a (39 + 5 * v.toNat))] (fun σ1 => PlR σ σ1 n v) := by
  refine MV.of (own := RX5) (by decide +kernel) rfl (Nat.le_of_ble_eq_true rfl) ?_
  intro κ C hret
  show J κ 0 0 a n σ [(0, .ref (a 0)), (1, iv v), (2, .ref (a (39 + 5 * v.toNat)))] 0 []
  obtain ⟨-, hn1, -, -, hdu, hwd, hli, hne, -⟩ := id hC
  refine r_aload_n C dX5_plan_0 0 rfl ?_
  refine gX5_21 C dX5_plan_1 ?_
  refine r_iload_n C dX5_plan_4 1 rfl ?_
  refine r_aload_n C dX5_plan_5 0 rfl ?_
  refine gX5_49 C dX5_plan_6 (fun g2 => ?_)
  refine r_callV2 2 C dX5_plan_9 lkX5_111 (m_X1_draw hC (by omega) (by omega)) ⟨rfl, rfl, Nat.le_of_ble_eq_true rfl, Nat.le_of_ble_eq_true rfl⟩ ⟨Nat.zero_le _, Nat.zero_le _⟩ rc2 (Nat.le_of_ble_eq_true rfl) (fun ρ hdr => ?_)
  have hC2 := hdr.fr.cs hC
  have hI2 := hdr.pin hC hv
  have r0 := hdr.fr.to 0 rfl
  have r06 : ρ 0 7 = σ 0 7 := by rw [r0]
  have r08 : ρ 0 8 = σ 0 8 := by rw [r0]
  have r09 : ρ 0 9 = σ 0 9 := by rw [r0]
  have r25 := hdr.2.2.1
  refine r_aload_n C dX5_plan_12 0 rfl ?_
  refine gX5_30 C dX5_plan_13 ?_
  refine r_aload_n C dX5_plan_16 0 rfl ?_
  refine gX5_52 C dX5_plan_17 (fun g4 => ?_)
  refine r_aload_n C dX5_plan_20 0 rfl ?_
  refine gX5_55 C dX5_plan_21 (fun g5 => ?_)
  refine r_aload_n C dX5_plan_24 2 rfl ?_
  refine r_aload_n C dX5_plan_25 0 rfl ?_
  refine gX5_58 C dX5_plan_26 (fun g6 => ?_)
  refine r_callP1 (39 + 5 * v.toNat) C dX5_plan_29 lkX5_190 (m_X4_needOf (by omega) (by omega)) ⟨rfl, rfl, Nat.le_of_ble_eq_true rfl, Nat.le_of_ble_eq_true rfl⟩ ⟨Nat.zero_le _, Nat.zero_le _⟩ (rcV (by omega)) (Nat.le_of_ble_eq_true rfl) (fun nd hnd => ?_)
  rw [hdr.fr.toV (c := 39 + 5 * v.toNat) (by omega), r09] at hnd
  have hnd2 : nd = ndC σ v := hnd
  have hndb : 0 ≤ nd ∧ nd ≤ 60 := by
    rw [hnd]
    split <;> omega
  refine r_callV3 3 C dX5_plan_32 lkX5_193 (m_X0_plan hI2 hC2 (by omega) (by omega) (by omega) (by omega)) ⟨rfl, rfl, Nat.le_of_ble_eq_true rfl, Nat.le_of_ble_eq_true rfl⟩ ⟨Nat.zero_le _, Nat.zero_le _⟩ rc3 (Nat.le_of_ble_eq_true rfl) (fun s3 hpl => ?_)
  rw [r06, r08, hnd2] at hpl
  exact hret _ _ _ dX5_plan_35 (⟨ρ, hdr, hpl⟩)
