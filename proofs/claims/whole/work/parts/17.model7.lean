theorem walk_mono {Z : Int → Int} {many : Int} (hz : ∀ i, 0 ≤ i → i < many → 1 ≤ Z i ∧ i + Z i ≤ many) (h0 : 0 ≤ many) : ∀ k : Nat, 0 ≤ walkF Z many k ∧ walkF Z many k ≤ many ∧ walkF Z many k ≤ walkF Z many (k + 1)
  | 0 => by
    refine ⟨Int.le_refl _, h0, ?_⟩
    unfold walkF
    split
    · rename_i h
      have := hz 0 (Int.le_refl _) h
      show (0 : Int) ≤ 0 + Z 0
      omega
    · exact Int.le_refl _
  | k + 1 => by
    obtain ⟨h1, h2, h3⟩ := walk_mono hz h0 k
    have h4 : 0 ≤ walkF Z many (k + 1) ∧ walkF Z many (k + 1) ≤ many := by
      unfold walkF
      split
      · rename_i h5
        have := hz _ h1 h5
        omega
      · exact ⟨h1, h2⟩
    refine ⟨h4.1, h4.2, ?_⟩
    conv => rhs; unfold walkF
    split
    · rename_i h5
      have := hz _ h4.1 h5
      omega
    · exact Int.le_refl _
theorem walk_le {Z : Int → Int} {many : Int} (hz : ∀ i, 0 ≤ i → i < many → 1 ≤ Z i ∧ i + Z i ≤ many) (h0 : 0 ≤ many) (k : Nat) : ∀ j : Nat, walkF Z many k ≤ walkF Z many (k + j)
  | 0 => Int.le_refl _
  | j + 1 => Int.le_trans (walk_le hz h0 k j) (walk_mono hz h0 (k + j)).2.2
theorem walk_uniq {Z : Int → Int} {many : Int} (hz : ∀ i, 0 ≤ i → i < many → 1 ≤ Z i ∧ i + Z i ≤ many) (h0 : 0 ≤ many) {p q : Nat} {i : Int} (h1 : walkF Z many p ≤ i) (h2 : i < walkF Z many (p + 1)) (h3 : walkF Z many q ≤ i) (h4 : i < walkF Z many (q + 1)) : p = q := by
  rcases Nat.lt_trichotomy p q with h | h | h
  · have := walk_le hz h0 (p + 1) (q - (p + 1))
    rw [show p + 1 + (q - (p + 1)) = q by omega] at this
    omega
  · exact h
  · have := walk_le hz h0 (q + 1) (p - (q + 1))
    rw [show q + 1 + (p - (q + 1)) = p by omega] at this
    omega
/-- the reference's rows of what was laid, when i places are done -/
def LayI (ρ : ST) (v : Int) (τ : ST) (i : Int) : Prop :=
  (∀ c, c ≠ 33 → c ≠ 34 → c ≠ 35 → c ≠ 36 → τ c = ρ c) ∧ (∀ j, (j < 40 * v ∨ 40 * v + 40 ≤ j) → τ 33 j = ρ 33 j ∧ τ 34 j = ρ 34 j ∧ τ 35 j = ρ 35 j ∧ τ 36 j = ρ 36 j) ∧ (∀ k, 0 ≤ k → k < i → (∀ p : Nat, walkF (ρ 31) (ρ 18 18) p ≤ k → k < walkF (ρ 31) (ρ 18 18) (p + 1) → τ 33 (40 * v + ρ 28 k) = p) ∧ τ 34 (40 * v + ρ 28 k) = ρ 24 (40 * v + ρ 28 k) ∧ τ 35 (40 * v + ρ 28 k) = ρ 25 (40 * v + ρ 28 k) ∧ τ 36 (40 * v + ρ 28 k) = ρ 20 (ρ 28 k)) ∧ ∀ b, 0 ≤ b → b < 40 → (∀ k, 0 ≤ k → k < i → ρ 28 k ≠ b) → τ 33 (40 * v + b) = -1
theorem LayI.go {ρ τ : ST} {v i ad : Int} {pg : Nat} (h : LayI ρ v τ i) (hz : ∀ i, 0 ≤ i → i < ρ 18 18 → 1 ≤ ρ 31 i ∧ i + ρ 31 i ≤ ρ 18 18) (h0 : 0 ≤ ρ 18 18) (hi : 0 ≤ i) (hr : 0 ≤ ρ 28 i ∧ ρ 28 i < 40) (hinj : ∀ k, 0 ≤ k → k < i → ρ 28 k ≠ ρ 28 i) (h1 : walkF (ρ 31) (ρ 18 18) pg ≤ i) (h2 : i < walkF (ρ 31) (ρ 18 18) (pg + 1)) (ha : ad = 40 * v + ρ 28 i) : LayI ρ v (up2 (up2 (up2 (up2 τ 33 ad pg) 34 ad (ρ 24 ad)) 35 ad (ρ 25 ad)) 36 ad (ρ 20 (ρ 28 i))) (i + 1) := by
  obtain ⟨a1, a2, a3, a4⟩ := h
  have n33 : ∀ j, (up2 (up2 (up2 (up2 τ 33 ad pg) 34 ad (ρ 24 ad)) 35 ad (ρ 25 ad)) 36 ad (ρ 20 (ρ 28 i))) 33 j = if j = ad then (pg : Int) else τ 33 j := fun j => by
    rw [up2_ne (show (33 : Nat) ≠ 36 by decide), up2_ne (show (33 : Nat) ≠ 35 by decide), up2_ne (show (33 : Nat) ≠ 34 by decide), up2_c]
  have n34 : ∀ j, (up2 (up2 (up2 (up2 τ 33 ad pg) 34 ad (ρ 24 ad)) 35 ad (ρ 25 ad)) 36 ad (ρ 20 (ρ 28 i))) 34 j = if j = ad then ρ 24 ad else τ 34 j := fun j => by
    rw [up2_ne (show (34 : Nat) ≠ 36 by decide), up2_ne (show (34 : Nat) ≠ 35 by decide), up2_c, up2_ne (show (34 : Nat) ≠ 33 by decide)]
  have n35 : ∀ j, (up2 (up2 (up2 (up2 τ 33 ad pg) 34 ad (ρ 24 ad)) 35 ad (ρ 25 ad)) 36 ad (ρ 20 (ρ 28 i))) 35 j = if j = ad then ρ 25 ad else τ 35 j := fun j => by
    rw [up2_ne (show (35 : Nat) ≠ 36 by decide), up2_c, up2_ne (show (35 : Nat) ≠ 34 by decide), up2_ne (show (35 : Nat) ≠ 33 by decide)]
  have n36 : ∀ j, (up2 (up2 (up2 (up2 τ 33 ad pg) 34 ad (ρ 24 ad)) 35 ad (ρ 25 ad)) 36 ad (ρ 20 (ρ 28 i))) 36 j = if j = ad then ρ 20 (ρ 28 i) else τ 36 j := fun j => by
    rw [up2_c, up2_ne (show (36 : Nat) ≠ 35 by decide), up2_ne (show (36 : Nat) ≠ 34 by decide), up2_ne (show (36 : Nat) ≠ 33 by decide)]
  refine ⟨fun c c1 c2 c3 c4 => ?_, fun j hj => ?_, fun k k0 k1 => ?_, fun b b0 b1 hb => ?_⟩
  · rw [up2_ne c4, up2_ne c3, up2_ne c2, up2_ne c1]; exact a1 c c1 c2 c3 c4
  · rw [n33, n34, n35, n36, if_neg (by omega), if_neg (by omega), if_neg (by omega), if_neg (by omega)]; exact a2 j hj
  · by_cases hk : k = i
    · subst hk
      rw [n34, n35, n36, ← ha, if_pos rfl, if_pos rfl, if_pos rfl]
      refine ⟨fun p p1 p2 => ?_, rfl, rfl, rfl⟩
      rw [n33, if_pos rfl, walk_uniq hz h0 h1 h2 p1 p2]
    · have hne := hinj k k0 (by omega)
      rw [n34, n35, n36, if_neg (by omega), if_neg (by omega), if_neg (by omega)]
      obtain ⟨b1, b2⟩ := a3 k k0 (by omega)
      refine ⟨fun p p1 p2 => ?_, b2⟩
      rw [n33, if_neg (by omega)]
      exact b1 p p1 p2
  · have hne := hb i hi (by omega)
    rw [n33, if_neg (by omega)]
    exact a4 b b0 b1 (fun k k0 k1 => hb k k0 (by omega))
theorem RowOK.lt {mk : Int → Int} {nb : Int} {row : Int → Int} {many : Int} (h : RowOK mk nb row many) {i j : Int} (h0 : 0 ≤ i) (h1 : i < j) (h2 : j < many) : row i < row j := by
  obtain ⟨b, b1, b2, b3, b4⟩ := h.at h0 (by omega)
  obtain ⟨c, c1, c2, c3, c4⟩ := h.at (show 0 ≤ j by omega) h2
  rw [b4, c4]
  rcases Nat.lt_or_ge b c with h5 | h5
  · omega
  · have := cntN_mono mk c b h5
    omega
/-- what lay() leaves -/
def LayM (ρ : ST) (v : Int) (σ1 : ST) (r : Int) : Prop := 1 ≤ r ∧ r ≤ ρ 18 18 ∧ walkF (ρ 31) (ρ 18 18) r.toNat = ρ 18 18 ∧ (∀ k : Nat, (k : Int) < r → walkF (ρ 31) (ρ 18 18) k < ρ 18 18) ∧ ∃ τ, LayI ρ v τ (ρ 18 18) ∧ σ1 = up2 τ 32 v r
set_option maxHeartbeats 4000000 in
set_option maxRecDepth 100000 in
theorem m_X6_lay {a : Nat → Nat} {n : Nat} {σ : ST} (hM : MS σ) {v : Int} (hv1 : inR v) : MI yX6_lay cX6_lay 6 .int (RM 5 124) a n σ [.ref (a 18), iv v] (fun r σ1 => ((0 ≤ v ∧ v < σ 18 1) ∧ ∃ ρ, FPm σ ρ v ∧ ((ρ 18 18 = 0 ∧ r = -1000002 ∧ σ1 = fd ρ 27 2) ∨ (0 < ρ 18 18 ∧ LayM ρ v σ1 r))) ∨ (¬ (0 ≤ v ∧ v < σ 18 1) ∧ r = -1000001 ∧ σ1 = fd σ 27 1)) := by
  refine MI.of (own := RX6) (by decide +kernel) rfl (Nat.le_of_ble_eq_true rfl) ?_
  intro κ C hret
  show J κ 0 0 a n σ [(0, .ref (a 18)), (1, iv v)] 0 []
  obtain ⟨hb, hvn, hwt, hky, hdu, hwd, hli, hne, hse, hmk, hkd, hsh, hos, hpl, hld, hF, hlp, hpo⟩ := id hM
  refine r_aload_n C dX6_lay_0 0 rfl ?_
  refine r_iload_n C dX6_lay_1 1 rfl ?_
  refine r_callB1 18 C dX6_lay_2 lkX6_96 (m_X6_isVoice (by omega) (by omega)) ⟨rfl, rfl, Nat.le_of_ble_eq_true rfl, Nat.le_of_ble_eq_true rfl⟩ ⟨Nat.zero_le _, Nat.zero_le _⟩ rc18 (Nat.le_of_ble_eq_true rfl) (fun h1 => ?_) (fun h1 => ?_)
  · skip
    refine r_if_ne (tgt := 14) C dX6_lay_5 (by decide) (by decide) (fun _ => ?_) (fun q => absurd q (by decide))
    refine r_aload_n C dX6_lay_14 0 rfl ?_
    refine r_iload_n C dX6_lay_15 1 rfl ?_
    refine r_callV1 18 C dX6_lay_16 lkX6_143 (m_X6_findPages hM (by omega)) ⟨rfl, rfl, Nat.le_of_ble_eq_true rfl, Nat.le_of_ble_eq_true rfl⟩ ⟨Nat.zero_le _, Nat.zero_le _⟩ rc18 (Nat.le_of_ble_eq_true rfl) (fun ρ hr3 => ?_)
    obtain ⟨hfr, hro, hdp⟩ := hr3
    have hM2 := hfr.ms hM
    have hI := RowIn.of hro hb.1 hb.2
    have hrm := hI.2.1
    have hrm0 := hI.1
    have hf1 := hfr.2 1 (by decide)
    have hz := fun i h0 h1 => hdp.step (syM_1 hM2 v) (i := i) h0 h1
    refine r_aload_n C dX6_lay_19 0 rfl ?_
    refine gX6_106 C dX6_lay_20 (fun g4 => ?_)
    refine r_if_ne (tgt := 32) C dX6_lay_23 (by decide) (by omega) (fun h5 => ?_) (fun h5 => ?_)
    · skip
      refine r_iconst C dX6_lay_32 ?_
      refine r_istore_n C dX6_lay_33 (by decide) (fun z_ => [(2, iv z_), (0, .ref (a 18)), (1, iv v)]) (fun _ => rfl) (fun b0 eb0 => ?_)
      have lp34 : ∀ (N : Nat) (b : Int) (τ : ST), (40 - b : Int) < N → (0 ≤ b ∧ b ≤ 40 ∧ (∀ c, c ≠ 33 → τ c = ρ c) ∧ ∀ j, τ 33 j = if 40 * v ≤ j ∧ j < 40 * v + b then -1 else ρ 33 j) → J κ 0 0 a n τ [(0, .ref (a 18)), (1, iv v), (2, iv b)] 34 [] := by
        intro N
        induction N with
        | zero =>
          intro b τ hm34 hi34
          exact absurd hm34 (by omega)
        | succ N ih34 =>
          intro b τ hm34 hi34
          obtain ⟨hb0, hb1, hb2, hb3⟩ := hi34
          have e18 := hb2 18 (by decide)
          refine r_iload_n C dX6_lay_34 2 rfl ?_
          refine r_bipush C dX6_lay_35 (by decide) ?_
          refine r_icmp_ge (tgt := 58) C dX6_lay_37 (by decide) (by omega) (by omega) (fun h6 => ?_) (fun h6 => ?_)
          · skip
            refine r_iconst C dX6_lay_58 ?_
            refine r_istore_n C dX6_lay_59 (by decide) (fun z_ => [(2, iv z_), (0, .ref (a 18)), (1, iv v)]) (fun _ => rfl) (fun p0 ep0 => ?_)
            refine r_iconst C dX6_lay_60 ?_
            refine r_istore_n C dX6_lay_61 (by decide) (fun z_ => [(3, iv z_), (2, iv p0), (0, .ref (a 18)), (1, iv v)]) (fun _ => rfl) (fun i0 ei0 => ?_)
            have lp62 : ∀ (N : Nat) (pg : Int) (i : Int) (τ3 : ST), (ρ 18 18 - i : Int) < N → (0 ≤ pg ∧ pg ≤ i ∧ i ≤ ρ 18 18 ∧ i = walkF (ρ 31) (ρ 18 18) pg.toNat ∧ (∀ k : Nat, (k : Int) < pg → walkF (ρ 31) (ρ 18 18) k < ρ 18 18) ∧ LayI ρ v τ3 i) → J κ 0 0 a n τ3 [(0, .ref (a 18)), (1, iv v), (2, iv pg), (3, iv i)] 62 [] := by
              intro N
              induction N with
              | zero =>
                intro pg i τ3 hm62 hi62
                exact absurd hm62 (by omega)
              | succ N ih62 =>
                intro pg i τ3 hm62 hi62
                obtain ⟨hp0, hp1, hp2, hpw, hpk, hla⟩ := hi62
                have hA := hla.1
                have e18 := hA 18 (by decide) (by decide) (by decide) (by decide)
                have em : τ3 18 18 = ρ 18 18 := by rw [e18]
                have e31 := hA 31 (by decide) (by decide) (by decide) (by decide)
                have e28 := hA 28 (by decide) (by decide) (by decide) (by decide)
                have e24 := hA 24 (by decide) (by decide) (by decide) (by decide)
                have e25 := hA 25 (by decide) (by decide) (by decide) (by decide)
                have e20 := hA 20 (by decide) (by decide) (by decide) (by decide)
                refine r_iload_n C dX6_lay_62 3 rfl ?_
                refine r_aload_n C dX6_lay_63 0 rfl ?_
                refine gX6_106 C dX6_lay_64 (fun g7 => ?_)
                refine r_icmp_ge (tgt := 165) C dX6_lay_67 (by decide) (by omega) (by omega) (fun h8 => ?_) (fun h8 => ?_)
                · skip
                  refine r_aload_n C dX6_lay_165 0 rfl ?_
                  refine gX6_62 C dX6_lay_166 ?_
                  refine r_iload_n C dX6_lay_169 1 rfl ?_
                  refine r_iload_n C dX6_lay_170 2 rfl ?_
                  refine r_iast 6 C dX6_lay_171 (by omega) (fun _ _ => rfl) (by omega) (by omega) (by decide) (by omega) ?_
                  refine r_iload_n C dX6_lay_172 2 rfl ?_
                  exact hret _ _ _ _ dX6_lay_173 (by first | (refine Or.inr ⟨?_, ?_, ?_⟩ <;> first | omega | assumption) | exact Or.inl ⟨by omega, ρ, ⟨hfr, hro, hdp⟩, Or.inl ⟨by omega, by omega, by assumption⟩⟩ | (refine Or.inl ⟨by omega, ρ, ⟨hfr, hro, hdp⟩, Or.inr ⟨by omega, ?_⟩⟩; have hie : i = ρ 18 18 := (by omega); rw [hie] at hpw hla; refine ⟨?_, by omega, hpw.symm, hpk, τ3, hla, rfl⟩; rcases (show 1 ≤ pg ∨ pg = 0 by omega) with h9 | h9; exact h9; (subst h9; simp [walkF] at hpw; omega)))
                · skip
                  have hzi := hz i (by omega) (by omega)
                  have hzq := congrFun e31 i
                  refine r_iload_n C dX6_lay_70 3 rfl ?_
                  refine r_aload_n C dX6_lay_71 0 rfl ?_
                  refine gX6_59 C dX6_lay_72 ?_
                  refine r_iload_n C dX6_lay_75 3 rfl ?_
                  refine r_iald 41 C dX6_lay_76 (by omega) (fun _ => rfl) (by omega) (by omega) (by decide) (fun g11 => ?_)
                  refine r_iadd C dX6_lay_77 ?_
                  refine r_istore C dX6_lay_78 (by decide) (fun z_ => [(4, iv z_), (0, .ref (a 18)), (1, iv v), (2, iv pg), (3, iv i)]) (fun _ => rfl) (fun en een => ?_)
                  have lp80 : ∀ (N : Nat) (i3 : Int) (τ4 : ST), (en - i3 : Int) < N → (i ≤ i3 ∧ i3 ≤ en ∧ LayI ρ v τ4 i3) → J κ 0 0 a n τ4 [(0, .ref (a 18)), (1, iv v), (2, iv pg), (3, iv i3), (4, iv en)] 80 [] := by
                    intro N
                    induction N with
                    | zero =>
                      intro i3 τ4 hm80 hi80
                      exact absurd hm80 (by omega)
                    | succ N ih80 =>
                      intro i3 τ4 hm80 hi80
                      obtain ⟨hq0, hq1, hlb⟩ := hi80
                      have hA := hlb.1
                      have e18 := hA 18 (by decide) (by decide) (by decide) (by decide)
                      have em : τ4 18 18 = ρ 18 18 := by rw [e18]
                      have e31 := hA 31 (by decide) (by decide) (by decide) (by decide)
                      have e28 := hA 28 (by decide) (by decide) (by decide) (by decide)
                      have e24 := hA 24 (by decide) (by decide) (by decide) (by decide)
                      have e25 := hA 25 (by decide) (by decide) (by decide) (by decide)
                      have e20 := hA 20 (by decide) (by decide) (by decide) (by decide)
                      refine r_iload_n C dX6_lay_80 3 rfl ?_
                      refine r_iload C dX6_lay_81 4 rfl ?_
                      refine r_icmp_ge (tgt := 159) C dX6_lay_83 (by decide) (by omega) (by omega) (fun h12 => ?_) (fun h12 => ?_)
                      · skip
                        refine r_iinc C dX6_lay_159 (by decide) 2 rfl (fun z_ => [(2, iv z_), (0, .ref (a 18)), (1, iv v), (3, iv i3), (4, iv en)]) (fun _ => rfl) (fun p2 ep2 => ?_)
                        refine r_goto (tgt := 62) C dX6_lay_162 (by decide) ?_
                        refine r_sub [1, 2, 0, 3] (L' := [(0, .ref (a 18)), (1, iv v), (2, iv p2), (3, iv i3)]) rfl ?_
                        exact ih62 _ _ _ (by omega) (by subst ep2; have hie : i3 = en := (by omega); subst hie; refine ⟨by omega, by omega, by omega, ?_, fun k hk => ?_, hlb⟩; (rw [walkF_s _ _ hp0, ← hpw, if_pos (by omega)]; omega); (rcases (show (k : Int) < pg ∨ k = pg.toNat by omega) with h9 | h9; exact hpk k h9; (subst h9; rw [← hpw]; omega)))
                      · skip
                        have hri := hI.2.2 i3 (by omega) (by omega)
                        have hq28 := congrFun e28 i3
                        refine r_bipush C dX6_lay_86 (by decide) ?_
                        refine r_iload_n C dX6_lay_88 1 rfl ?_
                        refine r_imul C dX6_lay_89 ?_
                        refine r_aload_n C dX6_lay_90 0 rfl ?_
                        refine gX6_50 C dX6_lay_91 ?_
                        refine r_iload_n C dX6_lay_94 3 rfl ?_
                        refine r_iald 40 C dX6_lay_95 (by omega) (fun _ => rfl) (by omega) (by omega) (by decide) (fun g14 => ?_)
                        refine r_iadd C dX6_lay_96 ?_
                        refine r_istore C dX6_lay_97 (by decide) (fun z_ => [(5, iv z_), (0, .ref (a 18)), (1, iv v), (2, iv pg), (3, iv i3), (4, iv en)]) (fun _ => rfl) (fun ad ead => ?_)
                        have had : ad = 40 * v + ρ 28 i3 := by omega
                        have hq24 := congrFun e24 ad
                        have hq25 := congrFun e25 ad
                        have hq20 := congrFun e20 (ρ 28 i3)
                        have hpgb : pg < 40 := by omega
                        refine r_aload_n C dX6_lay_99 1 rfl ?_
                        refine gX6_65 C dX6_lay_100 ?_
                        refine r_iload C dX6_lay_103 0 rfl ?_
                        refine r_iload_n C dX6_lay_105 3 rfl ?_
                        refine r_iast 240 C dX6_lay_106 (by omega) (fun _ _ => rfl) (by omega) (by omega) (by decide) (by omega) ?_
                        refine r_aload_n C dX6_lay_107 1 rfl ?_
                        refine gX6_68 C dX6_lay_108 ?_
                        refine r_iload C dX6_lay_111 0 rfl ?_
                        refine r_aload_n C dX6_lay_113 1 rfl ?_
                        refine gX6_38 C dX6_lay_114 ?_
                        refine r_iload C dX6_lay_117 0 rfl ?_
                        refine r_iald 240 C dX6_lay_119 (by omega) (fun _ => rfl) (by omega) (by omega) (by decide) (fun g18 => ?_)
                        rw [up2_ne (show (24 : Nat) ≠ 33 from by decide)] at g18 ⊢
                        rw [hq24]
                        refine r_iast 240 C dX6_lay_120 (by omega) (fun _ _ => rfl) (by omega) (by omega) (by decide) (by omega) ?_
                        refine r_aload_n C dX6_lay_121 1 rfl ?_
                        refine gX6_71 C dX6_lay_122 ?_
                        refine r_iload C dX6_lay_125 0 rfl ?_
                        refine r_aload_n C dX6_lay_127 1 rfl ?_
                        refine gX6_41 C dX6_lay_128 ?_
                        refine r_iload C dX6_lay_131 0 rfl ?_
                        refine r_iald 240 C dX6_lay_133 (by omega) (fun _ => rfl) (by omega) (by omega) (by decide) (fun g21 => ?_)
                        rw [up2_ne (show (25 : Nat) ≠ 34 from by decide)] at g21 ⊢
                        rw [up2_ne (show (25 : Nat) ≠ 33 from by decide)] at g21 ⊢
                        rw [hq25]
                        refine r_iast 240 C dX6_lay_134 (by omega) (fun _ _ => rfl) (by omega) (by omega) (by decide) (by omega) ?_
                        refine r_aload_n C dX6_lay_135 1 rfl ?_
                        refine gX6_74 C dX6_lay_136 ?_
                        refine r_iload C dX6_lay_139 0 rfl ?_
                        refine r_aload_n C dX6_lay_141 1 rfl ?_
                        refine gX6_26 C dX6_lay_142 ?_
                        refine r_aload_n C dX6_lay_145 1 rfl ?_
                        refine gX6_50 C dX6_lay_146 ?_
                        refine r_iload_n C dX6_lay_149 4 rfl ?_
                        refine r_iald 40 C dX6_lay_150 (by omega) (fun _ => rfl) (by omega) (by omega) (by decide) (fun g25 => ?_)
                        rw [up2_ne (show (28 : Nat) ≠ 35 from by decide)] at g25 ⊢
                        rw [up2_ne (show (28 : Nat) ≠ 34 from by decide)] at g25 ⊢
                        rw [up2_ne (show (28 : Nat) ≠ 33 from by decide)] at g25 ⊢
                        rw [hq28] at *
                        refine r_iald 40 C dX6_lay_151 (by omega) (fun _ => rfl) (by omega) (by omega) (by decide) (fun g26 => ?_)
                        rw [up2_ne (show (20 : Nat) ≠ 35 from by decide)] at g26 ⊢
                        rw [up2_ne (show (20 : Nat) ≠ 34 from by decide)] at g26 ⊢
                        rw [up2_ne (show (20 : Nat) ≠ 33 from by decide)] at g26 ⊢
                        rw [hq20]
                        refine r_iast 240 C dX6_lay_152 (by omega) (fun _ _ => rfl) (by omega) (by omega) (by decide) (by omega) ?_
                        refine r_iinc C dX6_lay_153 (by decide) 4 rfl (fun z_ => [(3, iv z_), (5, iv ad), (0, .ref (a 18)), (1, iv v), (2, iv pg), (4, iv en)]) (fun _ => rfl) (fun i2 ei2 => ?_)
                        refine r_goto (tgt := 80) C dX6_lay_156 (by decide) ?_
                        refine r_sub [2, 3, 4, 0, 5] (L' := [(0, .ref (a 18)), (1, iv v), (2, iv pg), (3, iv i2), (4, iv en)]) rfl ?_
                        exact ih80 _ _ (by omega) (by subst ei2; refine ⟨by omega, by omega, ?_⟩; have hgo := LayI.go (pg := pg.toNat) (ad := ad) hlb hz hrm0 (by omega) hri (fun k k0 k1 => by have := hro.lt k0 k1 (by omega); omega) (by rw [← hpw]; omega) (by show _ < walkF _ _ _; rw [show pg.toNat + 1 = (pg + 1).toNat by omega, walkF_s _ _ hp0, ← hpw, if_pos (by omega)]; omega) had; rw [show ((pg.toNat : Nat) : Int) = pg by omega] at hgo; exact hgo)
                  refine r_sub [1, 2, 3, 4, 0] (L' := [(0, .ref (a 18)), (1, iv v), (2, iv pg), (3, iv i), (4, iv en)]) rfl ?_
                  exact lp80 ((en - i : Int).toNat + 1) _ _ (by omega) (⟨by omega, by omega, hla⟩)
            refine r_sub [2, 3, 1, 0] (L' := [(0, .ref (a 18)), (1, iv v), (2, iv p0), (3, iv i0)]) rfl ?_
            exact lp62 ((ρ 18 18 : Int).toNat + 1) _ _ _ (by omega) (by subst ep0; subst ei0; refine ⟨by omega, by omega, by omega, rfl, fun k hk => by omega, fun c c1 _ _ _ => hb2 c c1, fun j hj => ⟨by rw [hb3 j, if_neg (by omega)], by rw [hb2 34 (by decide)], by rw [hb2 35 (by decide)], by rw [hb2 36 (by decide)]⟩, fun k k0 k1 => by omega, fun b9 b90 b91 _ => by rw [hb3, if_pos (by omega)]⟩)
          · skip
            refine r_aload_n C dX6_lay_40 0 rfl ?_
            refine gX6_65 C dX6_lay_41 ?_
            refine r_bipush C dX6_lay_44 (by decide) ?_
            refine r_iload_n C dX6_lay_46 1 rfl ?_
            refine r_imul C dX6_lay_47 ?_
            refine r_iload_n C dX6_lay_48 2 rfl ?_
            refine r_iadd C dX6_lay_49 ?_
            refine r_iconst C dX6_lay_50 ?_
            refine r_iast 240 C dX6_lay_51 (by omega) (fun _ _ => rfl) (by omega) (by omega) (by decide) (by omega) ?_
            refine r_iinc C dX6_lay_52 (by decide) 2 rfl (fun z_ => [(2, iv z_), (0, .ref (a 18)), (1, iv v)]) (fun _ => rfl) (fun b2 eb2 => ?_)
            refine r_goto (tgt := 34) C dX6_lay_55 (by decide) ?_
            refine r_sub [1, 2, 0] (L' := [(0, .ref (a 18)), (1, iv v), (2, iv b2)]) rfl ?_
            exact ih34 _ _ (by omega) (by subst eb2; refine ⟨by omega, by omega, fun c hc => by rw [up2_ne hc]; exact hb2 c hc, fun j => ?_⟩; by_cases hj : j = 40 * v + b; (subst hj; rw [up2_self, if_pos (by omega)]); (rw [up2_at hj, hb3 j]; by_cases h9 : 40 * v ≤ j ∧ j < 40 * v + b; (rw [if_pos h9, if_pos (by omega)]); (rw [if_neg h9, if_neg (by omega)])))
      refine r_sub [1, 2, 0] (L' := [(0, .ref (a 18)), (1, iv v), (2, iv b0)]) rfl ?_
      exact lp34 ((40 : Int).toNat + 1) _ _ (by omega) (by subst eb0; exact ⟨by omega, by omega, fun _ _ => rfl, fun j => by rw [if_neg (by omega)]⟩)
    · skip
      refine r_aload_n C dX6_lay_26 0 rfl ?_
      refine r_iconst C dX6_lay_27 ?_
      refine r_callI1 18 C dX6_lay_28 lkX6_92 (m_X6_finds (by omega) (MS.F (by assumption) _)) ⟨rfl, rfl, Nat.le_of_ble_eq_true rfl, Nat.le_of_ble_eq_true rfl⟩ ⟨Nat.zero_le _, Nat.zero_le _⟩ rc18 (Nat.le_of_ble_eq_true rfl) (fun r28 s29 hr28 => ?_)
      obtain ⟨er28, hr28⟩ := hr28
      exact hret _ _ _ _ dX6_lay_31 (by first | (refine Or.inr ⟨?_, ?_, ?_⟩ <;> first | omega | assumption) | exact Or.inl ⟨by omega, ρ, ⟨hfr, hro, hdp⟩, Or.inl ⟨by omega, by omega, by assumption⟩⟩ | (refine Or.inl ⟨by omega, ρ, ⟨hfr, hro, hdp⟩, Or.inr ⟨by omega, ?_⟩⟩; have hie : i = ρ 18 18 := (by omega); rw [hie] at hpw hla; refine ⟨?_, by omega, hpw.symm, hpk, τ3, hla, rfl⟩; rcases (show 1 ≤ pg ∨ pg = 0 by omega) with h9 | h9; exact h9; (subst h9; simp [walkF] at hpw; omega)))
  · skip
    refine r_if_ne (tgt := 14) C dX6_lay_5 (by decide) (by decide) (fun q => absurd q (by decide)) (fun _ => ?_)
    refine r_aload_n C dX6_lay_8 0 rfl ?_
    refine r_iconst C dX6_lay_9 ?_
    refine r_callI1 18 C dX6_lay_10 lkX6_92 (m_X6_finds (by omega) (MS.F (by assumption) _)) ⟨rfl, rfl, Nat.le_of_ble_eq_true rfl, Nat.le_of_ble_eq_true rfl⟩ ⟨Nat.zero_le _, Nat.zero_le _⟩ rc18 (Nat.le_of_ble_eq_true rfl) (fun r31 s32 hr31 => ?_)
    obtain ⟨er31, hr31⟩ := hr31
    exact hret _ _ _ _ dX6_lay_13 (by first | (refine Or.inr ⟨?_, ?_, ?_⟩ <;> first | omega | assumption) | exact Or.inl ⟨by omega, ρ, ⟨hfr, hro, hdp⟩, Or.inl ⟨by omega, by omega, by assumption⟩⟩ | (refine Or.inl ⟨by omega, ρ, ⟨hfr, hro, hdp⟩, Or.inr ⟨by omega, ?_⟩⟩; have hie : i = ρ 18 18 := (by omega); rw [hie] at hpw hla; refine ⟨?_, by omega, hpw.symm, hpk, τ3, hla, rfl⟩; rcases (show 1 ≤ pg ∨ pg = 0 by omega) with h9 | h9; exact h9; (subst h9; simp [walkF] at hpw; omega)))
