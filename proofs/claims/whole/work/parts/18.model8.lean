/-- the page that the reference has when bars ahead of b are done -/
def pgS (σ : ST) (v : Int) : Nat → Int
  | 0 => 0
  | b + 1 => if 0 ≤ σ 33 (40 * v + b) then σ 33 (40 * v + b) else pgS σ v b
theorem pgS_s (σ : ST) (v : Int) {b : Int} (h : 0 ≤ b) : pgS σ v (b + 1).toNat = if 0 ≤ σ 33 (40 * v + b) then σ 33 (40 * v + b) else pgS σ v b.toNat := by
  rw [show (b + 1).toNat = b.toNat + 1 by omega]
  show (if 0 ≤ σ 33 (40 * v + (b.toNat : Int)) then σ 33 (40 * v + (b.toNat : Int)) else _) = _
  rw [show ((b.toNat : Nat) : Int) = b by omega]
/-- a bar makes its page stale -/
def dsM (σ : ST) (v b : Int) : Prop := (0 ≤ σ 33 (40 * v + b) ∧ (¬ σ 34 (40 * v + b) = σ 24 (40 * v + b) ∨ ¬ σ 35 (40 * v + b) = σ 25 (40 * v + b) ∨ ¬ σ 36 (40 * v + b) = σ 20 b)) ∨ (¬ 0 ≤ σ 33 (40 * v + b) ∧ ¬ 3 < σ 20 b)
def sumF (f : Int → Int) : Nat → Int
  | 0 => 0
  | k + 1 => sumF f k + (if f k = 0 then 0 else 1)
theorem sumF_s (f : Int → Int) {k : Int} (h : 0 ≤ k) : sumF f (k + 1).toNat = sumF f k.toNat + (if f k = 0 then 0 else 1) := by
  rw [show (k + 1).toNat = k.toNat + 1 by omega]
  show sumF f k.toNat + (if f (k.toNat : Int) = 0 then 0 else 1) = _
  rw [show ((k.toNat : Nat) : Int) = k by omega]
theorem sumF_bd (f : Int → Int) : ∀ k : Nat, 0 ≤ sumF f k ∧ sumF f k ≤ k
  | 0 => by simp [sumF]
  | k + 1 => by
    have := sumF_bd f k
    unfold sumF
    split <;> omega
/-- which pages are stale, told of bars ahead of b -/
def StF (σ : ST) (v : Int) (f : Int → Int) (b : Int) : Prop := ∀ p, 0 ≤ p → p < 40 → (f p = 1 ∧ ∃ d, 0 ≤ d ∧ d < b ∧ dsM σ v d ∧ pgS σ v (d + 1).toNat = p) ∨ (f p = 0 ∧ ∀ d, 0 ≤ d → d < b → dsM σ v d → pgS σ v (d + 1).toNat ≠ p)
def StI (σ : ST) (v : Int) (τ : ST) (b pg : Int) : Prop := 0 ≤ b ∧ b ≤ σ 18 0 ∧ (∀ c, c ≠ 37 → τ c = σ c) ∧ pg = pgS σ v b.toNat ∧ (0 ≤ pg ∧ pg < 40) ∧ StF σ v (τ 37) b
theorem StI.no {σ τ : ST} {v b pg pg2 : Int} (h : StI σ v τ b pg) (hb : b < σ 18 0) (hp : pg2 = pgS σ v (b + 1).toNat) (hp2 : 0 ≤ pg2 ∧ pg2 < 40) (hd : ¬ dsM σ v b) : StI σ v τ (b + 1) pg2 := by
  obtain ⟨h1, h2, h3, h4, h5, h6⟩ := h
  refine ⟨by omega, by omega, h3, hp, hp2, fun p p0 p1 => ?_⟩
  rcases h6 p p0 p1 with ⟨a1, d, d0, d1, d2, d3⟩ | ⟨a1, a2⟩
  · exact Or.inl ⟨a1, d, d0, by omega, d2, d3⟩
  · refine Or.inr ⟨a1, fun d d0 d1 d2 => ?_⟩
    by_cases hdb : d = b
    · subst hdb; exact absurd d2 hd
    · exact a2 d d0 (by omega) d2
theorem StI.yes {σ τ : ST} {v b pg pg2 : Int} (h : StI σ v τ b pg) (hb : b < σ 18 0) (hp : pg2 = pgS σ v (b + 1).toNat) (hp2 : 0 ≤ pg2 ∧ pg2 < 40) (hd : dsM σ v b) : StI σ v (up2 τ 37 pg2 1) (b + 1) pg2 := by
  obtain ⟨h1, h2, h3, h4, h5, h6⟩ := h
  refine ⟨by omega, by omega, fun c hc => by rw [up2_ne hc]; exact h3 c hc, hp, hp2, fun p p0 p1 => ?_⟩
  by_cases hpp : p = pg2
  · subst hpp
    exact Or.inl ⟨up2_self, b, h1, by omega, hd, hp.symm⟩
  · rw [up2_at hpp]
    rcases h6 p p0 p1 with ⟨a1, d, d0, d1, d2, d3⟩ | ⟨a1, a2⟩
    · exact Or.inl ⟨a1, d, d0, by omega, d2, d3⟩
    · refine Or.inr ⟨a1, fun d d0 d1 d2 => ?_⟩
      by_cases hdb : d = b
      · subst hdb; rw [← hp]; omega
      · exact a2 d d0 (by omega) d2
set_option maxHeartbeats 4000000 in
set_option maxRecDepth 100000 in
theorem m_X6_stale {a : Nat → Nat} {n : Nat} {σ : ST} (hM : MS σ) {v : Int} (hv1 : inR v) : MI yX6_stale cX6_stale 5 .int (RM 2 43) a n σ [.ref (a 18), iv v] (fun r σ1 => ((0 ≤ v ∧ v < σ 18 1) ∧ σ 32 v = 0 ∧ r = -1000002 ∧ σ1 = fd σ 27 2) ∨ ((0 ≤ v ∧ v < σ 18 1) ∧ 0 < σ 32 v ∧ (∀ c, c ≠ 37 → σ1 c = σ c) ∧ StF σ v (σ1 37) (σ 18 0) ∧ r = sumF (σ1 37) (σ 32 v).toNat) ∨ (¬ (0 ≤ v ∧ v < σ 18 1) ∧ r = -1000001 ∧ σ1 = fd σ 27 1)) := by
  refine MI.of (own := RX6) (by decide +kernel) rfl (Nat.le_of_ble_eq_true rfl) ?_
  intro κ C hret
  show J κ 0 0 a n σ [(0, .ref (a 18)), (1, iv v)] 0 []
  obtain ⟨hb, hvn, hwt, hky, hdu, hwd, hli, hne, hse, hmk, hkd, hsh, hos, hpl, hld, hF, hlp, hpo⟩ := id hM
  have hlv := hlp v
  refine r_aload_n C dX6_stale_0 0 rfl ?_
  refine r_iload_n C dX6_stale_1 1 rfl ?_
  refine r_callB1 18 C dX6_stale_2 lkX6_96 (m_X6_isVoice (by omega) (by omega)) ⟨rfl, rfl, Nat.le_of_ble_eq_true rfl, Nat.le_of_ble_eq_true rfl⟩ ⟨Nat.zero_le _, Nat.zero_le _⟩ rc18 (Nat.le_of_ble_eq_true rfl) (fun h1 => ?_) (fun h1 => ?_)
  · skip
    refine r_if_ne (tgt := 14) C dX6_stale_5 (by decide) (by decide) (fun _ => ?_) (fun q => absurd q (by decide))
    refine r_aload_n C dX6_stale_14 0 rfl ?_
    refine gX6_62 C dX6_stale_15 ?_
    refine r_iload_n C dX6_stale_18 1 rfl ?_
    refine r_iald 6 C dX6_stale_19 (by omega) (fun _ => rfl) (by omega) (by omega) (by decide) (fun g4 => ?_)
    refine r_if_ne (tgt := 29) C dX6_stale_20 (by decide) (by omega) (fun h5 => ?_) (fun h5 => ?_)
    · skip
      refine r_iconst C dX6_stale_29 ?_
      refine r_istore_n C dX6_stale_30 (by decide) (fun z_ => [(2, iv z_), (0, .ref (a 18)), (1, iv v)]) (fun _ => rfl) (fun q0 eq0 => ?_)
      have lp31 : ∀ (N : Nat) (q : Int) (τ : ST), (40 - q : Int) < N → (0 ≤ q ∧ q ≤ 40 ∧ (∀ c, c ≠ 37 → τ c = σ c) ∧ ∀ p, 0 ≤ p → p < q → τ 37 p = 0) → J κ 0 0 a n τ [(0, .ref (a 18)), (1, iv v), (2, iv q)] 31 [] := by
        intro N
        induction N with
        | zero =>
          intro q τ hm31 hi31
          exact absurd hm31 (by omega)
        | succ N ih31 =>
          intro q τ hm31 hi31
          obtain ⟨hq0, hq1, hq2, hq3⟩ := hi31
          refine r_iload_n C dX6_stale_31 2 rfl ?_
          refine r_bipush C dX6_stale_32 (by decide) ?_
          refine r_icmp_ge (tgt := 50) C dX6_stale_34 (by decide) (by omega) (by omega) (fun h6 => ?_) (fun h6 => ?_)
          · skip
            refine r_iconst C dX6_stale_50 ?_
            refine r_istore_n C dX6_stale_51 (by decide) (fun z_ => [(2, iv z_), (0, .ref (a 18)), (1, iv v)]) (fun _ => rfl) (fun p0 ep0 => ?_)
            refine r_iconst C dX6_stale_52 ?_
            refine r_istore_n C dX6_stale_53 (by decide) (fun z_ => [(3, iv z_), (2, iv p0), (0, .ref (a 18)), (1, iv v)]) (fun _ => rfl) (fun b0 eb0 => ?_)
            have lp54 : ∀ (N : Nat) (pg : Int) (b : Int) (τ2 : ST), (σ 18 0 - b : Int) < N → (StI σ v τ2 b pg) → J κ 0 0 a n τ2 [(0, .ref (a 18)), (1, iv v), (2, iv pg), (3, iv b)] 54 [] := by
              intro N
              induction N with
              | zero =>
                intro pg b τ2 hm54 hi54
                exact absurd hm54 (by have := hi54.2.1; omega)
              | succ N ih54 =>
                intro pg b τ2 hm54 hi54
                have hb0 := hi54.1
                have hb1 := hi54.2.1
                have hE := hi54.2.2.1
                have hpgb := hi54.2.2.2.2.1
                have hpge := hi54.2.2.2.1
                have e18 := hE 18 (by decide)
                have e0 : τ2 18 0 = σ 18 0 := by rw [e18]
                refine r_iload_n C dX6_stale_54 3 rfl ?_
                refine r_aload_n C dX6_stale_55 0 rfl ?_
                refine gX6_82 C dX6_stale_56 (fun g7 => ?_)
                refine r_icmp_ge (tgt := 169) C dX6_stale_59 (by decide) (by omega) (by omega) (fun h8 => ?_) (fun h8 => ?_)
                · skip
                  refine r_iconst C dX6_stale_169 ?_
                  refine r_istore_n C dX6_stale_170 (by decide) (fun z_ => [(3, iv z_), (0, .ref (a 18)), (1, iv v), (2, iv pg)]) (fun _ => rfl) (fun n0 en0 => ?_)
                  refine r_iconst C dX6_stale_171 ?_
                  refine r_istore C dX6_stale_172 (by decide) (fun z_ => [(4, iv z_), (3, iv n0), (0, .ref (a 18)), (1, iv v), (2, iv pg)]) (fun _ => rfl) (fun k0 ek0 => ?_)
                  have lp174 : ∀ (N : Nat) (nn : Int) (k : Int), (σ 32 v - k : Int) < N → (0 ≤ k ∧ k ≤ σ 32 v ∧ nn = sumF (τ2 37) k.toNat) → J κ 0 0 a n τ2 [(0, .ref (a 18)), (1, iv v), (2, iv pg), (3, iv nn), (4, iv k)] 174 [] := by
                    intro N
                    induction N with
                    | zero =>
                      intro nn k hm174 hi174
                      exact absurd hm174 (by omega)
                    | succ N ih174 =>
                      intro nn k hm174 hi174
                      obtain ⟨hk0, hk1, hkn⟩ := hi174
                      have hsb := sumF_bd (τ2 37) k.toNat
                      have q32 := congrFun (hE 32 (by decide)) v
                      refine r_iload C dX6_stale_174 4 rfl ?_
                      refine r_aload_n C dX6_stale_176 0 rfl ?_
                      refine gX6_62 C dX6_stale_177 ?_
                      refine r_iload_n C dX6_stale_180 1 rfl ?_
                      refine r_iald 6 C dX6_stale_181 (by omega) (fun _ => rfl) (by omega) (by omega) (by decide) (fun g10 => ?_)
                      refine r_icmp_ge (tgt := 209) C dX6_stale_182 (by decide) (by omega) (by omega) (fun h11 => ?_) (fun h11 => ?_)
                      · skip
                        refine r_iload_n C dX6_stale_209 3 rfl ?_
                        exact hret _ _ _ _ dX6_stale_210 (by first | (refine Or.inr (Or.inr ⟨?_, ?_, ?_⟩) <;> first | omega | assumption) | (refine Or.inl ⟨?_, ?_, ?_, ?_⟩ <;> first | omega | assumption) | (refine Or.inr (Or.inl ⟨by omega, by omega, hE, ?_, ?_⟩); (rw [show σ 18 0 = b by omega]; exact hi54.2.2.2.2.2); (rw [show σ 32 v = k by omega]; exact hkn)))
                      · skip
                        refine r_iload_n C dX6_stale_185 3 rfl ?_
                        refine r_aload_n C dX6_stale_186 0 rfl ?_
                        refine gX6_77 C dX6_stale_187 ?_
                        refine r_iload C dX6_stale_190 4 rfl ?_
                        refine r_zald 40 C dX6_stale_192 (by omega) (fun _ => rfl) (by omega) (by omega) (by decide) (fun g13 => ?_)
                        refine r_if_eq (tgt := 200) C dX6_stale_193 (by decide) (by omega) (fun hsp => ?_) (fun hsp => ?_)
                        · skip
                          refine r_iconst C dX6_stale_200 ?_
                          refine r_iadd C dX6_stale_201 ?_
                          refine r_istore_n C dX6_stale_202 (by decide) (fun z_ => [(3, iv z_), (0, .ref (a 18)), (1, iv v), (2, iv pg), (4, iv k)]) (fun _ => rfl) (fun n2 en2 => ?_)
                          refine r_iinc C dX6_stale_203 (by decide) 4 rfl (fun z_ => [(4, iv z_), (3, iv n2), (0, .ref (a 18)), (1, iv v), (2, iv pg)]) (fun _ => rfl) (fun k2 ek2 => ?_)
                          refine r_goto (tgt := 174) C dX6_stale_206 (by decide) ?_
                          refine r_sub [2, 3, 4, 1, 0] (L' := [(0, .ref (a 18)), (1, iv v), (2, iv pg), (3, iv n2), (4, iv k2)]) rfl ?_
                          exact ih174 _ _ (by omega) (by subst en2; subst ek2; refine ⟨by omega, by omega, ?_⟩; rw [sumF_s _ hk0]; first | (rw [if_pos hsp]; omega) | (rw [if_neg hsp]; omega))
                        · skip
                          refine r_iconst C dX6_stale_196 ?_
                          refine r_goto (tgt := 201) C dX6_stale_197 (by decide) ?_
                          refine r_iadd C dX6_stale_201 ?_
                          refine r_istore_n C dX6_stale_202 (by decide) (fun z_ => [(3, iv z_), (0, .ref (a 18)), (1, iv v), (2, iv pg), (4, iv k)]) (fun _ => rfl) (fun n2 en2 => ?_)
                          refine r_iinc C dX6_stale_203 (by decide) 4 rfl (fun z_ => [(4, iv z_), (3, iv n2), (0, .ref (a 18)), (1, iv v), (2, iv pg)]) (fun _ => rfl) (fun k2 ek2 => ?_)
                          refine r_goto (tgt := 174) C dX6_stale_206 (by decide) ?_
                          refine r_sub [2, 3, 4, 1, 0] (L' := [(0, .ref (a 18)), (1, iv v), (2, iv pg), (3, iv n2), (4, iv k2)]) rfl ?_
                          exact ih174 _ _ (by omega) (by subst en2; subst ek2; refine ⟨by omega, by omega, ?_⟩; rw [sumF_s _ hk0]; first | (rw [if_pos hsp]; omega) | (rw [if_neg hsp]; omega))
                  refine r_sub [2, 3, 4, 1, 0] (L' := [(0, .ref (a 18)), (1, iv v), (2, iv pg), (3, iv n0), (4, iv k0)]) rfl ?_
                  exact lp174 ((σ 32 v : Int).toNat + 1) _ _ (by omega) (by subst en0; subst ek0; exact ⟨by omega, by omega, rfl⟩)
                · skip
                  refine r_bipush C dX6_stale_62 (by decide) ?_
                  refine r_iload_n C dX6_stale_64 1 rfl ?_
                  refine r_imul C dX6_stale_65 ?_
                  refine r_iload_n C dX6_stale_66 3 rfl ?_
                  refine r_iadd C dX6_stale_67 ?_
                  refine r_istore C dX6_stale_68 (by decide) (fun z_ => [(4, iv z_), (0, .ref (a 18)), (1, iv v), (2, iv pg), (3, iv b)]) (fun _ => rfl) (fun ad ead => ?_)
                  have q33 := congrFun (hE 33 (by decide)) ad
                  have q34 := congrFun (hE 34 (by decide)) ad
                  have q35 := congrFun (hE 35 (by decide)) ad
                  have q36 := congrFun (hE 36 (by decide)) ad
                  have q24 := congrFun (hE 24 (by decide)) ad
                  have q25 := congrFun (hE 25 (by decide)) ad
                  have q20 := congrFun (hE 20 (by decide)) b
                  have hpoa := hpo ad
                  have hps := pgS_s σ v (show (0 : Int) ≤ b by omega)
                  rw [← ead] at hps
                  refine r_aload_n C dX6_stale_70 1 rfl ?_
                  refine gX6_65 C dX6_stale_71 ?_
                  refine r_iload C dX6_stale_74 0 rfl ?_
                  refine r_iald 240 C dX6_stale_76 (by omega) (fun _ => rfl) (by omega) (by omega) (by decide) (fun g16 => ?_)
                  refine r_if_lt (tgt := 148) C dX6_stale_77 (by decide) (by omega) (fun hpo0 => ?_) (fun hpo0 => ?_)
                  · skip
                    refine r_aload_n C dX6_stale_148 1 rfl ?_
                    refine r_iload_n C dX6_stale_149 4 rfl ?_
                    refine r_callB1 18 C dX6_stale_150 lkX6_103 (m_X6_isCut (by omega)) ⟨rfl, rfl, Nat.le_of_ble_eq_true rfl, Nat.le_of_ble_eq_true rfl⟩ ⟨Nat.zero_le _, Nat.zero_le _⟩ rc18 (Nat.le_of_ble_eq_true rfl) (fun hcut => ?_) (fun hcut => ?_)
                    · skip
                      refine r_if_ne (tgt := 163) C dX6_stale_153 (by decide) (by decide) (fun _ => ?_) (fun q => absurd q (by decide))
                      refine r_iinc C dX6_stale_163 (by decide) 4 rfl (fun z_ => [(3, iv z_), (4, iv ad), (0, .ref (a 18)), (1, iv v), (2, iv pg)]) (fun _ => rfl) (fun b2 eb2 => ?_)
                      refine r_goto (tgt := 54) C dX6_stale_166 (by decide) ?_
                      refine r_sub [2, 3, 4, 0] (L' := [(0, .ref (a 18)), (1, iv v), (2, iv pg), (3, iv b2)]) rfl ?_
                      exact ih54 _ _ _ (by omega) (by subst eb2; first | (refine hi54.no (by omega) (by rw [hps]; first | (rw [if_pos (by omega)]; omega) | (rw [if_neg (by omega)]; omega)) (by omega) ?_; unfold dsM; rw [← ead]; omega) | (refine hi54.yes (by omega) (by rw [hps]; first | (rw [if_pos (by omega)]; omega) | (rw [if_neg (by omega)]; omega)) (by omega) ?_; unfold dsM; rw [← ead]; omega))
                    · skip
                      refine r_if_ne (tgt := 163) C dX6_stale_153 (by decide) (by decide) (fun q => absurd q (by decide)) (fun _ => ?_)
                      refine r_aload_n C dX6_stale_156 1 rfl ?_
                      refine gX6_77 C dX6_stale_157 ?_
                      refine r_iload_n C dX6_stale_160 3 rfl ?_
                      refine r_iconst C dX6_stale_161 ?_
                      refine r_zast 40 C dX6_stale_162 (by omega) (fun _ _ => rfl) (by omega) (by omega) (by decide) (by decide +kernel) (by decide) ?_
                      refine r_iinc C dX6_stale_163 (by decide) 4 rfl (fun z_ => [(3, iv z_), (4, iv ad), (0, .ref (a 18)), (1, iv v), (2, iv pg)]) (fun _ => rfl) (fun b2 eb2 => ?_)
                      refine r_goto (tgt := 54) C dX6_stale_166 (by decide) ?_
                      refine r_sub [2, 3, 4, 0] (L' := [(0, .ref (a 18)), (1, iv v), (2, iv pg), (3, iv b2)]) rfl ?_
                      exact ih54 _ _ _ (by omega) (by subst eb2; first | (refine hi54.no (by omega) (by rw [hps]; first | (rw [if_pos (by omega)]; omega) | (rw [if_neg (by omega)]; omega)) (by omega) ?_; unfold dsM; rw [← ead]; omega) | (refine hi54.yes (by omega) (by rw [hps]; first | (rw [if_pos (by omega)]; omega) | (rw [if_neg (by omega)]; omega)) (by omega) ?_; unfold dsM; rw [← ead]; omega))
                  · skip
                    refine r_aload_n C dX6_stale_80 1 rfl ?_
                    refine gX6_65 C dX6_stale_81 ?_
                    refine r_iload C dX6_stale_84 0 rfl ?_
                    refine r_iald 240 C dX6_stale_86 (by omega) (fun _ => rfl) (by omega) (by omega) (by decide) (fun g22 => ?_)
                    refine r_istore_n C dX6_stale_87 (by decide) (fun z_ => [(2, iv z_), (4, iv ad), (0, .ref (a 18)), (1, iv v), (3, iv b)]) (fun _ => rfl) (fun p2 ep2 => ?_)
                    refine r_aload_n C dX6_stale_88 2 rfl ?_
                    refine gX6_68 C dX6_stale_89 ?_
                    refine r_iload C dX6_stale_92 1 rfl ?_
                    refine r_iald 240 C dX6_stale_94 (by omega) (fun _ => rfl) (by omega) (by omega) (by decide) (fun g24 => ?_)
                    refine r_aload_n C dX6_stale_95 2 rfl ?_
                    refine gX6_38 C dX6_stale_96 ?_
                    refine r_iload C dX6_stale_99 1 rfl ?_
                    refine r_iald 240 C dX6_stale_101 (by omega) (fun _ => rfl) (by omega) (by omega) (by decide) (fun g26 => ?_)
                    refine r_icmp_ne (tgt := 138) C dX6_stale_102 (by decide) (by omega) (by omega) (fun hd1 => ?_) (fun hd1 => ?_)
                    · skip
                      refine r_aload_n C dX6_stale_138 2 rfl ?_
                      refine gX6_77 C dX6_stale_139 ?_
                      refine r_iload_n C dX6_stale_142 0 rfl ?_
                      refine r_iconst C dX6_stale_143 ?_
                      refine r_zast 40 C dX6_stale_144 (by omega) (fun _ _ => rfl) (by omega) (by omega) (by decide) (by decide +kernel) (by decide) ?_
                      refine r_goto (tgt := 163) C dX6_stale_145 (by decide) ?_
                      refine r_iinc C dX6_stale_163 (by decide) 4 rfl (fun z_ => [(3, iv z_), (2, iv p2), (4, iv ad), (0, .ref (a 18)), (1, iv v)]) (fun _ => rfl) (fun b2 eb2 => ?_)
                      refine r_goto (tgt := 54) C dX6_stale_166 (by decide) ?_
                      refine r_sub [3, 4, 1, 0] (L' := [(0, .ref (a 18)), (1, iv v), (2, iv p2), (3, iv b2)]) rfl ?_
                      exact ih54 _ _ _ (by omega) (by subst eb2; first | (refine hi54.no (by omega) (by rw [hps]; first | (rw [if_pos (by omega)]; omega) | (rw [if_neg (by omega)]; omega)) (by omega) ?_; unfold dsM; rw [← ead]; omega) | (refine hi54.yes (by omega) (by rw [hps]; first | (rw [if_pos (by omega)]; omega) | (rw [if_neg (by omega)]; omega)) (by omega) ?_; unfold dsM; rw [← ead]; omega))
                    · skip
                      refine r_aload_n C dX6_stale_105 2 rfl ?_
                      refine gX6_71 C dX6_stale_106 ?_
                      refine r_iload C dX6_stale_109 1 rfl ?_
                      refine r_iald 240 C dX6_stale_111 (by omega) (fun _ => rfl) (by omega) (by omega) (by decide) (fun g30 => ?_)
                      refine r_aload_n C dX6_stale_112 2 rfl ?_
                      refine gX6_41 C dX6_stale_113 ?_
                      refine r_iload C dX6_stale_116 1 rfl ?_
                      refine r_iald 240 C dX6_stale_118 (by omega) (fun _ => rfl) (by omega) (by omega) (by decide) (fun g32 => ?_)
                      refine r_icmp_ne (tgt := 138) C dX6_stale_119 (by decide) (by omega) (by omega) (fun hd2 => ?_) (fun hd2 => ?_)
                      · skip
                        refine r_aload_n C dX6_stale_138 2 rfl ?_
                        refine gX6_77 C dX6_stale_139 ?_
                        refine r_iload_n C dX6_stale_142 0 rfl ?_
                        refine r_iconst C dX6_stale_143 ?_
                        refine r_zast 40 C dX6_stale_144 (by omega) (fun _ _ => rfl) (by omega) (by omega) (by decide) (by decide +kernel) (by decide) ?_
                        refine r_goto (tgt := 163) C dX6_stale_145 (by decide) ?_
                        refine r_iinc C dX6_stale_163 (by decide) 4 rfl (fun z_ => [(3, iv z_), (2, iv p2), (4, iv ad), (0, .ref (a 18)), (1, iv v)]) (fun _ => rfl) (fun b2 eb2 => ?_)
                        refine r_goto (tgt := 54) C dX6_stale_166 (by decide) ?_
                        refine r_sub [3, 4, 1, 0] (L' := [(0, .ref (a 18)), (1, iv v), (2, iv p2), (3, iv b2)]) rfl ?_
                        exact ih54 _ _ _ (by omega) (by subst eb2; first | (refine hi54.no (by omega) (by rw [hps]; first | (rw [if_pos (by omega)]; omega) | (rw [if_neg (by omega)]; omega)) (by omega) ?_; unfold dsM; rw [← ead]; omega) | (refine hi54.yes (by omega) (by rw [hps]; first | (rw [if_pos (by omega)]; omega) | (rw [if_neg (by omega)]; omega)) (by omega) ?_; unfold dsM; rw [← ead]; omega))
                      · skip
                        refine r_aload_n C dX6_stale_122 2 rfl ?_
                        refine gX6_74 C dX6_stale_123 ?_
                        refine r_iload C dX6_stale_126 1 rfl ?_
                        refine r_iald 240 C dX6_stale_128 (by omega) (fun _ => rfl) (by omega) (by omega) (by decide) (fun g36 => ?_)
                        refine r_aload_n C dX6_stale_129 2 rfl ?_
                        refine gX6_26 C dX6_stale_130 ?_
                        refine r_iload_n C dX6_stale_133 4 rfl ?_
                        refine r_iald 40 C dX6_stale_134 (by omega) (fun _ => rfl) (by omega) (by omega) (by decide) (fun g38 => ?_)
                        refine r_icmp_eq (tgt := 163) C dX6_stale_135 (by decide) (by omega) (by omega) (fun hd3 => ?_) (fun hd3 => ?_)
                        · skip
                          refine r_iinc C dX6_stale_163 (by decide) 4 rfl (fun z_ => [(3, iv z_), (2, iv p2), (4, iv ad), (0, .ref (a 18)), (1, iv v)]) (fun _ => rfl) (fun b2 eb2 => ?_)
                          refine r_goto (tgt := 54) C dX6_stale_166 (by decide) ?_
                          refine r_sub [3, 4, 1, 0] (L' := [(0, .ref (a 18)), (1, iv v), (2, iv p2), (3, iv b2)]) rfl ?_
                          exact ih54 _ _ _ (by omega) (by subst eb2; first | (refine hi54.no (by omega) (by rw [hps]; first | (rw [if_pos (by omega)]; omega) | (rw [if_neg (by omega)]; omega)) (by omega) ?_; unfold dsM; rw [← ead]; omega) | (refine hi54.yes (by omega) (by rw [hps]; first | (rw [if_pos (by omega)]; omega) | (rw [if_neg (by omega)]; omega)) (by omega) ?_; unfold dsM; rw [← ead]; omega))
                        · skip
                          refine r_aload_n C dX6_stale_138 2 rfl ?_
                          refine gX6_77 C dX6_stale_139 ?_
                          refine r_iload_n C dX6_stale_142 0 rfl ?_
                          refine r_iconst C dX6_stale_143 ?_
                          refine r_zast 40 C dX6_stale_144 (by omega) (fun _ _ => rfl) (by omega) (by omega) (by decide) (by decide +kernel) (by decide) ?_
                          refine r_goto (tgt := 163) C dX6_stale_145 (by decide) ?_
                          refine r_iinc C dX6_stale_163 (by decide) 4 rfl (fun z_ => [(3, iv z_), (2, iv p2), (4, iv ad), (0, .ref (a 18)), (1, iv v)]) (fun _ => rfl) (fun b2 eb2 => ?_)
                          refine r_goto (tgt := 54) C dX6_stale_166 (by decide) ?_
                          refine r_sub [3, 4, 1, 0] (L' := [(0, .ref (a 18)), (1, iv v), (2, iv p2), (3, iv b2)]) rfl ?_
                          exact ih54 _ _ _ (by omega) (by subst eb2; first | (refine hi54.no (by omega) (by rw [hps]; first | (rw [if_pos (by omega)]; omega) | (rw [if_neg (by omega)]; omega)) (by omega) ?_; unfold dsM; rw [← ead]; omega) | (refine hi54.yes (by omega) (by rw [hps]; first | (rw [if_pos (by omega)]; omega) | (rw [if_neg (by omega)]; omega)) (by omega) ?_; unfold dsM; rw [← ead]; omega))
            refine r_sub [2, 3, 1, 0] (L' := [(0, .ref (a 18)), (1, iv v), (2, iv p0), (3, iv b0)]) rfl ?_
            exact lp54 ((σ 18 0 : Int).toNat + 1) _ _ _ (by omega) (by subst ep0; subst eb0; exact ⟨by omega, by omega, hq2, rfl, by omega, fun p p0 p1 => Or.inr ⟨hq3 p p0 (by omega), fun d d0 d1 => by omega⟩⟩)
          · skip
            refine r_aload_n C dX6_stale_37 0 rfl ?_
            refine gX6_77 C dX6_stale_38 ?_
            refine r_iload_n C dX6_stale_41 2 rfl ?_
            refine r_iconst C dX6_stale_42 ?_
            refine r_zast 40 C dX6_stale_43 (by omega) (fun _ _ => rfl) (by omega) (by omega) (by decide) (by decide +kernel) (by decide) ?_
            refine r_iinc C dX6_stale_44 (by decide) 2 rfl (fun z_ => [(2, iv z_), (0, .ref (a 18)), (1, iv v)]) (fun _ => rfl) (fun q2 eq2 => ?_)
            refine r_goto (tgt := 31) C dX6_stale_47 (by decide) ?_
            refine r_sub [1, 2, 0] (L' := [(0, .ref (a 18)), (1, iv v), (2, iv q2)]) rfl ?_
            exact ih31 _ _ (by omega) (by subst eq2; refine ⟨by omega, by omega, fun c hc => by rw [up2_ne hc]; exact hq2 c hc, fun p h1 h2 => ?_⟩; by_cases hp : p = q; (subst hp; exact up2_self); (rw [up2_at hp]; exact hq3 p h1 (by omega)))
      refine r_sub [1, 2, 0] (L' := [(0, .ref (a 18)), (1, iv v), (2, iv q0)]) rfl ?_
      exact lp31 ((40 : Int).toNat + 1) _ _ (by omega) (by subst eq0; exact ⟨by omega, by omega, fun _ _ => rfl, fun p h1 h2 => by omega⟩)
    · skip
      refine r_aload_n C dX6_stale_23 0 rfl ?_
      refine r_iconst C dX6_stale_24 ?_
      refine r_callI1 18 C dX6_stale_25 lkX6_92 (m_X6_finds (by omega) (MS.F (by assumption) _)) ⟨rfl, rfl, Nat.le_of_ble_eq_true rfl, Nat.le_of_ble_eq_true rfl⟩ ⟨Nat.zero_le _, Nat.zero_le _⟩ rc18 (Nat.le_of_ble_eq_true rfl) (fun r42 s43 hr42 => ?_)
      obtain ⟨er42, hr42⟩ := hr42
      exact hret _ _ _ _ dX6_stale_28 (by first | (refine Or.inr (Or.inr ⟨?_, ?_, ?_⟩) <;> first | omega | assumption) | (refine Or.inl ⟨?_, ?_, ?_, ?_⟩ <;> first | omega | assumption) | (refine Or.inr (Or.inl ⟨by omega, by omega, hE, ?_, ?_⟩); (rw [show σ 18 0 = b by omega]; exact hi54.2.2.2.2.2); (rw [show σ 32 v = k by omega]; exact hkn)))
  · skip
    refine r_if_ne (tgt := 14) C dX6_stale_5 (by decide) (by decide) (fun q => absurd q (by decide)) (fun _ => ?_)
    refine r_aload_n C dX6_stale_8 0 rfl ?_
    refine r_iconst C dX6_stale_9 ?_
    refine r_callI1 18 C dX6_stale_10 lkX6_92 (m_X6_finds (by omega) (MS.F (by assumption) _)) ⟨rfl, rfl, Nat.le_of_ble_eq_true rfl, Nat.le_of_ble_eq_true rfl⟩ ⟨Nat.zero_le _, Nat.zero_le _⟩ rc18 (Nat.le_of_ble_eq_true rfl) (fun r45 s46 hr45 => ?_)
    obtain ⟨er45, hr45⟩ := hr45
    exact hret _ _ _ _ dX6_stale_13 (by first | (refine Or.inr (Or.inr ⟨?_, ?_, ?_⟩) <;> first | omega | assumption) | (refine Or.inl ⟨?_, ?_, ?_, ?_⟩ <;> first | omega | assumption) | (refine Or.inr (Or.inl ⟨by omega, by omega, hE, ?_, ?_⟩); (rw [show σ 18 0 = b by omega]; exact hi54.2.2.2.2.2); (rw [show σ 32 v = k by omega]; exact hkn)))
