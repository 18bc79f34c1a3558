def cuC (σ : ST) (n : Nat) (p : Int) : Int := cueF (σ 10) (Lc σ) (stC σ) n (σ 2 4) (σ 2 5) p
theorem hear_n {LD : Int → Int → Int} {stg : Int → Int} {v due i o : Int} (h : ¬ o = v) : hearF LD stg v due i o = if stg o = 0 then 0 else LD o (i - 1) + (if 1 < due then LD o (i - 2) else 0) := by
  unfold hearF
  by_cases h1 : stg o = 0
  · rw [if_pos (Or.inr h1), if_pos h1]
  · rw [if_neg (fun q => q.elim h h1), if_neg h1]
set_option maxHeartbeats 4000000 in
set_option maxRecDepth 100000 in
theorem m_X1_cueAt {a : Nat → Nat} {n : Nat} {σ : ST} {p : Int} (hI : PIn σ) (hC : CS σ n) (hd : 1 ≤ σ 2 5 ∧ σ 2 5 ≤ 20) (hp2 : -1 ≤ p ∧ p ≤ 40) : MP yX1_cueAt cX1_cueAt 6 .int (RM 2 46) a n σ [.ref (a 2), iv p] (fun r => ((0 ≤ p ∧ p < σ 2 3) ∧ (0 ≤ cuC σ n p ∧ cuC σ n p < 6) ∧ r = cuC σ n p) ∨ (¬ ((0 ≤ p ∧ p < σ 2 3) ∧ 0 ≤ cuC σ n p) ∧ r = -1000002)) := by
  refine MI.of (own := RX1) (by decide +kernel) rfl (Nat.le_of_ble_eq_true rfl) ?_
  intro κ C hret
  show J κ 0 0 a n σ [(0, .ref (a 2)), (1, iv p)] 0 []
  obtain ⟨hsz, hpin⟩ := id hI
  have hn1 := hC.2.1
  have hcb := cueF_bd (P := σ 10) (LD := Lc σ) (stg := stC σ) (nv := (n : Int)) (v := σ 2 4) (due := σ 2 5) (i := p) (by omega)
  refine r_aload_n C dX1_cueAt_0 0 rfl ?_
  refine r_iload_n C dX1_cueAt_1 1 rfl ?_
  refine r_callB1 2 C dX1_cueAt_2 lkX1_69 (m_X1_plays hI (by omega)) ⟨rfl, rfl, Nat.le_of_ble_eq_true rfl, Nat.le_of_ble_eq_true rfl⟩ ⟨Nat.zero_le _, Nat.zero_le _⟩ rc2 (Nat.le_of_ble_eq_true rfl) (fun hpl => ?_) (fun hpl => ?_)
  · skip
    refine r_if_eq (tgt := 16) C dX1_cueAt_5 (by decide) (by decide) (fun q => absurd q (by decide)) (fun _ => ?_)
    refine r_aload_n C dX1_cueAt_8 0 rfl ?_
    refine r_iload_n C dX1_cueAt_9 1 rfl ?_
    refine r_callB1 2 C dX1_cueAt_10 lkX1_72 (m_X1_restsAhead hI (by omega) (by omega) (by omega)) ⟨rfl, rfl, Nat.le_of_ble_eq_true rfl, Nat.le_of_ble_eq_true rfl⟩ ⟨Nat.zero_le _, Nat.zero_le _⟩ rc2 (Nat.le_of_ble_eq_true rfl) (fun hra => ?_) (fun hra => ?_)
    · skip
      refine r_if_ne (tgt := 19) C dX1_cueAt_13 (by decide) (by decide) (fun _ => ?_) (fun q => absurd q (by decide))
      have hdp := (hra (p - σ 2 5) (by omega) (by omega)).1
      refine r_ldc (-1000002) C dX1_cueAt_19 tw302 (by decide +kernel) ?_
      refine r_istore_n C dX1_cueAt_21 (by decide) (fun z_ => [(2, iv z_), (0, .ref (a 2)), (1, iv p)]) (fun _ => rfl) (fun l0 el0 => ?_)
      refine r_iconst C dX1_cueAt_22 ?_
      refine r_istore_n C dX1_cueAt_23 (by decide) (fun z_ => [(3, iv z_), (2, iv l0), (0, .ref (a 2)), (1, iv p)]) (fun _ => rfl) (fun m0 em0 => ?_)
      refine r_iconst C dX1_cueAt_24 ?_
      refine r_istore C dX1_cueAt_25 (by decide) (fun z_ => [(4, iv z_), (3, iv m0), (2, iv l0), (0, .ref (a 2)), (1, iv p)]) (fun _ => rfl) (fun o0 eo0 => ?_)
      have lp27 : ∀ (N : Nat) (ld : Int) (most : Int) (o : Int), (n - o : Int) < N → (0 ≤ o ∧ o ≤ n ∧ (0 ≤ most ∧ most ≤ 18) ∧ ∃ bb, (bb, most) = scanF (hearF (Lc σ) (stC σ) (σ 2 4) (σ 2 5) p) o.toNat ∧ ((bb = -1 ∧ ld = -1000002) ∨ (0 ≤ bb ∧ ld = bb))) → J κ 0 0 a n σ [(0, .ref (a 2)), (1, iv p), (2, iv ld), (3, iv most), (4, iv o)] 27 [] := by
        intro N
        induction N with
        | zero =>
          intro ld most o hm27 hi27
          exact absurd hm27 (by omega)
        | succ N ih27 =>
          intro ld most o hm27 hi27
          obtain ⟨ho1, ho2, ho3, bb, hsc, hbb⟩ := hi27
          refine r_iload C dX1_cueAt_27 4 rfl ?_
          refine r_aload_n C dX1_cueAt_29 0 rfl ?_
          refine gX1_9 C dX1_cueAt_30 ?_
          refine gX1_75 C dX1_cueAt_33 (fun g4 => ?_)
          refine r_icmp_ge (tgt := 79) C dX1_cueAt_36 (by decide) (by omega) (by omega) (fun h5 => ?_) (fun h5 => ?_)
          · skip
            refine r_iload_n C dX1_cueAt_79 2 rfl ?_
            exact hret _ _ _ _ dX1_cueAt_80 ⟨rfl, by have hcu : cuC σ n p = cueF (σ 10) (Lc σ) (stC σ) n (σ 2 4) (σ 2 5) p := rfl; first | (have hcu2 : cuC σ n p = (scanF (hearF (Lc σ) (stC σ) (σ 2 4) (σ 2 5) p) ((n : Int)).toNat).1 := cueF_all (by omega) (by omega) (fun j h1 h2 => (hra (p - j) (by omega) (by omega)).2) (by omega); rw [show (n : Int) = o by omega, ← hsc] at hcu2; have hcu3 : cuC σ n p = bb := hcu2; omega) | (refine Or.inr ⟨fun q9 => ?_, rfl⟩; have h8 : cuC σ n p = -1 := (by rw [hcu]; unfold cueF; rw [if_neg]; intro q8; first | exact hpl ⟨q9.1, by have := (hpin p q9.1.1 q9.1.2).2.2.1; omega⟩ | exact hra (fun q h1 h2 => ⟨by omega, by have h7 := (allZ_iff (σ 10) p (σ 2 5).toNat).mp q8.2.2 (p - q) (by omega) (by omega); rw [show p - (p - q) = q by omega] at h7; exact h7⟩)); omega)⟩
          · skip
            refine r_iload C dX1_cueAt_39 4 rfl ?_
            refine r_aload_n C dX1_cueAt_41 0 rfl ?_
            refine gX1_26 C dX1_cueAt_42 (fun g6 => ?_)
            refine r_icmp_ne (tgt := 52) C dX1_cueAt_45 (by decide) (by omega) (by omega) (fun hself => ?_) (fun hself => ?_)
            · skip
              refine r_aload_n C dX1_cueAt_52 0 rfl ?_
              refine r_iload C dX1_cueAt_53 4 rfl ?_
              refine r_iload_n C dX1_cueAt_55 1 rfl ?_
              refine r_callP2 2 C dX1_cueAt_56 lkX1_78 (m_X1_heardAhead hI (by omega) hC (by omega) (by omega) (by omega)) ⟨rfl, rfl, Nat.le_of_ble_eq_true rfl, Nat.le_of_ble_eq_true rfl⟩ ⟨Nat.zero_le _, Nat.zero_le _⟩ rc2 (Nat.le_of_ble_eq_true rfl) (fun ht hht => ?_)
              refine r_istore C dX1_cueAt_59 (by decide) (fun z_ => [(5, iv z_), (0, .ref (a 2)), (1, iv p), (2, iv ld), (3, iv most), (4, iv o)]) (fun _ => rfl) (fun he ehe => ?_)
              refine r_iload C dX1_cueAt_61 0 rfl ?_
              refine r_iload_n C dX1_cueAt_63 4 rfl ?_
              refine r_icmp_le (tgt := 73) C dX1_cueAt_64 (by decide) (by omega) (by omega) (fun hle => ?_) (fun hle => ?_)
              · skip
                refine r_iinc C dX1_cueAt_73 (by decide) 5 rfl (fun z_ => [(4, iv z_), (5, iv he), (0, .ref (a 2)), (1, iv p), (2, iv ld), (3, iv most)]) (fun _ => rfl) (fun o2 eo2 => ?_)
                refine r_goto (tgt := 27) C dX1_cueAt_76 (by decide) ?_
                refine r_sub [2, 3, 4, 5, 0] (L' := [(0, .ref (a 2)), (1, iv p), (2, iv ld), (3, iv most), (4, iv o2)]) rfl ?_
                exact ih27 _ _ _ (by omega) (by subst eo2; refine ⟨by omega, by omega, by omega, ?_⟩; have hhe : he = hearF (Lc σ) (stC σ) (σ 2 4) (σ 2 5) p o := (by first | (rw [hear_0 (Or.inl hself)]; exact ehe) | (rw [hear_n hself, ← hht.1]; exact ehe)); first | exact ⟨bb, scan_skip hsc ho1 (by omega), hbb⟩ | (refine ⟨o, ?_, Or.inr ⟨ho1, el2⟩⟩; rw [em2]; exact scan_take hsc ho1 hhe (by omega)))
              · skip
                refine r_iload C dX1_cueAt_67 0 rfl ?_
                refine r_istore_n C dX1_cueAt_69 (by decide) (fun z_ => [(3, iv z_), (5, iv he), (0, .ref (a 2)), (1, iv p), (2, iv ld), (4, iv o)]) (fun _ => rfl) (fun m2 em2 => ?_)
                refine r_iload C dX1_cueAt_70 5 rfl ?_
                refine r_istore_n C dX1_cueAt_72 (by decide) (fun z_ => [(2, iv z_), (3, iv m2), (5, iv he), (0, .ref (a 2)), (1, iv p), (4, iv o)]) (fun _ => rfl) (fun l2 el2 => ?_)
                refine r_iinc C dX1_cueAt_73 (by decide) 5 rfl (fun z_ => [(4, iv z_), (2, iv l2), (3, iv m2), (5, iv he), (0, .ref (a 2)), (1, iv p)]) (fun _ => rfl) (fun o2 eo2 => ?_)
                refine r_goto (tgt := 27) C dX1_cueAt_76 (by decide) ?_
                refine r_sub [4, 5, 1, 2, 0] (L' := [(0, .ref (a 2)), (1, iv p), (2, iv l2), (3, iv m2), (4, iv o2)]) rfl ?_
                exact ih27 _ _ _ (by omega) (by subst eo2; refine ⟨by omega, by omega, by omega, ?_⟩; have hhe : he = hearF (Lc σ) (stC σ) (σ 2 4) (σ 2 5) p o := (by first | (rw [hear_0 (Or.inl hself)]; exact ehe) | (rw [hear_n hself, ← hht.1]; exact ehe)); first | exact ⟨bb, scan_skip hsc ho1 (by omega), hbb⟩ | (refine ⟨o, ?_, Or.inr ⟨ho1, el2⟩⟩; rw [em2]; exact scan_take hsc ho1 hhe (by omega)))
            · skip
              refine r_iconst C dX1_cueAt_48 ?_
              refine r_goto (tgt := 59) C dX1_cueAt_49 (by decide) ?_
              refine r_istore C dX1_cueAt_59 (by decide) (fun z_ => [(5, iv z_), (0, .ref (a 2)), (1, iv p), (2, iv ld), (3, iv most), (4, iv o)]) (fun _ => rfl) (fun he ehe => ?_)
              refine r_iload C dX1_cueAt_61 0 rfl ?_
              refine r_iload_n C dX1_cueAt_63 4 rfl ?_
              refine r_icmp_le (tgt := 73) C dX1_cueAt_64 (by decide) (by omega) (by omega) (fun hle => ?_) (fun hle => ?_)
              · skip
                refine r_iinc C dX1_cueAt_73 (by decide) 5 rfl (fun z_ => [(4, iv z_), (5, iv he), (0, .ref (a 2)), (1, iv p), (2, iv ld), (3, iv most)]) (fun _ => rfl) (fun o2 eo2 => ?_)
                refine r_goto (tgt := 27) C dX1_cueAt_76 (by decide) ?_
                refine r_sub [2, 3, 4, 5, 0] (L' := [(0, .ref (a 2)), (1, iv p), (2, iv ld), (3, iv most), (4, iv o2)]) rfl ?_
                exact ih27 _ _ _ (by omega) (by subst eo2; refine ⟨by omega, by omega, by omega, ?_⟩; have hhe : he = hearF (Lc σ) (stC σ) (σ 2 4) (σ 2 5) p o := (by first | (rw [hear_0 (Or.inl hself)]; exact ehe) | (rw [hear_n hself, ← hht.1]; exact ehe)); first | exact ⟨bb, scan_skip hsc ho1 (by omega), hbb⟩ | (refine ⟨o, ?_, Or.inr ⟨ho1, el2⟩⟩; rw [em2]; exact scan_take hsc ho1 hhe (by omega)))
              · skip
                refine r_iload C dX1_cueAt_67 0 rfl ?_
                refine r_istore_n C dX1_cueAt_69 (by decide) (fun z_ => [(3, iv z_), (5, iv he), (0, .ref (a 2)), (1, iv p), (2, iv ld), (4, iv o)]) (fun _ => rfl) (fun m2 em2 => ?_)
                refine r_iload C dX1_cueAt_70 5 rfl ?_
                refine r_istore_n C dX1_cueAt_72 (by decide) (fun z_ => [(2, iv z_), (3, iv m2), (5, iv he), (0, .ref (a 2)), (1, iv p), (4, iv o)]) (fun _ => rfl) (fun l2 el2 => ?_)
                refine r_iinc C dX1_cueAt_73 (by decide) 5 rfl (fun z_ => [(4, iv z_), (2, iv l2), (3, iv m2), (5, iv he), (0, .ref (a 2)), (1, iv p)]) (fun _ => rfl) (fun o2 eo2 => ?_)
                refine r_goto (tgt := 27) C dX1_cueAt_76 (by decide) ?_
                refine r_sub [4, 5, 1, 2, 0] (L' := [(0, .ref (a 2)), (1, iv p), (2, iv l2), (3, iv m2), (4, iv o2)]) rfl ?_
                exact ih27 _ _ _ (by omega) (by subst eo2; refine ⟨by omega, by omega, by omega, ?_⟩; have hhe : he = hearF (Lc σ) (stC σ) (σ 2 4) (σ 2 5) p o := (by first | (rw [hear_0 (Or.inl hself)]; exact ehe) | (rw [hear_n hself, ← hht.1]; exact ehe)); first | exact ⟨bb, scan_skip hsc ho1 (by omega), hbb⟩ | (refine ⟨o, ?_, Or.inr ⟨ho1, el2⟩⟩; rw [em2]; exact scan_take hsc ho1 hhe (by omega)))
      refine r_sub [3, 4, 2, 1, 0] (L' := [(0, .ref (a 2)), (1, iv p), (2, iv l0), (3, iv m0), (4, iv o0)]) rfl ?_
      exact lp27 ((n : Int).toNat + 1) _ _ _ (by omega) (by subst el0; subst em0; subst eo0; exact ⟨by omega, by omega, by omega, -1, rfl, Or.inl ⟨rfl, rfl⟩⟩)
    · skip
      refine r_if_ne (tgt := 19) C dX1_cueAt_13 (by decide) (by decide) (fun q => absurd q (by decide)) (fun _ => ?_)
      refine r_ldc (-1000002) C dX1_cueAt_16 tw302 (by decide +kernel) ?_
      exact hret _ _ _ _ dX1_cueAt_18 ⟨rfl, by have hcu : cuC σ n p = cueF (σ 10) (Lc σ) (stC σ) n (σ 2 4) (σ 2 5) p := rfl; first | (have hcu2 : cuC σ n p = (scanF (hearF (Lc σ) (stC σ) (σ 2 4) (σ 2 5) p) ((n : Int)).toNat).1 := cueF_all (by omega) (by omega) (fun j h1 h2 => (hra (p - j) (by omega) (by omega)).2) (by omega); rw [show (n : Int) = o by omega, ← hsc] at hcu2; have hcu3 : cuC σ n p = bb := hcu2; omega) | (refine Or.inr ⟨fun q9 => ?_, rfl⟩; have h8 : cuC σ n p = -1 := (by rw [hcu]; unfold cueF; rw [if_neg]; intro q8; first | exact hpl ⟨q9.1, by have := (hpin p q9.1.1 q9.1.2).2.2.1; omega⟩ | exact hra (fun q h1 h2 => ⟨by omega, by have h7 := (allZ_iff (σ 10) p (σ 2 5).toNat).mp q8.2.2 (p - q) (by omega) (by omega); rw [show p - (p - q) = q by omega] at h7; exact h7⟩)); omega)⟩
  · skip
    refine r_if_eq (tgt := 16) C dX1_cueAt_5 (by decide) (by decide) (fun _ => ?_) (fun q => absurd q (by decide))
    refine r_ldc (-1000002) C dX1_cueAt_16 tw302 (by decide +kernel) ?_
    exact hret _ _ _ _ dX1_cueAt_18 ⟨rfl, by have hcu : cuC σ n p = cueF (σ 10) (Lc σ) (stC σ) n (σ 2 4) (σ 2 5) p := rfl; first | (have hcu2 : cuC σ n p = (scanF (hearF (Lc σ) (stC σ) (σ 2 4) (σ 2 5) p) ((n : Int)).toNat).1 := cueF_all (by omega) (by omega) (fun j h1 h2 => (hra (p - j) (by omega) (by omega)).2) (by omega); rw [show (n : Int) = o by omega, ← hsc] at hcu2; have hcu3 : cuC σ n p = bb := hcu2; omega) | (refine Or.inr ⟨fun q9 => ?_, rfl⟩; have h8 : cuC σ n p = -1 := (by rw [hcu]; unfold cueF; rw [if_neg]; intro q8; first | exact hpl ⟨q9.1, by have := (hpin p q9.1.1 q9.1.2).2.2.1; omega⟩ | exact hra (fun q h1 h2 => ⟨by omega, by have h7 := (allZ_iff (σ 10) p (σ 2 5).toNat).mp q8.2.2 (p - q) (by omega) (by omega); rw [show p - (p - q) = q by omega] at h7; exact h7⟩)); omega)⟩

def DRI (σ τ : ST) (v d b : Int) : Prop := 0 ≤ b ∧ b ≤ σ 1 3 ∧ (∀ c, c ≠ 2 → c ≠ 9 → c ≠ 10 → τ c = σ c) ∧ τ 2 4 = v ∧ τ 2 5 = d ∧ τ 2 3 = cntN (σ 7) b.toNat ∧ ∀ c : Nat, (c : Int) < b → σ 7 c ≤ 3 → τ 9 (cntN (σ 7) c) = c ∧ τ 10 (cntN (σ 7) c) = σ (40 + 5 * v.toNat) c
theorem DRI.skip {σ τ : ST} {v d b : Int} (h : DRI σ τ v d b) (hb : b < σ 1 3) (hc : 3 < σ 7 b) : DRI σ τ v d (b + 1) := by
  obtain ⟨h1, h2, h3, h4, h5, h6, h7⟩ := h
  refine ⟨by omega, by omega, h3, h4, h5, ?_, fun c h8 h9 => ?_⟩
  · rw [cntN_s _ h1, if_neg (by omega)]; omega
  · by_cases h10 : (c : Int) = b
    · rw [h10] at h9; omega
    · exact h7 c (by omega) h9
theorem DRI.add {σ τ : ST} {v d b z : Int} (h : DRI σ τ v d b) (hb : b < σ 1 3) (hc : ¬ 3 < σ 7 b) (hz : z = σ (40 + 5 * v.toNat) b) : DRI σ (up2 (up2 (up2 τ 9 (τ 2 3) b) 10 (τ 2 3) z) 2 3 (τ 2 3 + 1)) v d (b + 1) := by
  obtain ⟨h1, h2, h3, h4, h5, h6, h7⟩ := h
  refine ⟨by omega, by omega, fun c c1 c2 c3 => by rw [up2_ne c1, up2_ne c3, up2_ne c2]; exact h3 c c1 c2 c3, ?_, ?_, ?_, fun c h8 h9 => ?_⟩
  · rw [up2_at (by decide), up2_ne (by decide), up2_ne (by decide)]; exact h4
  · rw [up2_at (by decide), up2_ne (by decide), up2_ne (by decide)]; exact h5
  · rw [up2_self, cntN_s _ h1, if_pos (by omega)]; omega
  · rw [up2_ne (show (9 : Nat) ≠ 2 by decide), up2_ne (show (9 : Nat) ≠ 10 by decide), up2_ne (show (10 : Nat) ≠ 2 by decide)]
    by_cases h10 : (c : Int) = b
    · have e : b.toNat = c := by omega
      rw [h6, e, up2_self, up2_self, hz, h10]
      exact ⟨rfl, rfl⟩
    · have h11 : cntN (σ 7) c < cntN (σ 7) b.toNat := cntN_lt _ (by omega) h9
      rw [up2_at (by omega), up2_at (by omega), up2_ne (show (10 : Nat) ≠ 9 by decide)]
      exact h7 c (by omega) h9
/-- what draw() leaves -/
def DrC (σ τ : ST) (v d : Int) : Prop := (∀ c, c ≠ 2 → c ≠ 9 → c ≠ 10 → τ c = σ c) ∧ τ 2 4 = v ∧ τ 2 5 = d ∧ RowOK (σ 7) (σ 1 3) (τ 9) (τ 2 3) ∧ ∀ i, 0 ≤ i → i < τ 2 3 → τ 10 i = σ (40 + 5 * v.toNat) (τ 9 i)
theorem DRI.done {σ τ : ST} {v d : Int} (h : DRI σ τ v d (σ 1 3)) : DrC σ τ v d := by
  obtain ⟨h1, h2, h3, h4, h5, h6, h7⟩ := h
  have hro : RowOK (σ 7) (σ 1 3) (τ 9) (τ 2 3) := ⟨h6, fun b hb hm => (h7 b hb hm).1⟩
  refine ⟨h3, h4, h5, hro, fun i i0 i1 => ?_⟩
  obtain ⟨b, b1, b2, b3, b4⟩ := hro.at i0 i1
  have := (h7 b b1 b2).2
  rw [b4, ← this, b3]
theorem DrC.fr {σ τ : ST} {v d : Int} (h : DrC σ τ v d) : FrC σ τ := fun c a1 _ a3 a4 _ _ _ _ _ _ => h.1 c a1 a3 a4
theorem DrC.pin {σ τ : ST} {v d : Int} {n : Nat} (h : DrC σ τ v d) (hC : CS σ n) (hv : 0 ≤ v ∧ v < n) : PIn τ := by
  have hb := h.2.2.2.1.bd hC.1.1
  have hn := hC.1
  refine ⟨by omega, fun i i0 i1 => ?_⟩
  obtain ⟨b, b1, b2, b3, b4⟩ := h.2.2.2.1.at i0 i1
  have h9 := h.2.2.2.2 i i0 i1
  have h8 := (hC.2.2.2.2.2.2.2.2.2.2.2 v.toNat (by omega)).2.2.2.2.1 (τ 9 i)
  rw [h.1 7 (by decide) (by decide) (by decide), h9]
  refine ⟨by omega, by rw [b4]; exact b2, h8⟩
set_option maxHeartbeats 4000000 in
set_option maxRecDepth 100000 in
theorem m_X1_draw {a : Nat → Nat} {n : Nat} {σ : ST} {v d : Int} (hC : CS σ n) (hv : 0 ≤ v ∧ v < n) (hd : inR d) : MV yX1_draw cX1_draw 5 (RM 2 42) a n σ [.ref (a 2), iv v, iv d] (fun σ1 => DrC σ σ1 v d) := by
  refine MV.of (own := RX1) (by decide +kernel) rfl (Nat.le_of_ble_eq_true rfl) ?_
  intro κ C hret
  show J κ 0 0 a n σ [(0, .ref (a 2)), (1, iv v), (2, iv d)] 0 []
  have hn1 := hC.2.1
  have hb := hC.1
  have hk := hC.2.2.2.2.2.2.2.2.2.2.1
  refine r_aload_n C dX1_draw_0 0 rfl ?_
  refine r_iload_n C dX1_draw_1 1 rfl ?_
  refine pX1_26 C dX1_draw_2 (by omega) ?_
  refine r_aload_n C dX1_draw_5 0 rfl ?_
  refine r_iload_n C dX1_draw_6 2 rfl ?_
  refine pX1_29 C dX1_draw_7 (by omega) ?_
  refine r_aload_n C dX1_draw_10 0 rfl ?_
  refine r_iconst C dX1_draw_11 ?_
  refine pX1_22 C dX1_draw_12 (by omega) ?_
  refine r_st (fun ρ hρ => ?_)
  have hr1 : ρ 1 = σ 1 := by rw [hρ, up2_ne (by decide), up2_ne (by decide), up2_ne (by decide)]
  have hr14 : ρ 1 4 = n := by rw [hr1]; exact hn1.1
  refine r_aload_n C dX1_draw_15 0 rfl ?_
  refine gX1_9 C dX1_draw_16 ?_
  refine r_iload_n C dX1_draw_19 1 rfl ?_
  refine r_callO1 1 C dX1_draw_20 lkX1_32 (m_X2_voiceAt (by omega) (by omega)) ⟨rfl, rfl, Nat.le_of_ble_eq_true rfl, Nat.le_of_ble_eq_true rfl⟩ ⟨Nat.zero_le _, Nat.zero_le _⟩ rc1 (Nat.le_of_ble_eq_true rfl) (fun r2 hr2 => ?_)
  rcases hr2 with ⟨er2, hr2⟩ | ⟨er2, hr2⟩
  · rw [er2]
    show J _ _ _ _ _ _ _ _ (.ref (a (39 + 5 * v.toNat)) :: _)
    refine r_astore_n C dX1_draw_23 (by decide) [(3, .ref (a (39 + 5 * v.toNat))), (0, .ref (a 2)), (1, iv v), (2, iv d)] rfl ?_
    refine r_aload_n C dX1_draw_24 0 rfl ?_
    refine r_ifnonnull (tgt := 29) C dX1_draw_25 (by decide) ?_
    refine r_iconst C dX1_draw_29 ?_
    refine r_istore C dX1_draw_30 (by decide) (fun z_ => [(4, iv z_), (3, .ref (a (39 + 5 * v.toNat))), (0, .ref (a 2)), (1, iv v), (2, iv d)]) (fun _ => rfl) (fun b0 eb0 => ?_)
    have lp32 : ∀ (N : Nat) (b : Int) (τ : ST), (40 - b : Int) < N → (0 ≤ b ∧ b ≤ 40 ∧ DRI σ τ v d (if b ≤ σ 1 3 then b else σ 1 3)) → J κ 0 0 a n τ [(0, .ref (a 2)), (1, iv v), (2, iv d), (3, .ref (a (39 + 5 * v.toNat))), (4, iv b)] 32 [] := by
      intro N
      induction N with
      | zero =>
        intro b τ hm32 hi32
        exact absurd hm32 (by omega)
      | succ N ih32 =>
        intro b τ hm32 hi32
        obtain ⟨hb0, hb1, hdr⟩ := hi32
        have hfr := hdr.2.2.1
        have e1 := hfr 1 (by decide) (by decide) (by decide)
        have e13 : τ 1 3 = σ 1 3 := by rw [e1]
        have e7 := hfr 7 (by decide) (by decide) (by decide)
        have hkt : ∀ j, 0 ≤ τ 7 j ∧ τ 7 j ≤ 7 := by rw [e7]; exact hk
        have e7b := congrFun e7 b
        refine r_iload C dX1_draw_32 4 rfl ?_
        refine r_bipush C dX1_draw_34 (by decide) ?_
        refine r_icmp_ge (tgt := 94) C dX1_draw_36 (by decide) (by omega) (by omega) (fun h3 => ?_) (fun h3 => ?_)
        · skip
          exact hret _ _ _ dX1_draw_94 (by first | (exfalso; omega) | (have h9 : (if b ≤ σ 1 3 then b else σ 1 3) = σ 1 3 := (by by_cases h8 : b ≤ σ 1 3; (rw [if_pos h8]; omega); rw [if_neg h8]); rw [h9] at hdr; exact hdr.done))
        · skip
          refine r_aload_n C dX1_draw_39 0 rfl ?_
          refine gX1_9 C dX1_draw_40 ?_
          refine r_iload C dX1_draw_43 4 rfl ?_
          refine r_callB1 1 C dX1_draw_45 lkX1_38 (m_X2_isThere (by omega) (by omega) hkt) ⟨rfl, rfl, Nat.le_of_ble_eq_true rfl, Nat.le_of_ble_eq_true rfl⟩ ⟨Nat.zero_le _, Nat.zero_le _⟩ rc1 (Nat.le_of_ble_eq_true rfl) (fun ht => ?_) (fun ht => ?_)
          · skip
            refine r_if_eq (tgt := 88) C dX1_draw_48 (by decide) (by decide) (fun q => absurd q (by decide)) (fun _ => ?_)
            have hcn := cntN_bd (σ 7) b.toNat
            have hcs : τ 2 3 = cntN (σ 7) b.toNat := by rw [if_pos (show b ≤ σ 1 3 by omega)] at hdr; exact hdr.2.2.2.2.2.1
            have hq39 : τ (40 + 5 * v.toNat) b = σ (40 + 5 * v.toNat) b := by rw [hfr (40 + 5 * v.toNat) (by omega) (by omega) (by omega)]
            refine r_aload_n C dX1_draw_51 0 rfl ?_
            refine gX1_15 C dX1_draw_52 ?_
            refine r_aload_n C dX1_draw_55 0 rfl ?_
            refine gX1_22 C dX1_draw_56 (fun g7 => ?_)
            refine r_iload C dX1_draw_59 4 rfl ?_
            refine r_iast 40 C dX1_draw_61 (by omega) (fun _ _ => rfl) (by omega) (by omega) (by decide) (by omega) ?_
            refine r_aload_n C dX1_draw_62 0 rfl ?_
            refine gX1_19 C dX1_draw_63 ?_
            refine r_aload_n C dX1_draw_66 0 rfl ?_
            refine gX1_22 C dX1_draw_67 (fun g9 => ?_)
            rw [up2_ne (show (2 : Nat) ≠ 9 from by decide)] at g9 ⊢
            refine r_aload_n C dX1_draw_70 3 rfl ?_
            refine gX1_42 v.toNat (by omega) C dX1_draw_71 ?_
            refine r_iload C dX1_draw_74 4 rfl ?_
            refine r_iald 40 C dX1_draw_76 (by omega) (fun _ => cF_vk _ (by omega) (by omega)) (by omega) (by omega) (by decide) (fun g11 => ?_)
            rw [up2_ne (show (40 + 5 * v.toNat : Nat) ≠ 9 from by omega)] at g11 ⊢
            rw [hq39]
            refine r_iast 40 C dX1_draw_77 (by omega) (fun _ _ => rfl) (by omega) (by omega) (by decide) (by omega) ?_
            refine r_aload_n C dX1_draw_78 0 rfl ?_
            refine r_dup C dX1_draw_79 rfl ?_
            refine gX1_22 C dX1_draw_80 (fun g12 => ?_)
            rw [up2_ne (show (2 : Nat) ≠ 10 from by decide)] at g12 ⊢
            rw [up2_ne (show (2 : Nat) ≠ 9 from by decide)] at g12 ⊢
            refine r_iconst C dX1_draw_83 ?_
            refine r_iadd C dX1_draw_84 ?_
            refine pX1_22 C dX1_draw_85 (by omega) ?_
            refine r_iinc C dX1_draw_88 (by decide) 4 rfl (fun z_ => [(4, iv z_), (0, .ref (a 2)), (1, iv v), (2, iv d), (3, .ref (a (39 + 5 * v.toNat)))]) (fun _ => rfl) (fun b2 eb2 => ?_)
            refine r_goto (tgt := 32) C dX1_draw_91 (by decide) ?_
            refine r_sub [1, 2, 3, 4, 0] (L' := [(0, .ref (a 2)), (1, iv v), (2, iv d), (3, .ref (a (39 + 5 * v.toNat))), (4, iv b2)]) rfl ?_
            exact ih32 _ _ (by omega) (by subst eb2; refine ⟨by omega, by omega, ?_⟩; rw [if_pos (show b ≤ σ 1 3 by omega)] at hdr; rw [if_pos (show b + 1 ≤ σ 1 3 by omega)]; exact hdr.add (by omega) (by omega) rfl)
          · skip
            refine r_if_eq (tgt := 88) C dX1_draw_48 (by decide) (by decide) (fun _ => ?_) (fun q => absurd q (by decide))
            refine r_iinc C dX1_draw_88 (by decide) 4 rfl (fun z_ => [(4, iv z_), (0, .ref (a 2)), (1, iv v), (2, iv d), (3, .ref (a (39 + 5 * v.toNat)))]) (fun _ => rfl) (fun b2 eb2 => ?_)
            refine r_goto (tgt := 32) C dX1_draw_91 (by decide) ?_
            refine r_sub [1, 2, 3, 4, 0] (L' := [(0, .ref (a 2)), (1, iv v), (2, iv d), (3, .ref (a (39 + 5 * v.toNat))), (4, iv b2)]) rfl ?_
            exact ih32 _ _ (by omega) (by subst eb2; refine ⟨by omega, by omega, ?_⟩; by_cases h9 : b < σ 1 3; (rw [if_pos (show b ≤ σ 1 3 by omega)] at hdr; rw [if_pos (show b + 1 ≤ σ 1 3 by omega)]; exact hdr.skip h9 (by omega)); (rw [if_neg (show ¬ b + 1 ≤ σ 1 3 by omega)]; by_cases h8 : b ≤ σ 1 3; (rw [if_pos h8, show b = σ 1 3 by omega] at hdr; exact hdr); (rw [if_neg h8] at hdr; exact hdr)))
    refine r_sub [2, 3, 4, 1, 0] (L' := [(0, .ref (a 2)), (1, iv v), (2, iv d), (3, .ref (a (39 + 5 * v.toNat))), (4, iv b0)]) rfl ?_
    exact lp32 ((40 : Int).toNat + 1) _ _ (by omega) (by subst eb0; refine ⟨by omega, by omega, ?_⟩; rw [if_pos (by omega), hρ]; exact ⟨by omega, by omega, fun c c1 _ _ => by rw [up2_ne c1, up2_ne c1, up2_ne c1], by rw [up2_at (by decide), up2_at (by decide), up2_self], by rw [up2_at (by decide), up2_self], up2_self, fun c h => by omega⟩)
  · rw [er2]
    show J _ _ _ _ _ _ _ _ (.null :: _)
    refine r_astore_nN C dX1_draw_23 (by decide) [(3, .null), (0, .ref (a 2)), (1, iv v), (2, iv d)] rfl ?_
    refine r_aload_nN C dX1_draw_24 0 rfl ?_
    refine r_ifnonnullN C dX1_draw_25 ?_
    exact hret _ _ _ dX1_draw_28 (by first | (exfalso; omega) | (have h9 : (if b ≤ σ 1 3 then b else σ 1 3) = σ 1 3 := (by by_cases h8 : b ≤ σ 1 3; (rw [if_pos h8]; omega); rw [if_neg h8]); rw [h9] at hdr; exact hdr.done))
