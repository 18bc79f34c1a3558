def AgF (σ τ : ST) : Prop := ∀ c, c ≠ 13 → c ≠ 14 → c ≠ 15 → (c ≠ 16 ∧ c ≠ 38) → τ c = σ c
theorem AgF.rf {σ : ST} : AgF σ σ := fun _ _ _ _ _ => rfl
theorem AgF.tr {σ τ ρ : ST} (h : AgF σ τ) (h2 : AgF τ ρ) : AgF σ ρ := fun c a1 a2 a3 a4 => (h2 c a1 a2 a3 a4).trans (h c a1 a2 a3 a4)
theorem AgF.one {σ τ : ST} (h : ∀ c, c ≠ 13 → τ c = σ c) : AgF σ τ := fun c a1 _ _ _ => h c a1
theorem AgF.up {σ τ : ST} (h : AgF σ τ) {c : Nat} (hc : c = 14 ∨ c = 15 ∨ c = 16 ∨ c = 38) (k z : Int) : AgF σ (up2 τ c k z) := fun d a1 a2 a3 a4 => by rw [up2_ne (by omega)]; exact h d a1 a2 a3 a4
theorem AgF.ag {σ τ : ST} (h : AgF σ τ) : AgC σ τ := fun c _ _ _ a4 a5 a6 a7 => h c a4 a5 a6 a7
theorem AgF.at3 {σ τ : ST} (h : AgF σ τ) : τ 3 = σ 3 := h 3 (by decide) (by decide) (by decide) (by decide)
theorem AgF.at11 {σ τ : ST} (h : AgF σ τ) : τ 11 = σ 11 := h 11 (by decide) (by decide) (by decide) (by decide)
theorem AgF.at12 {σ τ : ST} (h : AgF σ τ) : τ 12 = σ 12 := h 12 (by decide) (by decide) (by decide) (by decide)
theorem afwf {σ τ : ST} (h : AgF σ τ) : wfC τ = wfC σ := by
  funext p
  unfold wfC
  rw [h.ag.at10, h.at11]
theorem afsy {σ τ : ST} (h : AgF σ τ) : syC τ = syC σ := by
  funext i m
  unfold syC
  rw [h.at11, afwf h, h.at3]
theorem afbt {σ τ : ST} (h : AgF σ τ) : btC τ = btC σ := by
  funext j
  unfold btC
  rw [h.ag.at2, h.at12, h.at3]
theorem AgF.win {σ τ : ST} (h : AgF σ τ) (hW : WIn σ) : WIn τ := by
  unfold WIn
  rw [h.ag.at2, h.at11]
  exact hW
theorem btC_bd (σ : ST) (j : Int) : 0 ≤ btC σ j ∧ btC σ j ≤ 1 := by
  unfold btC
  split <;> omega
theorem sys1 {w wf : Int → Int} {wide x : Int} (h : wf x ≤ wide) : (1, wf x) = sysF w wf wide x (x + 1 - x).toNat := by
  have := sys_fit (w := w) (wf := wf) (wide := wide) (x := x) (i := x) (nn := 1) (fl := 0) (own := wf x) (by rw [show (x - x).toNat = 0 by omega]; rfl) (Int.le_refl _) (by rw [if_pos rfl]) (by omega)
  rw [Int.zero_add] at this
  exact this
theorem syC_1 {σ : ST} (hW : WIn σ) {i : Int} (hi : 0 ≤ i ∧ i < σ 2 3) (hw : 21 ≤ σ 3 8) : syC σ i 1 = 1 := by
  have h1 := sys1 (w := σ 11) (wf := wfC σ) (wide := σ 3 8) (x := i) (by have := hW.wf hi.1 hi.2; omega)
  unfold syC
  rw [show (1 : Int).toNat = (i + 1 - i).toNat by omega, ← h1]
theorem far_ok (sy : Int → Int) (lines : Int) : ∀ (f : Nat) (k m : Int), k < m → m ≤ farF sy lines f k → sy m ≤ lines
  | 0, k, m, h1, h2 => by simp [farF] at h2; omega
  | f + 1, k, m, h1, h2 => by
    unfold farF at h2
    split at h2
    · rename_i h3
      by_cases hm : m = k + 1
      · rw [hm]; exact h3
      · exact far_ok sy lines f (k + 1) m (by omega) h2
    · omega
theorem far_stop (sy : Int → Int) (lines : Int) : ∀ (f : Nat) (k : Int), ¬ (farF sy lines f k < k + f ∧ sy (farF sy lines f k + 1) ≤ lines)
  | 0, k => by
    intro h
    have h1 := h.1
    simp [farF] at h1
  | f + 1, k => by
    unfold farF
    split
    · have := far_stop sy lines f (k + 1)
      intro h
      exact this ⟨by omega, h.2⟩
    · rename_i h3
      intro h
      exact h3 h.2
set_option maxHeartbeats 4000000 in
set_option maxRecDepth 100000 in
theorem m_X0_fill {a : Nat → Nat} {n : Nat} {σ : ST} {f : Int} (hI : PIn σ) (hW : WIn σ) (hw : 21 ≤ σ 3 8 ∧ σ 3 8 ≤ 60) (hl : 1 ≤ σ 3 9 ∧ σ 3 9 ≤ 8) (hf : 0 ≤ f ∧ f < σ 2 3) : MI yX0_fill cX0_fill 5 .int (RM 2 42) a n σ [.ref (a 3), iv f] (fun r σ1 => r = f + farT (syC σ f) (σ 3 9) (σ 2 3 - f) 0 ∧ (∀ c, c ≠ 13 → σ1 c = σ c) ∧ ∀ p, f ≤ p → p < r → σ1 13 p = syC σ f (p - f + 1)) := by
  refine MI.of (own := RX0) (by decide +kernel) rfl (Nat.le_of_ble_eq_true rfl) ?_
  intro κ C hret
  show J κ 0 0 a n σ [(0, .ref (a 3)), (1, iv f)] 0 []
  obtain ⟨hsz, hpin⟩ := id hI
  have hwff := hW.wf hf.1 hf.2
  refine r_aload_n C dX0_fill_0 0 rfl ?_
  refine r_iload_n C dX0_fill_1 1 rfl ?_
  refine r_callP1 3 C dX0_fill_2 lkX0_82 (m_X0_widthAsFirst hI (by omega)) ⟨rfl, rfl, Nat.le_of_ble_eq_true rfl, Nat.le_of_ble_eq_true rfl⟩ ⟨Nat.zero_le _, Nat.zero_le _⟩ rc3 (Nat.le_of_ble_eq_true rfl) (fun wa hwa => ?_)
  refine r_istore_n C dX0_fill_5 (by decide) (fun z_ => [(2, iv z_), (0, .ref (a 3)), (1, iv f)]) (fun _ => rfl) (fun u0 eu0 => ?_)
  refine r_iconst C dX0_fill_6 ?_
  refine r_istore_n C dX0_fill_7 (by decide) (fun z_ => [(3, iv z_), (2, iv u0), (0, .ref (a 3)), (1, iv f)]) (fun _ => rfl) (fun s0 es0 => ?_)
  refine r_aload_n C dX0_fill_8 2 rfl ?_
  refine gX0_22 C dX0_fill_9 ?_
  refine r_iload_n C dX0_fill_12 3 rfl ?_
  refine r_iconst C dX0_fill_13 ?_
  refine r_iast 40 C dX0_fill_14 (by omega) (fun _ _ => rfl) (by omega) (by omega) (by decide) (by omega) ?_
  refine r_iload_n C dX0_fill_15 3 rfl ?_
  refine r_iconst C dX0_fill_16 ?_
  refine r_iadd C dX0_fill_17 ?_
  refine r_istore C dX0_fill_18 (by decide) (fun z_ => [(4, iv z_), (3, iv s0), (2, iv u0), (0, .ref (a 3)), (1, iv f)]) (fun _ => rfl) (fun p0 ep0 => ?_)
  have lp20 : ∀ (N : Nat) (us : Int) (sy : Int) (p : Int) (τ : ST), (σ 2 3 - p : Int) < N → (f < p ∧ p ≤ σ 2 3 ∧ (sy, us) = sysF (σ 11) (wfC σ) (σ 3 8) f (p - f).toNat ∧ sy ≤ σ 3 9 ∧ farT (syC σ f) (σ 3 9) (σ 2 3 - f) 0 = farT (syC σ f) (σ 3 9) (σ 2 3 - f) (p - f) ∧ (∀ c, c ≠ 13 → τ c = σ c) ∧ ∀ q, f ≤ q → q < p → τ 13 q = syC σ f (q - f + 1)) → J κ 0 0 a n τ [(0, .ref (a 3)), (1, iv f), (2, iv us), (3, iv sy), (4, iv p)] 20 [] := by
    intro N
    induction N with
    | zero =>
      intro us sy p τ hm20 hi20
      exact absurd hm20 (by omega)
    | succ N ih20 =>
      intro us sy p τ hm20 hi20
      obtain ⟨hp0, hp1, hsy, hsl, hfar, hfr, hq⟩ := hi20
      have haf : AgF σ τ := AgF.one hfr
      have e2 := haf.ag.at2
      have e23 : τ 2 3 = σ 2 3 := by rw [e2]
      have e3 := haf.at3
      have e37 : τ 3 8 = σ 3 8 := by rw [e3]
      have e38 : τ 3 9 = σ 3 9 := by rw [e3]
      have e11 := congrFun haf.at11 p
      have hsb := sysF_bd2 (σ 11) (wfC σ) (σ 3 8) f (σ 2 3) (fun i h1 h2 => ⟨hW i (by omega) h2, hW.wf (by omega) h2⟩) (p - f).toNat (by omega)
      rw [← hsy] at hsb
      simp only at hsb
      refine r_iload C dX0_fill_20 4 rfl ?_
      refine r_aload_n C dX0_fill_22 0 rfl ?_
      refine gX0_9 C dX0_fill_23 ?_
      refine gX0_53 C dX0_fill_26 (fun g3 => ?_)
      refine r_icmp_ge (tgt := 96) C dX0_fill_29 (by decide) (by omega) (by omega) (fun h4 => ?_) (fun h4 => ?_)
      · skip
        refine r_aload_n C dX0_fill_96 0 rfl ?_
        refine gX0_9 C dX0_fill_97 ?_
        refine gX0_53 C dX0_fill_100 (fun g6 => ?_)
        exact hret _ _ _ _ dX0_fill_103 (by first | (rw [e23]; refine ⟨?_, hfr, fun q h2 h3 => hq q h2 (by omega)⟩; rw [hfar, farT_f (by omega)]; omega) | (refine ⟨?_, hfr, hq⟩; rw [hfar, farT_f (fun q9 => by unfold syC at q9; rw [show p - f + 1 = p + 1 - f by omega, ← hS] at q9; omega)]; omega))
      · skip
        have hwp := hW p (by omega) (by omega)
        have hwfp := hW.wf (p := p) (by omega) (by omega)
        refine r_iload_n C dX0_fill_32 2 rfl ?_
        refine r_aload_n C dX0_fill_33 0 rfl ?_
        refine gX0_15 C dX0_fill_34 ?_
        refine r_iload C dX0_fill_37 4 rfl ?_
        refine r_iald 40 C dX0_fill_39 (by omega) (fun _ => rfl) (by omega) (by omega) (by decide) (fun g8 => ?_)
        refine r_iadd C dX0_fill_40 ?_
        refine r_aload_n C dX0_fill_41 0 rfl ?_
        refine gX0_37 C dX0_fill_42 (fun g9 => ?_)
        refine r_icmp_gt (tgt := 61) C dX0_fill_45 (by decide) (by omega) (by omega) (fun hgt => ?_) (fun hgt => ?_)
        · skip
          refine r_aload_n C dX0_fill_61 0 rfl ?_
          refine r_iload C dX0_fill_62 4 rfl ?_
          refine r_callP1 3 C dX0_fill_64 lkX0_82 (m_X0_widthAsFirst (haf.ag.pin hI) (by omega)) ⟨rfl, rfl, Nat.le_of_ble_eq_true rfl, Nat.le_of_ble_eq_true rfl⟩ ⟨Nat.zero_le _, Nat.zero_le _⟩ rc3 (Nat.le_of_ble_eq_true rfl) (fun wb hwb => ?_)
          rw [afwf haf] at hwb
          refine r_istore_n C dX0_fill_67 (by decide) (fun z_ => [(2, iv z_), (0, .ref (a 3)), (1, iv f), (3, iv sy), (4, iv p)]) (fun _ => rfl) (fun u2 eu2 => ?_)
          have hS : (sy + 1, u2) = sysF (σ 11) (wfC σ) (σ 3 8) f (p + 1 - f).toNat := by have h9 := sys_new (o2 := u2) hsy (show f ≤ p by omega) (own := σ 11 p) (by rw [if_neg (by omega)]) (by omega) (by rw [eu2, hwb]); rw [Int.zero_add] at h9; exact h9
          refine r_iinc C dX0_fill_68 (by decide) 3 rfl (fun z_ => [(3, iv z_), (2, iv u2), (0, .ref (a 3)), (1, iv f), (4, iv p)]) (fun _ => rfl) (fun s2 es2 => ?_)
          refine r_iload_n C dX0_fill_71 0 rfl ?_
          refine r_aload_n C dX0_fill_72 2 rfl ?_
          refine gX0_41 C dX0_fill_73 (fun g11 => ?_)
          refine r_icmp_le (tgt := 82) C dX0_fill_76 (by decide) (by omega) (by omega) (fun hln => ?_) (fun hln => ?_)
          · skip
            refine r_aload_n C dX0_fill_82 2 rfl ?_
            refine gX0_22 C dX0_fill_83 ?_
            refine r_iload C dX0_fill_86 4 rfl ?_
            refine r_iload_n C dX0_fill_88 0 rfl ?_
            refine r_iast 40 C dX0_fill_89 (by omega) (fun _ _ => rfl) (by omega) (by omega) (by decide) (by omega) ?_
            refine r_iinc C dX0_fill_90 (by decide) 4 rfl (fun z_ => [(4, iv z_), (3, iv s2), (2, iv u2), (0, .ref (a 3)), (1, iv f)]) (fun _ => rfl) (fun p2 ep2 => ?_)
            refine r_goto (tgt := 20) C dX0_fill_93 (by decide) ?_
            refine r_sub [3, 4, 2, 1, 0] (L' := [(0, .ref (a 3)), (1, iv f), (2, iv u2), (3, iv s2), (4, iv p2)]) rfl ?_
            exact ih20 _ _ _ _ (by omega) (by subst ep2; first | (refine ⟨by omega, by omega, hS, by omega, ?_, fun c hc => by rw [up2_ne hc]; exact hfr c hc, fun q h2 h3 => ?_⟩; (rw [hfar, farT_t (by omega) (by unfold syC; rw [show p - f + 1 = p + 1 - f by omega, ← hS]; omega), show p - f + 1 = p + 1 - f by omega]); (by_cases hqp : q = p; (subst hqp; rw [up2_self]; unfold syC; rw [show q - f + 1 = q + 1 - f by omega, ← hS]); (rw [up2_at hqp]; exact hq q h2 (by omega)))) | (rw [← es2] at hS; refine ⟨by omega, by omega, hS, by omega, ?_, fun c hc => by rw [up2_ne hc]; exact hfr c hc, fun q h2 h3 => ?_⟩; (rw [hfar, farT_t (by omega) (by unfold syC; rw [show p - f + 1 = p + 1 - f by omega, ← hS]; omega), show p - f + 1 = p + 1 - f by omega]); (by_cases hqp : q = p; (subst hqp; rw [up2_self]; unfold syC; rw [show q - f + 1 = q + 1 - f by omega, ← hS]); (rw [up2_at hqp]; exact hq q h2 (by omega)))))
          · skip
            refine r_iload C dX0_fill_79 4 rfl ?_
            exact hret _ _ _ _ dX0_fill_81 (by first | (rw [e23]; refine ⟨?_, hfr, fun q h2 h3 => hq q h2 (by omega)⟩; rw [hfar, farT_f (by omega)]; omega) | (refine ⟨?_, hfr, hq⟩; rw [hfar, farT_f (fun q9 => by unfold syC at q9; rw [show p - f + 1 = p + 1 - f by omega, ← hS] at q9; omega)]; omega))
        · skip
          refine r_iload_n C dX0_fill_48 2 rfl ?_
          refine r_aload_n C dX0_fill_49 0 rfl ?_
          refine gX0_15 C dX0_fill_50 ?_
          refine r_iload C dX0_fill_53 4 rfl ?_
          refine r_iald 40 C dX0_fill_55 (by omega) (fun _ => rfl) (by omega) (by omega) (by decide) (fun g15 => ?_)
          refine r_iadd C dX0_fill_56 ?_
          refine r_istore_n C dX0_fill_57 (by decide) (fun z_ => [(2, iv z_), (0, .ref (a 3)), (1, iv f), (3, iv sy), (4, iv p)]) (fun _ => rfl) (fun u2 eu2 => ?_)
          have hS : (sy, u2) = sysF (σ 11) (wfC σ) (σ 3 8) f (p + 1 - f).toNat := by rw [eu2, e11]; exact sys_fit hsy (by omega) (by rw [if_neg (by omega)]) (by omega)
          refine r_goto (tgt := 71) C dX0_fill_58 (by decide) ?_
          refine r_iload_n C dX0_fill_71 3 rfl ?_
          refine r_aload_n C dX0_fill_72 1 rfl ?_
          refine gX0_41 C dX0_fill_73 (fun g16 => ?_)
          refine r_icmp_le (tgt := 82) C dX0_fill_76 (by decide) (by omega) (by omega) (fun hln => ?_) (fun hln => ?_)
          · skip
            refine r_aload_n C dX0_fill_82 1 rfl ?_
            refine gX0_22 C dX0_fill_83 ?_
            refine r_iload C dX0_fill_86 4 rfl ?_
            refine r_iload_n C dX0_fill_88 3 rfl ?_
            refine r_iast 40 C dX0_fill_89 (by omega) (fun _ _ => rfl) (by omega) (by omega) (by decide) (by omega) ?_
            refine r_iinc C dX0_fill_90 (by decide) 4 rfl (fun z_ => [(4, iv z_), (2, iv u2), (0, .ref (a 3)), (1, iv f), (3, iv sy)]) (fun _ => rfl) (fun p2 ep2 => ?_)
            refine r_goto (tgt := 20) C dX0_fill_93 (by decide) ?_
            refine r_sub [2, 3, 1, 4, 0] (L' := [(0, .ref (a 3)), (1, iv f), (2, iv u2), (3, iv sy), (4, iv p2)]) rfl ?_
            exact ih20 _ _ _ _ (by omega) (by subst ep2; first | (refine ⟨by omega, by omega, hS, by omega, ?_, fun c hc => by rw [up2_ne hc]; exact hfr c hc, fun q h2 h3 => ?_⟩; (rw [hfar, farT_t (by omega) (by unfold syC; rw [show p - f + 1 = p + 1 - f by omega, ← hS]; omega), show p - f + 1 = p + 1 - f by omega]); (by_cases hqp : q = p; (subst hqp; rw [up2_self]; unfold syC; rw [show q - f + 1 = q + 1 - f by omega, ← hS]); (rw [up2_at hqp]; exact hq q h2 (by omega)))) | (rw [← es2] at hS; refine ⟨by omega, by omega, hS, by omega, ?_, fun c hc => by rw [up2_ne hc]; exact hfr c hc, fun q h2 h3 => ?_⟩; (rw [hfar, farT_t (by omega) (by unfold syC; rw [show p - f + 1 = p + 1 - f by omega, ← hS]; omega), show p - f + 1 = p + 1 - f by omega]); (by_cases hqp : q = p; (subst hqp; rw [up2_self]; unfold syC; rw [show q - f + 1 = q + 1 - f by omega, ← hS]); (rw [up2_at hqp]; exact hq q h2 (by omega)))))
          · skip
            refine r_iload C dX0_fill_79 4 rfl ?_
            exact hret _ _ _ _ dX0_fill_81 (by first | (rw [e23]; refine ⟨?_, hfr, fun q h2 h3 => hq q h2 (by omega)⟩; rw [hfar, farT_f (by omega)]; omega) | (refine ⟨?_, hfr, hq⟩; rw [hfar, farT_f (fun q9 => by unfold syC at q9; rw [show p - f + 1 = p + 1 - f by omega, ← hS] at q9; omega)]; omega))
  refine r_sub [3, 4, 2, 1, 0] (L' := [(0, .ref (a 3)), (1, iv f), (2, iv u0), (3, iv s0), (4, iv p0)]) rfl ?_
  exact lp20 ((σ 2 3 - f - 1 : Int).toNat + 1) _ _ _ _ (by omega) (by have h1 := syC_1 hW hf hw.1; rw [ep0, es0, eu0, hwa]; refine ⟨by omega, by omega, sys1 (by omega), by omega, ?_, fun c hc => up2_ne hc, fun q h2 h3 => ?_⟩; (rw [farT_t (by omega) (by rw [show (0 : Int) + 1 = 1 by omega]; omega), show f + 1 - f = 0 + 1 by omega]); (rw [show q = f by omega, up2_self, show f - f + 1 = 1 by omega, h1]))

def Zg (τ : ST) (i x j : Int) : Int := if j = i ∧ x = i + 1 then 0 else τ 16 j - j
theorem Zg_2 {τ : ST} {i x : Int} (h : x ≠ i + 1) : Zg τ i x = fun j => τ 16 j - j := by
  funext j
  unfold Zg
  rw [if_neg (fun q => h q.2)]
theorem DPJ.takeC {sy : Int → Int → Int} {lines : Int} {bt : Int → Int} {many : Int} {B G Z : Int → Int} {i x ib ip : Int} {τ : ST} (hJ : DPJ sy lines bt many B G Z (τ 14) (τ 15) (Zg τ i x) i (x - i)) (h1 : x ≤ many) (h2 : sy i (x - i) ≤ lines) (e1 : ib = B x + bt x) (e2 : ip = G x + 1) (hc : ¬ (0 < Zg τ i x i ∧ (τ 14 i < ib ∨ ib = τ 14 i ∧ τ 15 i ≤ ip))) : DPJ sy lines bt many B G Z ((up2 (up2 (up2 τ 14 i ib) 15 i ip) 16 i x) 14) ((up2 (up2 (up2 τ 14 i ib) 15 i ip) 16 i x) 15) (Zg (up2 (up2 (up2 τ 14 i ib) 15 i ip) 16 i x) i (x + 1)) i (x + 1 - i) := by
  have d1 : (14 : Nat) ≠ 16 := by decide
  have d2 : (14 : Nat) ≠ 15 := by decide
  have d3 : (15 : Nat) ≠ 16 := by decide
  have d4 : (15 : Nat) ≠ 14 := by decide
  have d5 : (16 : Nat) ≠ 15 := by decide
  have d6 : (16 : Nat) ≠ 14 := by decide
  have hx := hJ.1
  have ex : i + (x - i) = x := by omega
  have hZ : Zg (up2 (up2 (up2 τ 14 i ib) 15 i ip) 16 i x) i (x + 1) = fun j => (up2 (up2 (up2 τ 14 i ib) 15 i ip) 16 i x) 16 j - j := Zg_2 (by omega)
  rw [hZ, show x + 1 - i = x - i + 1 by omega]
  refine hJ.take (by omega) h2 (by rw [ex]; exact e1) (by rw [ex]; exact e2) hc ?_ ?_ ?_ (fun j hj => ⟨?_, ?_, ?_⟩)
  · rw [up2_ne d1, up2_ne d2, up2_self]
  · rw [up2_ne d3, up2_self]
  · rw [up2_self]
  · rw [up2_ne d1, up2_ne d2, up2_at hj]
  · rw [up2_ne d3, up2_at hj, up2_ne d4]
  · show (up2 (up2 (up2 τ 14 i ib) 15 i ip) 16 i x) 16 j - j = Zg τ i x j
    rw [up2_at hj, up2_ne d5, up2_ne d6]
    unfold Zg
    rw [if_neg (fun q => hj q.1)]
theorem DPJ.keepC {sy : Int → Int → Int} {lines : Int} {bt : Int → Int} {many : Int} {B G Z : Int → Int} {i x ib ip : Int} {τ : ST} (hJ : DPJ sy lines bt many B G Z (τ 14) (τ 15) (Zg τ i x) i (x - i)) (h1 : x ≤ many) (h2 : sy i (x - i) ≤ lines) (e1 : ib = B x + bt x) (e2 : ip = G x + 1) (hx : x ≠ i + 1) (hc : τ 14 i < ib ∨ ib = τ 14 i ∧ τ 15 i ≤ ip) : DPJ sy lines bt many B G Z (τ 14) (τ 15) (Zg τ i (x + 1)) i (x + 1 - i) := by
  have h0 := hJ.1
  have ex : i + (x - i) = x := by omega
  have hz : 0 < Zg τ i x i := by
    rw [hJ.2.2.2.1]
    have := bestF_in (fun m => B (i + m) + bt (i + m)) (fun m => G (i + m) + 1) (x - i - 1).toNat (by omega)
    omega
  have := hJ.keep (by omega) h2 (by rw [ex]; exact e1) (by rw [ex]; exact e2) hz hc
  rw [Zg_2 hx] at this
  rw [Zg_2 (by omega), show x + 1 - i = x - i + 1 by omega]
  exact this
/-- behind a place: the systems of each first page are kept; the end's next is the end -/
def SyR (σ τ : ST) (i : Int) : Prop := (∀ j, i < j → j < σ 2 3 → τ 38 j = syC σ j (τ 16 j - j)) ∧ τ 16 (σ 2 3) = σ 2 3
def SJ (σ τ : ST) (i x fa : Int) : Prop := (∀ j, j ≠ i → τ 38 j = σ 38 j ∧ τ 16 j = σ 16 j) ∧ (x ≠ i + 1 → τ 38 i = syC σ i (τ 16 i - i)) ∧ ∀ p, i ≤ p → p < fa → τ 13 p = syC σ i (p - i + 1)
theorem SJ.keep {σ τ : ST} {i x fa : Int} (h : SJ σ τ i x fa) (hx : x ≠ i + 1) : SJ σ τ i (x + 1) fa := ⟨h.1, fun _ => h.2.1 hx, h.2.2⟩
theorem SJ.take {σ τ : ST} {i x fa ib ip z : Int} (h : SJ σ τ i x fa) (hx : i + 1 ≤ x) (hf : x ≤ fa) (hz : z = τ 13 (x - 1)) : SJ σ (up2 (up2 (up2 (up2 τ 14 i ib) 15 i ip) 16 i x) 38 i z) i (x + 1) fa := by
  have d1 : (16 : Nat) ≠ 38 := by decide
  have d2 : (16 : Nat) ≠ 15 := by decide
  have d3 : (16 : Nat) ≠ 14 := by decide
  have d4 : (38 : Nat) ≠ 16 := by decide
  have d5 : (38 : Nat) ≠ 15 := by decide
  have d6 : (38 : Nat) ≠ 14 := by decide
  refine ⟨fun j hj => ⟨?_, ?_⟩, fun _ => ?_, fun p p0 p1 => ?_⟩
  · rw [up2_at hj, up2_ne d4, up2_ne d5, up2_ne d6]; exact (h.1 j hj).1
  · rw [up2_ne d1, up2_at hj, up2_ne d2, up2_ne d3]; exact (h.1 j hj).2
  · rw [up2_self, up2_ne d1, up2_self, hz, h.2.2 (x - 1) (by omega) (by omega), show x - 1 - i + 1 = x - i by omega]
  · rw [up2_ne (show (13 : Nat) ≠ 38 by decide), up2_ne (show (13 : Nat) ≠ 16 by decide), up2_ne (show (13 : Nat) ≠ 15 by decide), up2_ne (show (13 : Nat) ≠ 14 by decide)]; exact h.2.2 p p0 p1
theorem SJ.done {σ τ : ST} {i x fa : Int} (h : SJ σ τ i x fa) (hx : x ≠ i + 1) (hi : i < σ 2 3) (hR : SyR σ σ i) : SyR σ τ (i - 1) := by
  refine ⟨fun j h1 h2 => ?_, ?_⟩
  · by_cases hj : j = i
    · rw [hj]; exact h.2.1 hx
    · rw [(h.1 j hj).1, (h.1 j hj).2]; exact hR.1 j (by omega) h2
  · rw [(h.1 (σ 2 3) (by omega)).2]; exact hR.2
theorem DPJ.takeD {sy : Int → Int → Int} {lines : Int} {bt : Int → Int} {many : Int} {B G Z : Int → Int} {i x ib ip z : Int} {τ : ST} (hJ : DPJ sy lines bt many B G Z (τ 14) (τ 15) (Zg τ i x) i (x - i)) (h1 : x ≤ many) (h2 : sy i (x - i) ≤ lines) (e1 : ib = B x + bt x) (e2 : ip = G x + 1) (hc : ¬ (0 < Zg τ i x i ∧ (τ 14 i < ib ∨ ib = τ 14 i ∧ τ 15 i ≤ ip))) : DPJ sy lines bt many B G Z ((up2 (up2 (up2 (up2 τ 14 i ib) 15 i ip) 16 i x) 38 i z) 14) ((up2 (up2 (up2 (up2 τ 14 i ib) 15 i ip) 16 i x) 38 i z) 15) (Zg (up2 (up2 (up2 (up2 τ 14 i ib) 15 i ip) 16 i x) 38 i z) i (x + 1)) i (x + 1 - i) := by
  have h := hJ.takeC h1 h2 e1 e2 hc
  have e : Zg (up2 (up2 (up2 (up2 τ 14 i ib) 15 i ip) 16 i x) 38 i z) i (x + 1) = Zg (up2 (up2 (up2 τ 14 i ib) 15 i ip) 16 i x) i (x + 1) := by
    funext j
    unfold Zg
    rw [up2_ne (show (16 : Nat) ≠ 38 by decide)]
  rw [e, up2_ne (show (14 : Nat) ≠ 38 by decide), up2_ne (show (15 : Nat) ≠ 38 by decide)]
  exact h
set_option maxHeartbeats 4000000 in
set_option maxRecDepth 100000 in
theorem m_X0_chooseFrom {a : Nat → Nat} {n : Nat} {σ : ST} {i : Int} (hI : PIn σ) (hW : WIn σ) (hw : 21 ≤ σ 3 8 ∧ σ 3 8 ≤ 60) (hl : 1 ≤ σ 3 9 ∧ σ 3 9 ≤ 8) (hi : 0 ≤ i ∧ i < σ 2 3) (hD : DPI (syC σ) (σ 3 9) (btC σ) (σ 2 3) (σ 14) (σ 15) (fun j => σ 16 j - j) i) (hR : SyR σ σ i) : MV yX0_chooseFrom cX0_chooseFrom 7 (RM 3 66) a n σ [.ref (a 3), iv i] (fun σ1 => AgF σ σ1 ∧ DPI (syC σ) (σ 3 9) (btC σ) (σ 2 3) (σ1 14) (σ1 15) (fun j => σ1 16 j - j) (i - 1) ∧ SyR σ σ1 (i - 1)) := by
  refine MV.of (own := RX0) (by decide +kernel) rfl (Nat.le_of_ble_eq_true rfl) ?_
  intro κ C hret
  show J κ 0 0 a n σ [(0, .ref (a 3)), (1, iv i)] 0 []
  obtain ⟨hsz, hpin⟩ := id hI
  have hs1 := syC_1 hW hi hw.1
  have hfb := farT_bd (sy := syC σ i) (lines := σ 3 9) (rest := σ 2 3 - i) (k := 0) (by omega)
  have hf1 : 1 ≤ farT (syC σ i) (σ 3 9) (σ 2 3 - i) 0 := by
    rw [farT_t (by omega) (by rw [show (0 : Int) + 1 = 1 by omega]; omega)]
    have := farT_bd (sy := syC σ i) (lines := σ 3 9) (rest := σ 2 3 - i) (k := 0 + 1) (by omega)
    omega
  refine r_aload_n C dX0_chooseFrom_0 0 rfl ?_
  refine r_iload_n C dX0_chooseFrom_1 1 rfl ?_
  refine r_callI1 3 C dX0_chooseFrom_2 lkX0_85 (m_X0_fill hI hW hw hl (by omega)) ⟨rfl, rfl, Nat.le_of_ble_eq_true rfl, Nat.le_of_ble_eq_true rfl⟩ ⟨Nat.zero_le _, Nat.zero_le _⟩ rc3 (Nat.le_of_ble_eq_true rfl) (fun fr ρ hfr => ?_)
  obtain ⟨hfr1, hfr2, hfr3⟩ := hfr
  refine r_istore_n C dX0_chooseFrom_5 (by decide) (fun z_ => [(2, iv z_), (0, .ref (a 3)), (1, iv i)]) (fun _ => rfl) (fun fa efa => ?_)
  refine r_iload_n C dX0_chooseFrom_6 2 rfl ?_
  refine r_iconst C dX0_chooseFrom_7 ?_
  refine r_iadd C dX0_chooseFrom_8 ?_
  refine r_istore_n C dX0_chooseFrom_9 (by decide) (fun z_ => [(3, iv z_), (2, iv fa), (0, .ref (a 3)), (1, iv i)]) (fun _ => rfl) (fun x0 ex0 => ?_)
  have lp10 : ∀ (N : Nat) (x : Int) (τ : ST), (fa + 1 - x : Int) < N → (i + 1 ≤ x ∧ x ≤ fa + 1 ∧ AgF σ τ ∧ DPJ (syC σ) (σ 3 9) (btC σ) (σ 2 3) (σ 14) (σ 15) (fun j => σ 16 j - j) (τ 14) (τ 15) (Zg τ i x) i (x - i) ∧ SJ σ τ i x fa) → J κ 0 0 a n τ [(0, .ref (a 3)), (1, iv i), (2, iv fa), (3, iv x)] 10 [] := by
    intro N
    induction N with
    | zero =>
      intro x τ hm10 hi10
      exact absurd hm10 (by omega)
    | succ N ih10 =>
      intro x τ hm10 hi10
      obtain ⟨hx0, hx9, hag, hj, hsj⟩ := hi10
      have e23 : τ 2 3 = σ 2 3 := by rw [hag.ag.at2]
      have e12 := congrFun hag.at12 x
      have e39 : τ 3 10 = σ 3 10 := by rw [hag.at3]
      refine r_iload_n C dX0_chooseFrom_10 3 rfl ?_
      refine r_iload_n C dX0_chooseFrom_11 2 rfl ?_
      refine r_icmp_gt (tgt := 142) C dX0_chooseFrom_12 (by decide) (by omega) (by omega) (fun h1 => ?_) (fun h1 => ?_)
      · skip
        exact hret _ _ _ dX0_chooseFrom_142 (by refine ⟨hag, ?_, hsj.done (by omega) hi.2 hR⟩; have hd := DPJ.done hD hj hi.1 (fun q9 => far_stop (syC σ i) (σ 3 9) (σ 2 3 - i - 0).toNat 0 ⟨by show farT (syC σ i) (σ 3 9) (σ 2 3 - i) 0 < _; omega, by show syC σ i (farT (syC σ i) (σ 3 9) (σ 2 3 - i) 0 + 1) ≤ _; rw [show farT (syC σ i) (σ 3 9) (σ 2 3 - i) 0 + 1 = x - i by omega]; exact q9.2⟩) (by omega) (btC_bd σ); rw [Zg_2 (by omega)] at hd; exact hd)
      · skip
        have hbb := hD.2.2.2.2.2 x (by omega) (by omega)
        have hne := hj.2.2.2.2.2 x (by omega)
        have hok : syC σ i (x - i) ≤ σ 3 9 := far_ok (syC σ i) (σ 3 9) _ 0 (x - i) (by omega) (by show x - i ≤ farT (syC σ i) (σ 3 9) (σ 2 3 - i) 0; omega)
        refine r_aload_n C dX0_chooseFrom_15 0 rfl ?_
        refine gX0_25 C dX0_chooseFrom_16 ?_
        refine r_iload_n C dX0_chooseFrom_19 3 rfl ?_
        refine r_iald 41 C dX0_chooseFrom_20 (by omega) (fun _ => rfl) (by omega) (by omega) (by decide) (fun g3 => ?_)
        refine r_aload_n C dX0_chooseFrom_21 0 rfl ?_
        refine r_iload_n C dX0_chooseFrom_22 3 rfl ?_
        refine r_callB1 3 C dX0_chooseFrom_23 lkX0_88 (m_X0_isBadTurn (hag.ag.pin hI) (by omega)) ⟨rfl, rfl, Nat.le_of_ble_eq_true rfl, Nat.le_of_ble_eq_true rfl⟩ ⟨Nat.zero_le _, Nat.zero_le _⟩ rc3 (Nat.le_of_ble_eq_true rfl) (fun hbt => ?_) (fun hbt => ?_)
        · skip
          refine r_if_eq (tgt := 33) C dX0_chooseFrom_26 (by decide) (by decide) (fun q => absurd q (by decide)) (fun _ => ?_)
          refine r_iconst C dX0_chooseFrom_29 ?_
          refine r_goto (tgt := 34) C dX0_chooseFrom_30 (by decide) ?_
          refine r_iadd C dX0_chooseFrom_34 ?_
          refine r_istore C dX0_chooseFrom_35 (by decide) (fun z_ => [(4, iv z_), (0, .ref (a 3)), (1, iv i), (2, iv fa), (3, iv x)]) (fun _ => rfl) (fun ib eib => ?_)
          refine r_aload_n C dX0_chooseFrom_37 1 rfl ?_
          refine gX0_28 C dX0_chooseFrom_38 ?_
          refine r_iload_n C dX0_chooseFrom_41 4 rfl ?_
          refine r_iald 41 C dX0_chooseFrom_42 (by omega) (fun _ => rfl) (by omega) (by omega) (by decide) (fun g6 => ?_)
          refine r_iconst C dX0_chooseFrom_43 ?_
          refine r_iadd C dX0_chooseFrom_44 ?_
          refine r_istore C dX0_chooseFrom_45 (by decide) (fun z_ => [(5, iv z_), (4, iv ib), (0, .ref (a 3)), (1, iv i), (2, iv fa), (3, iv x)]) (fun _ => rfl) (fun ip eip => ?_)
          have hcb : ib = σ 14 x + btC σ x := by
            unfold btC
            rw [e23, e12, e39] at hbt
            first
              | (rw [if_pos hbt]; omega)
              | (rw [if_neg hbt]; omega)
          have hcg : ip = σ 15 x + 1 := by omega
          refine r_iload_n C dX0_chooseFrom_47 5 rfl ?_
          refine r_iload_n C dX0_chooseFrom_48 3 rfl ?_
          refine r_iconst C dX0_chooseFrom_49 ?_
          refine r_iadd C dX0_chooseFrom_50 ?_
          refine r_icmp_eq (tgt := 87) C dX0_chooseFrom_51 (by decide) (by omega) (by omega) (fun hx1 => ?_) (fun hx1 => ?_)
          · skip
            refine r_iconst C dX0_chooseFrom_87 ?_
            refine r_goto (tgt := 92) C dX0_chooseFrom_88 (by decide) ?_
            refine r_istore C dX0_chooseFrom_92 (by decide) (fun z_ => [(6, iv z_), (5, iv ip), (4, iv ib), (0, .ref (a 3)), (1, iv i), (2, iv fa), (3, iv x)]) (fun _ => rfl) (fun be ebe => ?_)
            refine r_iload C dX0_chooseFrom_94 0 rfl ?_
            refine r_if_eq (tgt := 136) C dX0_chooseFrom_96 (by decide) (by omega) (fun hbe => ?_) (fun hbe => ?_)
            · skip
              refine r_iinc C dX0_chooseFrom_136 (by decide) 6 rfl (fun z_ => [(3, iv z_), (6, iv be), (5, iv ip), (4, iv ib), (0, .ref (a 3)), (1, iv i), (2, iv fa)]) (fun _ => rfl) (fun x2 ex2 => ?_)
              refine r_goto (tgt := 10) C dX0_chooseFrom_139 (by decide) ?_
              refine r_sub [4, 5, 6, 0] (L' := [(0, .ref (a 3)), (1, iv i), (2, iv fa), (3, iv x2)]) rfl ?_
              exact ih10 _ _ (by omega) (by subst ex2; first | (exfalso; omega) | exact ⟨by omega, by omega, hag, hj.keepC (by omega) hok hcb hcg (by omega) (by omega), hsj.keep (by omega)⟩ | exact ⟨by omega, by omega, (((hag.up (by decide) _ _).up (by decide) _ _).up (by decide) _ _).up (by decide) _ _, hj.takeD (by omega) hok hcb hcg (fun q9 => by first | omega | (have h8 := q9.1; unfold Zg at h8; rw [if_pos ⟨rfl, hx1⟩] at h8; omega)), hsj.take (by omega) (by omega) rfl⟩)
            · skip
              refine r_aload_n C dX0_chooseFrom_99 3 rfl ?_
              refine gX0_25 C dX0_chooseFrom_100 ?_
              refine r_iload_n C dX0_chooseFrom_103 4 rfl ?_
              refine r_iload C dX0_chooseFrom_104 2 rfl ?_
              refine r_iast 41 C dX0_chooseFrom_106 (by omega) (fun _ _ => rfl) (by omega) (by omega) (by decide) (by omega) ?_
              refine r_aload_n C dX0_chooseFrom_107 3 rfl ?_
              refine gX0_28 C dX0_chooseFrom_108 ?_
              refine r_iload_n C dX0_chooseFrom_111 4 rfl ?_
              refine r_iload C dX0_chooseFrom_112 1 rfl ?_
              refine r_iast 41 C dX0_chooseFrom_114 (by omega) (fun _ _ => rfl) (by omega) (by omega) (by decide) (by omega) ?_
              refine r_aload_n C dX0_chooseFrom_115 3 rfl ?_
              refine gX0_31 C dX0_chooseFrom_116 ?_
              refine r_iload_n C dX0_chooseFrom_119 4 rfl ?_
              refine r_iload_n C dX0_chooseFrom_120 6 rfl ?_
              refine r_iast 41 C dX0_chooseFrom_121 (by omega) (fun _ _ => rfl) (by omega) (by omega) (by decide) (by omega) ?_
              refine r_aload_n C dX0_chooseFrom_122 3 rfl ?_
              refine gX0_34 C dX0_chooseFrom_123 ?_
              refine r_iload_n C dX0_chooseFrom_126 4 rfl ?_
              refine r_aload_n C dX0_chooseFrom_127 3 rfl ?_
              refine gX0_22 C dX0_chooseFrom_128 ?_
              refine r_iload_n C dX0_chooseFrom_131 6 rfl ?_
              refine r_iconst C dX0_chooseFrom_132 ?_
              refine r_isub C dX0_chooseFrom_133 ?_
              refine r_iald 40 C dX0_chooseFrom_134 (by omega) (fun _ => rfl) (by omega) (by omega) (by decide) (fun g14 => ?_)
              rw [up2_ne (show (13 : Nat) ≠ 16 from by decide)] at g14 ⊢
              rw [up2_ne (show (13 : Nat) ≠ 15 from by decide)] at g14 ⊢
              rw [up2_ne (show (13 : Nat) ≠ 14 from by decide)] at g14 ⊢
              refine r_iast 40 C dX0_chooseFrom_135 (by omega) (fun _ _ => rfl) (by omega) (by omega) (by decide) (by omega) ?_
              refine r_iinc C dX0_chooseFrom_136 (by decide) 6 rfl (fun z_ => [(3, iv z_), (6, iv be), (5, iv ip), (4, iv ib), (0, .ref (a 3)), (1, iv i), (2, iv fa)]) (fun _ => rfl) (fun x2 ex2 => ?_)
              refine r_goto (tgt := 10) C dX0_chooseFrom_139 (by decide) ?_
              refine r_sub [4, 5, 6, 0] (L' := [(0, .ref (a 3)), (1, iv i), (2, iv fa), (3, iv x2)]) rfl ?_
              exact ih10 _ _ (by omega) (by subst ex2; first | (exfalso; omega) | exact ⟨by omega, by omega, hag, hj.keepC (by omega) hok hcb hcg (by omega) (by omega), hsj.keep (by omega)⟩ | exact ⟨by omega, by omega, (((hag.up (by decide) _ _).up (by decide) _ _).up (by decide) _ _).up (by decide) _ _, hj.takeD (by omega) hok hcb hcg (fun q9 => by first | omega | (have h8 := q9.1; unfold Zg at h8; rw [if_pos ⟨rfl, hx1⟩] at h8; omega)), hsj.take (by omega) (by omega) rfl⟩)
          · skip
            refine r_iload C dX0_chooseFrom_54 1 rfl ?_
            refine r_aload_n C dX0_chooseFrom_56 2 rfl ?_
            refine gX0_25 C dX0_chooseFrom_57 ?_
            refine r_iload_n C dX0_chooseFrom_60 3 rfl ?_
            refine r_iald 41 C dX0_chooseFrom_61 (by omega) (fun _ => rfl) (by omega) (by omega) (by decide) (fun g16 => ?_)
            refine r_icmp_lt (tgt := 87) C dX0_chooseFrom_62 (by decide) (by omega) (by omega) (fun hb1 => ?_) (fun hb1 => ?_)
            · skip
              refine r_iconst C dX0_chooseFrom_87 ?_
              refine r_goto (tgt := 92) C dX0_chooseFrom_88 (by decide) ?_
              refine r_istore C dX0_chooseFrom_92 (by decide) (fun z_ => [(6, iv z_), (5, iv ip), (4, iv ib), (0, .ref (a 3)), (1, iv i), (2, iv fa), (3, iv x)]) (fun _ => rfl) (fun be ebe => ?_)
              refine r_iload C dX0_chooseFrom_94 0 rfl ?_
              refine r_if_eq (tgt := 136) C dX0_chooseFrom_96 (by decide) (by omega) (fun hbe => ?_) (fun hbe => ?_)
              · skip
                refine r_iinc C dX0_chooseFrom_136 (by decide) 6 rfl (fun z_ => [(3, iv z_), (6, iv be), (5, iv ip), (4, iv ib), (0, .ref (a 3)), (1, iv i), (2, iv fa)]) (fun _ => rfl) (fun x2 ex2 => ?_)
                refine r_goto (tgt := 10) C dX0_chooseFrom_139 (by decide) ?_
                refine r_sub [4, 5, 6, 0] (L' := [(0, .ref (a 3)), (1, iv i), (2, iv fa), (3, iv x2)]) rfl ?_
                exact ih10 _ _ (by omega) (by subst ex2; first | (exfalso; omega) | exact ⟨by omega, by omega, hag, hj.keepC (by omega) hok hcb hcg (by omega) (by omega), hsj.keep (by omega)⟩ | exact ⟨by omega, by omega, (((hag.up (by decide) _ _).up (by decide) _ _).up (by decide) _ _).up (by decide) _ _, hj.takeD (by omega) hok hcb hcg (fun q9 => by first | omega | (have h8 := q9.1; unfold Zg at h8; rw [if_pos ⟨rfl, hx1⟩] at h8; omega)), hsj.take (by omega) (by omega) rfl⟩)
              · skip
                refine r_aload_n C dX0_chooseFrom_99 3 rfl ?_
                refine gX0_25 C dX0_chooseFrom_100 ?_
                refine r_iload_n C dX0_chooseFrom_103 4 rfl ?_
                refine r_iload C dX0_chooseFrom_104 2 rfl ?_
                refine r_iast 41 C dX0_chooseFrom_106 (by omega) (fun _ _ => rfl) (by omega) (by omega) (by decide) (by omega) ?_
                refine r_aload_n C dX0_chooseFrom_107 3 rfl ?_
                refine gX0_28 C dX0_chooseFrom_108 ?_
                refine r_iload_n C dX0_chooseFrom_111 4 rfl ?_
                refine r_iload C dX0_chooseFrom_112 1 rfl ?_
                refine r_iast 41 C dX0_chooseFrom_114 (by omega) (fun _ _ => rfl) (by omega) (by omega) (by decide) (by omega) ?_
                refine r_aload_n C dX0_chooseFrom_115 3 rfl ?_
                refine gX0_31 C dX0_chooseFrom_116 ?_
                refine r_iload_n C dX0_chooseFrom_119 4 rfl ?_
                refine r_iload_n C dX0_chooseFrom_120 6 rfl ?_
                refine r_iast 41 C dX0_chooseFrom_121 (by omega) (fun _ _ => rfl) (by omega) (by omega) (by decide) (by omega) ?_
                refine r_aload_n C dX0_chooseFrom_122 3 rfl ?_
                refine gX0_34 C dX0_chooseFrom_123 ?_
                refine r_iload_n C dX0_chooseFrom_126 4 rfl ?_
                refine r_aload_n C dX0_chooseFrom_127 3 rfl ?_
                refine gX0_22 C dX0_chooseFrom_128 ?_
                refine r_iload_n C dX0_chooseFrom_131 6 rfl ?_
                refine r_iconst C dX0_chooseFrom_132 ?_
                refine r_isub C dX0_chooseFrom_133 ?_
                refine r_iald 40 C dX0_chooseFrom_134 (by omega) (fun _ => rfl) (by omega) (by omega) (by decide) (fun g24 => ?_)
                rw [up2_ne (show (13 : Nat) ≠ 16 from by decide)] at g24 ⊢
                rw [up2_ne (show (13 : Nat) ≠ 15 from by decide)] at g24 ⊢
                rw [up2_ne (show (13 : Nat) ≠ 14 from by decide)] at g24 ⊢
                refine r_iast 40 C dX0_chooseFrom_135 (by omega) (fun _ _ => rfl) (by omega) (by omega) (by decide) (by omega) ?_
                refine r_iinc C dX0_chooseFrom_136 (by decide) 6 rfl (fun z_ => [(3, iv z_), (6, iv be), (5, iv ip), (4, iv ib), (0, .ref (a 3)), (1, iv i), (2, iv fa)]) (fun _ => rfl) (fun x2 ex2 => ?_)
                refine r_goto (tgt := 10) C dX0_chooseFrom_139 (by decide) ?_
                refine r_sub [4, 5, 6, 0] (L' := [(0, .ref (a 3)), (1, iv i), (2, iv fa), (3, iv x2)]) rfl ?_
                exact ih10 _ _ (by omega) (by subst ex2; first | (exfalso; omega) | exact ⟨by omega, by omega, hag, hj.keepC (by omega) hok hcb hcg (by omega) (by omega), hsj.keep (by omega)⟩ | exact ⟨by omega, by omega, (((hag.up (by decide) _ _).up (by decide) _ _).up (by decide) _ _).up (by decide) _ _, hj.takeD (by omega) hok hcb hcg (fun q9 => by first | omega | (have h8 := q9.1; unfold Zg at h8; rw [if_pos ⟨rfl, hx1⟩] at h8; omega)), hsj.take (by omega) (by omega) rfl⟩)
            · skip
              refine r_iload C dX0_chooseFrom_65 1 rfl ?_
              refine r_aload_n C dX0_chooseFrom_67 2 rfl ?_
              refine gX0_25 C dX0_chooseFrom_68 ?_
              refine r_iload_n C dX0_chooseFrom_71 3 rfl ?_
              refine r_iald 41 C dX0_chooseFrom_72 (by omega) (fun _ => rfl) (by omega) (by omega) (by decide) (fun g26 => ?_)
              refine r_icmp_ne (tgt := 91) C dX0_chooseFrom_73 (by decide) (by omega) (by omega) (fun hb2 => ?_) (fun hb2 => ?_)
              · skip
                refine r_iconst C dX0_chooseFrom_91 ?_
                refine r_istore C dX0_chooseFrom_92 (by decide) (fun z_ => [(6, iv z_), (5, iv ip), (4, iv ib), (0, .ref (a 3)), (1, iv i), (2, iv fa), (3, iv x)]) (fun _ => rfl) (fun be ebe => ?_)
                refine r_iload C dX0_chooseFrom_94 0 rfl ?_
                refine r_if_eq (tgt := 136) C dX0_chooseFrom_96 (by decide) (by omega) (fun hbe => ?_) (fun hbe => ?_)
                · skip
                  refine r_iinc C dX0_chooseFrom_136 (by decide) 6 rfl (fun z_ => [(3, iv z_), (6, iv be), (5, iv ip), (4, iv ib), (0, .ref (a 3)), (1, iv i), (2, iv fa)]) (fun _ => rfl) (fun x2 ex2 => ?_)
                  refine r_goto (tgt := 10) C dX0_chooseFrom_139 (by decide) ?_
                  refine r_sub [4, 5, 6, 0] (L' := [(0, .ref (a 3)), (1, iv i), (2, iv fa), (3, iv x2)]) rfl ?_
                  exact ih10 _ _ (by omega) (by subst ex2; first | (exfalso; omega) | exact ⟨by omega, by omega, hag, hj.keepC (by omega) hok hcb hcg (by omega) (by omega), hsj.keep (by omega)⟩ | exact ⟨by omega, by omega, (((hag.up (by decide) _ _).up (by decide) _ _).up (by decide) _ _).up (by decide) _ _, hj.takeD (by omega) hok hcb hcg (fun q9 => by first | omega | (have h8 := q9.1; unfold Zg at h8; rw [if_pos ⟨rfl, hx1⟩] at h8; omega)), hsj.take (by omega) (by omega) rfl⟩)
                · skip
                  refine r_aload_n C dX0_chooseFrom_99 3 rfl ?_
                  refine gX0_25 C dX0_chooseFrom_100 ?_
                  refine r_iload_n C dX0_chooseFrom_103 4 rfl ?_
                  refine r_iload C dX0_chooseFrom_104 2 rfl ?_
                  refine r_iast 41 C dX0_chooseFrom_106 (by omega) (fun _ _ => rfl) (by omega) (by omega) (by decide) (by omega) ?_
                  refine r_aload_n C dX0_chooseFrom_107 3 rfl ?_
                  refine gX0_28 C dX0_chooseFrom_108 ?_
                  refine r_iload_n C dX0_chooseFrom_111 4 rfl ?_
                  refine r_iload C dX0_chooseFrom_112 1 rfl ?_
                  refine r_iast 41 C dX0_chooseFrom_114 (by omega) (fun _ _ => rfl) (by omega) (by omega) (by decide) (by omega) ?_
                  refine r_aload_n C dX0_chooseFrom_115 3 rfl ?_
                  refine gX0_31 C dX0_chooseFrom_116 ?_
                  refine r_iload_n C dX0_chooseFrom_119 4 rfl ?_
                  refine r_iload_n C dX0_chooseFrom_120 6 rfl ?_
                  refine r_iast 41 C dX0_chooseFrom_121 (by omega) (fun _ _ => rfl) (by omega) (by omega) (by decide) (by omega) ?_
                  refine r_aload_n C dX0_chooseFrom_122 3 rfl ?_
                  refine gX0_34 C dX0_chooseFrom_123 ?_
                  refine r_iload_n C dX0_chooseFrom_126 4 rfl ?_
                  refine r_aload_n C dX0_chooseFrom_127 3 rfl ?_
                  refine gX0_22 C dX0_chooseFrom_128 ?_
                  refine r_iload_n C dX0_chooseFrom_131 6 rfl ?_
                  refine r_iconst C dX0_chooseFrom_132 ?_
                  refine r_isub C dX0_chooseFrom_133 ?_
                  refine r_iald 40 C dX0_chooseFrom_134 (by omega) (fun _ => rfl) (by omega) (by omega) (by decide) (fun g34 => ?_)
                  rw [up2_ne (show (13 : Nat) ≠ 16 from by decide)] at g34 ⊢
                  rw [up2_ne (show (13 : Nat) ≠ 15 from by decide)] at g34 ⊢
                  rw [up2_ne (show (13 : Nat) ≠ 14 from by decide)] at g34 ⊢
                  refine r_iast 40 C dX0_chooseFrom_135 (by omega) (fun _ _ => rfl) (by omega) (by omega) (by decide) (by omega) ?_
                  refine r_iinc C dX0_chooseFrom_136 (by decide) 6 rfl (fun z_ => [(3, iv z_), (6, iv be), (5, iv ip), (4, iv ib), (0, .ref (a 3)), (1, iv i), (2, iv fa)]) (fun _ => rfl) (fun x2 ex2 => ?_)
                  refine r_goto (tgt := 10) C dX0_chooseFrom_139 (by decide) ?_
                  refine r_sub [4, 5, 6, 0] (L' := [(0, .ref (a 3)), (1, iv i), (2, iv fa), (3, iv x2)]) rfl ?_
                  exact ih10 _ _ (by omega) (by subst ex2; first | (exfalso; omega) | exact ⟨by omega, by omega, hag, hj.keepC (by omega) hok hcb hcg (by omega) (by omega), hsj.keep (by omega)⟩ | exact ⟨by omega, by omega, (((hag.up (by decide) _ _).up (by decide) _ _).up (by decide) _ _).up (by decide) _ _, hj.takeD (by omega) hok hcb hcg (fun q9 => by first | omega | (have h8 := q9.1; unfold Zg at h8; rw [if_pos ⟨rfl, hx1⟩] at h8; omega)), hsj.take (by omega) (by omega) rfl⟩)
              · skip
                refine r_iload C dX0_chooseFrom_76 0 rfl ?_
                refine r_aload_n C dX0_chooseFrom_78 2 rfl ?_
                refine gX0_28 C dX0_chooseFrom_79 ?_
                refine r_iload_n C dX0_chooseFrom_82 3 rfl ?_
                refine r_iald 41 C dX0_chooseFrom_83 (by omega) (fun _ => rfl) (by omega) (by omega) (by decide) (fun g36 => ?_)
                refine r_icmp_ge (tgt := 91) C dX0_chooseFrom_84 (by decide) (by omega) (by omega) (fun hb3 => ?_) (fun hb3 => ?_)
                · skip
                  refine r_iconst C dX0_chooseFrom_91 ?_
                  refine r_istore C dX0_chooseFrom_92 (by decide) (fun z_ => [(6, iv z_), (5, iv ip), (4, iv ib), (0, .ref (a 3)), (1, iv i), (2, iv fa), (3, iv x)]) (fun _ => rfl) (fun be ebe => ?_)
                  refine r_iload C dX0_chooseFrom_94 0 rfl ?_
                  refine r_if_eq (tgt := 136) C dX0_chooseFrom_96 (by decide) (by omega) (fun hbe => ?_) (fun hbe => ?_)
                  · skip
                    refine r_iinc C dX0_chooseFrom_136 (by decide) 6 rfl (fun z_ => [(3, iv z_), (6, iv be), (5, iv ip), (4, iv ib), (0, .ref (a 3)), (1, iv i), (2, iv fa)]) (fun _ => rfl) (fun x2 ex2 => ?_)
                    refine r_goto (tgt := 10) C dX0_chooseFrom_139 (by decide) ?_
                    refine r_sub [4, 5, 6, 0] (L' := [(0, .ref (a 3)), (1, iv i), (2, iv fa), (3, iv x2)]) rfl ?_
                    exact ih10 _ _ (by omega) (by subst ex2; first | (exfalso; omega) | exact ⟨by omega, by omega, hag, hj.keepC (by omega) hok hcb hcg (by omega) (by omega), hsj.keep (by omega)⟩ | exact ⟨by omega, by omega, (((hag.up (by decide) _ _).up (by decide) _ _).up (by decide) _ _).up (by decide) _ _, hj.takeD (by omega) hok hcb hcg (fun q9 => by first | omega | (have h8 := q9.1; unfold Zg at h8; rw [if_pos ⟨rfl, hx1⟩] at h8; omega)), hsj.take (by omega) (by omega) rfl⟩)
                  · skip
                    refine r_aload_n C dX0_chooseFrom_99 3 rfl ?_
                    refine gX0_25 C dX0_chooseFrom_100 ?_
                    refine r_iload_n C dX0_chooseFrom_103 4 rfl ?_
                    refine r_iload C dX0_chooseFrom_104 2 rfl ?_
                    refine r_iast 41 C dX0_chooseFrom_106 (by omega) (fun _ _ => rfl) (by omega) (by omega) (by decide) (by omega) ?_
                    refine r_aload_n C dX0_chooseFrom_107 3 rfl ?_
                    refine gX0_28 C dX0_chooseFrom_108 ?_
                    refine r_iload_n C dX0_chooseFrom_111 4 rfl ?_
                    refine r_iload C dX0_chooseFrom_112 1 rfl ?_
                    refine r_iast 41 C dX0_chooseFrom_114 (by omega) (fun _ _ => rfl) (by omega) (by omega) (by decide) (by omega) ?_
                    refine r_aload_n C dX0_chooseFrom_115 3 rfl ?_
                    refine gX0_31 C dX0_chooseFrom_116 ?_
                    refine r_iload_n C dX0_chooseFrom_119 4 rfl ?_
                    refine r_iload_n C dX0_chooseFrom_120 6 rfl ?_
                    refine r_iast 41 C dX0_chooseFrom_121 (by omega) (fun _ _ => rfl) (by omega) (by omega) (by decide) (by omega) ?_
                    refine r_aload_n C dX0_chooseFrom_122 3 rfl ?_
                    refine gX0_34 C dX0_chooseFrom_123 ?_
                    refine r_iload_n C dX0_chooseFrom_126 4 rfl ?_
                    refine r_aload_n C dX0_chooseFrom_127 3 rfl ?_
                    refine gX0_22 C dX0_chooseFrom_128 ?_
                    refine r_iload_n C dX0_chooseFrom_131 6 rfl ?_
                    refine r_iconst C dX0_chooseFrom_132 ?_
                    refine r_isub C dX0_chooseFrom_133 ?_
                    refine r_iald 40 C dX0_chooseFrom_134 (by omega) (fun _ => rfl) (by omega) (by omega) (by decide) (fun g44 => ?_)
                    rw [up2_ne (show (13 : Nat) ≠ 16 from by decide)] at g44 ⊢
                    rw [up2_ne (show (13 : Nat) ≠ 15 from by decide)] at g44 ⊢
                    rw [up2_ne (show (13 : Nat) ≠ 14 from by decide)] at g44 ⊢
                    refine r_iast 40 C dX0_chooseFrom_135 (by omega) (fun _ _ => rfl) (by omega) (by omega) (by decide) (by omega) ?_
                    refine r_iinc C dX0_chooseFrom_136 (by decide) 6 rfl (fun z_ => [(3, iv z_), (6, iv be), (5, iv ip), (4, iv ib), (0, .ref (a 3)), (1, iv i), (2, iv fa)]) (fun _ => rfl) (fun x2 ex2 => ?_)
                    refine r_goto (tgt := 10) C dX0_chooseFrom_139 (by decide) ?_
                    refine r_sub [4, 5, 6, 0] (L' := [(0, .ref (a 3)), (1, iv i), (2, iv fa), (3, iv x2)]) rfl ?_
                    exact ih10 _ _ (by omega) (by subst ex2; first | (exfalso; omega) | exact ⟨by omega, by omega, hag, hj.keepC (by omega) hok hcb hcg (by omega) (by omega), hsj.keep (by omega)⟩ | exact ⟨by omega, by omega, (((hag.up (by decide) _ _).up (by decide) _ _).up (by decide) _ _).up (by decide) _ _, hj.takeD (by omega) hok hcb hcg (fun q9 => by first | omega | (have h8 := q9.1; unfold Zg at h8; rw [if_pos ⟨rfl, hx1⟩] at h8; omega)), hsj.take (by omega) (by omega) rfl⟩)
                · skip
                  refine r_iconst C dX0_chooseFrom_87 ?_
                  refine r_goto (tgt := 92) C dX0_chooseFrom_88 (by decide) ?_
                  refine r_istore C dX0_chooseFrom_92 (by decide) (fun z_ => [(6, iv z_), (5, iv ip), (4, iv ib), (0, .ref (a 3)), (1, iv i), (2, iv fa), (3, iv x)]) (fun _ => rfl) (fun be ebe => ?_)
                  refine r_iload C dX0_chooseFrom_94 0 rfl ?_
                  refine r_if_eq (tgt := 136) C dX0_chooseFrom_96 (by decide) (by omega) (fun hbe => ?_) (fun hbe => ?_)
                  · skip
                    refine r_iinc C dX0_chooseFrom_136 (by decide) 6 rfl (fun z_ => [(3, iv z_), (6, iv be), (5, iv ip), (4, iv ib), (0, .ref (a 3)), (1, iv i), (2, iv fa)]) (fun _ => rfl) (fun x2 ex2 => ?_)
                    refine r_goto (tgt := 10) C dX0_chooseFrom_139 (by decide) ?_
                    refine r_sub [4, 5, 6, 0] (L' := [(0, .ref (a 3)), (1, iv i), (2, iv fa), (3, iv x2)]) rfl ?_
                    exact ih10 _ _ (by omega) (by subst ex2; first | (exfalso; omega) | exact ⟨by omega, by omega, hag, hj.keepC (by omega) hok hcb hcg (by omega) (by omega), hsj.keep (by omega)⟩ | exact ⟨by omega, by omega, (((hag.up (by decide) _ _).up (by decide) _ _).up (by decide) _ _).up (by decide) _ _, hj.takeD (by omega) hok hcb hcg (fun q9 => by first | omega | (have h8 := q9.1; unfold Zg at h8; rw [if_pos ⟨rfl, hx1⟩] at h8; omega)), hsj.take (by omega) (by omega) rfl⟩)
                  · skip
                    refine r_aload_n C dX0_chooseFrom_99 3 rfl ?_
                    refine gX0_25 C dX0_chooseFrom_100 ?_
                    refine r_iload_n C dX0_chooseFrom_103 4 rfl ?_
                    refine r_iload C dX0_chooseFrom_104 2 rfl ?_
                    refine r_iast 41 C dX0_chooseFrom_106 (by omega) (fun _ _ => rfl) (by omega) (by omega) (by decide) (by omega) ?_
                    refine r_aload_n C dX0_chooseFrom_107 3 rfl ?_
                    refine gX0_28 C dX0_chooseFrom_108 ?_
                    refine r_iload_n C dX0_chooseFrom_111 4 rfl ?_
                    refine r_iload C dX0_chooseFrom_112 1 rfl ?_
                    refine r_iast 41 C dX0_chooseFrom_114 (by omega) (fun _ _ => rfl) (by omega) (by omega) (by decide) (by omega) ?_
                    refine r_aload_n C dX0_chooseFrom_115 3 rfl ?_
                    refine gX0_31 C dX0_chooseFrom_116 ?_
                    refine r_iload_n C dX0_chooseFrom_119 4 rfl ?_
                    refine r_iload_n C dX0_chooseFrom_120 6 rfl ?_
                    refine r_iast 41 C dX0_chooseFrom_121 (by omega) (fun _ _ => rfl) (by omega) (by omega) (by decide) (by omega) ?_
                    refine r_aload_n C dX0_chooseFrom_122 3 rfl ?_
                    refine gX0_34 C dX0_chooseFrom_123 ?_
                    refine r_iload_n C dX0_chooseFrom_126 4 rfl ?_
                    refine r_aload_n C dX0_chooseFrom_127 3 rfl ?_
                    refine gX0_22 C dX0_chooseFrom_128 ?_
                    refine r_iload_n C dX0_chooseFrom_131 6 rfl ?_
                    refine r_iconst C dX0_chooseFrom_132 ?_
                    refine r_isub C dX0_chooseFrom_133 ?_
                    refine r_iald 40 C dX0_chooseFrom_134 (by omega) (fun _ => rfl) (by omega) (by omega) (by decide) (fun g51 => ?_)
                    rw [up2_ne (show (13 : Nat) ≠ 16 from by decide)] at g51 ⊢
                    rw [up2_ne (show (13 : Nat) ≠ 15 from by decide)] at g51 ⊢
                    rw [up2_ne (show (13 : Nat) ≠ 14 from by decide)] at g51 ⊢
                    refine r_iast 40 C dX0_chooseFrom_135 (by omega) (fun _ _ => rfl) (by omega) (by omega) (by decide) (by omega) ?_
                    refine r_iinc C dX0_chooseFrom_136 (by decide) 6 rfl (fun z_ => [(3, iv z_), (6, iv be), (5, iv ip), (4, iv ib), (0, .ref (a 3)), (1, iv i), (2, iv fa)]) (fun _ => rfl) (fun x2 ex2 => ?_)
                    refine r_goto (tgt := 10) C dX0_chooseFrom_139 (by decide) ?_
                    refine r_sub [4, 5, 6, 0] (L' := [(0, .ref (a 3)), (1, iv i), (2, iv fa), (3, iv x2)]) rfl ?_
                    exact ih10 _ _ (by omega) (by subst ex2; first | (exfalso; omega) | exact ⟨by omega, by omega, hag, hj.keepC (by omega) hok hcb hcg (by omega) (by omega), hsj.keep (by omega)⟩ | exact ⟨by omega, by omega, (((hag.up (by decide) _ _).up (by decide) _ _).up (by decide) _ _).up (by decide) _ _, hj.takeD (by omega) hok hcb hcg (fun q9 => by first | omega | (have h8 := q9.1; unfold Zg at h8; rw [if_pos ⟨rfl, hx1⟩] at h8; omega)), hsj.take (by omega) (by omega) rfl⟩)
        · skip
          refine r_if_eq (tgt := 33) C dX0_chooseFrom_26 (by decide) (by decide) (fun _ => ?_) (fun q => absurd q (by decide))
          refine r_iconst C dX0_chooseFrom_33 ?_
          refine r_iadd C dX0_chooseFrom_34 ?_
          refine r_istore C dX0_chooseFrom_35 (by decide) (fun z_ => [(4, iv z_), (0, .ref (a 3)), (1, iv i), (2, iv fa), (3, iv x)]) (fun _ => rfl) (fun ib eib => ?_)
          refine r_aload_n C dX0_chooseFrom_37 1 rfl ?_
          refine gX0_28 C dX0_chooseFrom_38 ?_
          refine r_iload_n C dX0_chooseFrom_41 4 rfl ?_
          refine r_iald 41 C dX0_chooseFrom_42 (by omega) (fun _ => rfl) (by omega) (by omega) (by decide) (fun g54 => ?_)
          refine r_iconst C dX0_chooseFrom_43 ?_
          refine r_iadd C dX0_chooseFrom_44 ?_
          refine r_istore C dX0_chooseFrom_45 (by decide) (fun z_ => [(5, iv z_), (4, iv ib), (0, .ref (a 3)), (1, iv i), (2, iv fa), (3, iv x)]) (fun _ => rfl) (fun ip eip => ?_)
          have hcb : ib = σ 14 x + btC σ x := by
            unfold btC
            rw [e23, e12, e39] at hbt
            first
              | (rw [if_pos hbt]; omega)
              | (rw [if_neg hbt]; omega)
          have hcg : ip = σ 15 x + 1 := by omega
          refine r_iload_n C dX0_chooseFrom_47 5 rfl ?_
          refine r_iload_n C dX0_chooseFrom_48 3 rfl ?_
          refine r_iconst C dX0_chooseFrom_49 ?_
          refine r_iadd C dX0_chooseFrom_50 ?_
          refine r_icmp_eq (tgt := 87) C dX0_chooseFrom_51 (by decide) (by omega) (by omega) (fun hx1 => ?_) (fun hx1 => ?_)
          · skip
            refine r_iconst C dX0_chooseFrom_87 ?_
            refine r_goto (tgt := 92) C dX0_chooseFrom_88 (by decide) ?_
            refine r_istore C dX0_chooseFrom_92 (by decide) (fun z_ => [(6, iv z_), (5, iv ip), (4, iv ib), (0, .ref (a 3)), (1, iv i), (2, iv fa), (3, iv x)]) (fun _ => rfl) (fun be ebe => ?_)
            refine r_iload C dX0_chooseFrom_94 0 rfl ?_
            refine r_if_eq (tgt := 136) C dX0_chooseFrom_96 (by decide) (by omega) (fun hbe => ?_) (fun hbe => ?_)
            · skip
              refine r_iinc C dX0_chooseFrom_136 (by decide) 6 rfl (fun z_ => [(3, iv z_), (6, iv be), (5, iv ip), (4, iv ib), (0, .ref (a 3)), (1, iv i), (2, iv fa)]) (fun _ => rfl) (fun x2 ex2 => ?_)
              refine r_goto (tgt := 10) C dX0_chooseFrom_139 (by decide) ?_
              refine r_sub [4, 5, 6, 0] (L' := [(0, .ref (a 3)), (1, iv i), (2, iv fa), (3, iv x2)]) rfl ?_
              exact ih10 _ _ (by omega) (by subst ex2; first | (exfalso; omega) | exact ⟨by omega, by omega, hag, hj.keepC (by omega) hok hcb hcg (by omega) (by omega), hsj.keep (by omega)⟩ | exact ⟨by omega, by omega, (((hag.up (by decide) _ _).up (by decide) _ _).up (by decide) _ _).up (by decide) _ _, hj.takeD (by omega) hok hcb hcg (fun q9 => by first | omega | (have h8 := q9.1; unfold Zg at h8; rw [if_pos ⟨rfl, hx1⟩] at h8; omega)), hsj.take (by omega) (by omega) rfl⟩)
            · skip
              refine r_aload_n C dX0_chooseFrom_99 3 rfl ?_
              refine gX0_25 C dX0_chooseFrom_100 ?_
              refine r_iload_n C dX0_chooseFrom_103 4 rfl ?_
              refine r_iload C dX0_chooseFrom_104 2 rfl ?_
              refine r_iast 41 C dX0_chooseFrom_106 (by omega) (fun _ _ => rfl) (by omega) (by omega) (by decide) (by omega) ?_
              refine r_aload_n C dX0_chooseFrom_107 3 rfl ?_
              refine gX0_28 C dX0_chooseFrom_108 ?_
              refine r_iload_n C dX0_chooseFrom_111 4 rfl ?_
              refine r_iload C dX0_chooseFrom_112 1 rfl ?_
              refine r_iast 41 C dX0_chooseFrom_114 (by omega) (fun _ _ => rfl) (by omega) (by omega) (by decide) (by omega) ?_
              refine r_aload_n C dX0_chooseFrom_115 3 rfl ?_
              refine gX0_31 C dX0_chooseFrom_116 ?_
              refine r_iload_n C dX0_chooseFrom_119 4 rfl ?_
              refine r_iload_n C dX0_chooseFrom_120 6 rfl ?_
              refine r_iast 41 C dX0_chooseFrom_121 (by omega) (fun _ _ => rfl) (by omega) (by omega) (by decide) (by omega) ?_
              refine r_aload_n C dX0_chooseFrom_122 3 rfl ?_
              refine gX0_34 C dX0_chooseFrom_123 ?_
              refine r_iload_n C dX0_chooseFrom_126 4 rfl ?_
              refine r_aload_n C dX0_chooseFrom_127 3 rfl ?_
              refine gX0_22 C dX0_chooseFrom_128 ?_
              refine r_iload_n C dX0_chooseFrom_131 6 rfl ?_
              refine r_iconst C dX0_chooseFrom_132 ?_
              refine r_isub C dX0_chooseFrom_133 ?_
              refine r_iald 40 C dX0_chooseFrom_134 (by omega) (fun _ => rfl) (by omega) (by omega) (by decide) (fun g62 => ?_)
              rw [up2_ne (show (13 : Nat) ≠ 16 from by decide)] at g62 ⊢
              rw [up2_ne (show (13 : Nat) ≠ 15 from by decide)] at g62 ⊢
              rw [up2_ne (show (13 : Nat) ≠ 14 from by decide)] at g62 ⊢
              refine r_iast 40 C dX0_chooseFrom_135 (by omega) (fun _ _ => rfl) (by omega) (by omega) (by decide) (by omega) ?_
              refine r_iinc C dX0_chooseFrom_136 (by decide) 6 rfl (fun z_ => [(3, iv z_), (6, iv be), (5, iv ip), (4, iv ib), (0, .ref (a 3)), (1, iv i), (2, iv fa)]) (fun _ => rfl) (fun x2 ex2 => ?_)
              refine r_goto (tgt := 10) C dX0_chooseFrom_139 (by decide) ?_
              refine r_sub [4, 5, 6, 0] (L' := [(0, .ref (a 3)), (1, iv i), (2, iv fa), (3, iv x2)]) rfl ?_
              exact ih10 _ _ (by omega) (by subst ex2; first | (exfalso; omega) | exact ⟨by omega, by omega, hag, hj.keepC (by omega) hok hcb hcg (by omega) (by omega), hsj.keep (by omega)⟩ | exact ⟨by omega, by omega, (((hag.up (by decide) _ _).up (by decide) _ _).up (by decide) _ _).up (by decide) _ _, hj.takeD (by omega) hok hcb hcg (fun q9 => by first | omega | (have h8 := q9.1; unfold Zg at h8; rw [if_pos ⟨rfl, hx1⟩] at h8; omega)), hsj.take (by omega) (by omega) rfl⟩)
          · skip
            refine r_iload C dX0_chooseFrom_54 1 rfl ?_
            refine r_aload_n C dX0_chooseFrom_56 2 rfl ?_
            refine gX0_25 C dX0_chooseFrom_57 ?_
            refine r_iload_n C dX0_chooseFrom_60 3 rfl ?_
            refine r_iald 41 C dX0_chooseFrom_61 (by omega) (fun _ => rfl) (by omega) (by omega) (by decide) (fun g64 => ?_)
            refine r_icmp_lt (tgt := 87) C dX0_chooseFrom_62 (by decide) (by omega) (by omega) (fun hb1 => ?_) (fun hb1 => ?_)
            · skip
              refine r_iconst C dX0_chooseFrom_87 ?_
              refine r_goto (tgt := 92) C dX0_chooseFrom_88 (by decide) ?_
              refine r_istore C dX0_chooseFrom_92 (by decide) (fun z_ => [(6, iv z_), (5, iv ip), (4, iv ib), (0, .ref (a 3)), (1, iv i), (2, iv fa), (3, iv x)]) (fun _ => rfl) (fun be ebe => ?_)
              refine r_iload C dX0_chooseFrom_94 0 rfl ?_
              refine r_if_eq (tgt := 136) C dX0_chooseFrom_96 (by decide) (by omega) (fun hbe => ?_) (fun hbe => ?_)
              · skip
                refine r_iinc C dX0_chooseFrom_136 (by decide) 6 rfl (fun z_ => [(3, iv z_), (6, iv be), (5, iv ip), (4, iv ib), (0, .ref (a 3)), (1, iv i), (2, iv fa)]) (fun _ => rfl) (fun x2 ex2 => ?_)
                refine r_goto (tgt := 10) C dX0_chooseFrom_139 (by decide) ?_
                refine r_sub [4, 5, 6, 0] (L' := [(0, .ref (a 3)), (1, iv i), (2, iv fa), (3, iv x2)]) rfl ?_
                exact ih10 _ _ (by omega) (by subst ex2; first | (exfalso; omega) | exact ⟨by omega, by omega, hag, hj.keepC (by omega) hok hcb hcg (by omega) (by omega), hsj.keep (by omega)⟩ | exact ⟨by omega, by omega, (((hag.up (by decide) _ _).up (by decide) _ _).up (by decide) _ _).up (by decide) _ _, hj.takeD (by omega) hok hcb hcg (fun q9 => by first | omega | (have h8 := q9.1; unfold Zg at h8; rw [if_pos ⟨rfl, hx1⟩] at h8; omega)), hsj.take (by omega) (by omega) rfl⟩)
              · skip
                refine r_aload_n C dX0_chooseFrom_99 3 rfl ?_
                refine gX0_25 C dX0_chooseFrom_100 ?_
                refine r_iload_n C dX0_chooseFrom_103 4 rfl ?_
                refine r_iload C dX0_chooseFrom_104 2 rfl ?_
                refine r_iast 41 C dX0_chooseFrom_106 (by omega) (fun _ _ => rfl) (by omega) (by omega) (by decide) (by omega) ?_
                refine r_aload_n C dX0_chooseFrom_107 3 rfl ?_
                refine gX0_28 C dX0_chooseFrom_108 ?_
                refine r_iload_n C dX0_chooseFrom_111 4 rfl ?_
                refine r_iload C dX0_chooseFrom_112 1 rfl ?_
                refine r_iast 41 C dX0_chooseFrom_114 (by omega) (fun _ _ => rfl) (by omega) (by omega) (by decide) (by omega) ?_
                refine r_aload_n C dX0_chooseFrom_115 3 rfl ?_
                refine gX0_31 C dX0_chooseFrom_116 ?_
                refine r_iload_n C dX0_chooseFrom_119 4 rfl ?_
                refine r_iload_n C dX0_chooseFrom_120 6 rfl ?_
                refine r_iast 41 C dX0_chooseFrom_121 (by omega) (fun _ _ => rfl) (by omega) (by omega) (by decide) (by omega) ?_
                refine r_aload_n C dX0_chooseFrom_122 3 rfl ?_
                refine gX0_34 C dX0_chooseFrom_123 ?_
                refine r_iload_n C dX0_chooseFrom_126 4 rfl ?_
                refine r_aload_n C dX0_chooseFrom_127 3 rfl ?_
                refine gX0_22 C dX0_chooseFrom_128 ?_
                refine r_iload_n C dX0_chooseFrom_131 6 rfl ?_
                refine r_iconst C dX0_chooseFrom_132 ?_
                refine r_isub C dX0_chooseFrom_133 ?_
                refine r_iald 40 C dX0_chooseFrom_134 (by omega) (fun _ => rfl) (by omega) (by omega) (by decide) (fun g72 => ?_)
                rw [up2_ne (show (13 : Nat) ≠ 16 from by decide)] at g72 ⊢
                rw [up2_ne (show (13 : Nat) ≠ 15 from by decide)] at g72 ⊢
                rw [up2_ne (show (13 : Nat) ≠ 14 from by decide)] at g72 ⊢
                refine r_iast 40 C dX0_chooseFrom_135 (by omega) (fun _ _ => rfl) (by omega) (by omega) (by decide) (by omega) ?_
                refine r_iinc C dX0_chooseFrom_136 (by decide) 6 rfl (fun z_ => [(3, iv z_), (6, iv be), (5, iv ip), (4, iv ib), (0, .ref (a 3)), (1, iv i), (2, iv fa)]) (fun _ => rfl) (fun x2 ex2 => ?_)
                refine r_goto (tgt := 10) C dX0_chooseFrom_139 (by decide) ?_
                refine r_sub [4, 5, 6, 0] (L' := [(0, .ref (a 3)), (1, iv i), (2, iv fa), (3, iv x2)]) rfl ?_
                exact ih10 _ _ (by omega) (by subst ex2; first | (exfalso; omega) | exact ⟨by omega, by omega, hag, hj.keepC (by omega) hok hcb hcg (by omega) (by omega), hsj.keep (by omega)⟩ | exact ⟨by omega, by omega, (((hag.up (by decide) _ _).up (by decide) _ _).up (by decide) _ _).up (by decide) _ _, hj.takeD (by omega) hok hcb hcg (fun q9 => by first | omega | (have h8 := q9.1; unfold Zg at h8; rw [if_pos ⟨rfl, hx1⟩] at h8; omega)), hsj.take (by omega) (by omega) rfl⟩)
            · skip
              refine r_iload C dX0_chooseFrom_65 1 rfl ?_
              refine r_aload_n C dX0_chooseFrom_67 2 rfl ?_
              refine gX0_25 C dX0_chooseFrom_68 ?_
              refine r_iload_n C dX0_chooseFrom_71 3 rfl ?_
              refine r_iald 41 C dX0_chooseFrom_72 (by omega) (fun _ => rfl) (by omega) (by omega) (by decide) (fun g74 => ?_)
              refine r_icmp_ne (tgt := 91) C dX0_chooseFrom_73 (by decide) (by omega) (by omega) (fun hb2 => ?_) (fun hb2 => ?_)
              · skip
                refine r_iconst C dX0_chooseFrom_91 ?_
                refine r_istore C dX0_chooseFrom_92 (by decide) (fun z_ => [(6, iv z_), (5, iv ip), (4, iv ib), (0, .ref (a 3)), (1, iv i), (2, iv fa), (3, iv x)]) (fun _ => rfl) (fun be ebe => ?_)
                refine r_iload C dX0_chooseFrom_94 0 rfl ?_
                refine r_if_eq (tgt := 136) C dX0_chooseFrom_96 (by decide) (by omega) (fun hbe => ?_) (fun hbe => ?_)
                · skip
                  refine r_iinc C dX0_chooseFrom_136 (by decide) 6 rfl (fun z_ => [(3, iv z_), (6, iv be), (5, iv ip), (4, iv ib), (0, .ref (a 3)), (1, iv i), (2, iv fa)]) (fun _ => rfl) (fun x2 ex2 => ?_)
                  refine r_goto (tgt := 10) C dX0_chooseFrom_139 (by decide) ?_
                  refine r_sub [4, 5, 6, 0] (L' := [(0, .ref (a 3)), (1, iv i), (2, iv fa), (3, iv x2)]) rfl ?_
                  exact ih10 _ _ (by omega) (by subst ex2; first | (exfalso; omega) | exact ⟨by omega, by omega, hag, hj.keepC (by omega) hok hcb hcg (by omega) (by omega), hsj.keep (by omega)⟩ | exact ⟨by omega, by omega, (((hag.up (by decide) _ _).up (by decide) _ _).up (by decide) _ _).up (by decide) _ _, hj.takeD (by omega) hok hcb hcg (fun q9 => by first | omega | (have h8 := q9.1; unfold Zg at h8; rw [if_pos ⟨rfl, hx1⟩] at h8; omega)), hsj.take (by omega) (by omega) rfl⟩)
                · skip
                  refine r_aload_n C dX0_chooseFrom_99 3 rfl ?_
                  refine gX0_25 C dX0_chooseFrom_100 ?_
                  refine r_iload_n C dX0_chooseFrom_103 4 rfl ?_
                  refine r_iload C dX0_chooseFrom_104 2 rfl ?_
                  refine r_iast 41 C dX0_chooseFrom_106 (by omega) (fun _ _ => rfl) (by omega) (by omega) (by decide) (by omega) ?_
                  refine r_aload_n C dX0_chooseFrom_107 3 rfl ?_
                  refine gX0_28 C dX0_chooseFrom_108 ?_
                  refine r_iload_n C dX0_chooseFrom_111 4 rfl ?_
                  refine r_iload C dX0_chooseFrom_112 1 rfl ?_
                  refine r_iast 41 C dX0_chooseFrom_114 (by omega) (fun _ _ => rfl) (by omega) (by omega) (by decide) (by omega) ?_
                  refine r_aload_n C dX0_chooseFrom_115 3 rfl ?_
                  refine gX0_31 C dX0_chooseFrom_116 ?_
                  refine r_iload_n C dX0_chooseFrom_119 4 rfl ?_
                  refine r_iload_n C dX0_chooseFrom_120 6 rfl ?_
                  refine r_iast 41 C dX0_chooseFrom_121 (by omega) (fun _ _ => rfl) (by omega) (by omega) (by decide) (by omega) ?_
                  refine r_aload_n C dX0_chooseFrom_122 3 rfl ?_
                  refine gX0_34 C dX0_chooseFrom_123 ?_
                  refine r_iload_n C dX0_chooseFrom_126 4 rfl ?_
                  refine r_aload_n C dX0_chooseFrom_127 3 rfl ?_
                  refine gX0_22 C dX0_chooseFrom_128 ?_
                  refine r_iload_n C dX0_chooseFrom_131 6 rfl ?_
                  refine r_iconst C dX0_chooseFrom_132 ?_
                  refine r_isub C dX0_chooseFrom_133 ?_
                  refine r_iald 40 C dX0_chooseFrom_134 (by omega) (fun _ => rfl) (by omega) (by omega) (by decide) (fun g82 => ?_)
                  rw [up2_ne (show (13 : Nat) ≠ 16 from by decide)] at g82 ⊢
                  rw [up2_ne (show (13 : Nat) ≠ 15 from by decide)] at g82 ⊢
                  rw [up2_ne (show (13 : Nat) ≠ 14 from by decide)] at g82 ⊢
                  refine r_iast 40 C dX0_chooseFrom_135 (by omega) (fun _ _ => rfl) (by omega) (by omega) (by decide) (by omega) ?_
                  refine r_iinc C dX0_chooseFrom_136 (by decide) 6 rfl (fun z_ => [(3, iv z_), (6, iv be), (5, iv ip), (4, iv ib), (0, .ref (a 3)), (1, iv i), (2, iv fa)]) (fun _ => rfl) (fun x2 ex2 => ?_)
                  refine r_goto (tgt := 10) C dX0_chooseFrom_139 (by decide) ?_
                  refine r_sub [4, 5, 6, 0] (L' := [(0, .ref (a 3)), (1, iv i), (2, iv fa), (3, iv x2)]) rfl ?_
                  exact ih10 _ _ (by omega) (by subst ex2; first | (exfalso; omega) | exact ⟨by omega, by omega, hag, hj.keepC (by omega) hok hcb hcg (by omega) (by omega), hsj.keep (by omega)⟩ | exact ⟨by omega, by omega, (((hag.up (by decide) _ _).up (by decide) _ _).up (by decide) _ _).up (by decide) _ _, hj.takeD (by omega) hok hcb hcg (fun q9 => by first | omega | (have h8 := q9.1; unfold Zg at h8; rw [if_pos ⟨rfl, hx1⟩] at h8; omega)), hsj.take (by omega) (by omega) rfl⟩)
              · skip
                refine r_iload C dX0_chooseFrom_76 0 rfl ?_
                refine r_aload_n C dX0_chooseFrom_78 2 rfl ?_
                refine gX0_28 C dX0_chooseFrom_79 ?_
                refine r_iload_n C dX0_chooseFrom_82 3 rfl ?_
                refine r_iald 41 C dX0_chooseFrom_83 (by omega) (fun _ => rfl) (by omega) (by omega) (by decide) (fun g84 => ?_)
                refine r_icmp_ge (tgt := 91) C dX0_chooseFrom_84 (by decide) (by omega) (by omega) (fun hb3 => ?_) (fun hb3 => ?_)
                · skip
                  refine r_iconst C dX0_chooseFrom_91 ?_
                  refine r_istore C dX0_chooseFrom_92 (by decide) (fun z_ => [(6, iv z_), (5, iv ip), (4, iv ib), (0, .ref (a 3)), (1, iv i), (2, iv fa), (3, iv x)]) (fun _ => rfl) (fun be ebe => ?_)
                  refine r_iload C dX0_chooseFrom_94 0 rfl ?_
                  refine r_if_eq (tgt := 136) C dX0_chooseFrom_96 (by decide) (by omega) (fun hbe => ?_) (fun hbe => ?_)
                  · skip
                    refine r_iinc C dX0_chooseFrom_136 (by decide) 6 rfl (fun z_ => [(3, iv z_), (6, iv be), (5, iv ip), (4, iv ib), (0, .ref (a 3)), (1, iv i), (2, iv fa)]) (fun _ => rfl) (fun x2 ex2 => ?_)
                    refine r_goto (tgt := 10) C dX0_chooseFrom_139 (by decide) ?_
                    refine r_sub [4, 5, 6, 0] (L' := [(0, .ref (a 3)), (1, iv i), (2, iv fa), (3, iv x2)]) rfl ?_
                    exact ih10 _ _ (by omega) (by subst ex2; first | (exfalso; omega) | exact ⟨by omega, by omega, hag, hj.keepC (by omega) hok hcb hcg (by omega) (by omega), hsj.keep (by omega)⟩ | exact ⟨by omega, by omega, (((hag.up (by decide) _ _).up (by decide) _ _).up (by decide) _ _).up (by decide) _ _, hj.takeD (by omega) hok hcb hcg (fun q9 => by first | omega | (have h8 := q9.1; unfold Zg at h8; rw [if_pos ⟨rfl, hx1⟩] at h8; omega)), hsj.take (by omega) (by omega) rfl⟩)
                  · skip
                    refine r_aload_n C dX0_chooseFrom_99 3 rfl ?_
                    refine gX0_25 C dX0_chooseFrom_100 ?_
                    refine r_iload_n C dX0_chooseFrom_103 4 rfl ?_
                    refine r_iload C dX0_chooseFrom_104 2 rfl ?_
                    refine r_iast 41 C dX0_chooseFrom_106 (by omega) (fun _ _ => rfl) (by omega) (by omega) (by decide) (by omega) ?_
                    refine r_aload_n C dX0_chooseFrom_107 3 rfl ?_
                    refine gX0_28 C dX0_chooseFrom_108 ?_
                    refine r_iload_n C dX0_chooseFrom_111 4 rfl ?_
                    refine r_iload C dX0_chooseFrom_112 1 rfl ?_
                    refine r_iast 41 C dX0_chooseFrom_114 (by omega) (fun _ _ => rfl) (by omega) (by omega) (by decide) (by omega) ?_
                    refine r_aload_n C dX0_chooseFrom_115 3 rfl ?_
                    refine gX0_31 C dX0_chooseFrom_116 ?_
                    refine r_iload_n C dX0_chooseFrom_119 4 rfl ?_
                    refine r_iload_n C dX0_chooseFrom_120 6 rfl ?_
                    refine r_iast 41 C dX0_chooseFrom_121 (by omega) (fun _ _ => rfl) (by omega) (by omega) (by decide) (by omega) ?_
                    refine r_aload_n C dX0_chooseFrom_122 3 rfl ?_
                    refine gX0_34 C dX0_chooseFrom_123 ?_
                    refine r_iload_n C dX0_chooseFrom_126 4 rfl ?_
                    refine r_aload_n C dX0_chooseFrom_127 3 rfl ?_
                    refine gX0_22 C dX0_chooseFrom_128 ?_
                    refine r_iload_n C dX0_chooseFrom_131 6 rfl ?_
                    refine r_iconst C dX0_chooseFrom_132 ?_
                    refine r_isub C dX0_chooseFrom_133 ?_
                    refine r_iald 40 C dX0_chooseFrom_134 (by omega) (fun _ => rfl) (by omega) (by omega) (by decide) (fun g92 => ?_)
                    rw [up2_ne (show (13 : Nat) ≠ 16 from by decide)] at g92 ⊢
                    rw [up2_ne (show (13 : Nat) ≠ 15 from by decide)] at g92 ⊢
                    rw [up2_ne (show (13 : Nat) ≠ 14 from by decide)] at g92 ⊢
                    refine r_iast 40 C dX0_chooseFrom_135 (by omega) (fun _ _ => rfl) (by omega) (by omega) (by decide) (by omega) ?_
                    refine r_iinc C dX0_chooseFrom_136 (by decide) 6 rfl (fun z_ => [(3, iv z_), (6, iv be), (5, iv ip), (4, iv ib), (0, .ref (a 3)), (1, iv i), (2, iv fa)]) (fun _ => rfl) (fun x2 ex2 => ?_)
                    refine r_goto (tgt := 10) C dX0_chooseFrom_139 (by decide) ?_
                    refine r_sub [4, 5, 6, 0] (L' := [(0, .ref (a 3)), (1, iv i), (2, iv fa), (3, iv x2)]) rfl ?_
                    exact ih10 _ _ (by omega) (by subst ex2; first | (exfalso; omega) | exact ⟨by omega, by omega, hag, hj.keepC (by omega) hok hcb hcg (by omega) (by omega), hsj.keep (by omega)⟩ | exact ⟨by omega, by omega, (((hag.up (by decide) _ _).up (by decide) _ _).up (by decide) _ _).up (by decide) _ _, hj.takeD (by omega) hok hcb hcg (fun q9 => by first | omega | (have h8 := q9.1; unfold Zg at h8; rw [if_pos ⟨rfl, hx1⟩] at h8; omega)), hsj.take (by omega) (by omega) rfl⟩)
                · skip
                  refine r_iconst C dX0_chooseFrom_87 ?_
                  refine r_goto (tgt := 92) C dX0_chooseFrom_88 (by decide) ?_
                  refine r_istore C dX0_chooseFrom_92 (by decide) (fun z_ => [(6, iv z_), (5, iv ip), (4, iv ib), (0, .ref (a 3)), (1, iv i), (2, iv fa), (3, iv x)]) (fun _ => rfl) (fun be ebe => ?_)
                  refine r_iload C dX0_chooseFrom_94 0 rfl ?_
                  refine r_if_eq (tgt := 136) C dX0_chooseFrom_96 (by decide) (by omega) (fun hbe => ?_) (fun hbe => ?_)
                  · skip
                    refine r_iinc C dX0_chooseFrom_136 (by decide) 6 rfl (fun z_ => [(3, iv z_), (6, iv be), (5, iv ip), (4, iv ib), (0, .ref (a 3)), (1, iv i), (2, iv fa)]) (fun _ => rfl) (fun x2 ex2 => ?_)
                    refine r_goto (tgt := 10) C dX0_chooseFrom_139 (by decide) ?_
                    refine r_sub [4, 5, 6, 0] (L' := [(0, .ref (a 3)), (1, iv i), (2, iv fa), (3, iv x2)]) rfl ?_
                    exact ih10 _ _ (by omega) (by subst ex2; first | (exfalso; omega) | exact ⟨by omega, by omega, hag, hj.keepC (by omega) hok hcb hcg (by omega) (by omega), hsj.keep (by omega)⟩ | exact ⟨by omega, by omega, (((hag.up (by decide) _ _).up (by decide) _ _).up (by decide) _ _).up (by decide) _ _, hj.takeD (by omega) hok hcb hcg (fun q9 => by first | omega | (have h8 := q9.1; unfold Zg at h8; rw [if_pos ⟨rfl, hx1⟩] at h8; omega)), hsj.take (by omega) (by omega) rfl⟩)
                  · skip
                    refine r_aload_n C dX0_chooseFrom_99 3 rfl ?_
                    refine gX0_25 C dX0_chooseFrom_100 ?_
                    refine r_iload_n C dX0_chooseFrom_103 4 rfl ?_
                    refine r_iload C dX0_chooseFrom_104 2 rfl ?_
                    refine r_iast 41 C dX0_chooseFrom_106 (by omega) (fun _ _ => rfl) (by omega) (by omega) (by decide) (by omega) ?_
                    refine r_aload_n C dX0_chooseFrom_107 3 rfl ?_
                    refine gX0_28 C dX0_chooseFrom_108 ?_
                    refine r_iload_n C dX0_chooseFrom_111 4 rfl ?_
                    refine r_iload C dX0_chooseFrom_112 1 rfl ?_
                    refine r_iast 41 C dX0_chooseFrom_114 (by omega) (fun _ _ => rfl) (by omega) (by omega) (by decide) (by omega) ?_
                    refine r_aload_n C dX0_chooseFrom_115 3 rfl ?_
                    refine gX0_31 C dX0_chooseFrom_116 ?_
                    refine r_iload_n C dX0_chooseFrom_119 4 rfl ?_
                    refine r_iload_n C dX0_chooseFrom_120 6 rfl ?_
                    refine r_iast 41 C dX0_chooseFrom_121 (by omega) (fun _ _ => rfl) (by omega) (by omega) (by decide) (by omega) ?_
                    refine r_aload_n C dX0_chooseFrom_122 3 rfl ?_
                    refine gX0_34 C dX0_chooseFrom_123 ?_
                    refine r_iload_n C dX0_chooseFrom_126 4 rfl ?_
                    refine r_aload_n C dX0_chooseFrom_127 3 rfl ?_
                    refine gX0_22 C dX0_chooseFrom_128 ?_
                    refine r_iload_n C dX0_chooseFrom_131 6 rfl ?_
                    refine r_iconst C dX0_chooseFrom_132 ?_
                    refine r_isub C dX0_chooseFrom_133 ?_
                    refine r_iald 40 C dX0_chooseFrom_134 (by omega) (fun _ => rfl) (by omega) (by omega) (by decide) (fun g99 => ?_)
                    rw [up2_ne (show (13 : Nat) ≠ 16 from by decide)] at g99 ⊢
                    rw [up2_ne (show (13 : Nat) ≠ 15 from by decide)] at g99 ⊢
                    rw [up2_ne (show (13 : Nat) ≠ 14 from by decide)] at g99 ⊢
                    refine r_iast 40 C dX0_chooseFrom_135 (by omega) (fun _ _ => rfl) (by omega) (by omega) (by decide) (by omega) ?_
                    refine r_iinc C dX0_chooseFrom_136 (by decide) 6 rfl (fun z_ => [(3, iv z_), (6, iv be), (5, iv ip), (4, iv ib), (0, .ref (a 3)), (1, iv i), (2, iv fa)]) (fun _ => rfl) (fun x2 ex2 => ?_)
                    refine r_goto (tgt := 10) C dX0_chooseFrom_139 (by decide) ?_
                    refine r_sub [4, 5, 6, 0] (L' := [(0, .ref (a 3)), (1, iv i), (2, iv fa), (3, iv x2)]) rfl ?_
                    exact ih10 _ _ (by omega) (by subst ex2; first | (exfalso; omega) | exact ⟨by omega, by omega, hag, hj.keepC (by omega) hok hcb hcg (by omega) (by omega), hsj.keep (by omega)⟩ | exact ⟨by omega, by omega, (((hag.up (by decide) _ _).up (by decide) _ _).up (by decide) _ _).up (by decide) _ _, hj.takeD (by omega) hok hcb hcg (fun q9 => by first | omega | (have h8 := q9.1; unfold Zg at h8; rw [if_pos ⟨rfl, hx1⟩] at h8; omega)), hsj.take (by omega) (by omega) rfl⟩)
  refine r_sub [2, 3, 1, 0] (L' := [(0, .ref (a 3)), (1, iv i), (2, iv fa), (3, iv x0)]) rfl ?_
  exact lp10 ((fa - i : Int).toNat + 1) _ _ (by omega) (by rw [ex0]; refine ⟨by omega, by omega, AgF.one hfr2, ?_, fun j _ => ⟨by rw [hfr2 38 (by decide)], by rw [hfr2 16 (by decide)]⟩, fun q => absurd rfl q, fun p p0 p1 => hfr3 p p0 (by omega)⟩; rw [hfr2 14 (by decide), hfr2 15 (by decide), show i + 1 - i = 1 by omega]; refine DPJ.start (by omega) ?_ (fun j hj => ?_); (unfold Zg; rw [if_pos ⟨rfl, rfl⟩]); (unfold Zg; rw [if_neg (fun q => hj q.1), hfr2 16 (by decide)]))
