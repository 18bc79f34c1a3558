def cueM (σ : ST) (v i : Int) : Int := cueF (Pm σ v) (Lm σ) (σ 23) (σ 18 1) v (σ 18 4) i
def wM (σ : ST) (v i : Int) : Int := widF (Pm σ v) (Mm σ) (cueM σ v) i False
def wfM (σ : ST) (v i : Int) : Int := widF (Pm σ v) (Mm σ) (cueM σ v) i True
def syM (σ : ST) (v i m : Int) : Int := (sysF (wM σ v) (wfM σ v) (σ 18 5) i m.toNat).1
def frM (σ : ST) (v i : Int) : Int := freF (Pm σ v) (Sm σ) (σ 18 18) i
def ndM (σ : ST) (v : Int) : Int := if σ 21 v = 1 then σ 18 7 / 2 else σ 18 7
def btM (σ : ST) (v i : Int) : Int := if i < σ 18 18 ∧ frM σ v i < ndM σ v then 1 else 0
theorem scan_skip {hd : Int → Int} {o best most : Int} (h : (best, most) = scanF hd o.toNat) (h0 : 0 ≤ o) (hle : hd o ≤ most) : (best, most) = scanF hd (o + 1).toNat := by
  rw [scanF_s _ h0, ← h, if_neg (by simp only; omega)]
theorem scan_take {hd : Int → Int} {o best most z : Int} (h : (best, most) = scanF hd o.toNat) (h0 : 0 ≤ o) (hz : z = hd o) (hlt : most < z) : (o, z) = scanF hd (o + 1).toNat := by
  rw [scanF_s _ h0, ← h, if_pos (by simp only; omega), hz]
theorem hear_0 {LD : Int → Int → Int} {stg : Int → Int} {v due i o : Int} (h : o = v ∨ stg o = 0) : hearF LD stg v due i o = 0 := if_pos h
theorem hear_1 {LD : Int → Int → Int} {stg : Int → Int} {v due i o : Int} (h1 : ¬ o = v) (h2 : ¬ stg o = 0) (h3 : 1 < due) : hearF LD stg v due i o = LD o (i - 1) + LD o (i - 2) := by
  unfold hearF
  rw [if_neg (by omega), if_pos h3]
theorem hear_2 {LD : Int → Int → Int} {stg : Int → Int} {v due i o : Int} (h1 : ¬ o = v) (h2 : ¬ stg o = 0) (h3 : ¬ 1 < due) : hearF LD stg v due i o = LD o (i - 1) := by
  unfold hearF
  rw [if_neg (by omega), if_neg h3]; omega
theorem cueF_all {P : Int → Int} {LD : Int → Int → Int} {stg : Int → Int} {nv v due i : Int} (h1 : ¬ P i = 0) (h2 : due ≤ i) (h3 : ∀ j, 1 ≤ j → j ≤ due → P (i - j) = 0) (h4 : 0 ≤ due) : cueF P LD stg nv v due i = (scanF (hearF LD stg v due i) nv.toNat).1 := by
  unfold cueF
  rw [if_pos ⟨h1, h2, (allZ_iff P i due.toNat).mpr (fun k a1 a2 => h3 k a1 (by omega))⟩]
theorem cueF_no {P : Int → Int} {LD : Int → Int → Int} {stg : Int → Int} {nv v due i : Int} (h : ¬ (¬ P i = 0 ∧ due ≤ i)) : cueF P LD stg nv v due i = -1 := by
  unfold cueF
  rw [if_neg (fun q => h ⟨q.1, q.2.1⟩)]
theorem cueF_no2 {P : Int → Int} {LD : Int → Int → Int} {stg : Int → Int} {nv v due i k : Int} (h1 : 1 ≤ k) (h2 : k ≤ due) (h : ¬ P (i - k) = 0) : cueF P LD stg nv v due i = -1 := by
  unfold cueF
  rw [if_neg (fun q => h ((allZ_iff P i due.toNat).mp q.2.2 k h1 (by omega)))]
set_option maxHeartbeats 4000000 in
set_option maxRecDepth 100000 in
theorem m_X6_cueAt {a : Nat → Nat} {n : Nat} {σ : ST} {v i : Int} (hM : MS σ) (hI : RowIn σ) (hv : 0 ≤ v ∧ v < 6) (hi : 0 ≤ i ∧ i < σ 18 18) : MP yX6_cueAt cX6_cueAt 7 .int (RM 1 22) a n σ [.ref (a 18), iv v, iv i] (fun r => r = cueM σ v i) := by
  refine MI.of (own := RX6) (by decide +kernel) rfl (Nat.le_of_ble_eq_true rfl) ?_
  intro κ C hret
  show J κ 0 0 a n σ [(0, .ref (a 18)), (1, iv v), (2, iv i)] 0 []
  obtain ⟨hb, hvn, hwt, hky, hdu, hwd, hli, hne, hse, hmk, hkd, hsh, hos, hpl, hld, hF, hlp, hpo⟩ := id hM
  have hrm := hI.2.1
  refine r_aload_n C dX6_cueAt_0 0 rfl ?_
  refine r_iload_n C dX6_cueAt_1 1 rfl ?_
  refine r_iload_n C dX6_cueAt_2 2 rfl ?_
  refine r_callB2 18 C dX6_cueAt_3 lkX6_109 (m_X6_rests hI (by omega) (by omega)) ⟨rfl, rfl, Nat.le_of_ble_eq_true rfl, Nat.le_of_ble_eq_true rfl⟩ ⟨Nat.zero_le _, Nat.zero_le _⟩ rc18 (Nat.le_of_ble_eq_true rfl) (fun hr0 => ?_) (fun hr0 => ?_)
  · skip
    refine r_if_ne (tgt := 17) C dX6_cueAt_6 (by decide) (by decide) (fun _ => ?_) (fun q => absurd q (by decide))
    refine r_iconst C dX6_cueAt_17 ?_
    exact hret _ _ _ _ dX6_cueAt_18 ⟨rfl, by unfold cueM; first | (rw [cueF_all hr0 (by omega) (fun j h1 h2 => hk3 j h1 (by omega)) (by omega), show σ 18 1 = o by omega, ← hsc]) | (rw [cueF_no2 hk1 (by omega) hrk]) | (rw [cueF_no (fun q => by first | omega | exact q.1 hr0)])⟩
  · skip
    refine r_if_ne (tgt := 17) C dX6_cueAt_6 (by decide) (by decide) (fun q => absurd q (by decide)) (fun _ => ?_)
    refine r_iload_n C dX6_cueAt_9 2 rfl ?_
    refine r_aload_n C dX6_cueAt_10 0 rfl ?_
    refine gX6_7 C dX6_cueAt_11 (fun g3 => ?_)
    refine r_icmp_ge (tgt := 19) C dX6_cueAt_14 (by decide) (by omega) (by omega) (fun hdi => ?_) (fun hdi => ?_)
    · skip
      refine r_iconst C dX6_cueAt_19 ?_
      refine r_istore_n C dX6_cueAt_20 (by decide) (fun z_ => [(3, iv z_), (0, .ref (a 18)), (1, iv v), (2, iv i)]) (fun _ => rfl) (fun k0 ek0 => ?_)
      have lp21 : ∀ (N : Nat) (k : Int), (σ 18 4 + 1 - k : Int) < N → (1 ≤ k ∧ k ≤ σ 18 4 + 1 ∧ ∀ j, 1 ≤ j → j < k → Pm σ v (i - j) = 0) → J κ 0 0 a n σ [(0, .ref (a 18)), (1, iv v), (2, iv i), (3, iv k)] 21 [] := by
        intro N
        induction N with
        | zero =>
          intro k hm21 hi21
          exact absurd hm21 (by omega)
        | succ N ih21 =>
          intro k hm21 hi21
          obtain ⟨hk1, hk2, hk3⟩ := hi21
          refine r_iload_n C dX6_cueAt_21 3 rfl ?_
          refine r_aload_n C dX6_cueAt_22 0 rfl ?_
          refine gX6_7 C dX6_cueAt_23 (fun g5 => ?_)
          refine r_icmp_gt (tgt := 48) C dX6_cueAt_26 (by decide) (by omega) (by omega) (fun h6 => ?_) (fun h6 => ?_)
          · skip
            refine r_iconst C dX6_cueAt_48 ?_
            refine r_istore_n C dX6_cueAt_49 (by decide) (fun z_ => [(3, iv z_), (0, .ref (a 18)), (1, iv v), (2, iv i)]) (fun _ => rfl) (fun b0 eb0 => ?_)
            refine r_iconst C dX6_cueAt_50 ?_
            refine r_istore C dX6_cueAt_51 (by decide) (fun z_ => [(4, iv z_), (3, iv b0), (0, .ref (a 18)), (1, iv v), (2, iv i)]) (fun _ => rfl) (fun m0 em0 => ?_)
            refine r_iconst C dX6_cueAt_53 ?_
            refine r_istore C dX6_cueAt_54 (by decide) (fun z_ => [(5, iv z_), (4, iv m0), (3, iv b0), (0, .ref (a 18)), (1, iv v), (2, iv i)]) (fun _ => rfl) (fun o0 eo0 => ?_)
            have lp56 : ∀ (N : Nat) (best : Int) (most : Int) (o : Int), (σ 18 1 - o : Int) < N → (0 ≤ o ∧ o ≤ σ 18 1 ∧ (0 ≤ most ∧ most ≤ 18) ∧ (best, most) = scanF (hearF (Lm σ) (σ 23) v (σ 18 4) i) o.toNat) → J κ 0 0 a n σ [(0, .ref (a 18)), (1, iv v), (2, iv i), (3, iv best), (4, iv most), (5, iv o)] 56 [] := by
              intro N
              induction N with
              | zero =>
                intro best most o hm56 hi56
                exact absurd hm56 (by omega)
              | succ N ih56 =>
                intro best most o hm56 hi56
                obtain ⟨ho1, ho2, ho3, hsc⟩ := hi56
                refine r_iload C dX6_cueAt_56 5 rfl ?_
                refine r_aload_n C dX6_cueAt_58 0 rfl ?_
                refine gX6_89 C dX6_cueAt_59 (fun g7 => ?_)
                refine r_icmp_ge (tgt := 160) C dX6_cueAt_62 (by decide) (by omega) (by omega) (fun h8 => ?_) (fun h8 => ?_)
                · skip
                  refine r_iload_n C dX6_cueAt_160 3 rfl ?_
                  exact hret _ _ _ _ dX6_cueAt_161 ⟨rfl, by unfold cueM; first | (rw [cueF_all hr0 (by omega) (fun j h1 h2 => hk3 j h1 (by omega)) (by omega), show σ 18 1 = o by omega, ← hsc]) | (rw [cueF_no2 hk1 (by omega) hrk]) | (rw [cueF_no (fun q => by first | omega | exact q.1 hr0)])⟩
                · skip
                  refine r_iload C dX6_cueAt_65 5 rfl ?_
                  refine r_iload_n C dX6_cueAt_67 1 rfl ?_
                  refine r_icmp_eq (tgt := 154) C dX6_cueAt_68 (by decide) (by omega) (by omega) (fun hov => ?_) (fun hov => ?_)
                  · skip
                    refine r_iinc C dX6_cueAt_154 (by decide) 5 rfl (fun z_ => [(5, iv z_), (0, .ref (a 18)), (1, iv v), (2, iv i), (3, iv best), (4, iv most)]) (fun _ => rfl) (fun o2 eo2 => ?_)
                    refine r_goto (tgt := 56) C dX6_cueAt_157 (by decide) ?_
                    refine r_sub [1, 2, 3, 4, 5, 0] (L' := [(0, .ref (a 18)), (1, iv v), (2, iv i), (3, iv best), (4, iv most), (5, iv o2)]) rfl ?_
                    exact ih56 _ _ _ (by omega) (by subst eo2; refine ⟨by omega, by omega, ?_, ?_⟩; (first | omega | (subst em2; omega)); first | (refine scan_skip hsc ho1 ?_; first | (rw [hear_0 (Or.inl hov)]; omega) | (rw [hear_0 (Or.inr hos0)]; omega) | (rw [hear_1 hov hos0 (by omega)]; unfold Lm; omega) | (rw [hear_2 hov hos0 (by omega)]; unfold Lm; omega)) | (subst eb2; subst em2; refine scan_take hsc ho1 ?_ (by omega); first | (rw [hear_1 hov hos0 (by omega), esm]; rfl) | (rw [hear_2 hov hos0 (by omega), esm]; unfold Lm; omega)))
                  · skip
                    refine r_aload_n C dX6_cueAt_71 0 rfl ?_
                    refine gX6_35 C dX6_cueAt_72 ?_
                    refine r_iload C dX6_cueAt_75 5 rfl ?_
                    refine r_iald 6 C dX6_cueAt_77 (by omega) (fun _ => rfl) (by omega) (by omega) (by decide) (fun g11 => ?_)
                    refine r_if_ne (tgt := 84) C dX6_cueAt_78 (by decide) (by omega) (fun hos0 => ?_) (fun hos0 => ?_)
                    · skip
                      have hr1 := hI.2.2 (i - 1) (by omega) (by omega)
                      have hl1 := hld (40 * o + σ 28 (i - 1))
                      refine r_aload_n C dX6_cueAt_84 0 rfl ?_
                      refine gX6_41 C dX6_cueAt_85 ?_
                      refine r_bipush C dX6_cueAt_88 (by decide) ?_
                      refine r_iload C dX6_cueAt_90 5 rfl ?_
                      refine r_imul C dX6_cueAt_92 ?_
                      refine r_aload_n C dX6_cueAt_93 0 rfl ?_
                      refine gX6_50 C dX6_cueAt_94 ?_
                      refine r_iload_n C dX6_cueAt_97 2 rfl ?_
                      refine r_iconst C dX6_cueAt_98 ?_
                      refine r_isub C dX6_cueAt_99 ?_
                      refine r_iald 40 C dX6_cueAt_100 (by omega) (fun _ => rfl) (by omega) (by omega) (by decide) (fun g15 => ?_)
                      refine r_iadd C dX6_cueAt_101 ?_
                      refine r_iald 240 C dX6_cueAt_102 (by omega) (fun _ => rfl) (by omega) (by omega) (by decide) (fun g16 => ?_)
                      refine r_aload_n C dX6_cueAt_103 0 rfl ?_
                      refine gX6_7 C dX6_cueAt_104 (fun g17 => ?_)
                      refine r_iconst C dX6_cueAt_107 ?_
                      refine r_icmp_le (tgt := 133) C dX6_cueAt_108 (by decide) (by omega) (by omega) (fun hd1 => ?_) (fun hd1 => ?_)
                      · skip
                        refine r_iconst C dX6_cueAt_133 ?_
                        refine r_iadd C dX6_cueAt_134 ?_
                        refine r_istore C dX6_cueAt_135 (by decide) (fun z_ => [(6, iv z_), (0, .ref (a 18)), (1, iv v), (2, iv i), (3, iv best), (4, iv most), (5, iv o)]) (fun _ => rfl) (fun sm esm => ?_)
                        refine r_iload C dX6_cueAt_137 0 rfl ?_
                        refine r_iload C dX6_cueAt_139 5 rfl ?_
                        refine r_icmp_gt (tgt := 147) C dX6_cueAt_141 (by decide) (by omega) (by omega) (fun hgt => ?_) (fun hgt => ?_)
                        · skip
                          refine r_iload C dX6_cueAt_147 6 rfl ?_
                          refine r_istore_n C dX6_cueAt_149 (by decide) (fun z_ => [(3, iv z_), (6, iv sm), (0, .ref (a 18)), (1, iv v), (2, iv i), (4, iv most), (5, iv o)]) (fun _ => rfl) (fun b2 eb2 => ?_)
                          refine r_iload C dX6_cueAt_150 1 rfl ?_
                          refine r_istore C dX6_cueAt_152 (by decide) (fun z_ => [(4, iv z_), (3, iv b2), (6, iv sm), (0, .ref (a 18)), (1, iv v), (2, iv i), (5, iv o)]) (fun _ => rfl) (fun m2 em2 => ?_)
                          refine r_iinc C dX6_cueAt_154 (by decide) 6 rfl (fun z_ => [(5, iv z_), (4, iv m2), (3, iv b2), (6, iv sm), (0, .ref (a 18)), (1, iv v), (2, iv i)]) (fun _ => rfl) (fun o2 eo2 => ?_)
                          refine r_goto (tgt := 56) C dX6_cueAt_157 (by decide) ?_
                          refine r_sub [4, 5, 6, 2, 1, 0] (L' := [(0, .ref (a 18)), (1, iv v), (2, iv i), (3, iv b2), (4, iv m2), (5, iv o2)]) rfl ?_
                          exact ih56 _ _ _ (by omega) (by subst eo2; refine ⟨by omega, by omega, ?_, ?_⟩; (first | omega | (subst em2; omega)); first | (refine scan_skip hsc ho1 ?_; first | (rw [hear_0 (Or.inl hov)]; omega) | (rw [hear_0 (Or.inr hos0)]; omega) | (rw [hear_1 hov hos0 (by omega)]; unfold Lm; omega) | (rw [hear_2 hov hos0 (by omega)]; unfold Lm; omega)) | (subst eb2; subst em2; refine scan_take hsc ho1 ?_ (by omega); first | (rw [hear_1 hov hos0 (by omega), esm]; rfl) | (rw [hear_2 hov hos0 (by omega), esm]; unfold Lm; omega)))
                        · skip
                          refine r_goto (tgt := 154) C dX6_cueAt_144 (by decide) ?_
                          refine r_iinc C dX6_cueAt_154 (by decide) 6 rfl (fun z_ => [(5, iv z_), (6, iv sm), (0, .ref (a 18)), (1, iv v), (2, iv i), (3, iv best), (4, iv most)]) (fun _ => rfl) (fun o2 eo2 => ?_)
                          refine r_goto (tgt := 56) C dX6_cueAt_157 (by decide) ?_
                          refine r_sub [2, 3, 4, 5, 6, 0] (L' := [(0, .ref (a 18)), (1, iv v), (2, iv i), (3, iv best), (4, iv most), (5, iv o2)]) rfl ?_
                          exact ih56 _ _ _ (by omega) (by subst eo2; refine ⟨by omega, by omega, ?_, ?_⟩; (first | omega | (subst em2; omega)); first | (refine scan_skip hsc ho1 ?_; first | (rw [hear_0 (Or.inl hov)]; omega) | (rw [hear_0 (Or.inr hos0)]; omega) | (rw [hear_1 hov hos0 (by omega)]; unfold Lm; omega) | (rw [hear_2 hov hos0 (by omega)]; unfold Lm; omega)) | (subst eb2; subst em2; refine scan_take hsc ho1 ?_ (by omega); first | (rw [hear_1 hov hos0 (by omega), esm]; rfl) | (rw [hear_2 hov hos0 (by omega), esm]; unfold Lm; omega)))
                      · skip
                        have hr2 := hI.2.2 (i - 2) (by omega) (by omega)
                        have hl2 := hld (40 * o + σ 28 (i - 2))
                        refine r_aload_n C dX6_cueAt_111 0 rfl ?_
                        refine gX6_41 C dX6_cueAt_112 ?_
                        refine r_bipush C dX6_cueAt_115 (by decide) ?_
                        refine r_iload C dX6_cueAt_117 5 rfl ?_
                        refine r_imul C dX6_cueAt_119 ?_
                        refine r_aload_n C dX6_cueAt_120 0 rfl ?_
                        refine gX6_50 C dX6_cueAt_121 ?_
                        refine r_iload_n C dX6_cueAt_124 2 rfl ?_
                        refine r_iconst C dX6_cueAt_125 ?_
                        refine r_isub C dX6_cueAt_126 ?_
                        refine r_iald 40 C dX6_cueAt_127 (by omega) (fun _ => rfl) (by omega) (by omega) (by decide) (fun g22 => ?_)
                        refine r_iadd C dX6_cueAt_128 ?_
                        refine r_iald 240 C dX6_cueAt_129 (by omega) (fun _ => rfl) (by omega) (by omega) (by decide) (fun g23 => ?_)
                        refine r_goto (tgt := 134) C dX6_cueAt_130 (by decide) ?_
                        refine r_iadd C dX6_cueAt_134 ?_
                        refine r_istore C dX6_cueAt_135 (by decide) (fun z_ => [(6, iv z_), (0, .ref (a 18)), (1, iv v), (2, iv i), (3, iv best), (4, iv most), (5, iv o)]) (fun _ => rfl) (fun sm esm => ?_)
                        refine r_iload C dX6_cueAt_137 0 rfl ?_
                        refine r_iload C dX6_cueAt_139 5 rfl ?_
                        refine r_icmp_gt (tgt := 147) C dX6_cueAt_141 (by decide) (by omega) (by omega) (fun hgt => ?_) (fun hgt => ?_)
                        · skip
                          refine r_iload C dX6_cueAt_147 6 rfl ?_
                          refine r_istore_n C dX6_cueAt_149 (by decide) (fun z_ => [(3, iv z_), (6, iv sm), (0, .ref (a 18)), (1, iv v), (2, iv i), (4, iv most), (5, iv o)]) (fun _ => rfl) (fun b2 eb2 => ?_)
                          refine r_iload C dX6_cueAt_150 1 rfl ?_
                          refine r_istore C dX6_cueAt_152 (by decide) (fun z_ => [(4, iv z_), (3, iv b2), (6, iv sm), (0, .ref (a 18)), (1, iv v), (2, iv i), (5, iv o)]) (fun _ => rfl) (fun m2 em2 => ?_)
                          refine r_iinc C dX6_cueAt_154 (by decide) 6 rfl (fun z_ => [(5, iv z_), (4, iv m2), (3, iv b2), (6, iv sm), (0, .ref (a 18)), (1, iv v), (2, iv i)]) (fun _ => rfl) (fun o2 eo2 => ?_)
                          refine r_goto (tgt := 56) C dX6_cueAt_157 (by decide) ?_
                          refine r_sub [4, 5, 6, 2, 1, 0] (L' := [(0, .ref (a 18)), (1, iv v), (2, iv i), (3, iv b2), (4, iv m2), (5, iv o2)]) rfl ?_
                          exact ih56 _ _ _ (by omega) (by subst eo2; refine ⟨by omega, by omega, ?_, ?_⟩; (first | omega | (subst em2; omega)); first | (refine scan_skip hsc ho1 ?_; first | (rw [hear_0 (Or.inl hov)]; omega) | (rw [hear_0 (Or.inr hos0)]; omega) | (rw [hear_1 hov hos0 (by omega)]; unfold Lm; omega) | (rw [hear_2 hov hos0 (by omega)]; unfold Lm; omega)) | (subst eb2; subst em2; refine scan_take hsc ho1 ?_ (by omega); first | (rw [hear_1 hov hos0 (by omega), esm]; rfl) | (rw [hear_2 hov hos0 (by omega), esm]; unfold Lm; omega)))
                        · skip
                          refine r_goto (tgt := 154) C dX6_cueAt_144 (by decide) ?_
                          refine r_iinc C dX6_cueAt_154 (by decide) 6 rfl (fun z_ => [(5, iv z_), (6, iv sm), (0, .ref (a 18)), (1, iv v), (2, iv i), (3, iv best), (4, iv most)]) (fun _ => rfl) (fun o2 eo2 => ?_)
                          refine r_goto (tgt := 56) C dX6_cueAt_157 (by decide) ?_
                          refine r_sub [2, 3, 4, 5, 6, 0] (L' := [(0, .ref (a 18)), (1, iv v), (2, iv i), (3, iv best), (4, iv most), (5, iv o2)]) rfl ?_
                          exact ih56 _ _ _ (by omega) (by subst eo2; refine ⟨by omega, by omega, ?_, ?_⟩; (first | omega | (subst em2; omega)); first | (refine scan_skip hsc ho1 ?_; first | (rw [hear_0 (Or.inl hov)]; omega) | (rw [hear_0 (Or.inr hos0)]; omega) | (rw [hear_1 hov hos0 (by omega)]; unfold Lm; omega) | (rw [hear_2 hov hos0 (by omega)]; unfold Lm; omega)) | (subst eb2; subst em2; refine scan_take hsc ho1 ?_ (by omega); first | (rw [hear_1 hov hos0 (by omega), esm]; rfl) | (rw [hear_2 hov hos0 (by omega), esm]; unfold Lm; omega)))
                    · skip
                      refine r_goto (tgt := 154) C dX6_cueAt_81 (by decide) ?_
                      refine r_iinc C dX6_cueAt_154 (by decide) 5 rfl (fun z_ => [(5, iv z_), (0, .ref (a 18)), (1, iv v), (2, iv i), (3, iv best), (4, iv most)]) (fun _ => rfl) (fun o2 eo2 => ?_)
                      refine r_goto (tgt := 56) C dX6_cueAt_157 (by decide) ?_
                      refine r_sub [1, 2, 3, 4, 5, 0] (L' := [(0, .ref (a 18)), (1, iv v), (2, iv i), (3, iv best), (4, iv most), (5, iv o2)]) rfl ?_
                      exact ih56 _ _ _ (by omega) (by subst eo2; refine ⟨by omega, by omega, ?_, ?_⟩; (first | omega | (subst em2; omega)); first | (refine scan_skip hsc ho1 ?_; first | (rw [hear_0 (Or.inl hov)]; omega) | (rw [hear_0 (Or.inr hos0)]; omega) | (rw [hear_1 hov hos0 (by omega)]; unfold Lm; omega) | (rw [hear_2 hov hos0 (by omega)]; unfold Lm; omega)) | (subst eb2; subst em2; refine scan_take hsc ho1 ?_ (by omega); first | (rw [hear_1 hov hos0 (by omega), esm]; rfl) | (rw [hear_2 hov hos0 (by omega), esm]; unfold Lm; omega)))
            refine r_sub [3, 4, 5, 2, 1, 0] (L' := [(0, .ref (a 18)), (1, iv v), (2, iv i), (3, iv b0), (4, iv m0), (5, iv o0)]) rfl ?_
            exact lp56 ((σ 18 1 : Int).toNat + 1) _ _ _ (by omega) (by subst eb0; subst em0; subst eo0; exact ⟨by omega, by omega, by omega, rfl⟩)
          · skip
            refine r_aload_n C dX6_cueAt_29 0 rfl ?_
            refine r_iload_n C dX6_cueAt_30 1 rfl ?_
            refine r_iload_n C dX6_cueAt_31 2 rfl ?_
            refine r_iload_n C dX6_cueAt_32 3 rfl ?_
            refine r_isub C dX6_cueAt_33 ?_
            refine r_callB2 18 C dX6_cueAt_34 lkX6_109 (m_X6_rests hI (by omega) (by omega)) ⟨rfl, rfl, Nat.le_of_ble_eq_true rfl, Nat.le_of_ble_eq_true rfl⟩ ⟨Nat.zero_le _, Nat.zero_le _⟩ rc18 (Nat.le_of_ble_eq_true rfl) (fun hrk => ?_) (fun hrk => ?_)
            · skip
              refine r_if_ne (tgt := 42) C dX6_cueAt_37 (by decide) (by decide) (fun _ => ?_) (fun q => absurd q (by decide))
              refine r_iinc C dX6_cueAt_42 (by decide) 3 rfl (fun z_ => [(3, iv z_), (0, .ref (a 18)), (1, iv v), (2, iv i)]) (fun _ => rfl) (fun k2 ek2 => ?_)
              refine r_goto (tgt := 21) C dX6_cueAt_45 (by decide) ?_
              refine r_sub [1, 2, 3, 0] (L' := [(0, .ref (a 18)), (1, iv v), (2, iv i), (3, iv k2)]) rfl ?_
              exact ih21 _ (by omega) (by subst ek2; refine ⟨by omega, by omega, fun j h1 h2 => ?_⟩; by_cases hj : j = k; (subst hj; exact hrk); exact hk3 j h1 (by omega))
            · skip
              refine r_if_ne (tgt := 42) C dX6_cueAt_37 (by decide) (by decide) (fun q => absurd q (by decide)) (fun _ => ?_)
              refine r_iconst C dX6_cueAt_40 ?_
              exact hret _ _ _ _ dX6_cueAt_41 ⟨rfl, by unfold cueM; first | (rw [cueF_all hr0 (by omega) (fun j h1 h2 => hk3 j h1 (by omega)) (by omega), show σ 18 1 = o by omega, ← hsc]) | (rw [cueF_no2 hk1 (by omega) hrk]) | (rw [cueF_no (fun q => by first | omega | exact q.1 hr0)])⟩
      refine r_sub [1, 2, 3, 0] (L' := [(0, .ref (a 18)), (1, iv v), (2, iv i), (3, iv k0)]) rfl ?_
      exact lp21 ((σ 18 4 : Int).toNat + 1) _ (by omega) (by subst ek0; exact ⟨by omega, by omega, fun j h1 h2 => by omega⟩)
    · skip
      refine r_iconst C dX6_cueAt_17 ?_
      exact hret _ _ _ _ dX6_cueAt_18 ⟨rfl, by unfold cueM; first | (rw [cueF_all hr0 (by omega) (fun j h1 h2 => hk3 j h1 (by omega)) (by omega), show σ 18 1 = o by omega, ← hsc]) | (rw [cueF_no2 hk1 (by omega) hrk]) | (rw [cueF_no (fun q => by first | omega | exact q.1 hr0)])⟩

theorem cueM_bd {σ : ST} {v i : Int} (hM : MS σ) : -1 ≤ cueM σ v i ∧ cueM σ v i < 6 := by
  have h1 := hM.2.1
  have := cueF_bd (P := Pm σ v) (LD := Lm σ) (stg := σ 23) (nv := σ 18 1) (v := v) (due := σ 18 4) (i := i) h1.1
  unfold cueM
  omega
theorem Pm_bd {σ : ST} {v i : Int} (hM : MS σ) : 0 ≤ Pm σ v i ∧ Pm σ v i ≤ 16 := hM.2.2.2.2.2.2.2.2.2.2.2.2.2.1 _
theorem wM_bd {σ : ST} {v : Int} (hM : MS σ) (i : Int) : 0 ≤ wM σ v i ∧ wM σ v i ≤ 21 := by
  have h1 := Pm_bd (v := v) (i := i) hM
  unfold wM widF
  split
  · split <;> omega
  · split <;> omega
theorem wfM_bd {σ : ST} {v : Int} (hM : MS σ) (i : Int) : 0 ≤ wfM σ v i ∧ wfM σ v i ≤ 21 := by
  have h1 := Pm_bd (v := v) (i := i) hM
  unfold wfM widF
  split
  · split <;> omega
  · split <;> omega
set_option maxHeartbeats 4000000 in
set_option maxRecDepth 100000 in
theorem m_X6_widthOf {a : Nat → Nat} {n : Nat} {σ : ST} {v i f : Int} (hM : MS σ) (hI : RowIn σ) (hv : 0 ≤ v ∧ v < 6) (hi : 0 ≤ i ∧ i < σ 18 18) (hf : f = 0 ∨ f = 1) : MP yX6_widthOf cX6_widthOf 4 .int (RM 2 48) a n σ [.ref (a 18), iv v, iv i, iv f] (fun r => (f = 1 ∧ r = wfM σ v i) ∨ (f = 0 ∧ r = wM σ v i)) := by
  refine MI.of (own := RX6) (by decide +kernel) rfl (Nat.le_of_ble_eq_true rfl) ?_
  intro κ C hret
  show J κ 0 0 a n σ [(0, .ref (a 18)), (1, iv v), (2, iv i), (3, iv f)] 0 []
  obtain ⟨hb, hvn, hwt, hky, hdu, hwd, hli, hne, hse, hmk, hkd, hsh, hos, hpl, hld, hF, hlp, hpo⟩ := id hM
  have hrm := hI.2.1
  have hri := hI.2.2 i hi.1 hi.2
  have hpb := hpl (40 * v + σ 28 i)
  have hcb := cueM_bd (v := v) (i := i) hM
  refine r_aload_n C dX6_widthOf_0 0 rfl ?_
  refine r_iload_n C dX6_widthOf_1 1 rfl ?_
  refine r_iload_n C dX6_widthOf_2 2 rfl ?_
  refine r_callB2 18 C dX6_widthOf_3 lkX6_109 (m_X6_rests hI (by omega) (by omega)) ⟨rfl, rfl, Nat.le_of_ble_eq_true rfl, Nat.le_of_ble_eq_true rfl⟩ ⟨Nat.zero_le _, Nat.zero_le _⟩ rc18 (Nat.le_of_ble_eq_true rfl) (fun hr0 => ?_) (fun hr0 => ?_)
  · skip
    refine r_if_eq (tgt := 28) C dX6_widthOf_6 (by decide) (by decide) (fun q => absurd q (by decide)) (fun _ => ?_)
    refine r_iload_n C dX6_widthOf_9 3 rfl ?_
    refine r_if_ne (tgt := 22) C dX6_widthOf_10 (by decide) (by omega) (fun hff => ?_) (fun hff => ?_)
    · skip
      refine r_iconst C dX6_widthOf_22 ?_
      refine r_goto (tgt := 27) C dX6_widthOf_23 (by decide) ?_
      exact hret _ _ _ _ dX6_widthOf_27 ⟨rfl, by unfold wfM wM widF; first | (refine Or.inl ⟨by omega, ?_⟩; rw [if_pos hr0, if_pos (Or.inl trivial)]) | (refine Or.inr ⟨by omega, ?_⟩; rw [if_pos hr0]; first | (rw [if_pos (Or.inr hbg)]; done) | (rw [if_neg (fun q => q.elim id hbg)]; done)) | (refine (hf.elim (fun h => Or.inr ⟨h, ?_⟩) (fun h => Or.inl ⟨h, ?_⟩)) <;> (rw [if_neg hr0]; unfold Pm; first | (rw [if_pos (by omega)]) | (rw [if_neg (by omega)])))⟩
    · skip
      refine r_aload_n C dX6_widthOf_13 0 rfl ?_
      refine r_iload_n C dX6_widthOf_14 1 rfl ?_
      refine r_iload_n C dX6_widthOf_15 2 rfl ?_
      refine r_callB2 18 C dX6_widthOf_16 lkX6_113 (m_X6_begins hI (by omega) (by omega)) ⟨rfl, rfl, Nat.le_of_ble_eq_true rfl, Nat.le_of_ble_eq_true rfl⟩ ⟨Nat.zero_le _, Nat.zero_le _⟩ rc18 (Nat.le_of_ble_eq_true rfl) (fun hbg => ?_) (fun hbg => ?_)
      · skip
        refine r_if_eq (tgt := 26) C dX6_widthOf_19 (by decide) (by decide) (fun q => absurd q (by decide)) (fun _ => ?_)
        refine r_iconst C dX6_widthOf_22 ?_
        refine r_goto (tgt := 27) C dX6_widthOf_23 (by decide) ?_
        exact hret _ _ _ _ dX6_widthOf_27 ⟨rfl, by unfold wfM wM widF; first | (refine Or.inl ⟨by omega, ?_⟩; rw [if_pos hr0, if_pos (Or.inl trivial)]) | (refine Or.inr ⟨by omega, ?_⟩; rw [if_pos hr0]; first | (rw [if_pos (Or.inr hbg)]; done) | (rw [if_neg (fun q => q.elim id hbg)]; done)) | (refine (hf.elim (fun h => Or.inr ⟨h, ?_⟩) (fun h => Or.inl ⟨h, ?_⟩)) <;> (rw [if_neg hr0]; unfold Pm; first | (rw [if_pos (by omega)]) | (rw [if_neg (by omega)])))⟩
      · skip
        refine r_if_eq (tgt := 26) C dX6_widthOf_19 (by decide) (by decide) (fun _ => ?_) (fun q => absurd q (by decide))
        refine r_iconst C dX6_widthOf_26 ?_
        exact hret _ _ _ _ dX6_widthOf_27 ⟨rfl, by unfold wfM wM widF; first | (refine Or.inl ⟨by omega, ?_⟩; rw [if_pos hr0, if_pos (Or.inl trivial)]) | (refine Or.inr ⟨by omega, ?_⟩; rw [if_pos hr0]; first | (rw [if_pos (Or.inr hbg)]; done) | (rw [if_neg (fun q => q.elim id hbg)]; done)) | (refine (hf.elim (fun h => Or.inr ⟨h, ?_⟩) (fun h => Or.inl ⟨h, ?_⟩)) <;> (rw [if_neg hr0]; unfold Pm; first | (rw [if_pos (by omega)]) | (rw [if_neg (by omega)])))⟩
  · skip
    refine r_if_eq (tgt := 28) C dX6_widthOf_6 (by decide) (by decide) (fun _ => ?_) (fun q => absurd q (by decide))
    refine r_iconst C dX6_widthOf_28 ?_
    refine r_aload_n C dX6_widthOf_29 0 rfl ?_
    refine gX6_38 C dX6_widthOf_30 ?_
    refine r_bipush C dX6_widthOf_33 (by decide) ?_
    refine r_iload_n C dX6_widthOf_35 1 rfl ?_
    refine r_imul C dX6_widthOf_36 ?_
    refine r_aload_n C dX6_widthOf_37 0 rfl ?_
    refine gX6_50 C dX6_widthOf_38 ?_
    refine r_iload_n C dX6_widthOf_41 2 rfl ?_
    refine r_iald 40 C dX6_widthOf_42 (by omega) (fun _ => rfl) (by omega) (by omega) (by decide) (fun g8 => ?_)
    refine r_iadd C dX6_widthOf_43 ?_
    refine r_iald 240 C dX6_widthOf_44 (by omega) (fun _ => rfl) (by omega) (by omega) (by decide) (fun g9 => ?_)
    refine r_iadd C dX6_widthOf_45 ?_
    refine r_aload_n C dX6_widthOf_46 0 rfl ?_
    refine r_iload_n C dX6_widthOf_47 1 rfl ?_
    refine r_iload_n C dX6_widthOf_48 2 rfl ?_
    refine r_callP2 18 C dX6_widthOf_49 lkX6_123 (m_X6_cueAt (by assumption) hI (by omega) (by omega)) ⟨rfl, rfl, Nat.le_of_ble_eq_true rfl, Nat.le_of_ble_eq_true rfl⟩ ⟨Nat.zero_le _, Nat.zero_le _⟩ rc18 (Nat.le_of_ble_eq_true rfl) (fun cu hcu => ?_)
    refine r_if_lt (tgt := 59) C dX6_widthOf_52 (by decide) (by omega) (fun hcu => ?_) (fun hcu => ?_)
    · skip
      refine r_iconst C dX6_widthOf_59 ?_
      refine r_iadd C dX6_widthOf_60 ?_
      exact hret _ _ _ _ dX6_widthOf_61 ⟨rfl, by unfold wfM wM widF; first | (refine Or.inl ⟨by omega, ?_⟩; rw [if_pos hr0, if_pos (Or.inl trivial)]) | (refine Or.inr ⟨by omega, ?_⟩; rw [if_pos hr0]; first | (rw [if_pos (Or.inr hbg)]; done) | (rw [if_neg (fun q => q.elim id hbg)]; done)) | (refine (hf.elim (fun h => Or.inr ⟨h, ?_⟩) (fun h => Or.inl ⟨h, ?_⟩)) <;> (rw [if_neg hr0]; unfold Pm; first | (rw [if_pos (by omega)]) | (rw [if_neg (by omega)])))⟩
    · skip
      refine r_iconst C dX6_widthOf_55 ?_
      refine r_goto (tgt := 60) C dX6_widthOf_56 (by decide) ?_
      refine r_iadd C dX6_widthOf_60 ?_
      exact hret _ _ _ _ dX6_widthOf_61 ⟨rfl, by unfold wfM wM widF; first | (refine Or.inl ⟨by omega, ?_⟩; rw [if_pos hr0, if_pos (Or.inl trivial)]) | (refine Or.inr ⟨by omega, ?_⟩; rw [if_pos hr0]; first | (rw [if_pos (Or.inr hbg)]; done) | (rw [if_neg (fun q => q.elim id hbg)]; done)) | (refine (hf.elim (fun h => Or.inr ⟨h, ?_⟩) (fun h => Or.inl ⟨h, ?_⟩)) <;> (rw [if_neg hr0]; unfold Pm; first | (rw [if_pos (by omega)]) | (rw [if_neg (by omega)])))⟩
