theorem LDr.cg {F lm p33 p34 p35 p36 x33 x34 x35 x36 : Int → Int} {lp nb : Int} {i : Nat} (h : LDr F lm p33 p34 p35 p36 lp nb i) (hx : ∀ j, 40 * (i : Int) ≤ j → j < 40 * (i : Int) + 40 → x33 j = p33 j ∧ x34 j = p34 j ∧ x35 j = p35 j ∧ x36 j = p36 j) : LDr F lm x33 x34 x35 x36 lp nb i := by
  refine ⟨h.1, fun b b0 b1 => ?_⟩
  obtain ⟨e1, e2, e3, e4⟩ := hx (40 * i + b) (by omega) (by omega)
  rw [e1, e2, e3, e4]
  exact h.2 b b0 b1
theorem row_mem {mk : Int → Int} {nb : Int} {row : Int → Int} {many b : Int} (h : RowOK mk nb row many) (h0 : 0 ≤ b) (h1 : b < nb) (h2 : mk b ≤ 3) : ∃ k, 0 ≤ k ∧ k < many ∧ row k = b := by
  have e := h.2 b.toNat (by omega) (by rw [show ((b.toNat : Nat) : Int) = b by omega]; exact h2)
  have h3 := cntN_bd mk b.toNat
  have h4 := cntN_s mk h0
  rw [if_pos h2] at h4
  have h5 := cntN_mono mk (b + 1).toNat nb.toNat (by omega)
  refine ⟨_, h3.1, ?_, by rw [e]; omega⟩
  rw [h.1]
  omega
theorem walk_in {Z : Int → Int} {many k : Int} (hk : 0 ≤ k) : ∀ L : Nat, k < walkF Z many L → ∃ p : Nat, p < L ∧ walkF Z many p ≤ k ∧ k < walkF Z many (p + 1)
  | 0, h => by
    have : walkF Z many 0 = 0 := rfl
    omega
  | L + 1, h => by
    by_cases h1 : k < walkF Z many L
    · obtain ⟨p, p0, p1, p2⟩ := walk_in hk L h1
      exact ⟨p, by omega, p1, p2⟩
    · exact ⟨L, by omega, by omega, h⟩

set_option maxHeartbeats 2000000 in
theorem p_lay {σ τ σ1 τ1 : ST} {n : Nat} {N r1 r2 v : Int} (hE : E σ τ n N) (hM : MS τ) (hN : N < 900000) (hc : ((0 ≤ v ∧ v < n) ∧ ∃ τ, PlR σ τ n v ∧ ((τ 15 0 = 0 ∧ r1 = -1000002 ∧ σ1 = fd τ 5 2) ∨ (¬ τ 15 0 = 0 ∧ r1 = τ 15 0 ∧ KpC τ σ1 v.toNat))) ∨ (¬ (0 ≤ v ∧ v < n) ∧ r1 = -1000001 ∧ σ1 = fd σ 5 1)) (hm : ((0 ≤ v ∧ v < τ 18 1) ∧ ∃ ρ, FPm τ ρ v ∧ ((ρ 18 18 = 0 ∧ r2 = -1000002 ∧ τ1 = fd ρ 27 2) ∨ (0 < ρ 18 18 ∧ LayM ρ v τ1 r2))) ∨ (¬ (0 ≤ v ∧ v < τ 18 1) ∧ r2 = -1000001 ∧ τ1 = fd τ 27 1)) : Step σ1 τ1 n N r1 r2 := by
  obtain ⟨⟨a1, a2, a3⟩, a4, ⟨b1, b2, b3, b4, b5⟩, a5, a6, a7, a8, a9, a10, a11, aV⟩ := id hE
  obtain ⟨hb, hvn, hwt, hky, hdu, hwd, hli, hne, hse, hmk, hkd, hsh, hos, hpl, hld, hF, hlp, hpo⟩ := id hM
  rcases hc with hc | hc <;> rcases hm with hm | hm
  · obtain ⟨c0, ρ, hd, hc⟩ := hc
    obtain ⟨m0, ρ', hf, hm⟩ := hm
    have hv : 0 ≤ v ∧ v < n := by omega
    have hrow := (hd.facts (hE.cs hM) hv).2.2.2.2.2.2.2.1
    obtain ⟨⟨g1, g2, g3, g4, g5, g6, g7, g8, g9⟩, ⟨q1, q2, q3, q4, q5, q6, q7, q8, q9, q10, q11⟩, hfr⟩ := dw_plan hE hM hv hd hf
    have hE2 := hE.scr0 hfr hf.1
    have hM2 := hf.1.ms hM
    rcases hc with ⟨c1, c2, c3⟩ | ⟨c1, c2, c3⟩ <;> rcases hm with ⟨m1, m2, m3⟩ | ⟨m1, m2⟩
    · rw [c3, m3]; exact Step.fnd hE2 hM2 hN _ (by omega)
    · exfalso; omega
    · exfalso; omega
    · obtain ⟨l1, l2, l3, l4, T, ⟨t1, t2, t3, t4⟩, t5⟩ := m2
      have ev : ((v.toNat : Nat) : Int) = v := by omega
      rw [← g1] at l2 l3 t3 t4
      have er : ρ 15 0 = r2 := by
        rcases (show ρ 15 0 < r2 ∨ ρ 15 0 = r2 ∨ r2 < ρ 15 0 by omega) with h | h | h
        · have := l4 (ρ 15 0).toNat (by omega)
          rw [← q3, q10] at this
          omega
        · exact h
        · have := q11 r2.toNat (by omega)
          rw [q3, ← g1, l3] at this
          omega
      have hw : ∀ k : Nat, (k : Int) < r2 → walkF (Zc ρ) (ρ 2 3) k < ρ 2 3 := fun k hk => q11 k (by omega)
      have hw0 : ∀ k : Nat, 0 ≤ walkF (Zc ρ) (ρ 2 3) k := fun k => (walk_mono q5 g2.1 k).1
      have hend : walkF (Zc ρ) (ρ 2 3) r2.toNat = ρ 2 3 := by rw [← er]; exact q10
      obtain ⟨k1, k2, k3, k4, k5⟩ := c3
      obtain ⟨⟨x1, x2, x3⟩, x4, x5, x6, x7, x8, x9, x10, x11, x12, xV⟩ := id hE2
      obtain ⟨yb, yvn, ywt, yky, ydu, ywd, yli, yne, yse, ymk, ykd, ysh, yos, ypl, yld, yF, ylp, ypo⟩ := id hM2
      rw [hfr 7 (by decide) (by decide) (by decide) (by decide) (by decide) (by decide) (by decide) (by decide) (by decide) (by decide) |>.symm, show σ 1 3 = ρ 1 3 by rw [hfr 1 (by decide) (by decide) (by decide) (by decide) (by decide) (by decide) (by decide) (by decide) (by decide) (by decide)]] at hrow
      have hV := xV v.toNat (by omega)
      rw [show walkF (ρ' 31) (ρ 2 3) = walkF (Zc ρ) (ρ 2 3) by funext k; rw [q3, ← g1]] at t3
      -- what lies of voice v
      have key : LDr (σ1 (41 + 5 * v.toNat)) (σ1 (42 + 5 * v.toNat)) (T 33) (T 34) (T 35) (T 36) r2 (ρ' 18 0) v.toNat := by
        refine ⟨fun k k0 kk => ?_, fun b b0 b1 => ?_⟩
        · have h1 := hw k.toNat (by omega)
          have h2 := hw (k + 1).toNat (by omega)
          have h3 := q5 _ (hw0 k.toNat) h1
          rw [k4 k k0 (by omega), k4 (k + 1) (by omega) (by omega)]
          refine g8 _ _ (hw0 _) ?_ h2
          rw [walkF_s _ _ k0, if_pos h1]
          omega
        · rw [ev]
          by_cases hin : ∃ k, 0 ≤ k ∧ k < ρ 2 3 ∧ ρ 9 k = b
          · right
            obtain ⟨k, j0, j1, j2⟩ := hin
            obtain ⟨bb, y1, y2, y3, y4⟩ := hrow.at j0 j1
            have hb3 : ρ 7 b ≤ 3 := by rw [← j2, y4]; exact y2
            have hbn : b < ρ 1 3 := by omega
            obtain ⟨z1, z2, z3, z4⟩ := t3 k j0 j1
            rw [← g3 k j0 j1, j2] at z1 z2 z3 z4
            obtain ⟨p, p0, p1, p2⟩ := walk_in (Z := Zc ρ) (many := ρ 2 3) j0 r2.toNat (by rw [hend]; exact j1)
            have z0 := z1 p p1 p2
            have hn1 := hV.2.1 b b0 b1
            rw [ev] at hn1
            have hpl2 := ypl (40 * v + b)
            have hld2 := yld (40 * v + b)
            have hmk2 := ymk b
            have h7 := x8 b
            rw [z0, z2, z3, z4]
            refine ⟨by omega, ?_, hpl2, hld2, ⟨hmk2.1, by omega⟩, by omega, by omega, ?_, fun hp => ?_⟩
            · rw [k5 b b0 b1]
              unfold mkC
              rw [if_pos ⟨⟨b0, hbn⟩, by omega⟩, hn1.1, hn1.2]
              omega
            · rw [k4 p (by omega) (by omega), show ((p : Int)).toNat = p by omega, ← j2]
              rcases (show walkF (Zc ρ) (ρ 2 3) p < k ∨ walkF (Zc ρ) (ρ 2 3) p = k by omega) with h | h
              · have := g8 _ k (hw0 p) h j1; omega
              · rw [h]; exact Int.le_refl _
            · rw [k4 (p + 1) (by omega) (by omega), show ((p : Int) + 1).toNat = p + 1 by omega, ← j2]
              exact g8 k _ j0 p2 (hw (p + 1) (by omega))
          · left
            refine ⟨?_, t4 b b0 b1 (fun k j0 j1 e => hin ⟨k, j0, j1, by rw [g3 k j0 j1]; exact e⟩), fun k j0 j1 e => ?_⟩
            · rw [k5 b b0 b1]
              unfold mkC
              refine if_neg (fun q => hin ?_)
              exact row_mem hrow b0 q.1.2 (by omega)
            · rw [k4 k (by omega) (by omega)] at e
              exact hin ⟨_, hw0 k.toNat, hw k.toNat (by omega), e⟩
      have hT : ∀ c, (c ≠ 33 ∧ c ≠ 34 ∧ c ≠ 35 ∧ c ≠ 36) → T c = ρ' c := fun c hc => t1 c hc.1 hc.2.1 hc.2.2.1 hc.2.2.2
      have hM3 : MS T := by
        unfold MS
        rw [hT 18 (by decide), hT 19 (by decide), hT 20 (by decide), hT 21 (by decide), hT 22 (by decide), hT 23 (by decide), hT 24 (by decide), hT 25 (by decide), hT 27 (by decide), hT 32 (by decide)]
        refine ⟨yb, yvn, ywt, yky, ydu, ywd, yli, yne, yse, ymk, ykd, ysh, yos, ypl, yld, yF, ylp, fun j => ?_⟩
        by_cases hj : j < 40 * v ∨ 40 * v + 40 ≤ j
        · rw [(t2 j hj).1]; exact ypo j
        · have := key.2 (j - 40 * v) (by omega) (by omega)
          rw [ev, show 40 * v + (j - 40 * v) = j by omega] at this
          rcases this with h | h <;> omega
      refine ⟨by omega, ?_, by rw [t5]; exact hM3.upA (by omega)⟩
      have sl : ∀ c, c < 38 → σ1 c = ρ c := fun c hc => k1 c (by omega) (by omega) (by omega)
      have tl : ∀ c, c ≠ 32 → (c ≠ 33 ∧ c ≠ 34 ∧ c ≠ 35 ∧ c ≠ 36) → τ1 c = ρ' c := fun c h1 h2 => by rw [t5, up2_ne h1, hT c h2]
      unfold E
      rw [sl 0 (by decide), sl 1 (by decide), sl 4 (by decide), sl 5 (by decide), sl 6 (by decide), sl 7 (by decide), sl 17 (by decide), tl 18 (by decide) (by decide), tl 19 (by decide) (by decide), tl 20 (by decide) (by decide), tl 24 (by decide) (by decide), tl 25 (by decide) (by decide), tl 26 (by decide) (by decide), tl 27 (by decide) (by decide)]
      have e32 : ∀ j, τ1 32 j = if j = v then r2 else ρ' 32 j := fun j => by rw [t5, up2_c, hT 32 (by decide)]
      have e3 : ∀ c, (c = 33 ∨ c = 34 ∨ c = 35 ∨ c = 36) → τ1 c = T c := fun c hc => by rw [t5, up2_ne (by omega)]
      refine ⟨⟨x1, x2, x3⟩, x4, x5, fun j => ⟨(x6 j).1, by have := (x6 j).2; omega⟩, x7, x8, x9, x10, x11, fun j hj => ?_, fun i hi => ?_⟩
      · rw [e32, if_neg (by omega)]; exact x12 j hj
      · unfold VE
        rw [e32, e3 33 (by decide), e3 34 (by decide), e3 35 (by decide), e3 36 (by decide), tl 18 (by decide) (by decide), tl 21 (by decide) (by decide), tl 22 (by decide) (by decide), tl 23 (by decide) (by decide), tl 24 (by decide) (by decide), tl 25 (by decide) (by decide), k1 (39 + 5 * i) (by omega) (by omega) (by omega), k1 (40 + 5 * i) (by omega) (by omega) (by omega)]
        obtain ⟨⟨v1, v2, v3, v4⟩, v5, v6, v7⟩ := xV i hi
        by_cases e : i = v.toNat
        · subst e
          rw [if_pos ev, k2 0 (by decide), k2 1 (by decide), k2 4 (by decide), k3]
          exact ⟨⟨v1, v2, v3, er⟩, v5, v6, fun _ => key⟩
        · rw [if_neg (by omega), k1 (38 + 5 * i) (by omega) (by omega) (by omega), k1 (41 + 5 * i) (by omega) (by omega) (by omega), k1 (42 + 5 * i) (by omega) (by omega) (by omega)]
          exact ⟨⟨v1, v2, v3, v4⟩, v5, v6, fun q => (v7 q).cg (fun j j0 j1 => t2 j (by omega))⟩
  · exfalso; omega
  · exfalso; omega
  · skip
    obtain ⟨-, c1, c2⟩ := hc
    obtain ⟨-, m1, m2⟩ := hm
    rw [c2, m2]
    exact Step.fnd hE hM hN _ (by omega)
