theorem LDr.cg {F lm p33 p34 p35 p36 x33 x34 x35 x36 : Int → Int} {lp nb : Int} {i : Nat} (h : LDr F lm p33 p34 p35 p36 lp nb i) (hx : ∀ j, 40 * (i : Int) ≤ j → j < 40 * (i : Int) + 40 → x33 j = p33 j ∧ x34 j = p34 j ∧ x35 j = p35 j ∧ x36 j = p36 j) : LDr F lm x33 x34 x35 x36 lp nb i := by
  refine ⟨h.1, fun b b0 b1 => ?_⟩
  obtain ⟨e1, e2, e3, e4⟩ := hx (40 * i + b) (by omega) (by omega)
  rw [e1, e2, e3, e4]
  exact h.2 b b0 b1
theorem row_mem {mk : Int → Int} {nb : Int} {row : Int → Int} {many b : Int} (h : RowOK mk nb row many) (h0 : 0 ≤ b) (h1 : b < nb) (h2 : mk b ≤ 3) : ∃ k, 0 ≤ k ∧ k < many ∧ row k = b := by
  have e := h.2 b.toNat (by omega) (by rw [show ((b.toNat : Nat) : Int) = b by omega]; exact h2)
  have h3 := cntN_bd mk b.toNat
  have h4 := cntN_s mk h0
  rw [if_pos h2] at h4
  have h5 := cntN_mono mk (b + 1).toNat nb.toNat (by omega)
  refine ⟨_, h3.1, ?_, by rw [e]; omega⟩
  rw [h.1]
  omega
theorem walk_in {Z : Int → Int} {many k : Int} (hk : 0 ≤ k) : ∀ L : Nat, k < walkF Z many L → ∃ p : Nat, p < L ∧ walkF Z many p ≤ k ∧ k < walkF Z many (p + 1)
  | 0, h => by
    have : walkF Z many 0 = 0 := rfl
    omega
  | L + 1, h => by
    by_cases h1 : k < walkF Z many L
    · obtain ⟨p, p0, p1, p2⟩ := walk_in hk L h1
      exact ⟨p, by omega, p1, p2⟩
    · exact ⟨L, by omega, by omega, h⟩

set_option maxHeartbeats 2000000 in
theorem p_lay {σ τ σ1 τ1 : ST} {n : Nat} {N r1 r2 v : Int} (hE : E σ τ n N) (hM : MS τ) (hN : N < 900000) (hc : ((0 ≤ v ∧ v < n) ∧ ∃ τ, PlR σ τ n v ∧ ((τ 15 0 = 0 ∧ r1 = -1000002 ∧ σ1 = fd τ 5 2) ∨ (¬ τ 15 0 = 0 ∧ r1 = τ 15 0 ∧ KpC τ σ1 v.toNat))) ∨ (¬ (0 ≤ v ∧ v < n) ∧ r1 = -1000001 ∧ σ1 = fd σ 5 1)) (hm : ((0 ≤ v ∧ v < τ 18 1) ∧ ∃ ρ, FPm τ ρ v ∧ ((ρ 18 18 = 0 ∧ r2 = -1000002 ∧ τ1 = fd ρ 27 2) ∨ (0 < ρ 18 18 ∧ LayM ρ v τ1 r2))) ∨ (¬ (0 ≤ v ∧ v < τ 18 1) ∧ r2 = -1000001 ∧ τ1 = fd τ 27 1)) : Step σ1 τ1 n N r1 r2 := by
  obtain ⟨⟨a1, a2, a3⟩, a4, ⟨b1, b2, b3, b4, b5⟩, a5, a6, a7, a8, a9, a10, a11, aV⟩ := id hE
  obtain ⟨hb, hvn, hwt, hky, hdu, hwd, hli, hne, hse, hmk, hkd, hsh, hos, hpl, hld, hF, hlp, hpo⟩ := id hM
  rcases hc with hc | hc <;> rcases hm with hm | hm
  · obtain ⟨c0, ρ, hd, hc⟩ := hc
    obtain ⟨m0, ρ', hf, hm⟩ := hm
    have hv : 0 ≤ v ∧ v < n := by omega
    have hrow := (hd.facts (hE.cs hM) hv).2.2.2.2.2.2.2.1
    obtain ⟨⟨g1, g2, g3, g4, g5, g6, g7, g8, g9⟩, ⟨q1, q2, q3, q4, q5, q6, q7, q8, q9, q10, q11⟩, hfr⟩ := dw_plan hE hM hv hd hf
    have hE2 := hE.scr0 hfr hf.1
    have hM2 := hf.1.ms hM
    rcases hc with ⟨c1, c2, c3⟩ | ⟨c1, c2, c3⟩ <;> rcases hm with ⟨m1, m2, m3⟩ | ⟨m1, m2⟩
    · rw [c3, m3]; exact Step.fnd hE2 hM2 hN _ (by omega)
    · exfalso; omega
    · exfalso; omega
    · obtain ⟨l1, l2, l3, l4, T, ⟨t1, t2, t3, t4⟩, t5⟩ := m2
      have ev : ((v.toNat : Nat) : Int) = v := by omega
      rw [← g1] at l2 l3 t3 t4
      have er : ρ 15 0 = r2 := by
        rcases (show ρ 15 0 < r2 ∨ ρ 15 0 = r2 ∨ r2 < ρ 15 0 by omega) with h | h | h
        · have := l4 (ρ 15 0).toNat (by omega)
          rw [← q3, q10] at this
          omega
        · exact h
        · have := q11 r2.toNat (by omega)
          rw [q3, ← g1, l3] at this
          omega
      have hw : ∀ k : Nat, (k : Int) < r2 → walkF (Zc ρ) (ρ 2 3) k < ρ 2 3 := fun k hk => q11 k (by omega)
      have hw0 : ∀ k : Nat, 0 ≤ walkF (Zc ρ) (ρ 2 3) k := fun k => (walk_mono q5 g2.1 k).1
      have hend : walkF (Zc ρ) (ρ 2 3) r2.toNat = ρ 2 3 := by rw [← er]; exact q10
      obtain ⟨k1, k2, k3, k4, k5⟩ := c3
      obtain ⟨⟨x1, x2, x3⟩, x4, x5, x6, x7, x8, x9, x10, x11, x12, xV⟩ := id hE2
      obtain ⟨yb, yvn, ywt, yky, ydu, ywd, yli, yne, yse, ymk, ykd, ysh, yos, ypl, yld, yF, ylp, ypo⟩ := id hM2
      rw [hfr 7 (by decide) (by decide) (by decide) (by decide) (by decide) (by decide) (by decide) (by decide) (by decide) (by decide) |>.symm, show σ 1 3 = ρ 1 3 by rw [hfr 1 (by decide) (by decide) (by decide) (by decide) (by decide) (by decide) (by decide) (by decide) (by decide) (by decide)]] at hrow
      have hV := xV v.toNat (by omega)
      rw [show walkF (ρ' 31) (ρ 2 3) = walkF (Zc ρ) (ρ 2 3) by funext k; rw [q3, ← g1]] at t3
      -- what lies of voice v
      have key : LDr (σ1 (42 + 5 * v.toNat)) (σ1 (43 + 5 * v.toNat)) (T 33) (T 34) (T 35) (T 36) r2 (ρ' 18 0) v.toNat := by
        refine ⟨⟨fun k k0 kk => ?_, fun k k0 kk => by rw [k4 k k0 (by omega)]; exact (g9 _ (hw0 _) (hw k.toNat (by omega))).1⟩, fun b b0 b1 => ?_⟩
        · have h1 := hw k.toNat (by omega)
          have h2 := hw (k + 1).toNat (by omega)
          have h3 := q5 _ (hw0 k.toNat) h1
          rw [k4 k k0 (by omega), k4 (k + 1) (by omega) (by omega)]
          refine g8 _ _ (hw0 _) ?_ h2
          rw [walkF_s _ _ k0, if_pos h1]
          omega
        · rw [ev]
          by_cases hin : ∃ k, 0 ≤ k ∧ k < ρ 2 3 ∧ ρ 9 k = b
          · right
            obtain ⟨k, j0, j1, j2⟩ := hin
            obtain ⟨bb, y1, y2, y3, y4⟩ := hrow.at j0 j1
            have hb3 : ρ 7 b ≤ 3 := by rw [← j2, y4]; exact y2
            have hbn : b < ρ 1 3 := by omega
            obtain ⟨z1, z2, z3, z4⟩ := t3 k j0 j1
            rw [← g3 k j0 j1, j2] at z1 z2 z3 z4
            obtain ⟨p, p0, p1, p2⟩ := walk_in (Z := Zc ρ) (many := ρ 2 3) j0 r2.toNat (by rw [hend]; exact j1)
            have z0 := z1 p p1 p2
            have hn1 := hV.2.1 b b0 b1
            rw [ev] at hn1
            have hpl2 := ypl (40 * v + b)
            have hld2 := yld (40 * v + b)
            have hmk2 := ymk b
            have h7 := x8 b
            rw [z0, z2, z3, z4]
            refine ⟨by omega, ?_, hpl2, hld2, ⟨hmk2.1, by omega⟩, by omega, by omega, ?_, fun hp => ?_⟩
            · rw [k5 b b0 b1]
              unfold mkC
              rw [if_pos ⟨⟨b0, hbn⟩, by omega⟩, hn1.1, hn1.2]
              omega
            · rw [k4 p (by omega) (by omega), show ((p : Int)).toNat = p by omega, ← j2]
              rcases (show walkF (Zc ρ) (ρ 2 3) p < k ∨ walkF (Zc ρ) (ρ 2 3) p = k by omega) with h | h
              · have := g8 _ k (hw0 p) h j1; omega
              · rw [h]; exact Int.le_refl _
            · rw [k4 (p + 1) (by omega) (by omega), show ((p : Int) + 1).toNat = p + 1 by omega, ← j2]
              exact g8 k _ j0 p2 (hw (p + 1) (by omega))
          · left
            refine ⟨?_, t4 b b0 b1 (fun k j0 j1 e => hin ⟨k, j0, j1, by rw [g3 k j0 j1]; exact e⟩), fun k j0 j1 e => ?_⟩
            · rw [k5 b b0 b1]
              unfold mkC
              refine if_neg (fun q => hin ?_)
              exact row_mem hrow b0 q.1.2 (by omega)
            · rw [k4 k (by omega) (by omega)] at e
              exact hin ⟨_, hw0 k.toNat, hw k.toNat (by omega), e⟩
      have hT : ∀ c, (c ≠ 33 ∧ c ≠ 34 ∧ c ≠ 35 ∧ c ≠ 36) → T c = ρ' c := fun c hc => t1 c hc.1 hc.2.1 hc.2.2.1 hc.2.2.2
      have hM3 : MS T := by
        unfold MS
        rw [hT 18 (by decide), hT 19 (by decide), hT 20 (by decide), hT 21 (by decide), hT 22 (by decide), hT 23 (by decide), hT 24 (by decide), hT 25 (by decide), hT 27 (by decide), hT 32 (by decide)]
        refine ⟨yb, yvn, ywt, yky, ydu, ywd, yli, yne, yse, ymk, ykd, ysh, yos, ypl, yld, yF, ylp, fun j => ?_⟩
        by_cases hj : j < 40 * v ∨ 40 * v + 40 ≤ j
        · rw [(t2 j hj).1]; exact ypo j
        · have := key.2 (j - 40 * v) (by omega) (by omega)
          rw [ev, show 40 * v + (j - 40 * v) = j by omega] at this
          rcases this with h | h <;> omega
      refine ⟨by omega, ?_, by rw [t5]; exact hM3.upA (by omega)⟩
      have sl : ∀ c, c < 39 → σ1 c = ρ c := fun c hc => k1 c (by omega) (by omega) (by omega)
      have tl : ∀ c, c ≠ 32 → (c ≠ 33 ∧ c ≠ 34 ∧ c ≠ 35 ∧ c ≠ 36) → τ1 c = ρ' c := fun c h1 h2 => by rw [t5, up2_ne h1, hT c h2]
      unfold E
      rw [sl 0 (by decide), sl 1 (by decide), sl 4 (by decide), sl 5 (by decide), sl 6 (by decide), sl 7 (by decide), sl 17 (by decide), tl 18 (by decide) (by decide), tl 19 (by decide) (by decide), tl 20 (by decide) (by decide), tl 24 (by decide) (by decide), tl 25 (by decide) (by decide), tl 26 (by decide) (by decide), tl 27 (by decide) (by decide)]
      have e32 : ∀ j, τ1 32 j = if j = v then r2 else ρ' 32 j := fun j => by rw [t5, up2_c, hT 32 (by decide)]
      have e3 : ∀ c, (c = 33 ∨ c = 34 ∨ c = 35 ∨ c = 36) → τ1 c = T c := fun c hc => by rw [t5, up2_ne (by omega)]
      refine ⟨⟨x1, x2, x3⟩, x4, x5, fun j => ⟨(x6 j).1, by have := (x6 j).2; omega⟩, x7, x8, x9, x10, x11, fun j hj => ?_, fun i hi => ?_⟩
      · rw [e32, if_neg (by omega)]; exact x12 j hj
      · unfold VE
        rw [e32, e3 33 (by decide), e3 34 (by decide), e3 35 (by decide), e3 36 (by decide), tl 18 (by decide) (by decide), tl 21 (by decide) (by decide), tl 22 (by decide) (by decide), tl 23 (by decide) (by decide), tl 24 (by decide) (by decide), tl 25 (by decide) (by decide), k1 (40 + 5 * i) (by omega) (by omega) (by omega), k1 (41 + 5 * i) (by omega) (by omega) (by omega)]
        obtain ⟨⟨v1, v2, v3, v4⟩, v5, v6, v7⟩ := xV i hi
        by_cases e : i = v.toNat
        · subst e
          rw [if_pos ev, k2 0 (by decide), k2 1 (by decide), k2 4 (by decide), k3]
          exact ⟨⟨v1, v2, v3, er⟩, v5, v6, fun _ => key⟩
        · rw [if_neg (by omega), k1 (39 + 5 * i) (by omega) (by omega) (by omega), k1 (42 + 5 * i) (by omega) (by omega) (by omega), k1 (43 + 5 * i) (by omega) (by omega) (by omega)]
          exact ⟨⟨v1, v2, v3, v4⟩, v5, v6, fun q => (v7 q).cg (fun j j0 j1 => t2 j (by omega))⟩
  · exfalso; omega
  · exfalso; omega
  · skip
    obtain ⟨-, c1, c2⟩ := hc
    obtain ⟨-, m1, m2⟩ := hm
    rw [c2, m2]
    exact Step.fnd hE hM hN _ (by omega)

theorem sumF_cg {f g : Int → Int} : ∀ k : Nat, (∀ p : Int, 0 ≤ p → p < k → f p = g p) → sumF f k = sumF g k
  | 0, _ => rfl
  | k + 1, h => by
    have ih := sumF_cg k (fun p p0 p1 => h p p0 (by omega))
    have e := h k (by omega) (by omega)
    unfold sumF
    rw [ih, e]
theorem sumF_up {g : Int → Int} {p : Int} (hp : 0 ≤ p) : ∀ k : Nat, sumF (fun q => if q = p then 1 else g q) k = sumF g k + (if p < k ∧ g p = 0 then 1 else 0)
  | 0 => by
    unfold sumF
    rw [if_neg (by omega)]; rfl
  | k + 1 => by
    have ih := sumF_up (g := g) hp k
    have e1 : sumF (fun q => if q = p then 1 else g q) (k + 1) = sumF (fun q => if q = p then 1 else g q) k + (if (if (k : Int) = p then 1 else g k) = 0 then 0 else 1) := rfl
    have e2 : sumF g (k + 1) = sumF g k + (if g k = 0 then 0 else 1) := rfl
    rw [e1, e2, ih]
    by_cases e : (k : Int) = p
    · subst e
      rw [if_pos rfl]
      repeat' split
      all_goals omega
    · rw [if_neg e]
      repeat' split
      all_goals omega
/-- the two ways of counting stale pages, bar by bar -/
theorem stp_ok {σ τ : ST} {i : Nat} {lp : Int} (hV : VE σ τ i) (hlp : τ 32 i = lp) (h1 : 1 ≤ lp) (h2 : lp ≤ 40) (a1 : σ 1 3 = τ 18 0) (a7 : ∀ j, σ 7 j = τ 20 j) (hmk : ∀ j, 0 ≤ τ 20 j ∧ τ 20 j ≤ 7) (hpl : ∀ j, 0 ≤ τ 24 j ∧ τ 24 j ≤ 16) (hld : ∀ j, 0 ≤ τ 25 j ∧ τ 25 j ≤ 9) :
    ∀ b : Nat, (b : Int) ≤ 40 → ∃ (g : Int → Int) (c pg la : Int), stpF (σ (42 + 5 * i)) (σ (43 + 5 * i)) (mkC σ i) lp b = (c, pg, la) ∧ c = sumF g lp.toNat ∧ pg = pgS τ i b ∧ (0 ≤ pg ∧ pg < lp) ∧ (pg + 1 < lp → b ≤ σ (42 + 5 * i) (pg + 1)) ∧ (pg = 0 ∨ σ (42 + 5 * i) pg < b) ∧ (-1 ≤ la ∧ la ≤ pg) ∧ (∀ p, g p = 0 ∨ (g p = 1 ∧ 0 ≤ p ∧ p ≤ la)) ∧ (0 ≤ la → g la = 1) ∧
      ∀ p, 0 ≤ p → p < 40 → (g p = 1 ∧ ∃ d, 0 ≤ d ∧ d < (b : Int) ∧ d < τ 18 0 ∧ dsM τ i d ∧ pgS τ i (d + 1).toNat = p) ∨ (g p = 0 ∧ ∀ d, 0 ≤ d → d < (b : Int) → d < τ 18 0 → dsM τ i d → pgS τ i (d + 1).toNat ≠ p) := by
  obtain ⟨-, v5, -, v7⟩ := hV
  obtain ⟨⟨f1, f0⟩, f2⟩ := v7 (by omega)
  rw [hlp] at f1 f0 f2
  have fm : ∀ (d : Nat) (k : Int), 0 ≤ k → k + d + 1 < lp → σ (42 + 5 * i) k < σ (42 + 5 * i) (k + d + 1) := by
    intro d
    induction d with
    | zero => intro k k0 k1; have := f1 k k0 (by omega); simpa using this
    | succ d ih =>
      intro k k0 k1
      have := ih k k0 (by omega)
      have h3 := f1 (k + d + 1) (by omega) (by omega)
      rw [show k + ((d + 1 : Nat) : Int) + 1 = k + d + 1 + 1 by omega]
      omega
  have fl : ∀ x y, 0 ≤ x → x < y → y < lp → σ (42 + 5 * i) x < σ (42 + 5 * i) y := fun x y x0 xy yl => by
    have := fm (y - x - 1).toNat x x0 (by omega)
    rw [show x + ((y - x - 1).toNat : Int) + 1 = y by omega] at this
    exact this
  intro b
  induction b with
  | zero =>
    intro _
    refine ⟨fun _ => 0, 0, 0, -1, rfl, ?_, rfl, by omega, fun h => ?_, Or.inl rfl, by omega, fun p => Or.inl rfl, fun h => by omega, fun p p0 p1 => Or.inr ⟨rfl, fun d d0 d1 => by omega⟩⟩
    · have : ∀ k : Nat, sumF (fun _ => 0) k = 0 := by
        intro k
        induction k with
        | zero => rfl
        | succ k ih => unfold sumF; rw [ih]; rfl
      exact (this _).symm
    · have := f0 (0 + 1) (by omega) (by omega)
      omega
  | succ b ih =>
    intro hb
    obtain ⟨g, c, pg, la, s1, s2, s3, s4, s5, s6, s7, s8, s9, s10⟩ := ih (by omega)
    have hpg : ∃ pg2, (pg + 1 < lp ∧ σ (42 + 5 * i) (pg + 1) = b ∧ pg2 = pg + 1) ∨ (¬ (pg + 1 < lp ∧ σ (42 + 5 * i) (pg + 1) = b) ∧ pg2 = pg) := by
      by_cases h : pg + 1 < lp ∧ σ (42 + 5 * i) (pg + 1) = b
      · exact ⟨pg + 1, Or.inl ⟨h.1, h.2, rfl⟩⟩
      · exact ⟨pg, Or.inr ⟨h, rfl⟩⟩
    obtain ⟨pg2, hpg⟩ := hpg
    have st := stpF_s (lm := σ (43 + 5 * i)) (nw := mkC σ i) (b := (b : Int)) (by rw [show ((b : Int)).toNat = b by omega]; exact s1.symm) (by omega) hpg
    rw [show ((b : Int) + 1).toNat = b + 1 by omega] at st
    have ep : pgS τ i (b + 1) = if 0 ≤ τ 33 (40 * i + b) then τ 33 (40 * i + b) else pgS τ i b := rfl
    have hvb := v5 b (by omega) (by omega)
    have hpl := hpl (40 * i + b)
    have hld := hld (40 * i + b)
    have hmkb := hmk b
    have a7b := a7 b
    have page : pg2 = pgS τ i (b + 1) ∧ (0 ≤ pg2 ∧ pg2 < lp) ∧ (pg2 + 1 < lp → (b : Int) + 1 ≤ σ (42 + 5 * i) (pg2 + 1)) ∧ (pg2 = 0 ∨ σ (42 + 5 * i) pg2 < (b : Int) + 1) ∧ pg ≤ pg2 := by
      rw [ep]
      rcases f2 b (by omega) (by omega) with ⟨w1, w2, w3⟩ | ⟨w0, w1, w2, w3, w4, w5, w6, w7, w8⟩
      · rw [if_neg (by omega)]
        have e : pg2 = pg := by
          rcases hpg with h | h
          · exact absurd h.2.1 (w3 (pg + 1) (by omega) h.1)
          · exact h.2
        rw [e]
        refine ⟨s3, s4, fun h => ?_, by omega, Int.le_refl _⟩
        have := s5 h
        have := w3 (pg + 1) (by omega) h
        omega
      · rw [if_pos w5]
        generalize τ 33 (40 * i + b) = p at w5 w6 w7 w8 ⊢
        have e : pg2 = p ∧ pg ≤ p := by
          rcases hpg with ⟨h3, h4, h5⟩ | ⟨h3, h4⟩
          · rcases (show p < pg + 1 ∨ p = pg + 1 ∨ pg + 1 < p by omega) with h | h | h
            · exfalso
              have h9 := w8 (by omega)
              rcases (show p + 1 < pg + 1 ∨ p + 1 = pg + 1 by omega) with h8 | h8
              · have := fl (p + 1) (pg + 1) (by omega) h8 h3; omega
              · rw [h8] at h9; omega
            · omega
            · exfalso
              have := fl (pg + 1) p (by omega) h w6
              omega
          · rcases (show p < pg ∨ p = pg ∨ pg < p by omega) with h | h | h
            · exfalso
              have h9 := w8 (by omega)
              have h7 : σ (42 + 5 * i) pg < b := by omega
              rcases (show p + 1 < pg ∨ p + 1 = pg by omega) with h8 | h8
              · have := fl (p + 1) pg (by omega) h8 s4.2; omega
              · rw [h8] at h9; omega
            · omega
            · exfalso
              have h9 := s5 (by omega)
              rcases (show pg + 1 < p ∨ pg + 1 = p by omega) with h8 | h8
              · have h10 := fl (pg + 1) p (by omega) h8 w6
                exact h3 ⟨by omega, by omega⟩
              · rw [← h8] at w7
                exact h3 ⟨by omega, by omega⟩
        obtain ⟨e, e2⟩ := e
        rw [e]
        exact ⟨rfl, ⟨w5, w6⟩, fun h => by have := w8 h; omega, Or.inr (by omega), e2⟩
    have diff : (¬ σ (43 + 5 * i) b = mkC σ i b) ↔ ((b : Int) < τ 18 0 ∧ dsM τ i b) := by
      unfold mkC dsM
      rw [hvb.1, hvb.2, a7b, a1]
      rcases f2 b (by omega) (by omega) with ⟨w1, w2, w3⟩ | ⟨w0, w1, w2, w3, w4, w5, w6, w7, w8⟩
      · rw [w1, w2]
        split <;> omega
      · rw [w1]
        split <;> omega
    obtain ⟨r1, r2, r3, r4, r5⟩ := page
    rw [st]
    by_cases hd : ¬ σ (43 + 5 * i) b = mkC σ i b
    · have hd2 := diff.mp hd
      refine ⟨fun q => if q = pg2 then 1 else g q, if la = pg2 then c else c + 1, pg2, pg2, ?_, ?_, r1, r2, fun h => by have := r3 h; omega, by omega, by omega, fun p => ?_, fun _ => if_pos rfl, fun p p0 p1 => ?_⟩
      · by_cases e : la = pg2
        · rw [if_neg (fun q => q.1 e), if_pos e, e]
        · rw [if_pos ⟨e, hd⟩, if_neg e]
      · rw [sumF_up r2.1, s2]
        by_cases e : la = pg2
        · have := s9 (by omega)
          rw [e] at this
          rw [if_pos e, if_neg (by omega)]; omega
        · have : g pg2 = 0 := by
            rcases s8 pg2 with h | h
            · exact h
            · omega
          rw [if_neg e, if_pos ⟨by omega, this⟩]
      · show (if p = pg2 then 1 else g p) = 0 ∨ ((if p = pg2 then 1 else g p) = 1 ∧ 0 ≤ p ∧ p ≤ pg2)
        by_cases e : p = pg2
        · rw [if_pos e]; right; omega
        · rw [if_neg e]
          rcases s8 p with h | h
          · exact Or.inl h
          · right; omega
      · show ((if p = pg2 then 1 else g p) = 1 ∧ _) ∨ ((if p = pg2 then 1 else g p) = 0 ∧ _)
        by_cases e : p = pg2
        · rw [if_pos e]
          exact Or.inl ⟨rfl, b, by omega, by omega, hd2.1, hd2.2, by rw [show ((b : Int) + 1).toNat = b + 1 by omega, ← r1, e]⟩
        · rw [if_neg e]
          rcases s10 p p0 p1 with ⟨h3, d, d0, d1, d2, d3, d4⟩ | ⟨h3, h4⟩
          · exact Or.inl ⟨h3, d, d0, by omega, d2, d3, d4⟩
          · refine Or.inr ⟨h3, fun d d0 d1 d2 d3 => ?_⟩
            by_cases ed : d = b
            · subst ed
              rw [show ((b : Int) + 1).toNat = b + 1 by omega, ← r1]
              exact Ne.symm e
            · exact h4 d d0 (by omega) d2 d3
    · rw [if_neg (fun q => hd q.2)]
      refine ⟨g, c, pg2, la, rfl, s2, r1, r2, fun h => by have := r3 h; omega, by omega, by omega, s8, s9, fun p p0 p1 => ?_⟩
      rcases s10 p p0 p1 with ⟨h3, d, d0, d1, d2, d3, d4⟩ | ⟨h3, h4⟩
      · exact Or.inl ⟨h3, d, d0, by omega, d2, d3, d4⟩
      · refine Or.inr ⟨h3, fun d d0 d1 d2 d3 => ?_⟩
        by_cases ed : d = b
        · subst ed
          exact absurd (diff.mpr ⟨d2, d3⟩) hd
        · exact h4 d d0 (by omega) d2 d3

set_option maxHeartbeats 1000000 in
theorem p_stale {σ τ σ1 τ1 : ST} {n : Nat} {N r1 r2 v : Int} (hE : E σ τ n N) (hM : MS τ) (hN : N < 900000) (hc : ((0 ≤ v ∧ v < n) ∧ σ (39 + 5 * v.toNat) 7 = 0 ∧ r1 = -1000002 ∧ σ1 = fd σ 5 2) ∨ ((0 ≤ v ∧ v < n) ∧ 0 < σ (39 + 5 * v.toNat) 7 ∧ r1 = (stpF (σ (42 + 5 * v.toNat)) (σ (43 + 5 * v.toNat)) (mkC σ v.toNat) (σ (39 + 5 * v.toNat) 7) 40).1 ∧ σ1 = σ) ∨ (¬ (0 ≤ v ∧ v < n) ∧ r1 = -1000001 ∧ σ1 = fd σ 5 1)) (hm : ((0 ≤ v ∧ v < τ 18 1) ∧ τ 32 v = 0 ∧ r2 = -1000002 ∧ τ1 = fd τ 27 2) ∨ ((0 ≤ v ∧ v < τ 18 1) ∧ 0 < τ 32 v ∧ (∀ c, c ≠ 37 → τ1 c = τ c) ∧ StF τ v (τ1 37) (τ 18 0) ∧ r2 = sumF (τ1 37) (τ 32 v).toNat) ∨ (¬ (0 ≤ v ∧ v < τ 18 1) ∧ r2 = -1000001 ∧ τ1 = fd τ 27 1)) : Step σ1 τ1 n N r1 r2 := by
  obtain ⟨⟨a1, a2, a3⟩, a4, ⟨b1, b2, b3, b4, b5⟩, a5, a6, a7, a8, a9, a10, a11, aV⟩ := id hE
  obtain ⟨hb, hvn, hwt, hky, hdu, hwd, hli, hne, hse, hmk, hkd, hsh, hos, hpl, hld, hF, hlp, hpo⟩ := id hM
  have ev : (0 ≤ v ∧ v < n) → ((v.toNat : Nat) : Int) = v := fun h => by omega
  have e7 : (0 ≤ v ∧ v < n) → σ (39 + 5 * v.toNat) 7 = τ 32 v := fun h => by
    have := (aV v.toNat (by omega)).1.2.2.2
    rw [ev h] at this
    exact this
  rcases hc with ⟨c0, c3, c1, c2⟩ | ⟨c0, c3, c1, c2⟩ | ⟨c0, c1, c2⟩ <;> rcases hm with ⟨m0, m3, m1, m2⟩ | ⟨m0, m3, m4, m5, m1⟩ | ⟨m0, m1, m2⟩
  · rw [c2, m2]; exact Step.fnd hE hM hN _ (by omega)
  · exfalso; have := e7 c0; omega
  · exfalso; omega
  · exfalso; have := e7 c0; omega
  · have hfr : FrM τ τ1 := ⟨fun c _ _ _ _ _ h => m4 c h, fun k _ => by rw [m4 18 (by decide)]⟩
    rw [c2]
    refine ⟨?_, (hE.scr0 (fun _ _ _ _ _ _ _ _ _ _ _ => rfl) hfr).mono, hfr.ms hM⟩
    have h32 := hlp v
    obtain ⟨g, c, pg, la, s1, s2, -, -, -, -, -, -, -, s10⟩ := stp_ok (aV v.toNat (by omega)) (lp := τ 32 v) (by rw [ev c0]) (by omega) (by omega) a1 a7 hmk hpl hld 40 (by omega)
    rw [c1, m1, e7 c0, s1]
    show c = _
    rw [s2]
    refine sumF_cg _ (fun p p0 p1 => ?_)
    rw [ev c0] at s10
    rcases s10 p p0 (by omega) with ⟨h1, d, d0, d1, d2, d3, d4⟩ | ⟨h1, h2⟩ <;> rcases m5 p p0 (by omega) with ⟨h3, d', e0, e1, e2, e3⟩ | ⟨h3, h4⟩
    · omega
    · exact absurd d4 (h4 d d0 d2 d3)
    · exact absurd e3 (h2 d' e0 (by omega) e1 e2)
    · omega
  · exfalso; omega
  · exfalso; omega
  · exfalso; omega
  · rw [c2, m2]; exact Step.fnd hE hM hN _ (by omega)
