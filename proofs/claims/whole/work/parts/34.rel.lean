/-! the class and the reference, side by side -/
def LDr (F lm : Int → Int) (p33 p34 p35 p36 : Int → Int) (lp nb : Int) (i : Nat) : Prop :=
  ((∀ k, 0 ≤ k → k + 1 < lp → F k < F (k + 1)) ∧ ∀ k, 0 ≤ k → k < lp → 0 ≤ F k) ∧ ∀ b, 0 ≤ b → b < 40 →
    (lm b = -1 ∧ p33 (40 * i + b) = -1 ∧ ∀ k, 0 < k → k < lp → F k ≠ b) ∨
    (b < nb ∧ lm b = (p34 (40 * i + b) * 16 + p35 (40 * i + b)) * 4 + p36 (40 * i + b) ∧ (0 ≤ p34 (40 * i + b) ∧ p34 (40 * i + b) ≤ 16) ∧ (0 ≤ p35 (40 * i + b) ∧ p35 (40 * i + b) ≤ 9) ∧ (0 ≤ p36 (40 * i + b) ∧ p36 (40 * i + b) ≤ 3) ∧ 0 ≤ p33 (40 * i + b) ∧ p33 (40 * i + b) < lp ∧ F (p33 (40 * i + b)) ≤ b ∧ (p33 (40 * i + b) + 1 < lp → b < F (p33 (40 * i + b) + 1)))
theorem LDr.mono {F lm p33 p34 p35 p36 : Int → Int} {lp nb nb' : Int} {i : Nat} (h : LDr F lm p33 p34 p35 p36 lp nb i) (hn : nb ≤ nb') : LDr F lm p33 p34 p35 p36 lp nb' i :=
  ⟨h.1, fun b b0 b1 => (h.2 b b0 b1).imp id (fun q => ⟨by omega, q.2⟩)⟩
def VE (s t : ST) (i : Nat) : Prop := (s (39 + 5 * i) 0 = t 21 i ∧ s (39 + 5 * i) 1 = t 22 i ∧ s (39 + 5 * i) 4 = t 23 i ∧ s (39 + 5 * i) 7 = t 32 i) ∧ (∀ b, 0 ≤ b → b < 40 → s (40 + 5 * i) b = t 24 (40 * i + b) ∧ s (41 + 5 * i) b = t 25 (40 * i + b)) ∧ (∀ b, ¬ (0 ≤ b ∧ b < 40) → s (40 + 5 * i) b = 0 ∧ s (41 + 5 * i) b = 0) ∧ (0 < t 32 i → LDr (s (42 + 5 * i)) (s (43 + 5 * i)) (t 33) (t 34) (t 35) (t 36) (t 32 i) (t 18 0) i)
def E (s t : ST) (n : Nat) (N : Int) : Prop :=
  (s 1 3 = t 18 0 ∧ s 1 4 = n ∧ t 18 1 = n) ∧ s 4 1 = t 18 2 ∧ (s 0 5 = t 18 3 ∧ s 0 6 = t 18 4 ∧ s 0 7 = t 18 5 ∧ s 0 8 = t 18 6 ∧ s 0 9 = t 18 7) ∧ (∀ j, s 5 j = t 27 j ∧ t 27 j ≤ N) ∧ (∀ j, s 6 j = t 19 j) ∧ (∀ j, s 7 j = t 20 j) ∧ (∀ j, t 18 0 ≤ j → t 20 j = 0) ∧ (∀ j, s 17 j = t 26 j) ∧ (∀ j, 40 * (n : Int) ≤ j → t 24 j = 0 ∧ t 25 j = 0) ∧ (∀ j, (n : Int) ≤ j → t 32 j = 0) ∧ ∀ i : Nat, i < n → VE s t i
theorem VE.cg {s t s' t' : ST} {i : Nat} (h : VE s t i) (hs : ∀ c, 39 + 5 * i ≤ c → c ≤ 43 + 5 * i → s' c = s c) (ht : ∀ c, (21 ≤ c ∧ c ≤ 25) ∨ (32 ≤ c ∧ c ≤ 36) → t' c = t c) (hb : t 18 0 ≤ t' 18 0) : VE s' t' i := by
  obtain ⟨h1, h2, h3, h4⟩ := h
  unfold VE
  rw [hs (39 + 5 * i) (by omega) (by omega), hs (40 + 5 * i) (by omega) (by omega), hs (41 + 5 * i) (by omega) (by omega), hs (42 + 5 * i) (by omega) (by omega), hs (43 + 5 * i) (by omega) (by omega), ht 21 (by omega), ht 22 (by omega), ht 23 (by omega), ht 24 (by omega), ht 25 (by omega), ht 32 (by omega), ht 33 (by omega), ht 34 (by omega), ht 35 (by omega), ht 36 (by omega)]
  exact ⟨h1, h2, h3, fun q => (h4 q).mono hb⟩
theorem E.cg {s t s' t' : ST} {n : Nat} {N N' : Int} (h : E s t n N) (hN : N ≤ N') (hs : ∀ c, (c = 0 ∨ c = 1 ∨ c = 4 ∨ c = 5 ∨ c = 6 ∨ c = 7 ∨ c = 17 ∨ 39 ≤ c) → s' c = s c) (h18 : ∀ k, k ≠ 18 → t' 18 k = t 18 k) (ht : ∀ c, (19 ≤ c ∧ c ≤ 27) ∨ (32 ≤ c ∧ c ≤ 36) → t' c = t c) : E s' t' n N' := by
  obtain ⟨a1, a2, a3, a4, a5, a6, a7, a8, a9, a10, a11⟩ := h
  unfold E
  rw [hs 0 (by omega), hs 1 (by omega), hs 4 (by omega), hs 5 (by omega), hs 6 (by omega), hs 7 (by omega), hs 17 (by omega), h18 0 (by omega), h18 1 (by omega), h18 2 (by omega), h18 3 (by omega), h18 4 (by omega), h18 5 (by omega), h18 6 (by omega), h18 7 (by omega), ht 19 (by omega), ht 20 (by omega), ht 24 (by omega), ht 25 (by omega), ht 26 (by omega), ht 27 (by omega), ht 32 (by omega)]
  exact ⟨a1, a2, a3, fun j => ⟨(a4 j).1, by have := (a4 j).2; omega⟩, a5, a6, a7, a8, a9, a10, fun i hi => (a11 i hi).cg (fun c _ _ => hs c (by omega)) (fun c hc => ht c (by omega)) (by rw [h18 0 (by omega)]; exact Int.le_refl _)⟩
theorem E.mono {s t : ST} {n : Nat} {N : Int} (h : E s t n N) : E s t n (N + 1) := h.cg (by omega) (fun _ _ => rfl) (fun _ _ => rfl) (fun _ _ => rfl)
theorem E.scr {s t s' t' : ST} {n : Nat} {N : Int} (h : E s t n N) (hs : FrC s s') (ht : FrM t t') : E s' t' n (N + 1) :=
  h.cg (by omega) (fun c hc => hs c (by omega) (by omega) (by omega) (by omega) (by omega) (by omega) (by omega) (by omega) (by omega) (by omega)) (fun k hk => ht.2 k hk) (fun c hc => ht.1 c (by omega) (by omega) (by omega) (by omega) (by omega) (by omega))
theorem E.n0 {s t : ST} {n : Nat} {N : Int} (h : E s t n N) : E s t n N := h
theorem E.fnd {s t : ST} {n : Nat} {N : Int} (h : E s t n N) (k : Int) : E (fd s 5 k) (fd t 27 k) n (N + 1) := by
  obtain ⟨a1, a2, a3, a4, a5, a6, a7, a8, a9, a10, a11⟩ := h
  unfold E fd
  simp (disch := omega) only [up2_ne, up2_c]
  refine ⟨a1, a2, a3, fun j => ?_, a5, a6, a7, a8, a9, a10, fun i hi => (a11 i hi).cg (fun c _ _ => up2_ne (by omega)) (fun c hc => up2_ne (by omega)) (by rw [up2_ne (by omega)]; exact Int.le_refl _)⟩
  have hj := a4 j
  have hk := a4 k
  by_cases e : j = k
  · rw [if_pos e, if_pos e]; omega
  · rw [if_neg e, if_neg e]; omega
theorem E.cs {s t : ST} {n : Nat} {N : Int} (h : E s t n N) (hM : MS t) : CS s n := by
  obtain ⟨a1, a2, a3, a4, a5, a6, a7, a8, a9, a10, a11⟩ := h
  obtain ⟨hb, hvn, hwt, hky, hdu, hwd, hli, hne, hse, hmk, hkd, hsh, hos, hpl, hld, hF, hlp, hpo⟩ := hM
  refine ⟨by omega, by omega, by omega, by omega, by omega, by omega, by omega, by omega, fun j => ?_, fun j => ?_, fun j => ?_, fun i hi => ?_⟩
  · rw [(a4 j).1]; exact hF j
  · rw [a5]; exact hse j
  · rw [a6]; exact hmk j
  · obtain ⟨⟨v1, v2, v3, v4⟩, v5, v6, v7⟩ := a11 i hi
    rw [v1, v2, v3, v4]
    refine ⟨hkd _, hsh _, hos _, hlp _, fun j => ?_, fun j => ?_⟩
    · by_cases hj : 0 ≤ j ∧ j < 40
      · rw [(v5 j hj.1 hj.2).1]; exact hpl _
      · rw [(v6 j hj).1]; omega
    · by_cases hj : 0 ≤ j ∧ j < 40
      · rw [(v5 j hj.1 hj.2).2]; exact hld _
      · rw [(v6 j hj).2]; omega
theorem MS.upA {t : ST} (h : MS t) {c : Nat} {k z : Int} (hc : (c = 19 ∧ 0 ≤ z ∧ z ≤ 60) ∨ (c = 20 ∧ 0 ≤ z ∧ z ≤ 7) ∨ (c = 21 ∧ 0 ≤ z ∧ z ≤ 2) ∨ (c = 22 ∧ -11 ≤ z ∧ z ≤ 11) ∨ (c = 23 ∧ 0 ≤ z ∧ z ≤ 1) ∨ (c = 24 ∧ 0 ≤ z ∧ z ≤ 16) ∨ (c = 25 ∧ 0 ≤ z ∧ z ≤ 9) ∨ (c = 27 ∧ 0 ≤ z ∧ z < 1000000) ∨ (c = 32 ∧ 0 ≤ z ∧ z ≤ 40) ∨ c = 26) : MS (up2 t c k z) := by
  obtain ⟨hb, hvn, hwt, hky, hdu, hwd, hli, hne, hse, hmk, hkd, hsh, hos, hpl, hld, hF, hlp, hpo⟩ := h
  have key : ∀ (d : Nat) (lo hi : Int), (∀ j, lo ≤ t d j ∧ t d j ≤ hi) → (c = d → lo ≤ z ∧ z ≤ hi) → ∀ j, lo ≤ up2 t c k z d j ∧ up2 t c k z d j ≤ hi := by
    intro d lo hi h1 h2 j
    by_cases e : c = d
    · subst e
      rw [up2_c]
      by_cases e2 : j = k
      · simp only [e2, if_true]; exact h2 rfl
      · simp only [e2, if_false]; exact h1 j
    · rw [up2_ne (Ne.symm e)]; exact h1 j
  have k0 : ∀ j, up2 t c k z 18 j = t 18 j := fun j => by rw [up2_ne (by omega)]
  unfold MS
  rw [k0, k0, k0, k0, k0, k0, k0, k0]
  refine ⟨hb, hvn, hwt, hky, hdu, hwd, hli, hne, key 19 0 60 hse (by omega), key 20 0 7 hmk (by omega), key 21 0 2 hkd (by omega), key 22 (-11) 11 hsh (by omega), key 23 0 1 hos (by omega), key 24 0 16 hpl (by omega), key 25 0 9 hld (by omega), fun j => ?_, key 32 0 40 hlp (by omega), fun j => ?_⟩
  · have := key 27 0 999999 (fun j => by have := hF j; omega) (by omega) j
    omega
  · rw [up2_ne (show 33 ≠ c by omega)]; exact hpo j
theorem MS.up18 {t : ST} (h : MS t) {k z : Int} (hk : (k = 0 ∧ 0 ≤ z ∧ z ≤ 40) ∨ (k = 1 ∧ 0 ≤ z ∧ z ≤ 6) ∨ (k = 2 ∧ 0 ≤ z ∧ z ≤ 40) ∨ (k = 3 ∧ -7 ≤ z ∧ z ≤ 7) ∨ (k = 4 ∧ 1 ≤ z ∧ z ≤ 20) ∨ (k = 5 ∧ 21 ≤ z ∧ z ≤ 60) ∨ (k = 6 ∧ 1 ≤ z ∧ z ≤ 8) ∨ (k = 7 ∧ 0 ≤ z ∧ z ≤ 60)) : MS (up2 t 18 k z) := by
  obtain ⟨hb, hvn, hwt, hky, hdu, hwd, hli, hne, hse, hmk, hkd, hsh, hos, hpl, hld, hF, hlp, hpo⟩ := h
  have key : ∀ (d lo hi : Int), (lo ≤ t 18 d ∧ t 18 d ≤ hi) → (k = d → lo ≤ z ∧ z ≤ hi) → lo ≤ up2 t 18 k z 18 d ∧ up2 t 18 k z 18 d ≤ hi := by
    intro d lo hi h1 h2
    by_cases e : k = d
    · subst e
      rw [up2_self]; exact h2 rfl
    · rw [up2_at (Ne.symm e)]; exact h1
  unfold MS
  rw [up2_ne (show 19 ≠ 18 by decide), up2_ne (show 20 ≠ 18 by decide), up2_ne (show 21 ≠ 18 by decide), up2_ne (show 22 ≠ 18 by decide), up2_ne (show 23 ≠ 18 by decide), up2_ne (show 24 ≠ 18 by decide), up2_ne (show 25 ≠ 18 by decide), up2_ne (show 27 ≠ 18 by decide), up2_ne (show 32 ≠ 18 by decide), up2_ne (show 33 ≠ 18 by decide)]
  exact ⟨key 0 0 40 hb (by omega), key 1 0 6 hvn (by omega), key 2 0 40 hwt (by omega), key 3 (-7) 7 hky (by omega), key 4 1 20 hdu (by omega), key 5 21 60 hwd (by omega), key 6 1 8 hli (by omega), key 7 0 60 hne (by omega), hse, hmk, hkd, hsh, hos, hpl, hld, hF, hlp, hpo⟩
/-- one step of both: the same answer, and side by side again -/
def Step (s1 t1 : ST) (n : Nat) (N r1 r2 : Int) : Prop := r1 = r2 ∧ E s1 t1 n (N + 1) ∧ MS t1
theorem Step.fnd {s t : ST} {n : Nat} {N : Int} (h : E s t n N) (hM : MS t) (hN : N < 900000) (k : Int) {r1 r2 : Int} (hr : r1 = r2) : Step (fd s 5 k) (fd t 27 k) n N r1 r2 :=
  ⟨hr, h.fnd k, hM.upA (by have := hM.2.2.2.2.2.2.2.2.2.2.2.2.2.2.2.1 k; have := (h.2.2.2.1 k).2; omega)⟩
