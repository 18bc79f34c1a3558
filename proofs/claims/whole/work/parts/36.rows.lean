theorem E.scr0 {s t s' t' : ST} {n : Nat} {N : Int} (h : E s t n N) (hs : FrC s s') (ht : FrM t t') : E s' t' n N :=
  h.cg (Int.le_refl _) (fun c hc => hs c (by omega) (by omega) (by omega) (by omega) (by omega) (by omega) (by omega) (by omega) (by omega) (by omega)) (fun k hk => ht.2 k hk) (fun c hc => ht.1 c (by omega) (by omega) (by omega) (by omega) (by omega) (by omega))
/-- the drawn part and the reference's row -/
def DW (ρ ρ' : ST) (n : Nat) (v : Int) : Prop := ρ 2 3 = ρ' 18 18 ∧ (0 ≤ ρ 2 3 ∧ ρ 2 3 ≤ 40) ∧ Ag (ρ 9) (ρ' 28) (ρ 2 3) ∧ Ag (ρ 10) (Pm ρ' v) (ρ 2 3) ∧ Ag (Mc ρ) (Mm ρ') (ρ 2 3) ∧ Ag (Sc ρ) (Sm ρ') (ρ 2 3) ∧ Ag (cuC ρ n) (cueM ρ' v) (ρ 2 3) ∧ (∀ i j, 0 ≤ i → i < j → j < ρ 2 3 → ρ 9 i < ρ 9 j) ∧ ∀ i, 0 ≤ i → i < ρ 2 3 → 0 ≤ ρ 9 i ∧ ρ 9 i < 40
theorem dw_draw {σ τ ρ ρ' : ST} {n : Nat} {N v : Int} (hE : E σ τ n N) (hM : MS τ) (hv : 0 ≤ v ∧ v < n) (hd : DrC σ ρ v (σ 0 6)) (hf : FrM τ ρ') (hr : RowOK (τ 20) (τ 18 0) (ρ' 28) (ρ' 18 18)) : DW ρ ρ' n v := by
  obtain ⟨⟨a1, a2, a3⟩, a4, ⟨b1, b2, b3, b4, b5⟩, a5, a6, a7, a8, a9, a10, a11, aV⟩ := id hE
  obtain ⟨hb, hvn, hwt, hky, hdu, hwd, hli, hne, hse, hmk, hkd, hsh, hos, hpl, hld, hF, hlp, hpo⟩ := id hM
  obtain ⟨d1, d2, d3, d4, d5⟩ := hd
  have ev : ((v.toNat : Nat) : Int) = v := by omega
  have hm : ∀ c, (19 ≤ c ∧ c ≤ 27) → ρ' c = τ c := fun c hc => hf.1 c (by omega) (by omega) (by omega) (by omega) (by omega) (by omega)
  have d4' := d4
  rw [a1] at d4'
  obtain ⟨e1, e2⟩ := row_cg d4' hr a7
  have hbd := d4'.bd hb.1
  have hin : ∀ i, 0 ≤ i → i < ρ 2 3 → 0 ≤ ρ 9 i ∧ ρ 9 i < 40 := fun i i0 i1 => by
    obtain ⟨b, c1, -, -, c4⟩ := d4'.at i0 i1
    omega
  have hP : Ag (ρ 10) (Pm ρ' v) (ρ 2 3) := fun i i0 i1 => by
    have := hin i i0 i1
    unfold Pm
    rw [d5 i i0 i1, hm 24 (by omega), ← e2 i i0 i1, ((aV v.toNat (by omega)).2.1 _ this.1 this.2).1, ev]
  have hL : ∀ o i, 0 ≤ o → o < (n : Int) → 0 ≤ i → i < ρ 2 3 → Lc ρ o i = Lm ρ' o i := fun o i o0 o1 i0 i1 => by
    have := hin i i0 i1
    unfold Lc Lm
    rw [d1 (41 + 5 * o.toNat) (by omega) (by omega) (by omega), hm 25 (by omega), ← e2 i i0 i1, ((aV o.toNat (by omega)).2.1 _ this.1 this.2).2, show ((o.toNat : Nat) : Int) = o by omega]
  refine ⟨e1, ⟨hbd.1, by omega⟩, e2, hP, fun i i0 i1 => ?_, fun i i0 i1 => ?_, fun i i0 i1 => ?_, fun i j i0 i1 i2 => d4'.lt i0 i1 i2, hin⟩
  · unfold Mc Mm
    rw [d1 7 (by decide) (by decide) (by decide), hm 20 (by omega), ← e2 i i0 i1, a7]
  · unfold Sc Sm
    rw [d1 6 (by decide) (by decide) (by decide), hm 19 (by omega), ← e2 i i0 i1, a6]
  · unfold cuC cueM
    rw [d2, d3, hf.2 1 (by decide), a3, hf.2 4 (by decide), b2]
    refine cueF_cg hP hL (fun o o0 o1 => ?_) (by omega) hdu.1 i0 i1
    unfold stC
    rw [d1 (39 + 5 * o.toNat) (by omega) (by omega) (by omega), hm 23 (by omega), (aV o.toNat (by omega)).1.2.2.1, show ((o.toNat : Nat) : Int) = o by omega]
/-- what plan() and the reference's pages have in common -/
def PW (τ ρ' : ST) (v : Int) : Prop := τ 14 0 = ρ' 29 0 ∧ τ 15 0 = ρ' 30 0 ∧ (∀ k : Nat, walkF (Zc τ) (τ 2 3) k = walkF (ρ' 31) (ρ' 18 18) k) ∧ Ag (Zc τ) (ρ' 31) (τ 2 3) ∧ (∀ i, 0 ≤ i → i < τ 2 3 → 1 ≤ Zc τ i ∧ i + Zc τ i ≤ τ 2 3) ∧ (∀ p, 0 ≤ p → p < τ 2 3 → τ 12 p = frM ρ' v p) ∧ (∀ i m, 0 ≤ i → 1 ≤ m → i + m ≤ τ 2 3 → syC τ i m = syM ρ' v i m) ∧ (τ 15 0 = 0 ↔ ρ' 18 18 = 0) ∧ (0 ≤ τ 15 0 ∧ τ 15 0 ≤ τ 2 3) ∧ walkF (Zc τ) (τ 2 3) (τ 15 0).toNat = τ 2 3 ∧ (∀ k : Nat, (k : Int) < τ 15 0 → walkF (Zc τ) (τ 2 3) k < τ 2 3)
theorem dw_plan {σ τ ρ ρ' : ST} {n : Nat} {N v : Int} (hE : E σ τ n N) (hM : MS τ) (hv : 0 ≤ v ∧ v < n) (hp : PlR σ ρ n v) (hf : FPm τ ρ' v) : DW ρ ρ' n v ∧ PW ρ ρ' v ∧ FrC σ ρ := by
  obtain ⟨hfr, -, hI, hW, -, hdp, hs1, -, h12⟩ := hp.facts (hE.cs hM) hv
  obtain ⟨⟨a1, a2, a3⟩, a4, ⟨b1, b2, b3, b4, b5⟩, a5, a6, a7, a8, a9, a10, a11, aV⟩ := id hE
  obtain ⟨hb, hvn, hwt, hky, hdu, hwd, hli, hne, hse, hmk, hkd, hsh, hos, hpl, hld, hF, hlp, hpo⟩ := id hM
  obtain ⟨f1, f2, f3⟩ := hf
  obtain ⟨ρ0, hd, ha, ⟨e7, e8, e9⟩, h11, h12', -⟩ := hp
  have h0 := dw_draw hE hM hv hd f1 f2
  have x2 : ρ 2 = ρ0 2 := ha 2 (by decide) (by decide) (by decide) (by decide) (by decide) (by decide) (by decide)
  have x6 : ρ 6 = ρ0 6 := ha 6 (by decide) (by decide) (by decide) (by decide) (by decide) (by decide) (by decide)
  have x7 : ρ 7 = ρ0 7 := ha 7 (by decide) (by decide) (by decide) (by decide) (by decide) (by decide) (by decide)
  have x9 : ρ 9 = ρ0 9 := ha 9 (by decide) (by decide) (by decide) (by decide) (by decide) (by decide) (by decide)
  have x10 : ρ 10 = ρ0 10 := ha 10 (by decide) (by decide) (by decide) (by decide) (by decide) (by decide) (by decide)
  have hDW : DW ρ ρ' n v := by
    obtain ⟨g1, g2, g3, g4, g5, g6, g7, g8, g9⟩ := h0
    unfold DW
    rw [x2, x9, x10]
    refine ⟨g1, g2, g3, g4, fun i i0 i1 => ?_, fun i i0 i1 => ?_, fun i i0 i1 => ?_, g8, g9⟩
    · rw [← g5 i i0 i1]; unfold Mc; rw [x7, x9]
    · rw [← g6 i i0 i1]; unfold Sc; rw [x6, x9]
    · rw [← g7 i i0 i1]; unfold cuC stC; rw [x2, x10]
      have eL : Lc ρ = Lc ρ0 := by
        funext o j
        unfold Lc
        rw [x9, ha (41 + 5 * o.toNat) (by omega) (by omega) (by omega) (by omega) (by omega) (by omega) (by omega)]
      have eS : (fun o : Int => ρ (39 + 5 * o.toNat) 4) = (fun o : Int => ρ0 (39 + 5 * o.toNat) 4) := by
        funext o
        rw [ha (39 + 5 * o.toNat) (by omega) (by omega) (by omega) (by omega) (by omega) (by omega) (by omega)]
      rw [eL]
      show cueF _ _ (fun o : Int => ρ (39 + 5 * o.toNat) 4) _ _ _ _ = cueF _ _ (fun o : Int => ρ0 (39 + 5 * o.toNat) 4) _ _ _ _
      rw [eS]
  obtain ⟨g1, g2, g3, g4, g5, g6, g7, g8, g9⟩ := hDW
  obtain ⟨k1, k2, k3, k4, k5, k6, k7, k8, k9⟩ := h0
  have m2 : ρ 2 3 = ρ0 2 3 := by rw [x2]
  have w1 : Ag (ρ 11) (wM ρ' v) (ρ 2 3) := fun p p0 p1 => by
    rw [h11 p p0 (by omega)]
    unfold wM
    exact widF_cg k4 k5 k7 p0 (by omega)
  have w2 : Ag (wfC ρ) (wfM ρ' v) (ρ 2 3) := fun p p0 p1 => by
    unfold wfC
    have q := w1 p p0 p1
    have q4 := g4 p p0 p1
    unfold wM widF at q
    unfold wfM widF
    rw [q4]
    by_cases e : Pm ρ' v p = 0
    · rw [if_pos e, if_pos e, if_pos (Or.inl trivial)]
    · rw [if_neg e, if_neg e]
      rw [if_neg e] at q
      exact q
  have m5 : ρ 3 8 = ρ' 18 5 := by rw [e7, b3, f1.2 5 (by decide)]
  have m6 : ρ 3 9 = ρ' 18 6 := by rw [e8, b4, f1.2 6 (by decide)]
  have sy : ∀ i m, 0 ≤ i → 1 ≤ m → i + m ≤ ρ 2 3 → syC ρ i m = syM ρ' v i m := fun i m i0 m0 im => by
    unfold syC syM
    rw [m5, sysF_cg w1 w2 i0 m.toNat (by omega)]
  have fr : ∀ p, 0 ≤ p → p < ρ 2 3 → ρ 12 p = frM ρ' v p := fun p p0 p1 => by
    rw [h12' p p0 (by omega)]
    unfold frM
    rw [← k1]
    exact freF_cg k4 k6 p0 (by omega)
  have nd : ρ 3 10 = ndM ρ' v := by
    rw [e9]
    unfold ndC ndM
    rw [f1.1 21 (by decide) (by decide) (by decide) (by decide) (by decide) (by decide), f1.2 7 (by decide), b5, (aV v.toNat (by omega)).1.1, show ((v.toNat : Nat) : Int) = v by omega]
  have bt : ∀ j, 0 ≤ j → j ≤ ρ 2 3 → btC ρ j = btM ρ' v j := fun j j0 j1 => by
    unfold btC btM
    rw [← g1, nd]
    by_cases e : j < ρ 2 3
    · rw [fr j j0 e]
    · rw [if_neg (fun q => e q.1), if_neg (fun q => e q.1)]
  rw [← g1, ← m6] at f3
  have dz := dp_z hdp hs1
  have cg := dp_cg hdp f3 sy bt (ρ 2 3).toNat
  have zz : Ag (Zc ρ) (ρ' 31) (ρ 2 3) := fun i i0 i1 => (cg i i0 (by omega) (by omega)).2.2 i1
  obtain ⟨c1, c2, -⟩ := cg 0 (Int.le_refl _) g2.1 (by omega)
  have hbt : ∀ j, 0 ≤ btC ρ j ∧ btC ρ j ≤ 1 := fun j => by unfold btC; split <;> omega
  have bd := dp_bd hdp hs1 hbt ((ρ 2 3).toNat + 1) 0 (Int.le_refl _) g2.1 (by omega)
  refine ⟨⟨g1, g2, g3, g4, g5, g6, g7, g8, g9⟩, ⟨c1, c2, fun k => ?_, zz, dz, fr, sy, ?_, by omega, dp_end hdp hs1 hbt g2.1, fun k hk => dp_lt hdp hs1 g2.1 hk⟩, hfr⟩
  · rw [(walkF_cg zz (fun i i0 i1 => (dz i i0 i1).1) k).1, g1]
  · omega
