/-! what reads only places ahead of many -/
def Ag (P P' : Int → Int) (many : Int) : Prop := ∀ i, 0 ≤ i → i < many → P i = P' i
section CONG
variable {P P' M M' S S' : Int → Int} {many : Int}
theorem Ag.symm (h : Ag P P' many) : Ag P' P many := fun i h0 h1 => (h i h0 h1).symm
theorem bg_cg (hP : Ag P P' many) (hM : Ag M M' many) {i : Int} (h0 : 0 ≤ i) (h1 : i < many) : bgP P M i ↔ bgP P' M' i := by
  unfold bgP
  rw [hP i h0 h1, hM i h0 h1]
  by_cases hi : i = 0
  · simp [hi]
  · rw [hP (i - 1) (by omega) (by omega), hM (i - 1) (by omega) (by omega)]
theorem lenF_cg (hP : Ag P P' many) (hM : Ag M M' many) : ∀ (m : Nat) (j : Int), 0 ≤ j → j + m ≤ many → lenF P M m j = lenF P' M' m j
  | 0, _, _, _ => rfl
  | m + 1, j, h0, h1 => by
    have ih := lenF_cg hP hM m (j + 1) (by omega) (by omega)
    have e1 := hP j h0 (by omega)
    have e2 := bg_cg hP hM h0 (show j < many by omega)
    unfold lenF
    simp only [e1, e2, ih]
theorem lenT_cg (hP : Ag P P' many) (hM : Ag M M' many) {j : Int} (h0 : 0 ≤ j) : lenT P M many j = lenT P' M' many j := by
  unfold lenT
  by_cases h : j ≤ many
  · exact lenF_cg hP hM _ _ h0 (by omega)
  · rw [show (many - j).toNat = 0 by omega]; rfl
theorem restF_cg {V V' : Int → Int} (hP : Ag P P' many) (hM : Ag M M' many) (hV : Ag V V' many) : ∀ (m : Nat) (k left : Int), 0 ≤ k → k + m ≤ many → restF P M V m k left = restF P' M' V' m k left
  | 0, _, _, _, _ => rfl
  | m + 1, k, left, h0, h1 => by
    have ih := fun l => restF_cg hP hM hV m (k + 1) l (by omega) (by omega)
    have e1 := hV k h0 (by omega)
    have e2 := bg_cg hP hM h0 (show k < many by omega)
    unfold restF
    simp only [e1, e2, ih]
theorem restT_cg {V V' : Int → Int} (hP : Ag P P' many) (hM : Ag M M' many) (hV : Ag V V' many) (h : 0 ≤ many) (i : Int) : restT P M V many 0 i = restT P' M' V' many 0 i := restF_cg hP hM hV _ 0 i (Int.le_refl _) (by omega)
theorem allZ_cg (hP : Ag P P' many) {i : Int} (h1 : i < many) : ∀ d : Nat, (d : Int) ≤ i → allZ P i d = allZ P' i d
  | 0, _ => rfl
  | d + 1, h => by
    have ih := allZ_cg hP h1 d (by omega)
    have e := hP (i - (d + 1)) (by omega) (by omega)
    unfold allZ
    rw [ih, e]
theorem scanF_cg {f g : Int → Int} : ∀ k : Nat, (∀ o : Int, 0 ≤ o → o < k → f o = g o) → scanF f k = scanF g k
  | 0, _ => rfl
  | k + 1, h => by
    have ih := scanF_cg k (fun o h0 h1 => h o h0 (by omega))
    have e := h k (by omega) (by omega)
    unfold scanF
    rw [ih, e]
theorem cueF_cg {LD LD' : Int → Int → Int} {stg stg' : Int → Int} {nv v due : Int} (hP : Ag P P' many) (hL : ∀ o i, 0 ≤ o → o < nv → 0 ≤ i → i < many → LD o i = LD' o i) (hs : ∀ o, 0 ≤ o → o < nv → stg o = stg' o) (hnv : 0 ≤ nv) (hd : 1 ≤ due) {i : Int} (h0 : 0 ≤ i) (h1 : i < many) : cueF P LD stg nv v due i = cueF P' LD' stg' nv v due i := by
  unfold cueF
  rw [hP i h0 h1]
  by_cases hdi : due ≤ i
  · rw [allZ_cg hP h1 due.toNat (by omega)]
    have e : scanF (hearF LD stg v due i) nv.toNat = scanF (hearF LD' stg' v due i) nv.toNat := by
      refine scanF_cg _ (fun o o0 o1 => ?_)
      unfold hearF
      rw [hs o o0 (by omega), hL o (i - 1) o0 (by omega) (by omega) (by omega)]
      by_cases h2 : 1 < due
      · rw [if_pos h2, if_pos h2, hL o (i - 2) o0 (by omega) (by omega) (by omega)]
      · rw [if_neg h2, if_neg h2]
    rw [e]
  · rw [if_neg (fun q => hdi q.2.1), if_neg (fun q => hdi q.2.1)]
theorem widF_cg {cu cu' : Int → Int} {fi : Prop} [Decidable fi] (hP : Ag P P' many) (hM : Ag M M' many) (hc : Ag cu cu' many) {i : Int} (h0 : 0 ≤ i) (h1 : i < many) : widF P M cu i fi = widF P' M' cu' i fi := by
  unfold widF
  have e2 := bg_cg hP hM h0 h1
  simp only [hP i h0 h1, hc i h0 h1, e2]
theorem sysF_cg {w w' wf wf' : Int → Int} {wide fr : Int} (hw : Ag w w' many) (hf : Ag wf wf' many) (h0 : 0 ≤ fr) : ∀ k : Nat, fr + k ≤ many → sysF w wf wide fr k = sysF w' wf' wide fr k
  | 0, _ => rfl
  | k + 1, h => by
    have ih := sysF_cg (wide := wide) hw hf h0 k (by omega)
    have e1 := hw (fr + k) (by omega) (by omega)
    have e2 := hf (fr + k) (by omega) (by omega)
    unfold sysF
    rw [ih, e1, e2]
theorem dnF_cg (hP : Ag P P' many) (hS : Ag S S' many) : ∀ k : Nat, (k : Int) ≤ many → dnF P S k = dnF P' S' k
  | 0, _ => rfl
  | k + 1, h => by
    have ih := dnF_cg hP hS k (by omega)
    unfold dnF
    rw [ih, hP k (by omega) (by omega), hS k (by omega) (by omega)]
theorem upF_cg (hP : Ag P P' many) (hS : Ag S S' many) : ∀ (m : Nat) (j : Int), 0 ≤ j → j + m ≤ many → upF P S m j = upF P' S' m j
  | 0, _, _, _ => rfl
  | m + 1, j, h0, h1 => by
    have ih := upF_cg hP hS m (j + 1) (by omega) (by omega)
    unfold upF
    rw [ih, hP j h0 (by omega), hS j h0 (by omega)]
theorem freF_cg (hP : Ag P P' many) (hS : Ag S S' many) {i : Int} (h0 : 0 ≤ i) (h1 : i ≤ many) : freF P S many i = freF P' S' many i := by
  unfold freF upT
  rw [dnF_cg hP hS _ (by omega), upF_cg hP hS _ i h0 (by omega)]
theorem chkF_cg {wt wt' : Int → Int} {told : Int} (hP : Ag P P' many) (hM : Ag M M' many) (hw : ∀ j, wt j = wt' j) : ∀ (f : Nat) (m p : Int), 0 ≤ p → p + f ≤ many → chkF P M wt told many f m p = chkF P' M' wt' told many f m p
  | 0, _, _, _, _ => rfl
  | f + 1, m, p, h0, h1 => by
    have ih := fun q => chkF_cg (told := told) hP hM hw f q (p + 1) (by omega) (by omega)
    have e1 := hP p h0 (by omega)
    have e2 := bg_cg hP hM h0 (show p < many by omega)
    have e3 := lenT_cg hP hM (show 0 ≤ p + 1 by omega)
    unfold chkF
    simp only [e1, e2, e3, ih, hw]
theorem bestF_cg {cb cb' cg cg' : Int → Int} : ∀ k : Nat, (∀ m : Int, 1 ≤ m → m ≤ k → cb m = cb' m ∧ cg m = cg' m) → bestF cb cg k = bestF cb' cg' k
  | 0, _ => rfl
  | k + 1, h => by
    have ih := bestF_cg k (fun m h0 h1 => h m h0 (by omega))
    obtain ⟨e1, e2⟩ := h (k + 1) (by omega) (by omega)
    unfold bestF
    rw [ih, e1, e2]
theorem farF_cg {sy sy' : Int → Int} {lines rest : Int} (h : ∀ m, 1 ≤ m → m ≤ rest → sy m = sy' m) : ∀ (f : Nat) (k : Int), 0 ≤ k → k + f ≤ rest → farF sy lines f k = farF sy' lines f k
  | 0, _, _, _ => rfl
  | f + 1, k, h0, h1 => by
    have ih := farF_cg (lines := lines) h f (k + 1) (by omega) (by omega)
    unfold farF
    rw [ih, h (k + 1) (by omega) (by omega)]
/-- the table of pages is one -/
theorem dp_cg {sy sy' : Int → Int → Int} {lines : Int} {bt bt' B G Z B' G' Z' : Int → Int} (h : DPOK sy lines bt many B G Z) (h' : DPOK sy' lines bt' many B' G' Z') (hs : ∀ i m, 0 ≤ i → 1 ≤ m → i + m ≤ many → sy i m = sy' i m) (hb : ∀ j, 0 ≤ j → j ≤ many → bt j = bt' j) : ∀ (f : Nat) (i : Int), 0 ≤ i → i ≤ many → many - i ≤ f → B i = B' i ∧ G i = G' i ∧ (i < many → Z i = Z' i)
  | 0, i, h0, h1, hf => by
    have e : i = many := by omega
    subst e
    exact ⟨h.1.trans h'.1.symm, h.2.1.trans h'.2.1.symm, fun q => by omega⟩
  | f + 1, i, h0, h1, hf => by
    by_cases hi : i < many
    · have a := h.2.2 i h0 hi
      have a' := h'.2.2 i h0 hi
      have ef : farT (sy i) lines (many - i) 0 = farT (sy' i) lines (many - i) 0 := farF_cg (rest := many - i) (fun m m0 m1 => hs i m h0 m0 (by omega)) _ 0 (Int.le_refl _) (by omega)
      have hfb := farT_bd (sy := sy' i) (lines := lines) (rest := many - i) (k := 0) (by omega)
      rw [ef, bestF_cg (cb' := fun m => B' (i + m) + bt' (i + m)) (cg' := fun m => G' (i + m) + 1) _ (fun m m0 m1 => by
        obtain ⟨b1, b2, -⟩ := dp_cg h h' hs hb f (i + m) (by omega) (by omega) (by omega)
        show B (i + m) + bt (i + m) = B' (i + m) + bt' (i + m) ∧ G (i + m) + 1 = G' (i + m) + 1
        rw [b1, b2, hb (i + m) (by omega) (by omega)]
        exact ⟨rfl, rfl⟩), ← a'] at a
      have q := Prod.mk.inj a
      have q2 := Prod.mk.inj q.2
      exact ⟨q2.1, q2.2, fun _ => q.1⟩
    · have e : i = many := by omega
      subst e
      exact ⟨h.1.trans h'.1.symm, h.2.1.trans h'.2.1.symm, fun q => by omega⟩
theorem walkF_cg {Z Z' : Int → Int} (hz : Ag Z Z' many) (hp : ∀ i, 0 ≤ i → i < many → 1 ≤ Z i) : ∀ k : Nat, walkF Z many k = walkF Z' many k ∧ 0 ≤ walkF Z many k
  | 0 => ⟨rfl, Int.le_refl _⟩
  | k + 1 => by
    obtain ⟨i1, i2⟩ := walkF_cg hz hp k
    unfold walkF
    rw [← i1]
    by_cases h : walkF Z many k < many
    · rw [if_pos h, if_pos h, hz _ i2 h]
      have := hp _ i2 h
      have := hz _ i2 h
      exact ⟨rfl, by omega⟩
    · rw [if_neg h, if_neg h]
      exact ⟨rfl, i2⟩
theorem row_cg {mk mk' : Int → Int} {nb : Int} {row row' : Int → Int} {many' : Int} (h : RowOK mk nb row many) (h' : RowOK mk' nb row' many') (hm : ∀ b, mk b = mk' b) : many = many' ∧ Ag row row' many := by
  have e : mk = mk' := funext hm
  subst e
  have e1 : many = many' := h.1.trans h'.1.symm
  refine ⟨e1, fun i h0 h1 => ?_⟩
  obtain ⟨b, b1, b2, b3, b4⟩ := h.at h0 h1
  rw [b4, ← b3, h'.2 b b1 b2]
end CONG
