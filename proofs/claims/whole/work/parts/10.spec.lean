/-! what the rows of a part are: notes and marks by place -/
def Pm (σ : ST) (v : Int) (i : Int) : Int := σ 24 (40 * v + σ 28 i)
def Mm (σ : ST) (i : Int) : Int := σ 20 (σ 28 i)
def Sm (σ : ST) (i : Int) : Int := σ 19 (σ 28 i)
def Lm (σ : ST) (o i : Int) : Int := σ 25 (40 * o + σ 28 i)
abbrev bgP (P M : Int → Int) (i : Int) : Prop := P i = 0 ∧ (i = 0 ∨ P (i - 1) ≠ 0 ∨ M i ≠ 0 ∨ M (i - 1) % 2 = 1)
/-- how many bars that aren't begun anew follow from a place on -/
def lenF (P M : Int → Int) : Nat → Int → Int
  | 0, _ => 0
  | m + 1, j => if P j = 0 ∧ ¬ bgP P M j then 1 + lenF P M m (j + 1) else 0
theorem lenF_bd (P M : Int → Int) : ∀ (m : Nat) (j : Int), 0 ≤ lenF P M m j ∧ lenF P M m j ≤ m
  | 0, j => by simp [lenF]
  | m + 1, j => by
    have := lenF_bd P M m (j + 1)
    unfold lenF
    split <;> omega
/-- with a bound: from a place on up to many -/
def lenT (P M : Int → Int) (many j : Int) : Int := lenF P M (many - j).toNat j
theorem lenT_t {P M : Int → Int} {many j : Int} (h : j < many) (h1 : P j = 0) (h2 : ¬ bgP P M j) : lenT P M many j = 1 + lenT P M many (j + 1) := by
  unfold lenT
  rw [show (many - j).toNat = (many - (j + 1)).toNat + 1 by omega]
  show (if P j = 0 ∧ ¬ bgP P M j then _ else _) = _
  rw [if_pos ⟨h1, h2⟩]
theorem lenT_f {P M : Int → Int} {many j : Int} (h : ¬ (j < many ∧ P j = 0 ∧ ¬ bgP P M j)) : lenT P M many j = 0 := by
  unfold lenT
  by_cases h1 : j < many
  · rw [show (many - j).toNat = (many - (j + 1)).toNat + 1 by omega]
    show (if P j = 0 ∧ ¬ bgP P M j then _ else _) = _
    rw [if_neg (fun q => h ⟨h1, q⟩)]
  · rw [show (many - j).toNat = 0 by omega]
    rfl
theorem lenT_bd {P M : Int → Int} {many j : Int} (h : j ≤ many) : 0 ≤ lenT P M many j ∧ lenT P M many j ≤ many - j := by
  have := lenF_bd P M (many - j).toNat j
  unfold lenT
  omega
/-- the value at the i-th beginning, -1 if there is none -/
def restF (P M val : Int → Int) : Nat → Int → Int → Int
  | 0, _, _ => -1
  | m + 1, k, left => if bgP P M k then (if left = 0 then val k else restF P M val m (k + 1) (left - 1)) else restF P M val m (k + 1) left
def restT (P M val : Int → Int) (many k left : Int) : Int := restF P M val (many - k).toNat k left
theorem restT_e {P M val : Int → Int} {many k left : Int} (h : many ≤ k) : restT P M val many k left = -1 := by
  unfold restT
  rw [show (many - k).toNat = 0 by omega]
  rfl
theorem restT_s {P M val : Int → Int} {many k left : Int} (h : k < many) : restT P M val many k left = if bgP P M k then (if left = 0 then val k else restT P M val many (k + 1) (left - 1)) else restT P M val many (k + 1) left := by
  unfold restT
  rw [show (many - k).toNat = (many - (k + 1)).toNat + 1 by omega]
  rfl
/-- the bars that aren't cut -/
def cntN (mk : Int → Int) : Nat → Int
  | 0 => 0
  | b + 1 => cntN mk b + (if mk b ≤ 3 then 1 else 0)
def RowOK (mk : Int → Int) (nb : Int) (row : Int → Int) (many : Int) : Prop := many = cntN mk nb.toNat ∧ ∀ b : Nat, (b : Int) < nb → mk b ≤ 3 → row (cntN mk b) = b
theorem cntN_bd (mk : Int → Int) : ∀ b : Nat, 0 ≤ cntN mk b ∧ cntN mk b ≤ b
  | 0 => by simp [cntN]
  | b + 1 => by
    have := cntN_bd mk b
    unfold cntN
    split <;> omega
theorem cntN_s (mk : Int → Int) {b : Int} (h : 0 ≤ b) : cntN mk (b + 1).toNat = cntN mk b.toNat + (if mk b ≤ 3 then 1 else 0) := by
  rw [show (b + 1).toNat = b.toNat + 1 by omega]
  show cntN mk b.toNat + (if mk (b.toNat : Int) ≤ 3 then 1 else 0) = _
  rw [show ((b.toNat : Nat) : Int) = b by omega]
theorem cntN_at (mk : Int → Int) : ∀ (nb : Nat) (i : Int), 0 ≤ i → i < cntN mk nb → ∃ b : Nat, b < nb ∧ mk b ≤ 3 ∧ cntN mk b = i
  | 0, i, h0, h => by simp [cntN] at h; omega
  | nb + 1, i, h0, h => by
    by_cases h1 : i < cntN mk nb
    · obtain ⟨b, h2, h3, h4⟩ := cntN_at mk nb i h0 h1
      exact ⟨b, by omega, h3, h4⟩
    · unfold cntN at h
      by_cases h2 : mk nb ≤ 3
      · exact ⟨nb, by omega, h2, by rw [if_pos h2] at h; omega⟩
      · rw [if_neg h2] at h; omega
theorem RowOK.at {mk : Int → Int} {nb : Int} {row : Int → Int} {many : Int} (h : RowOK mk nb row many) {i : Int} (h0 : 0 ≤ i) (h1 : i < many) : ∃ b : Nat, (b : Int) < nb ∧ mk b ≤ 3 ∧ cntN mk b = i ∧ row i = b := by
  rw [h.1] at h1
  obtain ⟨b, h2, h3, h4⟩ := cntN_at mk nb.toNat i h0 h1
  refine ⟨b, by omega, h3, h4, ?_⟩
  rw [← h4]
  exact h.2 b (by omega) h3
theorem RowOK.bd {mk : Int → Int} {nb : Int} {row : Int → Int} {many : Int} (h : RowOK mk nb row many) (hn : 0 ≤ nb) : 0 ≤ many ∧ many ≤ nb := by
  have := cntN_bd mk nb.toNat
  rw [h.1]
  omega
def RowIn (σ : ST) : Prop := 0 ≤ σ 18 18 ∧ σ 18 18 ≤ 40 ∧ ∀ i, 0 ≤ i → i < σ 18 18 → 0 ≤ σ 28 i ∧ σ 28 i < 40
/-- cues -/
def allZ (P : Int → Int) (i : Int) : Nat → Bool
  | 0 => true
  | k + 1 => allZ P i k && decide (P (i - (k + 1)) = 0)
theorem allZ_iff (P : Int → Int) (i : Int) : ∀ d : Nat, allZ P i d = true ↔ ∀ k : Int, 1 ≤ k → k ≤ d → P (i - k) = 0
  | 0 => by
    simp only [allZ, true_iff]
    intro k h1 h2
    omega
  | d + 1 => by
    unfold allZ
    rw [Bool.and_eq_true, allZ_iff P i d, decide_eq_true_eq]
    constructor
    · intro h k h1 h2
      by_cases h3 : k ≤ d
      · exact h.1 k h1 h3
      · have h4 : k = (d : Int) + 1 := by omega
        rw [h4]; exact h.2
    · intro h
      exact ⟨fun k h1 h2 => h k h1 (by omega), h _ (by omega) (by omega)⟩
def hearF (LD : Int → Int → Int) (stg : Int → Int) (v due i o : Int) : Int := if o = v ∨ stg o = 0 then 0 else LD o (i - 1) + (if 1 < due then LD o (i - 2) else 0)
def scanF (hd : Int → Int) : Nat → Int × Int
  | 0 => (-1, 0)
  | k + 1 => if (scanF hd k).2 < hd k then (k, hd k) else scanF hd k
theorem scanF_s (hd : Int → Int) {k : Int} (h : 0 ≤ k) : scanF hd (k + 1).toNat = if (scanF hd k.toNat).2 < hd k then (k, hd k) else scanF hd k.toNat := by
  rw [show (k + 1).toNat = k.toNat + 1 by omega]
  show (if (scanF hd k.toNat).2 < hd (k.toNat : Int) then ((k.toNat : Int), hd (k.toNat : Int)) else _) = _
  rw [show ((k.toNat : Nat) : Int) = k by omega]
theorem scanF_bd (hd : Int → Int) : ∀ k : Nat, -1 ≤ (scanF hd k).1 ∧ (scanF hd k).1 < k ∧ 0 ≤ (scanF hd k).2
  | 0 => by simp [scanF]
  | k + 1 => by
    have := scanF_bd hd k
    unfold scanF
    split
    · refine ⟨?_, ?_, ?_⟩ <;> simp only <;> omega
    · omega
def cueF (P : Int → Int) (LD : Int → Int → Int) (stg : Int → Int) (nv v due i : Int) : Int := if P i ≠ 0 ∧ due ≤ i ∧ allZ P i due.toNat = true then (scanF (hearF LD stg v due i) nv.toNat).1 else -1
theorem cueF_bd {P : Int → Int} {LD : Int → Int → Int} {stg : Int → Int} {nv v due i : Int} (h : 0 ≤ nv) : -1 ≤ cueF P LD stg nv v due i ∧ (cueF P LD stg nv v due i < nv ∨ cueF P LD stg nv v due i = -1) := by
  unfold cueF
  split
  · have := scanF_bd (hearF LD stg v due i) nv.toNat
    omega
  · omega
/-- widths and systems -/
def widF (P M cue : Int → Int) (i : Int) (first : Prop) [Decidable first] : Int := if P i = 0 then (if first ∨ bgP P M i then 4 else 0) else 2 + P i + (if 0 ≤ cue i then 3 else 0)
def sysF (w : Int → Int) (wf : Int → Int) (wide : Int) (fr : Int) : Nat → Int × Int
  | 0 => (1, 0)
  | k + 1 => if wide < (sysF w wf wide fr k).2 + (if k = 0 then wf (fr + k) else w (fr + k)) then ((sysF w wf wide fr k).1 + 1, wf (fr + k)) else ((sysF w wf wide fr k).1, (sysF w wf wide fr k).2 + (if k = 0 then wf (fr + k) else w (fr + k)))
theorem sysF_s (w : Int → Int) (wf : Int → Int) (wide : Int) (fr : Int) {i : Int} (h : fr ≤ i) : sysF w wf wide fr (i + 1 - fr).toNat = if wide < (sysF w wf wide fr (i - fr).toNat).2 + (if i = fr then wf i else w i) then ((sysF w wf wide fr (i - fr).toNat).1 + 1, wf i) else ((sysF w wf wide fr (i - fr).toNat).1, (sysF w wf wide fr (i - fr).toNat).2 + (if i = fr then wf i else w i)) := by
  have e1 : (i + 1 - fr).toNat = (i - fr).toNat + 1 := by omega
  have e2 : fr + ((i - fr).toNat : Int) = i := by omega
  rw [e1]
  conv => lhs; unfold sysF
  rw [e2]
  by_cases h3 : i = fr
  · rw [if_pos (show (i - fr).toNat = 0 by omega), if_pos h3]
  · rw [if_neg (show ¬ (i - fr).toNat = 0 by omega), if_neg h3]
theorem sysF_bd (w : Int → Int) (wf : Int → Int) (wide : Int) (fr : Int) (hw : ∀ i, 0 ≤ w i ∧ w i ≤ 21) (hf : ∀ i, 0 ≤ wf i ∧ wf i ≤ 21) : ∀ k : Nat, 1 ≤ (sysF w wf wide fr k).1 ∧ (sysF w wf wide fr k).1 ≤ k + 1 ∧ 0 ≤ (sysF w wf wide fr k).2 ∧ (sysF w wf wide fr k).2 ≤ 21 * k
  | 0 => by simp [sysF]
  | k + 1 => by
    have h1 := sysF_bd w wf wide fr hw hf k
    have h2 := hw (fr + k)
    have h3 := hf (fr + k)
    have h5 : 0 ≤ (if k = 0 then wf (fr + k) else w (fr + k)) ∧ (if k = 0 then wf (fr + k) else w (fr + k)) ≤ 21 := by split <;> assumption
    unfold sysF
    generalize (if k = 0 then wf (fr + k) else w (fr + k)) = own at h5 ⊢
    generalize sysF w wf wide fr k = q at h1 ⊢
    split
    · exact ⟨by show 1 ≤ q.1 + 1; omega, by show q.1 + 1 ≤ _; omega, h3.1, by show wf _ ≤ _; omega⟩
    · exact ⟨by show 1 ≤ q.1; omega, by show q.1 ≤ _; omega, by show 0 ≤ q.2 + own; omega, by show q.2 + own ≤ _; omega⟩
/-- seconds that are free -/
def dnF (P S : Int → Int) : Nat → Int
  | 0 => 0
  | i + 1 => if P i = 0 then dnF P S i + S i else 0
theorem dnF_s (P S : Int → Int) {i : Int} (h : 0 ≤ i) : dnF P S (i + 1).toNat = if P i = 0 then dnF P S i.toNat + S i else 0 := by
  rw [show (i + 1).toNat = i.toNat + 1 by omega]
  show (if P (i.toNat : Int) = 0 then dnF P S i.toNat + S (i.toNat : Int) else 0) = _
  rw [show ((i.toNat : Nat) : Int) = i by omega]
theorem dnF_bd (P S : Int → Int) (hS : ∀ i, 0 ≤ S i ∧ S i ≤ 60) : ∀ k : Nat, 0 ≤ dnF P S k ∧ dnF P S k ≤ 60 * k
  | 0 => by simp [dnF]
  | k + 1 => by
    have h1 := dnF_bd P S hS k
    have h2 := hS k
    unfold dnF
    split <;> omega
def upF (P S : Int → Int) : Nat → Int → Int
  | 0, _ => 0
  | m + 1, j => if P j = 0 then S j + upF P S m (j + 1) else 0
def upT (P S : Int → Int) (many j : Int) : Int := upF P S (many - j).toNat j
theorem upT_e {P S : Int → Int} {many j : Int} (h : many ≤ j) : upT P S many j = 0 := by
  unfold upT
  rw [show (many - j).toNat = 0 by omega]
  rfl
theorem upT_s {P S : Int → Int} {many j : Int} (h : j < many) : upT P S many j = if P j = 0 then S j + upT P S many (j + 1) else 0 := by
  unfold upT
  rw [show (many - j).toNat = (many - (j + 1)).toNat + 1 by omega]
  rfl
theorem upF_bd (P S : Int → Int) (hS : ∀ i, 0 ≤ S i ∧ S i ≤ 60) : ∀ (k : Nat) (j : Int), 0 ≤ upF P S k j ∧ upF P S k j ≤ 60 * k
  | 0, j => by simp [upF]
  | k + 1, j => by
    have h1 := upF_bd P S hS k (j + 1)
    have h2 := hS j
    unfold upF
    split <;> omega
def freF (P S : Int → Int) (many i : Int) : Int := dnF P S i.toNat + upT P S many i
theorem freF_bd {P S : Int → Int} (hS : ∀ i, 0 ≤ S i ∧ S i ≤ 60) {many i : Int} (h0 : 0 ≤ i) (h1 : i ≤ many) (h2 : many ≤ 40) : 0 ≤ freF P S many i ∧ freF P S many i ≤ 2400 := by
  have a1 := dnF_bd P S hS i.toNat
  have a2 := upF_bd P S hS (many - i).toNat i
  unfold freF upT
  omega
/-- the best way from a place on -/
def bestF (cb cg : Int → Int) : Nat → Int × Int × Int
  | 0 => (0, 0, 0)
  | k + 1 => if 0 < (bestF cb cg k).1 ∧ ((bestF cb cg k).2.1 < cb (k + 1) ∨ cb (k + 1) = (bestF cb cg k).2.1 ∧ (bestF cb cg k).2.2 ≤ cg (k + 1)) then bestF cb cg k else (k + 1, cb (k + 1), cg (k + 1))
theorem bestF_s (cb cg : Int → Int) {m : Int} (h : 1 ≤ m) : bestF cb cg m.toNat = if 0 < (bestF cb cg (m - 1).toNat).1 ∧ ((bestF cb cg (m - 1).toNat).2.1 < cb m ∨ cb m = (bestF cb cg (m - 1).toNat).2.1 ∧ (bestF cb cg (m - 1).toNat).2.2 ≤ cg m) then bestF cb cg (m - 1).toNat else (m, cb m, cg m) := by
  have e1 : m.toNat = (m - 1).toNat + 1 := by omega
  have e2 : (((m - 1).toNat : Nat) : Int) + 1 = m := by omega
  rw [e1]
  conv => lhs; unfold bestF
  rw [e2]
theorem bestF_in (cb cg : Int → Int) : ∀ k : Nat, 0 < k → 1 ≤ (bestF cb cg k).1 ∧ (bestF cb cg k).1 ≤ k ∧ (bestF cb cg k).2.1 = cb (bestF cb cg k).1 ∧ (bestF cb cg k).2.2 = cg (bestF cb cg k).1
  | 0, h => absurd h (by omega)
  | k + 1, _ => by
    unfold bestF
    split
    · rename_i h1
      have hk : 0 < k := by
        rcases Nat.eq_zero_or_pos k with h2 | h2
        · subst h2; simp [bestF] at h1
        · exact h2
      have := bestF_in cb cg k hk
      omega
    · exact ⟨by simp only; omega, by simp only; omega, rfl, rfl⟩
/-- how far a first page can go: the most bars -/
def farF (sy : Int → Int) (lines : Int) : Nat → Int → Int
  | 0, k => k
  | m + 1, k => if sy (k + 1) ≤ lines then farF sy lines m (k + 1) else k
def farT (sy : Int → Int) (lines : Int) (rest k : Int) : Int := farF sy lines (rest - k).toNat k
theorem farT_t {sy : Int → Int} {lines rest k : Int} (h : k < rest) (h1 : sy (k + 1) ≤ lines) : farT sy lines rest k = farT sy lines rest (k + 1) := by
  unfold farT
  rw [show (rest - k).toNat = (rest - (k + 1)).toNat + 1 by omega]
  show (if sy (k + 1) ≤ lines then _ else _) = _
  rw [if_pos h1]
theorem farT_f {sy : Int → Int} {lines rest k : Int} (h : ¬ (k < rest ∧ sy (k + 1) ≤ lines)) : farT sy lines rest k = k := by
  unfold farT
  by_cases h1 : k < rest
  · rw [show (rest - k).toNat = (rest - (k + 1)).toNat + 1 by omega]
    show (if sy (k + 1) ≤ lines then _ else _) = _
    rw [if_neg (fun q => h ⟨h1, q⟩)]
  · rw [show (rest - k).toNat = 0 by omega]
    rfl
theorem farF_bd (sy : Int → Int) (lines : Int) : ∀ (m : Nat) (k : Int), k ≤ farF sy lines m k ∧ farF sy lines m k ≤ k + m
  | 0, k => by simp [farF]
  | m + 1, k => by
    have := farF_bd sy lines m (k + 1)
    unfold farF
    split <;> omega
theorem farT_bd {sy : Int → Int} {lines rest k : Int} (h : k ≤ rest) : k ≤ farT sy lines rest k ∧ farT sy lines rest k ≤ rest := by
  have := farF_bd sy lines (rest - k).toNat k
  unfold farT
  omega
/-- the table of pages: bad turns, pages, size of the first page, from each place on -/
def DPOK (sy : Int → Int → Int) (lines : Int) (badT : Int → Int) (many : Int) (B G Z : Int → Int) : Prop :=
  B many = 0 ∧ G many = 0 ∧ ∀ i, 0 ≤ i → i < many → (Z i, B i, G i) = bestF (fun m => B (i + m) + badT (i + m)) (fun m => G (i + m) + 1) (farT (sy i) lines (many - i) 0).toNat
/-- the place where a page begins -/
def walkF (Z : Int → Int) (many : Int) : Nat → Int
  | 0 => 0
  | k + 1 => if walkF Z many k < many then walkF Z many k + Z (walkF Z many k) else walkF Z many k
theorem walkF_s (Z : Int → Int) (many : Int) {k : Int} (h : 0 ≤ k) : walkF Z many (k + 1).toNat = if walkF Z many k.toNat < many then walkF Z many k.toNat + Z (walkF Z many k.toNat) else walkF Z many k.toNat := by
  rw [show (k + 1).toNat = k.toNat + 1 by omega]
  rfl
theorem walkF_stay (Z : Int → Int) (many : Int) (k : Nat) (h : many ≤ walkF Z many k) : ∀ j : Nat, walkF Z many (k + j) = walkF Z many k
  | 0 => rfl
  | j + 1 => by
    have := walkF_stay Z many k h j
    show (if walkF Z many (k + j) < many then _ else walkF Z many (k + j)) = _
    rw [if_neg (by omega), this]
/-- a finding is counted -/
def fd (σ : ST) (c : Nat) (k : Int) : ST := up2 σ c k (σ c k + 1)
/-- what the reference's state is -/
def MS (σ : ST) : Prop := (0 ≤ σ 18 0 ∧ σ 18 0 ≤ 40) ∧ (0 ≤ σ 18 1 ∧ σ 18 1 ≤ 6) ∧ (0 ≤ σ 18 2 ∧ σ 18 2 ≤ 40) ∧ (-7 ≤ σ 18 3 ∧ σ 18 3 ≤ 7) ∧ (1 ≤ σ 18 4 ∧ σ 18 4 ≤ 20) ∧ (21 ≤ σ 18 5 ∧ σ 18 5 ≤ 60) ∧ (1 ≤ σ 18 6 ∧ σ 18 6 ≤ 8) ∧ (0 ≤ σ 18 7 ∧ σ 18 7 ≤ 60) ∧ (∀ j, 0 ≤ σ 19 j ∧ σ 19 j ≤ 60) ∧ (∀ j, 0 ≤ σ 20 j ∧ σ 20 j ≤ 7) ∧ (∀ j, 0 ≤ σ 21 j ∧ σ 21 j ≤ 2) ∧ (∀ j, -11 ≤ σ 22 j ∧ σ 22 j ≤ 11) ∧ (∀ j, 0 ≤ σ 23 j ∧ σ 23 j ≤ 1) ∧ (∀ j, 0 ≤ σ 24 j ∧ σ 24 j ≤ 16) ∧ (∀ j, 0 ≤ σ 25 j ∧ σ 25 j ≤ 9) ∧ (∀ j, 0 ≤ σ 27 j ∧ σ 27 j < 1000000) ∧ (∀ j, 0 ≤ σ 32 j ∧ σ 32 j ≤ 40) ∧ (∀ j, -1 ≤ σ 33 j ∧ σ 33 j < 40)
theorem MS.F {σ : ST} (h : MS σ) (j : Int) : 0 ≤ σ 27 j ∧ σ 27 j < 1000000 := h.2.2.2.2.2.2.2.2.2.2.2.2.2.2.2.1 j
/-- only the reference's working rows have changed -/
def FrM (σ τ : ST) : Prop := (∀ c, c ≠ 18 → c ≠ 28 → c ≠ 29 → c ≠ 30 → c ≠ 31 → c ≠ 37 → τ c = σ c) ∧ ∀ k, k ≠ 18 → τ 18 k = σ 18 k
theorem FrM.rf {σ : ST} : FrM σ σ := ⟨fun _ _ _ _ _ _ _ => rfl, fun _ _ => rfl⟩
theorem FrM.up {σ τ : ST} (h : FrM σ τ) {c : Nat} (hc : c = 28 ∨ c = 29 ∨ c = 30 ∨ c = 31 ∨ c = 37) (k z : Int) : FrM σ (up2 τ c k z) :=
  ⟨fun d h1 h2 h3 h4 h5 h6 => by rw [up2_ne (by omega)]; exact h.1 d h1 h2 h3 h4 h5 h6, fun j hj => by rw [up2_ne (by omega)]; exact h.2 j hj⟩
theorem FrM.up18 {σ τ : ST} (h : FrM σ τ) (z : Int) : FrM σ (up2 τ 18 18 z) :=
  ⟨fun d h1 h2 h3 h4 h5 h6 => by rw [up2_ne h1]; exact h.1 d h1 h2 h3 h4 h5 h6, fun j hj => by rw [up2_at hj]; exact h.2 j hj⟩
theorem FrM.tr {σ τ ρ : ST} (h : FrM σ τ) (h2 : FrM τ ρ) : FrM σ ρ :=
  ⟨fun d a1 a2 a3 a4 a5 a6 => (h2.1 d a1 a2 a3 a4 a5 a6).trans (h.1 d a1 a2 a3 a4 a5 a6), fun j hj => (h2.2 j hj).trans (h.2 j hj)⟩
theorem FrM.ms {σ τ : ST} (h : FrM σ τ) (hM : MS σ) : MS τ := by
  unfold MS
  rw [h.2 0 (by decide), h.2 1 (by decide), h.2 2 (by decide), h.2 3 (by decide), h.2 4 (by decide), h.2 5 (by decide), h.2 6 (by decide), h.2 7 (by decide), h.1 19 (by decide) (by decide) (by decide) (by decide) (by decide) (by decide), h.1 20 (by decide) (by decide) (by decide) (by decide) (by decide) (by decide), h.1 21 (by decide) (by decide) (by decide) (by decide) (by decide) (by decide), h.1 22 (by decide) (by decide) (by decide) (by decide) (by decide) (by decide), h.1 23 (by decide) (by decide) (by decide) (by decide) (by decide) (by decide), h.1 24 (by decide) (by decide) (by decide) (by decide) (by decide) (by decide), h.1 25 (by decide) (by decide) (by decide) (by decide) (by decide) (by decide), h.1 27 (by decide) (by decide) (by decide) (by decide) (by decide) (by decide), h.1 32 (by decide) (by decide) (by decide) (by decide) (by decide) (by decide), h.1 33 (by decide) (by decide) (by decide) (by decide) (by decide) (by decide)]
  exact hM
theorem RowIn.of {σ : ST} {mk : Int → Int} {nb : Int} (h : RowOK mk nb (σ 28) (σ 18 18)) (h0 : 0 ≤ nb) (h1 : nb ≤ 40) : RowIn σ := by
  have := h.bd h0
  refine ⟨by omega, by omega, fun i h2 h3 => ?_⟩
  obtain ⟨b, h4, -, -, h5⟩ := h.at h2 h3
  omega
theorem iand_1 {x : Int} (h : inR x) : iand x 1 = x % 2 := by
  unfold iand
  have e := pk_and (iZ x) (m := iZ 1) 1 (by decide +kernel)
  rw [e, iZ_nI]
  have h1 : ((iZ x).toBitVec.toNat : Int) % 2 = x % 2 := by
    have h2 : (iZ x).toInt = x := iZ_toInt h
    have h3 : (iZ x).toInt = (iZ x).toBitVec.toInt := rfl
    rw [h3, BitVec.toInt_eq_toNat_cond] at h2
    split at h2 <;> omega
  rw [iZ_toInt ⟨by omega, by omega⟩]
  omega
theorem iand_3 {x : Int} (h : 0 ≤ x ∧ x ≤ 7) : iand x 3 = x % 4 := by
  rcases (show x = 0 ∨ x = 1 ∨ x = 2 ∨ x = 3 ∨ x = 4 ∨ x = 5 ∨ x = 6 ∨ x = 7 by omega) with rfl | rfl | rfl | rfl | rfl | rfl | rfl | rfl <;> decide +kernel
theorem iand_4 {x : Int} (h : 0 ≤ x ∧ x ≤ 7) : iand x 4 = if 3 < x then 4 else 0 := by
  rcases (show x = 0 ∨ x = 1 ∨ x = 2 ∨ x = 3 ∨ x = 4 ∨ x = 5 ∨ x = 6 ∨ x = 7 by omega) with rfl | rfl | rfl | rfl | rfl | rfl | rfl | rfl <;> decide +kernel
theorem ixor_4 {x : Int} (h : 0 ≤ x ∧ x ≤ 7) : ixor x 4 = if 3 < x then x - 4 else x + 4 := by
  rcases (show x = 0 ∨ x = 1 ∨ x = 2 ∨ x = 3 ∨ x = 4 ∨ x = 5 ∨ x = 6 ∨ x = 7 by omega) with rfl | rfl | rfl | rfl | rfl | rfl | rfl | rfl <;> decide +kernel
