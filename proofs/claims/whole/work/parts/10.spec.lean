/-! what the rows of a part are: notes and marks by place -/
def Pm (σ : ST) (v : Int) (i : Int) : Int := σ 24 (40 * v + σ 28 i)
def Mm (σ : ST) (i : Int) : Int := σ 20 (σ 28 i)
abbrev bgP (P M : Int → Int) (i : Int) : Prop := P i = 0 ∧ (i = 0 ∨ P (i - 1) ≠ 0 ∨ M i ≠ 0 ∨ M (i - 1) % 2 = 1)
def lenF (P M : Int → Int) : Nat → Int → Int
  | 0, _ => 0
  | m + 1, j => if P j = 0 ∧ ¬ bgP P M j then 1 + lenF P M m (j + 1) else 0
theorem lenF_bd (P M : Int → Int) : ∀ (m : Nat) (j : Int), 0 ≤ lenF P M m j ∧ lenF P M m j ≤ m
  | 0, j => by simp [lenF]
  | m + 1, j => by
    have := lenF_bd P M m (j + 1)
    unfold lenF
    split <;> omega
def RowIn (σ : ST) : Prop := 0 ≤ σ 18 18 ∧ σ 18 18 ≤ 40 ∧ ∀ i, 0 ≤ i → i < σ 18 18 → 0 ≤ σ 28 i ∧ σ 28 i < 40
theorem iand_1 {x : Int} (h : inR x) : iand x 1 = x % 2 := by
  unfold iand
  have e := pk_and (iZ x) (m := iZ 1) 1 (by decide +kernel)
  rw [e, iZ_nI]
  have h1 : ((iZ x).toBitVec.toNat : Int) % 2 = x % 2 := by
    have h2 : (iZ x).toInt = x := iZ_toInt h
    have h3 : (iZ x).toInt = (iZ x).toBitVec.toInt := rfl
    rw [h3, BitVec.toInt_eq_toNat_cond] at h2
    split at h2 <;> omega
  rw [iZ_toInt ⟨by omega, by omega⟩]
  omega
