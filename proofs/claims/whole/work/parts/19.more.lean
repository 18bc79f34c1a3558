section JR2
variable {κ : KT} {cc : ByteArray} {own : String} {mL : Nat} {rm : Room} {k1 k2 : Nat} {a : Nat → Nat} {n : Nat} {σ : ST} {L : List (Nat × Value)} {pc : Nat} {st : List Value}
theorem r_pop {v : Value} (C : CX κ cc own mL rm) (hd : decode cc pc = .ok (.pop, 1)) (hc : v.category = 1) (k : J κ k1 k2 a n σ L (pc + 1) st) : J κ k1 k2 a n σ L pc (v :: st) := by
  obtain ⟨p, l, e, R, s, m, args, below, meth, c, nL, Q, A, D⟩ := κ
  obtain ⟨hx, hb, hml, hown, hts, hK, hA, hlk, hnL, hRm, hN⟩ := C
  intro H locs ls hP hD hS hR hl
  exact lv_pop hx hb hd hc (k H locs ls hP hD hS hR hl)
theorem r_irem {x y : Int} (C : CX κ cc own mL rm) (hd : decode cc pc = .ok (.irem, 1)) (hx1 : inR x) (hy1 : inR y) (hy3 : y ≠ 0) (hy2 : y ≠ -1) (k : J κ k1 k2 a n σ L (pc + 1) (iv (x.tmod y) :: st)) : J κ k1 k2 a n σ L pc (iv y :: iv x :: st) := by
  obtain ⟨p, l, e, R, s, m, args, below, meth, c, nL, Q, A, D⟩ := κ
  obtain ⟨hx, hb, hml, hown, hts, hK, hA, hlk, hnL, hRm, hN⟩ := C
  intro H locs ls hP hD hS hR hl
  refine lv_irem hx hb hd (fun q => hy3 ((iZ_eq hy1 in0).mp (q.trans iZ_0))) ?_
  have e1 : iZ x - iZ x / iZ y * iZ y = iZ (x.tmod y) := by
    rw [idiv_Z hx1 hy1 hy2, iZ_mul, iZ_sub]
    congr 1
    have := Int.tmod_add_mul_tdiv x y
    rw [Int.mul_comm] at this
    omega
  first
    | (rw [e1]; exact k H locs ls hP hD hS hR hl)
    | exact k H locs ls hP hD hS hR hl
end JR2
theorem metOfWF {l : Launch} {y : MethodName} {ws ws' : List Cond} {rm : Room} {Pc : Array Value → State → Prop} {Qc : Array Value → State → Outcome → State → Prop} {mc ms : Nat} {free : Addr → Prop} {cc : ByteArray} {maxL : Nat} {ret : Option FieldType}
    (hy : plainFor y = true) (hw : ws = Cond.code y cc maxL ret :: ws')
    (body : ∀ p e s m args below meth c s₁, BodyLoose p l y (headSpec ws rm) cc maxL ret e s m args below meth c s₁ → c.maxLocals = maxL → Pc args s →
      W p l e (headSpec ws rm).room s m args below meth c s.heap [] 0 0 (MQ below Qc args s mc ms free) (entryFrame m args maxL)) : Met l y ws rm Pc Qc mc ms free := by
  refine MetFree.of_bodySF (code := cc) (maxLocals := maxL) (ret := ret) hy ?_ ?_
  · intro args s m h hn
    obtain ⟨meth, c, h1, h2, h3, h4, h5, h6, -, -⟩ := Cond.code_spec hn (atoms_spec (ws := ws) h _ (by rw [hw]; exact List.mem_cons_self))
    exact ⟨meth, c, h1, h2, h3, h4, h5, h6⟩
  · intro p e s m args below meth c s₁ B hml hP _
    have hh0 : s₁.heap = s.heap := by rw [B.state]; rfl
    obtain ⟨t, a1, o, b1, b2, b3⟩ := body p e s m args below meth c s₁ B hml hP s₁ hh0 (Stand.of_body B)
    exact ⟨t, o, a1, b1, b2, ⟨b3.1, b3.2⟩⟩
theorem MI.ofF {y : MethodName} {cc : ByteArray} {mL : Nat} {rm : Room} {a : Nat → Nat} {n : Nat} {σ : ST} {av : List Value} {own : String} {post : Int → ST → Prop} (hy : plainFor y = true) (hown : y.cls = own) (hL : (lg_sl av).length ≤ mL) (body : ∀ κ : KT, CX κ cc own mL rm → (∀ (σ' : ST) (L : List (Nat × Value)) (pc : Nat) (r : Int), decode cc pc = .ok (.ireturn, 1) → post r σ' → J κ 0 0 a n σ' L pc [iv r]) → J κ 0 0 a n σ (lv_args 0 av) 0 []) : MI y cc mL .int rm a n σ av post := by
  intro l D sz hR
  refine metOfWF (cc := cc) (maxL := mL) (ret := some .int) hy rfl ?_
  intro p e s m args below meth c s₁ B hml hv
  obtain ⟨rfl, hsz, hP, hK, hD0, hN⟩ := hv
  subst hsz
  subst hown
  have hD := hD0.self (sz := s.heap.size)
  have key := body (p, l, e, rm, s, m, av.toArray, below, meth, c, mL, MQ below (va_Qi (S := Int × ST) (fun r u => r = iZ u.1 ∧ post u.1 u.2) (fun u t => UW D a n (va_A (wS D a n σ) s.heap.size) u.2 t) (va_A (wS D a n σ) s.heap.size)) av.toArray s 0 0 (va_A (wS D a n σ) s.heap.size), va_A (wS D a n σ) s.heap.size, D) ⟨B.exec, B.bytes, hml, findClass_of_methodNamed B.named, fun w hw => atoms_spec B.pre w (List.mem_cons_of_mem _ hw), hK, fun q h => Or.inr h, B.notSynchronized, rfl, rfl, hN⟩ (by
    intro σ' L pc r hdec hpost H locs ls hP' hD' hS' hR' hl'
    exact W.iret B.exec B.bytes B.returns (fun t ht hW => ⟨⟨iZ r, (r, σ'), rfl, ⟨rfl, hpost⟩, by rw [ht]; exact hP', hD', hR'⟩, hS'.F ht⟩) hS'.2.2 hdec B.notSynchronized)
  rw [lg_entry_eq]
  exact key s.heap [] _ hP hD va_S.rf hR (lv_entry av hL)
theorem iand_4o {x : Int} (h : 0 ≤ x ∧ x ≤ 7) : (iand x 4 = 4 ∧ 3 < x) ∨ (iand x 4 = 0 ∧ ¬ 3 < x) := by
  rw [iand_4 h]
  by_cases h1 : 3 < x
  · rw [if_pos h1]; exact Or.inl ⟨rfl, h1⟩
  · rw [if_neg h1]; exact Or.inr ⟨rfl, h1⟩
theorem ixor_4o {x : Int} (h : 0 ≤ x ∧ x ≤ 7) : (ixor x 4 = x - 4 ∧ 3 < x) ∨ (ixor x 4 = x + 4 ∧ ¬ 3 < x) := by
  rw [ixor_4 h]
  by_cases h1 : 3 < x
  · rw [if_pos h1]; exact Or.inl ⟨rfl, h1⟩
  · rw [if_neg h1]; exact Or.inr ⟨rfl, h1⟩
theorem iand_in (x y : Int) : inR (iand x y) := iZ_in _
theorem ixor_in (x y : Int) : inR (ixor x y) := iZ_in _
def F5 (σ : ST) : Prop := ∀ j, 0 ≤ σ 5 j ∧ σ 5 j < 1000000
theorem F5.up {σ : ST} (h : F5 σ) {c : Nat} {k z : Int} (hc : 5 ≠ c) : F5 (up2 σ c k z) := fun j => by rw [up2_ne hc]; exact h j
theorem F5.same {σ τ : ST} (h : F5 σ) (e : τ 5 = σ 5) : F5 τ := fun j => by rw [e]; exact h j
/-- what answer() leaves -/
def ans (σ : ST) (r : Int) : ST := if -1000005 ≤ r ∧ r ≤ -1000001 then fd σ 5 (-1000000 - r) else σ
theorem ans_y {σ : ST} {r : Int} (h : -1000005 ≤ r ∧ r ≤ -1000001) : ans σ r = fd σ 5 (-1000000 - r) := if_pos h
theorem ans_n {σ : ST} {r : Int} (h : ¬ (-1000005 ≤ r ∧ r ≤ -1000001)) : ans σ r = σ := if_neg h
/-- what a part holds -/
def Mc (σ : ST) (i : Int) : Int := σ 7 (σ 9 i)
def Sc (σ : ST) (i : Int) : Int := σ 6 (σ 9 i)
def Lc (σ : ST) (o i : Int) : Int := σ (41 + 5 * o.toNat) (σ 9 i)
def stC (σ : ST) (o : Int) : Int := σ (39 + 5 * o.toNat) 4
/-- what the object's state is, with n voices -/
def CS (σ : ST) (n : Nat) : Prop := (0 ≤ σ 1 3 ∧ σ 1 3 ≤ 40) ∧ (σ 1 4 = n ∧ n ≤ 6) ∧ (0 ≤ σ 4 1 ∧ σ 4 1 ≤ 40) ∧ (-7 ≤ σ 0 5 ∧ σ 0 5 ≤ 7) ∧ (1 ≤ σ 0 6 ∧ σ 0 6 ≤ 20) ∧ (21 ≤ σ 0 7 ∧ σ 0 7 ≤ 60) ∧ (1 ≤ σ 0 8 ∧ σ 0 8 ≤ 8) ∧ (0 ≤ σ 0 9 ∧ σ 0 9 ≤ 60) ∧ F5 σ ∧ (∀ j, 0 ≤ σ 6 j ∧ σ 6 j ≤ 60) ∧ (∀ j, 0 ≤ σ 7 j ∧ σ 7 j ≤ 7) ∧ ∀ i : Nat, i < n → (0 ≤ σ (39 + 5 * i) 0 ∧ σ (39 + 5 * i) 0 ≤ 2) ∧ (-11 ≤ σ (39 + 5 * i) 1 ∧ σ (39 + 5 * i) 1 ≤ 11) ∧ (0 ≤ σ (39 + 5 * i) 4 ∧ σ (39 + 5 * i) 4 ≤ 1) ∧ (0 ≤ σ (39 + 5 * i) 7 ∧ σ (39 + 5 * i) 7 ≤ 40) ∧ (∀ j, 0 ≤ σ (40 + 5 * i) j ∧ σ (40 + 5 * i) j ≤ 16) ∧ (∀ j, 0 ≤ σ (41 + 5 * i) j ∧ σ (41 + 5 * i) j ≤ 9)
/-- only the working cells have changed -/
def FrC (σ τ : ST) : Prop := ∀ c, c ≠ 2 → c ≠ 3 → c ≠ 9 → c ≠ 10 → c ≠ 11 → c ≠ 12 → c ≠ 13 → c ≠ 14 → c ≠ 15 → (c ≠ 16 ∧ c ≠ 38) → τ c = σ c
theorem FrC.tr {σ τ ρ : ST} (h : FrC σ τ) (h2 : FrC τ ρ) : FrC σ ρ := fun c a1 a2 a3 a4 a5 a6 a7 a8 a9 a10 => (h2 c a1 a2 a3 a4 a5 a6 a7 a8 a9 a10).trans (h c a1 a2 a3 a4 a5 a6 a7 a8 a9 a10)
theorem FrC.to {σ τ : ST} (h : FrC σ τ) (c : Nat) (hc : (decide (c ≠ 2) && decide (c ≠ 3) && (decide (c < 9) || (decide (16 < c) && decide (c ≠ 38)))) = true) : τ c = σ c := by
  simp only [Bool.and_eq_true, Bool.or_eq_true, decide_eq_true_eq] at hc
  exact h c (by omega) (by omega) (by omega) (by omega) (by omega) (by omega) (by omega) (by omega) (by omega) (by omega)
theorem FrC.toV {σ τ : ST} (h : FrC σ τ) {c : Nat} (hc : 17 ≤ c ∧ c ≠ 38) : τ c = σ c := h c (by omega) (by omega) (by omega) (by omega) (by omega) (by omega) (by omega) (by omega) (by omega) (by omega)
theorem FrC.cs {σ τ : ST} {n : Nat} (h : FrC σ τ) (hC : CS σ n) : CS τ n := by
  unfold CS F5
  rw [h.to 0 rfl, h.to 1 rfl, h.to 4 rfl, h.to 5 rfl, h.to 6 rfl, h.to 7 rfl]
  obtain ⟨h1, h2, h3, h4, h5, h6, h7, h8, h9, h10, h11, h12⟩ := hC
  refine ⟨h1, h2, h3, h4, h5, h6, h7, h8, h9, h10, h11, fun i hi => ?_⟩
  rw [h.toV (c := 39 + 5 * i) (by omega), h.toV (c := 40 + 5 * i) (by omega), h.toV (c := 41 + 5 * i) (by omega)]
  exact h12 i hi
/-- a drawn part is well made -/
def PIn (σ : ST) : Prop := (0 ≤ σ 2 3 ∧ σ 2 3 ≤ 40) ∧ ∀ i, 0 ≤ i → i < σ 2 3 → (0 ≤ σ 9 i ∧ σ 9 i < 40) ∧ σ 7 (σ 9 i) ≤ 3 ∧ 0 ≤ σ 10 i ∧ σ 10 i ≤ 16
