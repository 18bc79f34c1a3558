/-! numbers: an int of the machine is the image of a whole number -/
abbrev ST : Type := Nat → Int → Int
def iZ (z : Int) : Int32 := Int32.ofInt z
def iv (z : Int) : Value := .int (iZ z)
abbrev inR (z : Int) : Prop := -2147483648 ≤ z ∧ z < 2147483648
theorem iZ_toInt {z : Int} (h : inR z) : (iZ z).toInt = z := Int32.toInt_ofInt_of_le (by have := h.1; omega) (by have := h.2; omega)
theorem iZ_of (x : Int32) : iZ x.toInt = x := Int32.ofInt_toInt x
theorem iZ_in (x : Int32) : inR x.toInt := ⟨by have := Int32.le_toInt x; omega, by have := Int32.toInt_lt x; omega⟩
theorem iZ_add (a b : Int) : iZ a + iZ b = iZ (a + b) := (Int32.ofInt_add a b).symm
theorem iZ_sub (a b : Int) : iZ a - iZ b = iZ (a - b) := (Int32.ofInt_sub a b).symm
theorem iZ_mul (a b : Int) : iZ a * iZ b = iZ (a * b) := (Int32.ofInt_mul a b).symm
theorem iZ_neg (a : Int) : - iZ a = iZ (-a) := (Int32.ofInt_neg a).symm
theorem iZ_eq {a b : Int} (ha : inR a) (hb : inR b) : iZ a = iZ b ↔ a = b := by
  rw [← Int32.toInt_inj, iZ_toInt ha, iZ_toInt hb]
theorem iZ_lt {a b : Int} (ha : inR a) (hb : inR b) : iZ a < iZ b ↔ a < b := by
  rw [Int32.lt_iff_toInt_lt, iZ_toInt ha, iZ_toInt hb]
theorem iZ_le {a b : Int} (ha : inR a) (hb : inR b) : iZ a ≤ iZ b ↔ a ≤ b := by
  rw [Int32.le_iff_toInt_le, iZ_toInt ha, iZ_toInt hb]
theorem iZ_0 : (0 : Int32) = iZ 0 := by decide +kernel
theorem in0 : inR 0 := by decide
theorem iZ_nat {z : Int} (h : inR z) (h0 : 0 ≤ z) : ((iZ z).toNatClampNeg : Int) = z := by
  show ((iZ z).toInt.toNat : Int) = z
  rw [iZ_toInt h]; omega
theorem iZ_vpin {z : Int} {n : Nat} (h0 : 0 ≤ z) (h1 : z < n) (hn : n < 2147483648) : vp_in (iZ z) n := by
  have hz : inR z := ⟨by omega, by omega⟩
  refine vp_in_iff.mpr ?_
  rw [iZ_toInt hz]
  exact ⟨h0, h1⟩
theorem iZ_nI (n : Nat) : nI n = iZ n := Int32.ofInt_eq_ofNat.symm
def iand (x y : Int) : Int := (iZ x &&& iZ y).toInt
def ixor (x y : Int) : Int := (iZ x ^^^ iZ y).toInt
def ior (x y : Int) : Int := (iZ x ||| iZ y).toInt
theorem iand_Z (x y : Int) : iZ x &&& iZ y = iZ (iand x y) := (iZ_of _).symm
theorem ixor_Z (x y : Int) : iZ x ^^^ iZ y = iZ (ixor x y) := (iZ_of _).symm
theorem ior_Z (x y : Int) : iZ x ||| iZ y = iZ (ior x y) := (iZ_of _).symm
theorem idiv_Z {x y : Int} (hx : inR x) (hy : inR y) (h : y ≠ -1) : iZ x / iZ y = iZ (x.tdiv y) := by
  apply Int32.toInt_inj.mp
  have h1 : iZ y ≠ -1 := fun q => h (by have := congrArg Int32.toInt q; rw [iZ_toInt hy] at this; exact this)
  rw [Int32.toInt_div_of_ne_right _ _ h1, iZ_toInt hx, iZ_toInt hy]
  have h2 : (iZ x / iZ y).toInt = x.tdiv y := by rw [Int32.toInt_div_of_ne_right _ _ h1, iZ_toInt hx, iZ_toInt hy]
  rw [iZ_toInt (by rw [← h2]; exact iZ_in _)]
/-! the world: cells by number -/
def up2 (σ : ST) (c : Nat) (k z : Int) : ST := fun c' => if c' = c then (fun j => if j = k then z else σ c j) else σ c'
theorem up2_ne {σ : ST} {c : Nat} {k z : Int} {c' : Nat} (h : c' ≠ c) : up2 σ c k z c' = σ c' := if_neg h
theorem up2_c {σ : ST} {c : Nat} {k z : Int} : up2 σ c k z c = (fun j => if j = k then z else σ c j) := if_pos rfl
theorem up2_self {σ : ST} {c : Nat} {k z : Int} : up2 σ c k z c k = z := by rw [up2_c]; exact if_pos rfl
theorem up2_at {σ : ST} {c : Nat} {k z j : Int} (h : j ≠ k) : up2 σ c k z c j = σ c j := by rw [up2_c]; exact if_neg h
theorem up2_in {σ : ST} {c : Nat} {k z : Int} (h : ∀ c j, inR (σ c j)) (hz : inR z) : ∀ c' j, inR (up2 σ c k z c' j) := by
  intro c' j
  unfold up2
  by_cases h1 : c' = c
  · rw [if_pos h1]
    by_cases h2 : j = k
    · simp only [h2, if_true]; exact hz
    · simp only [h2, if_false]; exact h c j
  · rw [if_neg h1]; exact h c' j
def cF (D : va_G) (a : Nat → Nat) (n : Nat) (c : Nat) (f : Int → Int) : va_E := match c with
  | 0 => .inr (5, [.ref (a 1), .ref (a 2), .ref (a 3), .ref (a 4), .ref (a 5), iv (f 5), iv (f 6), iv (f 7), iv (f 8), iv (f 9)])
  | 1 => .inr (2, [.ref (a 6), .ref (a 7), .ref (a 8), iv (f 3), iv (f 4)])
  | 2 => .inr (1, [.ref (a 1), .ref (a 9), .ref (a 10), iv (f 3), iv (f 4), iv (f 5)])
  | 3 => .inr (0, [.ref (a 2), .ref (a 11), .ref (a 12), .ref (a 13), .ref (a 14), .ref (a 15), .ref (a 16), .ref (a 38), iv (f 8), iv (f 9), iv (f 10)])
  | 4 => .inr (3, [.ref (a 17), iv (f 1)])
  | 5 => .inl (D.1 7, 6, .inl (fun j => iZ (f j)))
  | 6 => .inl (D.1 7, 40, .inl (fun j => iZ (f j)))
  | 7 => .inl (D.1 7, 40, .inl (fun j => iZ (f j)))
  | 8 => .inl (D.1 9, 6, .inr (.inr (.inr (.inr (fun j => if j < n then some (a (39 + 5 * j)) else none)))))
  | 9 => .inl (D.1 7, 40, .inl (fun j => iZ (f j)))
  | 10 => .inl (D.1 7, 40, .inl (fun j => iZ (f j)))
  | 11 => .inl (D.1 7, 40, .inl (fun j => iZ (f j)))
  | 12 => .inl (D.1 7, 40, .inl (fun j => iZ (f j)))
  | 13 => .inl (D.1 7, 40, .inl (fun j => iZ (f j)))
  | 14 => .inl (D.1 7, 41, .inl (fun j => iZ (f j)))
  | 15 => .inl (D.1 7, 41, .inl (fun j => iZ (f j)))
  | 16 => .inl (D.1 7, 41, .inl (fun j => iZ (f j)))
  | 17 => .inl (D.1 7, 40, .inl (fun j => iZ (f j)))
  | 18 => .inr (6, [iv (f 0), iv (f 1), iv (f 2), iv (f 3), iv (f 4), iv (f 5), iv (f 6), iv (f 7), .ref (a 19), .ref (a 20), .ref (a 21), .ref (a 22), .ref (a 23), .ref (a 24), .ref (a 25), .ref (a 26), .ref (a 27), .ref (a 28), iv (f 18), .ref (a 29), .ref (a 30), .ref (a 31), .ref (a 32), .ref (a 33), .ref (a 34), .ref (a 35), .ref (a 36), .ref (a 37)])
  | 19 => .inl (D.1 7, 40, .inl (fun j => iZ (f j)))
  | 20 => .inl (D.1 7, 40, .inl (fun j => iZ (f j)))
  | 21 => .inl (D.1 7, 6, .inl (fun j => iZ (f j)))
  | 22 => .inl (D.1 7, 6, .inl (fun j => iZ (f j)))
  | 23 => .inl (D.1 7, 6, .inl (fun j => iZ (f j)))
  | 24 => .inl (D.1 7, 240, .inl (fun j => iZ (f j)))
  | 25 => .inl (D.1 7, 240, .inl (fun j => iZ (f j)))
  | 26 => .inl (D.1 7, 40, .inl (fun j => iZ (f j)))
  | 27 => .inl (D.1 7, 6, .inl (fun j => iZ (f j)))
  | 28 => .inl (D.1 7, 40, .inl (fun j => iZ (f j)))
  | 29 => .inl (D.1 7, 41, .inl (fun j => iZ (f j)))
  | 30 => .inl (D.1 7, 41, .inl (fun j => iZ (f j)))
  | 31 => .inl (D.1 7, 41, .inl (fun j => iZ (f j)))
  | 32 => .inl (D.1 7, 6, .inl (fun j => iZ (f j)))
  | 33 => .inl (D.1 7, 240, .inl (fun j => iZ (f j)))
  | 34 => .inl (D.1 7, 240, .inl (fun j => iZ (f j)))
  | 35 => .inl (D.1 7, 240, .inl (fun j => iZ (f j)))
  | 36 => .inl (D.1 7, 240, .inl (fun j => iZ (f j)))
  | 37 => .inl (D.1 8, 40, .inl (fun j => iZ (f j)))
  | 38 => .inl (D.1 7, 40, .inl (fun j => iZ (f j)))
  | c + 39 => if c % 5 = 0 then .inr (4, [iv (f 0), iv (f 1), .ref (a (c + 40)), .ref (a (c + 41)), iv (f 4), .ref (a (c + 42)), .ref (a (c + 43)), iv (f 7)]) else .inl (D.1 7, 40, .inl (fun j => iZ (f j)))
def wS (D : va_G) (a : Nat → Nat) (n : Nat) (σ : ST) : va_W := (List.range (39 + 5 * n)).map (fun c => (a c, cF D a n c (σ c)))
theorem wS_at {D : va_G} {a : Nat → Nat} {n : Nat} {σ : ST} {c : Nat} (h : c < 39 + 5 * n) : (wS D a n σ)[c]? = some (a c, cF D a n c (σ c)) := by
  unfold wS
  rw [List.getElem?_map, List.getElem?_range h]
  rfl
theorem wS_set {D : va_G} {a : Nat → Nat} {n : Nat} {σ : ST} {c : Nat} {e : va_E} {k z : Int} (h : c < 39 + 5 * n) (he : e = cF D a n c (fun j => if j = k then z else σ c j)) : (wS D a n σ).set c (a c, e) = wS D a n (up2 σ c k z) := by
  apply List.ext_getElem?
  intro i
  by_cases hi : i < 39 + 5 * n
  · rw [wS_at hi]
    by_cases hic : i = c
    · subst hic
      rw [List.getElem?_set_self (by unfold wS; rw [List.length_map, List.length_range]; exact h), up2_c, he]
    · rw [List.getElem?_set_ne (Ne.symm hic), wS_at hi, up2_ne hic]
  · have l1 : (wS D a n (up2 σ c k z)).length ≤ i := by unfold wS; rw [List.length_map, List.length_range]; omega
    have l2 : ((wS D a n σ).set c (a c, e)).length ≤ i := by rw [List.length_set]; unfold wS; rw [List.length_map, List.length_range]; omega
    rw [List.getElem?_eq_none l1, List.getElem?_eq_none l2]
theorem cF_v0 {D : va_G} {a : Nat → Nat} {n : Nat} {f : Int → Int} (i : Nat) : cF D a n (39 + 5 * i) f = .inr (4, [iv (f 0), iv (f 1), .ref (a (40 + 5 * i)), .ref (a (41 + 5 * i)), iv (f 4), .ref (a (42 + 5 * i)), .ref (a (43 + 5 * i)), iv (f 7)]) := by
  rw [show 39 + 5 * i = 5 * i + 39 by omega]
  show (if (5 * i) % 5 = 0 then _ else _) = _
  rw [if_pos (by omega), show 5 * i + 40 = 40 + 5 * i by omega, show 5 * i + 41 = 41 + 5 * i by omega, show 5 * i + 42 = 42 + 5 * i by omega, show 5 * i + 43 = 43 + 5 * i by omega]
theorem cF_vk {D : va_G} {a : Nat → Nat} {n : Nat} {f : Int → Int} (c : Nat) (h : 39 ≤ c) (h5 : (c - 39) % 5 ≠ 0) : cF D a n c f = .inl (D.1 7, 40, .inl (fun j => iZ (f j))) := by
  obtain ⟨d, rfl⟩ : ∃ d, c = d + 39 := ⟨c - 39, by omega⟩
  show (if d % 5 = 0 then _ else _) = _
  rw [if_neg (by omega)]
abbrev tysD (D : va_G) : List (ClassId × FieldType) := [(D.1 7, .int), (D.1 8, .boolean), (D.1 9, .object "PartRoom$Voice")]
/-- the words of private members among nest mates -/
def nwL : List Cond := [Cond.fieldLinkNest "PartRoom$Part" (66 : Nat) "PartRoom$Score" "seconds" "[I" "PartRoom", Cond.fieldLinkNest "PartRoom$Voice" (44 : Nat) "PartRoom$Score" "bits" "[I" "PartRoom", Cond.fieldLinkNest "PartRoom$Part" (48 : Nat) "PartRoom$Score" "bits" "[I" "PartRoom", Cond.fieldLinkNest "PartRoom" (100 : Nat) "PartRoom$Score" "bits" "[I" "PartRoom", Cond.fieldLinkNest "PartRoom" (171 : Nat) "PartRoom$Score" "barCount" "I" "PartRoom", Cond.fieldLinkNest "PartRoom$Part" (75 : Nat) "PartRoom$Score" "voiceCount" "I" "PartRoom", Cond.fieldLinkNest "PartRoom" (174 : Nat) "PartRoom$Score" "voiceCount" "I" "PartRoom", Cond.fieldLinkNest "PartRoom$Layout" (53 : Nat) "PartRoom$Part" "size" "I" "PartRoom", Cond.fieldLinkNest "PartRoom$Told" (20 : Nat) "PartRoom$Part" "size" "I" "PartRoom", Cond.fieldLinkNest "PartRoom" (183 : Nat) "PartRoom$Told" "waiting" "I" "PartRoom", Cond.fieldLinkNest "PartRoom" (87 : Nat) "PartRoom$Voice" "shift" "I" "PartRoom", Cond.fieldLinkNest "PartRoom$Part" (42 : Nat) "PartRoom$Voice" "notes" "[I" "PartRoom", Cond.fieldLinkNest "PartRoom" (94 : Nat) "PartRoom$Voice" "notes" "[I" "PartRoom", Cond.fieldLinkNest "PartRoom" (97 : Nat) "PartRoom$Voice" "loud" "[I" "PartRoom", Cond.fieldLinkNest "PartRoom$Part" (91 : Nat) "PartRoom$Voice" "loud" "[I" "PartRoom", Cond.fieldLinkNest "PartRoom" (107 : Nat) "PartRoom$Voice" "onStage" "Z" "PartRoom", Cond.fieldLinkNest "PartRoom$Part" (82 : Nat) "PartRoom$Voice" "onStage" "Z" "PartRoom", Cond.fieldLinkNest "PartRoom$Score" (42 : Nat) "PartRoom$Voice" "laidPages" "I" "PartRoom", Cond.fieldLinkNest "PartRoom" (154 : Nat) "PartRoom$Voice" "laidPages" "I" "PartRoom"]
def NW (U : State) : Prop := ∀ w ∈ nwL, va_Nw w U
theorem nw_form : ∀ w ∈ nwL, ∃ a i b n d h, w = Cond.fieldLinkNest a i b n d h := by
  intro w hw
  simp only [nwL, List.mem_cons, List.not_mem_nil, or_false] at hw
  rcases hw with rfl | rfl | rfl | rfl | rfl | rfl | rfl | rfl | rfl | rfl | rfl | rfl | rfl | rfl | rfl | rfl | rfl | rfl | rfl <;> exact ⟨_, _, _, _, _, _, rfl⟩
theorem NW.warm {s U : State} (h : NW s) (hW : s.WarmedH U.vm) : NW U := by
  intro w hw
  obtain ⟨a, i, b, n, d, x, rfl⟩ := nw_form w hw
  exact va_Nw.warmF hW (h _ hw)
theorem NW.same {s U : State} (h : NW s) (hv : s.vm = U.vm) : NW U := by
  intro w hw
  obtain ⟨a, i, b, n, d, x, rfl⟩ := nw_form w hw
  exact va_Nw.same rfl hv (h _ hw)
/-! the judgement: machine data in one tuple -/
abbrev KT : Type := Program × Launch × Env × Room × State × MethodId × Array Value × List Frame × Method × Code × Nat × (State → Prop) × (Nat → Prop) × va_G
def J (κ : KT) (k1 k2 : Nat) (a : Nat → Nat) (n : Nat) (σ : ST) (L : List (Nat × Value)) (pc : Nat) (st : List Value) : Prop := match κ with
  | (p, l, e, R, s, m, args, below, meth, c, nL, Q, A, D) => ∀ (H : Heap) (locs : List Loc) (ls : Array Slot), va_P D vwCl (wS D a n σ) H → va_D A (wS D a n σ) → va_S A s.heap H locs → (∀ c j, inR (σ c j)) → lv_has ls nL L → W p l e R s m args below meth c H locs k1 k2 Q (F0 m pc ls st)
def CX (κ : KT) (cc : ByteArray) (own : String) (mL : Nat) (rm : Room) : Prop := match κ with
  | (p, _, _, R, s, m, args, _, meth, c, nL, _, A, D) => p.tables.exec = Jvm.exec ∧ c.code = cc ∧ c.maxLocals = nL ∧ s.vm.findClass own = some m.cls ∧ (∀ w ∈ lw_g, w.before args s = true) ∧ va_K D vwCl (tysD D) s ∧ (∀ q : Nat, s.heap.size ≤ q → A q) ∧ meth.locks = false ∧ nL = mL ∧ R = rm ∧ NW s
def lst (L : List (Nat × Value)) (i : Nat) (v : Value) : List (Nat × Value) := (i, v) :: L.filter (fun q => !(q.1 == i) && !(q.1 + 1 == i && q.2.category == 2))
