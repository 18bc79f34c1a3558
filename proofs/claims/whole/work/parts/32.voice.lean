/-! a new voice -/
def RMv (f q : Nat) : Room := { frames := f, cells := 5, slots := 168, locals := q }
def aV (a : Nat → Nat) (n : Nat) (q : Nat) (u : Nat → Nat) : Nat → Nat := fun k => if k < 39 + 5 * n then a k else if k = 39 + 5 * n then q else u (k - (40 + 5 * n))
def sV (σ : ST) (n : Nat) (x y : Int) : ST := fun c => if c < 39 + 5 * n then σ c else if c = 39 + 5 * n then (fun j => if j = 0 then x else if j = 1 then y else if j = 4 then 1 else 0) else fun _ => 0
theorem aV_lt {a : Nat → Nat} {n q : Nat} {u : Nat → Nat} {k : Nat} (h : k < 39 + 5 * n) : aV a n q u k = a k := if_pos h
theorem sV_lt {σ : ST} {n : Nat} {x y : Int} {c : Nat} (h : c < 39 + 5 * n) : sV σ n x y c = σ c := if_pos h
theorem sV_at {σ : ST} {n : Nat} {x y : Int} : sV σ n x y (39 + 5 * n) = (fun j => if j = 0 then x else if j = 1 then y else if j = 4 then 1 else 0) := by
  unfold sV; rw [if_neg (by omega), if_pos rfl]
theorem sV_gt {σ : ST} {n : Nat} {x y : Int} {c : Nat} (h : 39 + 5 * n < c) : sV σ n x y c = fun _ => 0 := by
  unfold sV; rw [if_neg (by omega), if_neg (by omega)]
theorem sV_in {σ : ST} {n : Nat} {x y : Int} (hR : ∀ c j, inR (σ c j)) (hx : inR x) (hy : inR y) : ∀ c j, inR (sV σ n x y c j) := by
  intro c j
  by_cases h1 : c < 39 + 5 * n
  · rw [sV_lt h1]; exact hR c j
  · by_cases h2 : c = 39 + 5 * n
    · subst h2; rw [sV_at]
      show inR (if j = 0 then x else if j = 1 then y else if j = 4 then 1 else 0)
      by_cases e0 : j = 0
      · rw [if_pos e0]; exact hx
      · rw [if_neg e0]
        by_cases e1 : j = 1
        · rw [if_pos e1]; exact hy
        · rw [if_neg e1]
          by_cases e4 : j = 4
          · rw [if_pos e4]; exact ⟨by decide, by decide⟩
          · rw [if_neg e4]; exact in0
    · rw [sV_gt (by omega)]; exact in0
theorem cF_congr {D : va_G} {a a' : Nat → Nat} {n n' c : Nat} {f : Int → Int} (h : ∀ k, k < 39 + 5 * n → a' k = a k) (hc : c < 39 + 5 * n) (h8 : c ≠ 8) : cF D a' n' c f = cF D a n c f := by
  by_cases h38 : c < 39
  · have h1 := h 1 (by omega)
    have h2 := h 2 (by omega)
    have h3 := h 3 (by omega)
    have h4 := h 4 (by omega)
    have h5 := h 5 (by omega)
    have h6 := h 6 (by omega)
    have h7 := h 7 (by omega)
    have h8' := h 8 (by omega)
    have h9 := h 9 (by omega)
    have h10 := h 10 (by omega)
    have h11 := h 11 (by omega)
    have h12 := h 12 (by omega)
    have h13 := h 13 (by omega)
    have h14 := h 14 (by omega)
    have h15 := h 15 (by omega)
    have h16 := h 16 (by omega)
    have h17 := h 17 (by omega)
    have h19 := h 19 (by omega)
    have h20 := h 20 (by omega)
    have h21 := h 21 (by omega)
    have h22 := h 22 (by omega)
    have h23 := h 23 (by omega)
    have h24 := h 24 (by omega)
    have h25 := h 25 (by omega)
    have h26 := h 26 (by omega)
    have h27 := h 27 (by omega)
    have h28 := h 28 (by omega)
    have h29 := h 29 (by omega)
    have h30 := h 30 (by omega)
    have h31 := h 31 (by omega)
    have h32 := h 32 (by omega)
    have h33 := h 33 (by omega)
    have h34 := h 34 (by omega)
    have h35 := h 35 (by omega)
    have h36 := h 36 (by omega)
    have h37 := h 37 (by omega)
    have h38' := h 38 (by omega)
    have hh : c = 0 ∨ c = 1 ∨ c = 2 ∨ c = 3 ∨ c = 4 ∨ c = 5 ∨ c = 6 ∨ c = 7 ∨ c = 9 ∨ c = 10 ∨ c = 11 ∨ c = 12 ∨ c = 13 ∨ c = 14 ∨ c = 15 ∨ c = 16 ∨ c = 17 ∨ c = 18 ∨ c = 19 ∨ c = 20 ∨ c = 21 ∨ c = 22 ∨ c = 23 ∨ c = 24 ∨ c = 25 ∨ c = 26 ∨ c = 27 ∨ c = 28 ∨ c = 29 ∨ c = 30 ∨ c = 31 ∨ c = 32 ∨ c = 33 ∨ c = 34 ∨ c = 35 ∨ c = 36 ∨ c = 37 ∨ c = 38 := by omega
    rcases hh with rfl | rfl | rfl | rfl | rfl | rfl | rfl | rfl | rfl | rfl | rfl | rfl | rfl | rfl | rfl | rfl | rfl | rfl | rfl | rfl | rfl | rfl | rfl | rfl | rfl | rfl | rfl | rfl | rfl | rfl | rfl | rfl | rfl | rfl | rfl | rfl | rfl | rfl <;> first | rfl | (simp only [cF, h1, h2, h3, h4, h5, h6, h7, h8', h9, h10, h11, h12, h13, h14, h15, h16, h17, h19, h20, h21, h22, h23, h24, h25, h26, h27, h28, h29, h30, h31, h32, h33, h34, h35, h36, h37, h38']; done)
  · by_cases h5 : (c - 39) % 5 = 0
    · obtain ⟨i, rfl⟩ : ∃ i, c = 39 + 5 * i := ⟨(c - 39) / 5, by omega⟩
      rw [cF_v0, cF_v0, h (40 + 5 * i) (by omega), h (41 + 5 * i) (by omega), h (42 + 5 * i) (by omega), h (43 + 5 * i) (by omega)]
    · rw [cF_vk c (by omega) h5, cF_vk c (by omega) h5]
theorem wS_len {D : va_G} {a : Nat → Nat} {n : Nat} {σ : ST} : (wS D a n σ).length = 39 + 5 * n := by unfold wS; rw [List.length_map, List.length_range]
theorem wS_voice {D : va_G} {a : Nat → Nat} {n : Nat} {σ : ST} {q : Nat} {u : Nat → Nat} {x y : Int} : ((wS D a n σ ++ [(q, .inr (4, [iv x, iv y, .ref (u 0), .ref (u 1), iv 1, .ref (u 2), .ref (u 3), iv 0])), (u 0, aE D 7 40), (u 1, aE D 7 40), (u 2, aE D 7 40), (u 3, aE D 7 40)] : va_W).set 8 (a 8, .inl (D.1 9, 6, .inr (.inr (.inr (.inr (va_up (fun j => if j < n then some (a (39 + 5 * j)) else none) n (some q)))))))) = wS D (aV a n q u) (n + 1) (sV σ n x y) := by
  apply List.ext_getElem?
  intro i
  have hlt : ∀ k, k < 39 + 5 * n → aV a n q u k = a k := fun k h => aV_lt h
  by_cases h8 : i = 8
  · subst h8
    rw [List.getElem?_set_self (by rw [List.length_append, wS_len]; omega), wS_at (by omega), hlt 8 (by omega)]
    have hf : va_up (fun j => if j < n then some (a (39 + 5 * j)) else none) n (some q) = (fun j => if j < n + 1 then some (aV a n q u (39 + 5 * j)) else none) := by
      funext j
      show (if j = n then some q else if j < n then some (a (39 + 5 * j)) else none) = _
      by_cases e1 : j = n
      · subst e1
        rw [if_pos rfl, if_pos (by omega)]
        unfold aV
        rw [if_neg (by omega), if_pos rfl]
      · rw [if_neg e1]
        by_cases e2 : j < n
        · rw [if_pos e2, if_pos (by omega), hlt _ (by omega)]
        · rw [if_neg e2, if_neg (by omega)]
    rw [hf]
    rfl
  · rw [List.getElem?_set_ne (Ne.symm h8)]
    by_cases hi : i < 39 + 5 * n
    · rw [List.getElem?_append_left (by rw [wS_len]; exact hi), wS_at hi, wS_at (by omega), hlt i hi, sV_lt hi, cF_congr hlt hi h8]
    · rw [List.getElem?_append_right (by rw [wS_len]; omega), wS_len]
      by_cases h0 : i = 39 + 5 * n
      · subst h0
        rw [wS_at (by omega), Nat.sub_self, cF_v0, sV_at]
        have e0 : aV a n q u (39 + 5 * n) = q := by unfold aV; rw [if_neg (by omega), if_pos rfl]
        have ek : ∀ d, aV a n q u (40 + 5 * n + d) = u d := fun d => by unfold aV; rw [if_neg (by omega), if_neg (by omega), show 40 + 5 * n + d - (40 + 5 * n) = d by omega]
        have e1 := ek 0
        have e2 := ek 1
        have e3 := ek 2
        have e4 := ek 3
        rw [show 40 + 5 * n + 0 = 40 + 5 * n by omega] at e1
        rw [show 40 + 5 * n + 1 = 41 + 5 * n by omega] at e2
        rw [show 40 + 5 * n + 2 = 42 + 5 * n by omega] at e3
        rw [show 40 + 5 * n + 3 = 43 + 5 * n by omega] at e4
        rw [e0, e1, e2, e3, e4]
        rfl
      · by_cases h4 : i < 44 + 5 * n
        · rw [wS_at (by omega), cF_vk i (by omega) (by omega), sV_gt (by omega)]
          have ek : aV a n q u i = u (i - (40 + 5 * n)) := by unfold aV; rw [if_neg (by omega), if_neg h0]
          rw [ek]
          have hh : i = 40 + 5 * n ∨ i = 41 + 5 * n ∨ i = 42 + 5 * n ∨ i = 43 + 5 * n := by omega
          rcases hh with h | h | h | h
          · rw [show i - (39 + 5 * n) = 1 by omega, show i - (40 + 5 * n) = 0 by omega]; rfl
          · rw [show i - (39 + 5 * n) = 2 by omega, show i - (40 + 5 * n) = 1 by omega]; rfl
          · rw [show i - (39 + 5 * n) = 3 by omega, show i - (40 + 5 * n) = 2 by omega]; rfl
          · rw [show i - (39 + 5 * n) = 4 by omega, show i - (40 + 5 * n) = 3 by omega]; rfl
        · rw [List.getElem?_eq_none (by simp; omega), List.getElem?_eq_none (by rw [wS_len]; omega)]

section GV
variable {κ : KT} {cc : ByteArray} {own : String} {mL : Nat} {rm : Room} {k1 k2 : Nat} {ws : va_G → va_W} {a : Nat → Nat} {n : Nat} {σ : ST} {L : List (Nat × Value)} {pc : Nat} {st : List Value}
theorem r_G (k : (∀ c j, inR (σ c j)) → G κ k1 k2 (fun D => wS D a n σ) L pc st) : J κ k1 k2 a n σ L pc st := by
  obtain ⟨p, l, e, R, s, m, args, below, meth, c, nL, Q, A, D⟩ := κ
  intro H locs ls hP hD hS hR hl
  exact k hR H locs ls hP hD hS hl
theorem g_J (hw : ∀ D, ws D = wS D a n σ) (hR : ∀ c j, inR (σ c j)) (k : J κ k1 k2 a n σ L pc st) : G κ k1 k2 ws L pc st := by
  obtain ⟨p, l, e, R, s, m, args, below, meth, c, nL, Q, A, D⟩ := κ
  intro H locs ls hP hD hS hl
  rw [hw D] at hP hD
  exact k H locs ls hP hD hS hR hl
theorem r_widen (c1 c2 : Nat) (h1 : k1 ≤ c1) (h2 : k2 ≤ c2) (k : J κ c1 c2 a n σ L pc st) : J κ k1 k2 a n σ L pc st := by
  obtain ⟨p, l, e, R, s, m, args, below, meth, c, nL, Q, A, D⟩ := κ
  intro H locs ls hP hD hS hR hl
  exact W.widen h1 h2 (k H locs ls hP hD hS hR hl)
theorem g_ast {q0 qk x v : Nat} {i : Int} {vs : List Value} {f : Nat → Option Nat} (C : CX κ cc own mL rm) (hd : decode cc pc = .ok (.aastore, 1)) (ha : ∀ D : va_G, (ws D)[q0]? = some (x, .inl (D.1 9, 6, .inr (.inr (.inr (.inr f)))))) (hv : ∀ D, (ws D)[qk]? = some (v, .inr (4, vs))) (h0 : 0 ≤ i) (h1 : i < 6) (kk : G κ k1 k2 (fun D => (ws D).set q0 (x, .inl (D.1 9, 6, .inr (.inr (.inr (.inr (va_up f i.toNat (some v)))))))) L (pc + 1) st) : G κ k1 k2 ws L pc (.ref v :: iv i :: .ref x :: st) := by
  obtain ⟨p, l, e, R, s, m, args, below, meth, c, nL, Q, A, D⟩ := κ
  obtain ⟨hx, hb, hml, hown, hts, hK, hA, hlk, hnL, hRm, hN⟩ := C
  intro H locs ls hP hD hS hl
  have e2 := iZ_nat (z := i) ⟨by omega, by omega⟩ h0
  have e3 : (iZ i).toNatClampNeg = i.toNat := by omega
  refine va_astq (r := (RX4, TX4, 8)) hx hb hK hP hD hS q0 2 qk 4 (ha D) rfl (hv D) rfl (iZ_vpin h0 h1 (by omega)) hd (fun H1 locs1 hP1 hD1 hS1 => ?_)
  rw [e3] at hP1 hD1
  exact kk H1 locs1 ls hP1 hD1 hS1 hl
end GV
/-- a contract that may add a voice -/
def MA (y : MethodName) (cc : ByteArray) (mL : Nat) (rm : Room) (a : Nat → Nat) (n : Nat) (σ : ST) (av : List Value) (post : Int → ST → (Nat → Nat) → Nat → Prop) : Prop :=
  ∀ (l : Launch) (D : va_G) (sz : Nat), (∀ c j, inR (σ c j)) → Met l y (Cond.code y cc mL (some .int) :: lw_g) rm (PreW D a n σ sz av) (va_Qi (S := Int × ST × (Nat → Nat) × Nat) (fun r u => r = iZ u.1 ∧ post u.1 u.2.1 u.2.2.1 u.2.2.2) (fun u t => UW D u.2.2.1 u.2.2.2 (va_A (wS D a n σ) sz) u.2.1 t) (va_A (wS D a n σ) sz)) 5 168 (va_A (wS D a n σ) sz)
theorem MA.of {y : MethodName} {cc : ByteArray} {mL : Nat} {rm : Room} {a : Nat → Nat} {n : Nat} {σ : ST} {av : List Value} {own : String} {post : Int → ST → (Nat → Nat) → Nat → Prop} (hy : plainName y.cls = true) (hown : y.cls = own) (hL : (lg_sl av).length ≤ mL) (body : ∀ κ : KT, CX κ cc own mL rm → (∀ (a' : Nat → Nat) (n' : Nat) (σ' : ST) (L : List (Nat × Value)) (pc : Nat) (r : Int), decode cc pc = .ok (.ireturn, 1) → post r σ' a' n' → J κ 5 168 a' n' σ' L pc [iv r]) → J κ 0 0 a n σ (lv_args 0 av) 0 []) : MA y cc mL rm a n σ av post := by
  intro l D sz hR
  refine Met.ofW (cc := cc) (maxL := mL) (ret := some .int) hy rfl ?_
  intro p e s m args below meth c s₁ B hml hv
  obtain ⟨rfl, hsz, hP, hK, hD0, hN⟩ := hv
  subst hsz
  subst hown
  have hD := hD0.self (sz := s.heap.size)
  have key := body (p, l, e, rm, s, m, av.toArray, below, meth, c, mL, MQ below (va_Qi (S := Int × ST × (Nat → Nat) × Nat) (fun r u => r = iZ u.1 ∧ post u.1 u.2.1 u.2.2.1 u.2.2.2) (fun u t => UW D u.2.2.1 u.2.2.2 (va_A (wS D a n σ) s.heap.size) u.2.1 t) (va_A (wS D a n σ) s.heap.size)) av.toArray s 5 168 (va_A (wS D a n σ) s.heap.size), va_A (wS D a n σ) s.heap.size, D) ⟨B.exec, B.bytes, hml, findClass_of_methodNamed B.named, fun w hw => atoms_spec B.pre w (List.mem_cons_of_mem _ hw), hK, fun q h => Or.inr h, B.notSynchronized, rfl, rfl, hN⟩ (by
    intro a' n' σ' L pc r hdec hpost H locs ls hP' hD' hS' hR' hl'
    exact W.iret B.exec B.bytes B.returns (fun t ht hW => ⟨⟨iZ r, (r, σ', a', n'), rfl, ⟨rfl, hpost⟩, by rw [ht]; exact hP', hD', hR'⟩, hS'.F ht⟩) hS'.2.2 hdec B.notSynchronized)
  rw [lg_entry_eq]
  exact key s.heap [] _ hP hD va_S.rf hR (lv_entry av hL)
theorem r_callA {κ : KT} {cc : ByteArray} {own : String} {mL : Nat} {rm : Room} {k1 k2 : Nat} {a : Nat → Nat} {n : Nat} {σ : ST} {L : List (Nat × Value)} {pc : Nat} {rest As : List Value} {y : MethodName} {cc' : ByteArray} {mL' na idx ci : Nat} {rm' : Room} {post : Int → ST → (Nat → Nat) → Nat → Prop} {fs : List Value} {q : vw_C} (c0 : Nat) (C : CX κ cc own mL rm) (hd : decode cc pc = .ok (.invokevirtual idx, 3)) (LK : LKV own idx y cc' mL' (some .int) na) (hM : MA y cc' mL' rm' a n σ (.ref (a c0) :: As) post) (hroom : rm'.cells = 5 ∧ rm'.slots = 168 ∧ rm'.frames + 1 ≤ rm.frames ∧ 8 + (mL' + 11) + rm'.locals ≤ rm.locals) (hk : k1 + 5 ≤ rm.cells ∧ k2 + 168 ≤ rm.slots) (hc : c0 < 39 + 5 * n) (he : ∀ D, cF D a n c0 (σ c0) = .inr (ci, fs)) (hcl : vwCl[ci]? = some q) (hq : q.1 = y.cls) (hn : As.length = na) (hW : (rest.map fun v => v.category).sum ≤ 8) (kk : ∀ (r : Int) (σ' : ST) (a' : Nat → Nat) (n' : Nat), post r σ' a' n' → J κ (k1 + 5) (k2 + 168) a' n' σ' L (pc + 3) (iv r :: rest)) : J κ k1 k2 a n σ L pc (As.reverse ++ .ref (a c0) :: rest) := by
  obtain ⟨p, l, e, R, s, m, args, below, meth, c, nL, Q, A, D⟩ := κ
  obtain ⟨hx, hb, hml, hown, hts, hK, hA, hlk, hnL, hRm, hN⟩ := C
  obtain ⟨w1, w2, w3, w4, w5, w6⟩ := LK
  obtain ⟨g1, g2, g3, g4⟩ := hroom
  intro H locs ls hP hD hS hR hl
  subst hRm
  have h1 : (wS D a n σ)[c0]? = some (a c0, .inr (ci, fs)) := by rw [wS_at hc, he]
  have hF := wS_free hD hS hA
  have hrec := va_recv hK hP hcl h1
  rw [hq] at hrec
  refine va_calli (va_runV (As := As) (rest := rest) (C := y.cls) ⟨hx, hb, hml, hown, hts⟩ (hM l D H.size hR) ⟨callB_of na hts (tb_in w5) rfl g1 g2 (hts _ w4) (hts _ w1) w6 ⟨g3, g4⟩, hts _ w2, hts _ w3⟩ ⟨PreW_blind, hrec, fun U hU hW => ⟨rfl, by rw [hU], by rw [hU]; exact hP, va_K.moved hW.alike hK, hD.weaken (fun _ _ _ _ => trivial), hN.warm hW⟩⟩ rfl hn hl.1 rfl (lv_room hW) hd ⟨hk.1, hk.2⟩) hS (fun q _ h => hF q h) hF (fun r u t H1 locs1 ht hvm hw hB hz1 hk1 hS1 => ?_)
  obtain ⟨r', σ', a', n'⟩ := u
  obtain ⟨hw1, hw2⟩ := hw
  obtain ⟨hP1, hD1, hR1⟩ := hB
  rw [ht] at hP1
  rw [hw1]
  exact kk r' σ' a' n' hw2 H1 locs1 ls hP1 (hD1.weaken (fun _ q _ h => hF _ h)) hS1 hR1 hl
def VcP (a : Nat → Nat) (n : Nat) (σ : ST) (x y : Int) (r : Int) (σ' : ST) (a' : Nat → Nat) (n' : Nat) : Prop := (∀ k, k < 39 → a' k = a k) ∧ ((n < 6 ∧ r = n ∧ n' = n + 1 ∧ σ' = up2 (sV σ n x y) 1 4 (n + 1)) ∨ (n = 6 ∧ r = -1000004 ∧ n' = n ∧ σ' = σ))
set_option maxHeartbeats 4000000 in
set_option maxRecDepth 100000 in
theorem m_X2_addVoice {a : Nat → Nat} {n : Nat} {σ : ST} {x y : Int} (hx : inR x) (hy : inR y) (hn : σ 1 4 = n ∧ n ≤ 6) : MA yX2_addVoice cX2_addVoice 3 (RMv 2 34) a n σ [.ref (a 1), iv x, iv y] (VcP a n σ x y) := by
  refine MA.of (own := RX2) (by decide +kernel) rfl (Nat.le_of_ble_eq_true rfl) ?_
  intro κ C hret
  show J κ 0 0 a n σ [(0, .ref (a 1)), (1, iv x), (2, iv y)] 0 []
  refine r_aload_n C dX2_addVoice_0 0 rfl ?_
  refine gX2_28 C dX2_addVoice_1 (fun g1 => ?_)
  refine r_bipush C dX2_addVoice_4 (by decide) ?_
  refine r_icmp_lt (tgt := 12) C dX2_addVoice_6 (by decide) (by omega) (by omega) (fun h1 => ?_) (fun h1 => ?_)
  · refine r_aload_n C dX2_addVoice_12 0 rfl ?_
    refine gX2_20 C dX2_addVoice_13 ?_
    refine r_aload_n C dX2_addVoice_16 0 rfl ?_
    refine gX2_28 C dX2_addVoice_17 (fun g2 => ?_)
    refine r_G (fun hR => ?_)
    refine g_new (ci := 4) (fs := [iv 0, iv 0, .null, .null, iv 0, .null, .null, iv 0]) C dX2_addVoice_20 tw23 tw188 tw7 rfl inT4 tyX4_ok dfX4 (Nat.le_of_ble_eq_true rfl) (Nat.le_of_ble_eq_true rfl) (fun q => ?_)
    refine g_dup C dX2_addVoice_23 rfl ?_
    refine g_iload_n C dX2_addVoice_24 1 rfl ?_
    refine g_iload_n C dX2_addVoice_25 2 rfl ?_
    refine g_call (na := 2) (As := [iv x, iv y]) (rest := [.ref q, iv (σ 1 4), .ref (a 8)]) C (fun h => h.elim) dX2_addVoice_26 tw189 tw190 tw7 tw191 (by decide +kernel) rfl (m_X4_init) ⟨Nat.le_of_ble_eq_true rfl, Nat.le_of_ble_eq_true rfl⟩ ⟨Nat.le_of_ble_eq_true rfl, Nat.le_of_ble_eq_true rfl⟩ rfl (Nat.le_of_ble_eq_true rfl) (fun u => ?_)
    refine g_ast (q0 := 8) (qk := 39 + 5 * n) (f := fun j => if j < n then some (a (39 + 5 * j)) else none) C dX2_addVoice_29 (fun D => by rw [List.getElem?_append_left (by rw [wS_len]; omega), wS_at (by omega)]; rfl) (fun D => by rw [List.getElem?_append_right (by rw [wS_len]; omega), wS_len, Nat.sub_self]; rfl) (by omega) (by omega) ?_
    refine g_J (a := aV a n q u) (n := n + 1) (σ := sV σ n x y) (fun D => by rw [show (σ 1 4).toNat = n by omega]; exact wS_voice) (sV_in hR hx hy) ?_
    have e8 : (a 1) = aV a n q u 1 := (aV_lt (by omega)).symm
    rw [e8]
    have e4 : sV σ n x y 1 4 = n := by rw [sV_lt (by omega)]; exact hn.1
    refine r_aload_n C dX2_addVoice_30 0 rfl ?_
    refine r_dup C dX2_addVoice_31 rfl ?_
    refine gX2_28 C dX2_addVoice_32 (fun g3 => ?_)
    refine r_iconst C dX2_addVoice_35 ?_
    refine r_iadd C dX2_addVoice_36 ?_
    refine r_topv ((n : Int) + 1) (by omega) ?_
    refine pX2_28 C dX2_addVoice_37 (by omega) ?_
    refine r_aload_n C dX2_addVoice_40 0 rfl ?_
    refine gX2_28 C dX2_addVoice_41 (fun g4 => ?_)
    rw [up2_self]
    refine r_iconst C dX2_addVoice_44 ?_
    refine r_isub C dX2_addVoice_45 ?_
    refine r_topv (n : Int) (by omega) ?_
    exact hret _ _ _ _ _ _ dX2_addVoice_46 ⟨fun k hk => aV_lt (by omega), Or.inl ⟨by omega, rfl, rfl, rfl⟩⟩
  · refine r_ldc (-1000004) C dX2_addVoice_9 tw179 (by decide +kernel) ?_
    exact r_widen 5 168 (by decide) (by decide) (hret _ _ _ _ _ _ dX2_addVoice_11 ⟨fun k hk => rfl, Or.inr ⟨by omega, rfl, rfl, rfl⟩⟩)
def vOk (x y : Int) : Prop := (x = 2 ∧ -11 ≤ y ∧ y ≤ 11) ∨ ((x = 0 ∨ x = 1) ∧ y = 0)
def VoP (a : Nat → Nat) (n : Nat) (σ : ST) (x y : Int) (r : Int) (σ' : ST) (a' : Nat → Nat) (n' : Nat) : Prop := (∀ k, k < 39 → a' k = a k) ∧ ((vOk x y ∧ n < 6 ∧ r = n ∧ n' = n + 1 ∧ σ' = up2 (sV σ n x y) 1 4 (n + 1)) ∨ (vOk x y ∧ n = 6 ∧ r = -1000004 ∧ n' = n ∧ σ' = fd σ 5 4) ∨ (¬ vOk x y ∧ r = -1000001 ∧ n' = n ∧ σ' = fd σ 5 1))
set_option maxHeartbeats 4000000 in
set_option maxRecDepth 100000 in
theorem m_X5_voice {a : Nat → Nat} {n : Nat} {σ : ST} (hC : CS σ n) {x y : Int} (hx : inR x) (hy : inR y) : MA yX5_voice cX5_voice 4 (RMv 3 56) a n σ [.ref (a 0), iv x, iv y] (VoP a n σ x y) := by
  refine MA.of (own := RX5) (by decide +kernel) rfl (Nat.le_of_ble_eq_true rfl) ?_
  intro κ C hret
  show J κ 0 0 a n σ [(0, .ref (a 0)), (1, iv x), (2, iv y)] 0 []
  obtain ⟨hb, hn1, hwt, hky, hdu, hwd, hli, hne, hF, hse, hk, hvs⟩ := id hC
  have bad : ∀ L : List (Nat × Value), L[1]? = some (0, .ref (a 0)) → ¬ vOk x y → J κ 0 0 a n σ L 31 [] := by
    intro L hL hv
    refine r_aload_n C dX5_voice_31 1 hL ?_
    refine r_ldc (-1000001) C dX5_voice_32 tw168 (by decide +kernel) ?_
    refine r_callI1 0 C dX5_voice_34 lkX5_66 (m_X5_answer (by omega) hF) ⟨rfl, rfl, Nat.le_of_ble_eq_true rfl, Nat.le_of_ble_eq_true rfl⟩ ⟨Nat.zero_le _, Nat.zero_le _⟩ rc0 (Nat.le_of_ble_eq_true rfl) (fun ra s9 hra => ?_)
    obtain ⟨era, hra⟩ := hra
    subst era
    exact r_widen 5 168 (by decide) (by decide) (hret _ _ _ _ _ _ dX5_voice_37 ⟨fun k hk => rfl, Or.inr (Or.inr ⟨hv, rfl, rfl, by rw [hra, ans1]⟩)⟩)
  have go : ∀ z : Int, (x = 2 → z = 11) → (x ≠ 2 → z = 0) → J κ 0 0 a n σ [(3, iv z), (0, .ref (a 0)), (1, iv x), (2, iv y)] 12 [] := by
    intro z z1 z2
    have hz : z = 0 ∨ z = 11 := by by_cases h : x = 2; exact Or.inr (z1 h); exact Or.inl (z2 h)
    refine r_iload_n C dX5_voice_12 2 rfl ?_
    refine r_iconst C dX5_voice_13 ?_
    refine r_iconst C dX5_voice_14 ?_
    refine r_callSB3 C dX5_voice_15 lkX5_61 (m_X5_within (by omega) (by omega) (by omega)) ⟨rfl, rfl, Nat.le_of_ble_eq_true rfl, Nat.le_of_ble_eq_true rfl⟩ ⟨Nat.zero_le _, Nat.zero_le _⟩ (Nat.le_of_ble_eq_true rfl) (fun h1 => ?_) (fun h1 => ?_)
    · refine r_if_eq (tgt := 31) C dX5_voice_18 (by decide) (by decide) (fun q => absurd q (by decide)) (fun _ => ?_)
      refine r_iload_n C dX5_voice_21 3 rfl ?_
      refine r_iload_n C dX5_voice_22 0 rfl ?_
      refine r_ineg C dX5_voice_23 ?_
      refine r_iload_n C dX5_voice_24 0 rfl ?_
      refine r_callSB3 C dX5_voice_25 lkX5_61 (m_X5_within (by omega) (by omega) (by omega)) ⟨rfl, rfl, Nat.le_of_ble_eq_true rfl, Nat.le_of_ble_eq_true rfl⟩ ⟨Nat.zero_le _, Nat.zero_le _⟩ (Nat.le_of_ble_eq_true rfl) (fun h2 => ?_) (fun h2 => ?_)
      · refine r_if_ne (tgt := 38) C dX5_voice_28 (by decide) (by decide) (fun _ => ?_) (fun q => absurd q (by decide))
        have hv : vOk x y := by unfold vOk; omega
        refine r_aload_n C dX5_voice_38 1 rfl ?_
        refine r_aload_n C dX5_voice_39 1 rfl ?_
        refine gX5_12 C dX5_voice_40 ?_
        refine r_iload_n C dX5_voice_43 2 rfl ?_
        refine r_iload_n C dX5_voice_44 3 rfl ?_
        refine r_callA (As := [iv x, iv y]) (rest := [.ref (a 0)]) 1 C dX5_voice_45 lkX5_73 (m_X2_addVoice hx hy hn1) ⟨rfl, rfl, Nat.le_of_ble_eq_true rfl, Nat.le_of_ble_eq_true rfl⟩ ⟨Nat.le_of_ble_eq_true rfl, Nat.le_of_ble_eq_true rfl⟩ (by omega) (fun _ => rfl) rfl rfl rfl (Nat.le_of_ble_eq_true rfl) (fun r σ' a' n' hp => ?_)
        obtain ⟨hp0, hp⟩ := hp
        rw [← hp0 0 (by omega)]
        have hF' : F5 σ' := by
          rcases hp with ⟨q1, q2, q3, q4⟩ | ⟨q1, q2, q3, q4⟩
          · rw [q4]; refine F5.up (fun j => ?_) (by omega); rw [sV_lt (by omega)]; exact hF j
          · rw [q4]; exact hF
        refine r_callI1 0 C dX5_voice_48 lkX5_66 (m_X5_answer (by omega) hF') ⟨rfl, rfl, Nat.le_of_ble_eq_true rfl, Nat.le_of_ble_eq_true rfl⟩ ⟨Nat.le_of_ble_eq_true rfl, Nat.le_of_ble_eq_true rfl⟩ rc0 (Nat.le_of_ble_eq_true rfl) (fun ra s9 hra => ?_)
        obtain ⟨era, hra⟩ := hra
        subst era
        refine hret _ _ _ _ _ _ dX5_voice_51 ⟨hp0, ?_⟩
        rcases hp with ⟨q1, q2, q3, q4⟩ | ⟨q1, q2, q3, q4⟩
        · exact Or.inl ⟨hv, q1, q2, q3, by rw [hra, ans_n (by omega), q4]⟩
        · exact Or.inr (Or.inl ⟨hv, q1, q2, q3, by rw [hra, q2, ans4, q4]⟩)
      · refine r_if_ne (tgt := 38) C dX5_voice_28 (by decide) (by decide) (fun q => absurd q (by decide)) (fun _ => ?_)
        exact bad _ rfl (by unfold vOk; omega)
    · refine r_if_eq (tgt := 31) C dX5_voice_18 (by decide) (by decide) (fun _ => ?_) (fun q => absurd q (by decide))
      exact bad _ rfl (by unfold vOk; omega)
  refine r_iload_n C dX5_voice_0 1 rfl ?_
  refine r_iconst C dX5_voice_1 ?_
  refine r_icmp_ne (tgt := 10) C dX5_voice_2 (by decide) (by omega) (by omega) (fun h1 => ?_) (fun h1 => ?_)
  · refine r_iconst C dX5_voice_10 ?_
    refine r_istore_n C dX5_voice_11 (by decide) (fun z_ => [(3, iv z_), (0, .ref (a 0)), (1, iv x), (2, iv y)]) (fun _ => rfl) (fun z ez => ?_)
    exact go z (fun h => absurd h h1) (fun _ => ez)
  · refine r_bipush C dX5_voice_5 (by decide) ?_
    refine r_goto (tgt := 11) C dX5_voice_7 (by decide) ?_
    refine r_istore_n C dX5_voice_11 (by decide) (fun z_ => [(3, iv z_), (0, .ref (a 0)), (1, iv x), (2, iv y)]) (fun _ => rfl) (fun z ez => ?_)
    exact go z (fun _ => ez) (fun h => absurd (by omega) h)
