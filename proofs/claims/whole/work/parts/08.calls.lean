def PreW (D : va_G) (a : Nat → Nat) (n : Nat) (σ : ST) (sz : Nat) (av : List Value) : Array Value → State → Prop := va_Pc av (fun U => U.heap.size = sz ∧ va_P D vwCl (wS D a n σ) U.heap ∧ va_K D vwCl (tysD D) U ∧ va_D (fun _ => True) (wS D a n σ) ∧ NW U)
def UW (D : va_G) (a : Nat → Nat) (n : Nat) (A : Nat → Prop) (σ : ST) (t : State) : Prop := va_P D vwCl (wS D a n σ) t.heap ∧ va_D A (wS D a n σ) ∧ ∀ c j, inR (σ c j)
/-- a method's contract: it answers an int -/
def MI (y : MethodName) (cc : ByteArray) (mL : Nat) (ret : FieldType) (rm : Room) (a : Nat → Nat) (n : Nat) (σ : ST) (av : List Value) (post : Int → ST → Prop) : Prop :=
  ∀ (l : Launch) (D : va_G) (sz : Nat), (∀ c j, inR (σ c j)) → Met l y (Cond.code y cc mL (some ret) :: lw_g) rm (PreW D a n σ sz av) (va_Qi (S := Int × ST) (fun r u => r = iZ u.1 ∧ post u.1 u.2) (fun u t => UW D a n (va_A (wS D a n σ) sz) u.2 t) (va_A (wS D a n σ) sz)) 0 0 (va_A (wS D a n σ) sz)
/-- it answers nothing -/
def MV (y : MethodName) (cc : ByteArray) (mL : Nat) (rm : Room) (a : Nat → Nat) (n : Nat) (σ : ST) (av : List Value) (post : ST → Prop) : Prop :=
  ∀ (l : Launch) (D : va_G) (sz : Nat), (∀ c j, inR (σ c j)) → Met l y (Cond.code y cc mL none :: lw_g) rm (PreW D a n σ sz av) (va_Qv (S := ST) (fun u => post u) (fun u t => UW D a n (va_A (wS D a n σ) sz) u t) (va_A (wS D a n σ) sz)) 0 0 (va_A (wS D a n σ) sz)
/-- it answers a voice or null, and changes nothing -/
def MO (y : MethodName) (cc : ByteArray) (mL : Nat) (ret : FieldType) (rm : Room) (a : Nat → Nat) (n : Nat) (σ : ST) (av : List Value) (post : Option Nat → Prop) : Prop :=
  ∀ (l : Launch) (D : va_G) (sz : Nat), (∀ c j, inR (σ c j)) → Met l y (Cond.code y cc mL (some ret) :: lw_g) rm (PreW D a n σ sz av) (va_Qq (S := Unit) (fun r _ => post r) (fun _ t => UW D a n (va_A (wS D a n σ) sz) σ t) (va_A (wS D a n σ) sz)) 0 0 (va_A (wS D a n σ) sz)
section ENT
variable {y : MethodName} {cc : ByteArray} {mL : Nat} {rm : Room} {a : Nat → Nat} {n : Nat} {σ : ST} {av : List Value} {own : String}
theorem MI.of {post : Int → ST → Prop} (hy : plainName y.cls = true) (hown : y.cls = own) (hL : (lg_sl av).length ≤ mL) (body : ∀ κ : KT, CX κ cc own mL rm → (∀ (σ' : ST) (L : List (Nat × Value)) (pc : Nat) (r : Int), decode cc pc = .ok (.ireturn, 1) → post r σ' → J κ 0 0 a n σ' L pc [iv r]) → J κ 0 0 a n σ (lv_args 0 av) 0 []) : MI y cc mL .int rm a n σ av post := by
  intro l D sz hR
  refine Met.ofW (cc := cc) (maxL := mL) (ret := some .int) hy rfl ?_
  intro p e s m args below meth c s₁ B hml hv
  obtain ⟨rfl, hsz, hP, hK, hD0, hN⟩ := hv
  subst hsz
  subst hown
  have hD := hD0.self (sz := s.heap.size)
  have key := body (p, l, e, rm, s, m, av.toArray, below, meth, c, mL, MQ below (va_Qi (S := Int × ST) (fun r u => r = iZ u.1 ∧ post u.1 u.2) (fun u t => UW D a n (va_A (wS D a n σ) s.heap.size) u.2 t) (va_A (wS D a n σ) s.heap.size)) av.toArray s 0 0 (va_A (wS D a n σ) s.heap.size), va_A (wS D a n σ) s.heap.size, D) ⟨B.exec, B.bytes, hml, findClass_of_methodNamed B.named, fun w hw => atoms_spec B.pre w (List.mem_cons_of_mem _ hw), hK, fun q h => Or.inr h, B.notSynchronized, rfl, rfl, hN⟩ (by
    intro σ' L pc r hdec hpost H locs ls hP' hD' hS' hR' hl'
    exact W.iret B.exec B.bytes B.returns (fun t ht hW => ⟨⟨iZ r, (r, σ'), rfl, ⟨rfl, hpost⟩, by rw [ht]; exact hP', hD', hR'⟩, hS'.F ht⟩) hS'.2.2 hdec B.notSynchronized)
  rw [lg_entry_eq]
  exact key s.heap [] _ hP hD va_S.rf hR (lv_entry av hL)
theorem nar_b {r : Int} (h : r = 0 ∨ r = 1) : narrow .boolean (iv r) = iv r := by
  rcases h with rfl | rfl <;> decide +kernel
theorem MI.ofB {post : Int → ST → Prop} (hy : plainName y.cls = true) (hown : y.cls = own) (hL : (lg_sl av).length ≤ mL) (body : ∀ κ : KT, CX κ cc own mL rm → (∀ (σ' : ST) (L : List (Nat × Value)) (pc : Nat) (r : Int), decode cc pc = .ok (.ireturn, 1) → (r = 0 ∨ r = 1) → post r σ' → J κ 0 0 a n σ' L pc [iv r]) → J κ 0 0 a n σ (lv_args 0 av) 0 []) : MI y cc mL .boolean rm a n σ av post := by
  intro l D sz hR
  refine Met.ofW (cc := cc) (maxL := mL) (ret := some .boolean) hy rfl ?_
  intro p e s m args below meth c s₁ B hml hv
  obtain ⟨rfl, hsz, hP, hK, hD0, hN⟩ := hv
  subst hsz
  subst hown
  have hD := hD0.self (sz := s.heap.size)
  have key := body (p, l, e, rm, s, m, av.toArray, below, meth, c, mL, MQ below (va_Qi (S := Int × ST) (fun r u => r = iZ u.1 ∧ post u.1 u.2) (fun u t => UW D a n (va_A (wS D a n σ) s.heap.size) u.2 t) (va_A (wS D a n σ) s.heap.size)) av.toArray s 0 0 (va_A (wS D a n σ) s.heap.size), va_A (wS D a n σ) s.heap.size, D) ⟨B.exec, B.bytes, hml, findClass_of_methodNamed B.named, fun w hw => atoms_spec B.pre w (List.mem_cons_of_mem _ hw), hK, fun q h => Or.inr h, B.notSynchronized, rfl, rfl, hN⟩ (by
    intro σ' L pc r hdec hr hpost H locs ls hP' hD' hS' hR' hl'
    exact W.zret B.exec B.bytes B.returns (nar_b hr) (fun t ht hW => ⟨⟨iZ r, (r, σ'), rfl, ⟨rfl, hpost⟩, by rw [ht]; exact hP', hD', hR'⟩, hS'.F ht⟩) hS'.2.2 hdec B.notSynchronized)
  rw [lg_entry_eq]
  exact key s.heap [] _ hP hD va_S.rf hR (lv_entry av hL)
theorem MV.of {post : ST → Prop} (hy : plainName y.cls = true) (hown : y.cls = own) (hL : (lg_sl av).length ≤ mL) (body : ∀ κ : KT, CX κ cc own mL rm → (∀ (σ' : ST) (L : List (Nat × Value)) (pc : Nat), decode cc pc = .ok (.return_, 1) → post σ' → J κ 0 0 a n σ' L pc []) → J κ 0 0 a n σ (lv_args 0 av) 0 []) : MV y cc mL rm a n σ av post := by
  intro l D sz hR
  refine Met.ofW (cc := cc) (maxL := mL) (ret := none) hy rfl ?_
  intro p e s m args below meth c s₁ B hml hv
  obtain ⟨rfl, hsz, hP, hK, hD0, hN⟩ := hv
  subst hsz
  subst hown
  have hD := hD0.self (sz := s.heap.size)
  have key := body (p, l, e, rm, s, m, av.toArray, below, meth, c, mL, MQ below (va_Qv (S := ST) (fun u => post u) (fun u t => UW D a n (va_A (wS D a n σ) s.heap.size) u t) (va_A (wS D a n σ) s.heap.size)) av.toArray s 0 0 (va_A (wS D a n σ) s.heap.size), va_A (wS D a n σ) s.heap.size, D) ⟨B.exec, B.bytes, hml, findClass_of_methodNamed B.named, fun w hw => atoms_spec B.pre w (List.mem_cons_of_mem _ hw), hK, fun q h => Or.inr h, B.notSynchronized, rfl, rfl, hN⟩ (by
    intro σ' L pc hdec hpost H locs ls hP' hD' hS' hR' hl'
    exact W.vret B.exec B.bytes B.returns (fun t ht hW => ⟨⟨σ', rfl, hpost, by rw [ht]; exact hP', hD', hR'⟩, hS'.F ht⟩) hS'.2.2 hdec B.notSynchronized)
  rw [lg_entry_eq]
  exact key s.heap [] _ hP hD va_S.rf hR (lv_entry av hL)
theorem MO.of {post : Option Nat → Prop} {nm : String} (hy : plainName y.cls = true) (hown : y.cls = own) (hL : (lg_sl av).length ≤ mL) (body : ∀ κ : KT, CX κ cc own mL rm → (∀ (L : List (Nat × Value)) (pc : Nat) (r : Option Nat), decode cc pc = .ok (.areturn, 1) → post r → J κ 0 0 a n σ L pc [va_rf r]) → J κ 0 0 a n σ (lv_args 0 av) 0 []) : MO y cc mL (.object nm) rm a n σ av post := by
  intro l D sz hR
  refine Met.ofW (cc := cc) (maxL := mL) (ret := some (.object nm)) hy rfl ?_
  intro p e s m args below meth c s₁ B hml hv
  obtain ⟨rfl, hsz, hP, hK, hD0, hN⟩ := hv
  subst hsz
  subst hown
  have hD := hD0.self (sz := s.heap.size)
  have key := body (p, l, e, rm, s, m, av.toArray, below, meth, c, mL, MQ below (va_Qq (S := Unit) (fun r _ => post r) (fun _ t => UW D a n (va_A (wS D a n σ) s.heap.size) σ t) (va_A (wS D a n σ) s.heap.size)) av.toArray s 0 0 (va_A (wS D a n σ) s.heap.size), va_A (wS D a n σ) s.heap.size, D) ⟨B.exec, B.bytes, hml, findClass_of_methodNamed B.named, fun w hw => atoms_spec B.pre w (List.mem_cons_of_mem _ hw), hK, fun q h => Or.inr h, B.notSynchronized, rfl, rfl, hN⟩ (by
    intro L pc r hdec hpost H locs ls hP' hD' hS' hR' hl'
    exact W.aret (v := va_rf r) B.exec B.bytes B.returns (Or.inl ⟨_, rfl⟩) (va_rf_or r) (fun t ht hW => ⟨⟨r, (), rfl, hpost, by rw [ht]; exact hP', hD', hR'⟩, hS'.F ht⟩) hS'.2.2 hdec B.notSynchronized)
  rw [lg_entry_eq]
  exact key s.heap [] _ hP hD va_S.rf hR (lv_entry av hL)
end ENT
def LKV (own : String) (idx : Nat) (y : MethodName) (cc : ByteArray) (mL : Nat) (ret : Option FieldType) (na : Nat) : Prop :=
  Cond.methodLink own idx y ∈ lw_g ∧ Cond.instanceMethod y ∈ lw_g ∧ Cond.selects y.cls y y ∈ lw_g ∧ Cond.initialized y.cls ∈ lw_g ∧ Cond.code y cc mL ret ∈ lw_g ∧ (y.cls ≠ "java/lang/invoke/MethodHandle" ∧ y.cls ≠ "java/lang/invoke/VarHandle" ∧ (parseMethodDescriptor y.desc).map (fun d => d.parameters.length) = some na)
def LKS (own : String) (idx : Nat) (y : MethodName) (cc : ByteArray) (mL : Nat) (ret : Option FieldType) (na : Nat) : Prop :=
  Cond.methodLink own idx y ∈ lw_g ∧ Cond.static y ∈ lw_g ∧ Cond.initialized y.cls ∈ lw_g ∧ Cond.code y cc mL ret ∈ lw_g ∧ (y.cls ≠ "java/lang/invoke/MethodHandle" ∧ y.cls ≠ "java/lang/invoke/VarHandle" ∧ (parseMethodDescriptor y.desc).map (fun d => d.parameters.length) = some na)
abbrev RM (f q : Nat) : Room := { frames := f, cells := 0, slots := 0, locals := q }
def fitRoom (rm' rm : Room) (mL' : Nat) : Prop := rm'.cells = 0 ∧ rm'.slots = 0 ∧ rm'.frames + 1 ≤ rm.frames ∧ 8 + (mL' + 11) + rm'.locals ≤ rm.locals
theorem PreW_blind {D : va_G} {a : Nat → Nat} {n : Nat} {σ : ST} {sz : Nat} {av : List Value} : FrameBlind (PreW D a n σ sz av) := by
  intro v U g mk q
  obtain ⟨q0, q1, qP, qK, qD, qN⟩ := q
  exact ⟨q0, q1, qP, va_K.moved (u := U) (U := U.calling g mk v) (Vm.Alike.refl U.vm) qK, qD, qN.same rfl⟩
theorem wS_free {D : va_G} {a : Nat → Nat} {n : Nat} {σ : ST} {A : Nat → Prop} {H0 H : Heap} {locs : List Loc} (hD : va_D A (wS D a n σ)) (hS : va_S A H0 H locs) (hA : ∀ q : Nat, H0.size ≤ q → A q) : ∀ q, va_A (wS D a n σ) H.size q → A q := by
  intro q h
  rcases h with ⟨k, e, h⟩ | h
  · exact hD.2 k (q, e) h
  · exact hA q (Nat.le_trans hS.1 h)
section CL
variable {κ : KT} {cc : ByteArray} {own : String} {mL : Nat} {rm : Room} {k1 k2 : Nat} {a : Nat → Nat} {n : Nat} {σ : ST} {L : List (Nat × Value)} {pc : Nat} {rest As : List Value}
theorem r_callI {y : MethodName} {cc' : ByteArray} {mL' na idx ci : Nat} {ret : FieldType} {rm' : Room} {post : Int → ST → Prop} {fs : List Value} {q : vw_C} (c0 : Nat) (C : CX κ cc own mL rm) (hd : decode cc pc = .ok (.invokevirtual idx, 3)) (LK : LKV own idx y cc' mL' (some ret) na) (hM : MI y cc' mL' ret rm' a n σ (.ref (a c0) :: As) post) (hroom : fitRoom rm' rm mL') (hk : k1 ≤ rm.cells ∧ k2 ≤ rm.slots) (hc : c0 < 39 + 5 * n) (he : ∀ D, cF D a n c0 (σ c0) = .inr (ci, fs)) (hcl : vwCl[ci]? = some q) (hq : q.1 = y.cls) (hn : As.length = na) (hW : (rest.map fun v => v.category).sum ≤ 8) (kk : ∀ (r : Int) (σ' : ST), post r σ' → J κ k1 k2 a n σ' L (pc + 3) (iv r :: rest)) : J κ k1 k2 a n σ L pc (As.reverse ++ .ref (a c0) :: rest) := by
  obtain ⟨p, l, e, R, s, m, args, below, meth, c, nL, Q, A, D⟩ := κ
  obtain ⟨hx, hb, hml, hown, hts, hK, hA, hlk, hnL, hRm, hN⟩ := C
  obtain ⟨w1, w2, w3, w4, w5, w6⟩ := LK
  obtain ⟨g1, g2, g3, g4⟩ := hroom
  intro H locs ls hP hD hS hR hl
  subst hRm
  have h1 : (wS D a n σ)[c0]? = some (a c0, .inr (ci, fs)) := by rw [wS_at hc, he]
  have hF := wS_free hD hS hA
  have hrec := va_recv hK hP hcl h1
  rw [hq] at hrec
  refine va_calli (va_runV (As := As) (rest := rest) (C := y.cls) ⟨hx, hb, hml, hown, hts⟩ (hM l D H.size hR) ⟨callB_of na hts (tb_in w5) rfl g1 g2 (hts _ w4) (hts _ w1) w6 ⟨g3, g4⟩, hts _ w2, hts _ w3⟩ ⟨PreW_blind, hrec, fun U hU hW => ⟨rfl, by rw [hU], by rw [hU]; exact hP, va_K.moved hW.alike hK, hD.weaken (fun _ _ _ _ => trivial), hN.warm hW⟩⟩ rfl hn hl.1 rfl (lv_room hW) hd ⟨hk.1, hk.2⟩) hS (fun q _ h => hF q h) hF (fun r u t H1 locs1 ht hvm hw hB hz1 hk1 hS1 => ?_)
  obtain ⟨r', σ'⟩ := u
  obtain ⟨hw1, hw2⟩ := hw
  obtain ⟨hP1, hD1, hR1⟩ := hB
  rw [ht] at hP1
  rw [hw1]
  exact kk r' σ' hw2 H1 locs1 ls hP1 (hD1.weaken (fun _ q _ h => hF _ h)) hS1 hR1 hl
theorem r_callV {y : MethodName} {cc' : ByteArray} {mL' na idx ci : Nat} {rm' : Room} {post : ST → Prop} {fs : List Value} {q : vw_C} (c0 : Nat) (C : CX κ cc own mL rm) (hd : decode cc pc = .ok (.invokevirtual idx, 3)) (LK : LKV own idx y cc' mL' none na) (hM : MV y cc' mL' rm' a n σ (.ref (a c0) :: As) post) (hroom : fitRoom rm' rm mL') (hk : k1 ≤ rm.cells ∧ k2 ≤ rm.slots) (hc : c0 < 39 + 5 * n) (he : ∀ D, cF D a n c0 (σ c0) = .inr (ci, fs)) (hcl : vwCl[ci]? = some q) (hq : q.1 = y.cls) (hn : As.length = na) (hW : (rest.map fun v => v.category).sum ≤ 8) (kk : ∀ (σ' : ST), post σ' → J κ k1 k2 a n σ' L (pc + 3) rest) : J κ k1 k2 a n σ L pc (As.reverse ++ .ref (a c0) :: rest) := by
  obtain ⟨p, l, e, R, s, m, args, below, meth, c, nL, Q, A, D⟩ := κ
  obtain ⟨hx, hb, hml, hown, hts, hK, hA, hlk, hnL, hRm, hN⟩ := C
  obtain ⟨w1, w2, w3, w4, w5, w6⟩ := LK
  obtain ⟨g1, g2, g3, g4⟩ := hroom
  intro H locs ls hP hD hS hR hl
  subst hRm
  have h1 : (wS D a n σ)[c0]? = some (a c0, .inr (ci, fs)) := by rw [wS_at hc, he]
  have hF := wS_free hD hS hA
  have hrec := va_recv hK hP hcl h1
  rw [hq] at hrec
  refine va_callv (va_runV (As := As) (rest := rest) (C := y.cls) ⟨hx, hb, hml, hown, hts⟩ (hM l D H.size hR) ⟨callB_of na hts (tb_in w5) rfl g1 g2 (hts _ w4) (hts _ w1) w6 ⟨g3, g4⟩, hts _ w2, hts _ w3⟩ ⟨PreW_blind, hrec, fun U hU hW => ⟨rfl, by rw [hU], by rw [hU]; exact hP, va_K.moved hW.alike hK, hD.weaken (fun _ _ _ _ => trivial), hN.warm hW⟩⟩ rfl hn hl.1 rfl (lv_room hW) hd ⟨hk.1, hk.2⟩) hS (fun q _ h => hF q h) hF (fun u t H1 locs1 ht hvm hw hB hz1 hk1 hS1 => ?_)
  obtain ⟨hP1, hD1, hR1⟩ := hB
  rw [ht] at hP1
  exact kk u hw H1 locs1 ls hP1 (hD1.weaken (fun _ q _ h => hF _ h)) hS1 hR1 hl
theorem r_callO {y : MethodName} {cc' : ByteArray} {mL' na idx ci : Nat} {ret : FieldType} {rm' : Room} {post : Option Nat → Prop} {fs : List Value} {q : vw_C} (c0 : Nat) (C : CX κ cc own mL rm) (hd : decode cc pc = .ok (.invokevirtual idx, 3)) (LK : LKV own idx y cc' mL' (some ret) na) (hM : MO y cc' mL' ret rm' a n σ (.ref (a c0) :: As) post) (hroom : fitRoom rm' rm mL') (hk : k1 ≤ rm.cells ∧ k2 ≤ rm.slots) (hc : c0 < 39 + 5 * n) (he : ∀ D, cF D a n c0 (σ c0) = .inr (ci, fs)) (hcl : vwCl[ci]? = some q) (hq : q.1 = y.cls) (hn : As.length = na) (hW : (rest.map fun v => v.category).sum ≤ 8) (kk : ∀ (r : Option Nat), post r → J κ k1 k2 a n σ L (pc + 3) (va_rf r :: rest)) : J κ k1 k2 a n σ L pc (As.reverse ++ .ref (a c0) :: rest) := by
  obtain ⟨p, l, e, R, s, m, args, below, meth, c, nL, Q, A, D⟩ := κ
  obtain ⟨hx, hb, hml, hown, hts, hK, hA, hlk, hnL, hRm, hN⟩ := C
  obtain ⟨w1, w2, w3, w4, w5, w6⟩ := LK
  obtain ⟨g1, g2, g3, g4⟩ := hroom
  intro H locs ls hP hD hS hR hl
  subst hRm
  have h1 : (wS D a n σ)[c0]? = some (a c0, .inr (ci, fs)) := by rw [wS_at hc, he]
  have hF := wS_free hD hS hA
  have hrec := va_recv hK hP hcl h1
  rw [hq] at hrec
  refine va_callq (va_runV (As := As) (rest := rest) (C := y.cls) ⟨hx, hb, hml, hown, hts⟩ (hM l D H.size hR) ⟨callB_of na hts (tb_in w5) rfl g1 g2 (hts _ w4) (hts _ w1) w6 ⟨g3, g4⟩, hts _ w2, hts _ w3⟩ ⟨PreW_blind, hrec, fun U hU hW => ⟨rfl, by rw [hU], by rw [hU]; exact hP, va_K.moved hW.alike hK, hD.weaken (fun _ _ _ _ => trivial), hN.warm hW⟩⟩ rfl hn hl.1 rfl (lv_room hW) hd ⟨hk.1, hk.2⟩) hS (fun q _ h => hF q h) hF (fun r u t H1 locs1 ht hvm hw hB hz1 hk1 hS1 => ?_)
  obtain ⟨hP1, hD1, hR1⟩ := hB
  rw [ht] at hP1
  exact kk r hw H1 locs1 ls hP1 (hD1.weaken (fun _ q _ h => hF _ h)) hS1 hR1 hl
theorem r_callS {y : MethodName} {cc' : ByteArray} {mL' na idx : Nat} {ret : FieldType} {rm' : Room} {post : Int → ST → Prop} (C : CX κ cc own mL rm) (hd : decode cc pc = .ok (.invokestatic idx, 3)) (LK : LKS own idx y cc' mL' (some ret) na) (hM : MI y cc' mL' ret rm' a n σ As post) (hroom : fitRoom rm' rm mL') (hk : k1 ≤ rm.cells ∧ k2 ≤ rm.slots) (hn : As.length = na) (hW : (rest.map fun v => v.category).sum ≤ 8) (kk : ∀ (r : Int) (σ' : ST), post r σ' → J κ k1 k2 a n σ' L (pc + 3) (iv r :: rest)) : J κ k1 k2 a n σ L pc (As.reverse ++ rest) := by
  obtain ⟨p, l, e, R, s, m, args, below, meth, c, nL, Q, A, D⟩ := κ
  obtain ⟨hx, hb, hml, hown, hts, hK, hA, hlk, hnL, hRm, hN⟩ := C
  obtain ⟨w1, w2, w4, w5, w6⟩ := LK
  obtain ⟨g1, g2, g3, g4⟩ := hroom
  intro H locs ls hP hD hS hR hl
  subst hRm
  have hF := wS_free hD hS hA
  refine va_calli (va_runS (As := As) (rest := rest) ⟨hx, hb, hml, hown, hts⟩ (hM l D H.size hR) ⟨callB_of na hts (tb_in w5) rfl g1 g2 (hts _ w4) (hts _ w1) w6 ⟨g3, g4⟩, hts _ w2⟩ ⟨PreW_blind, fun U hU hW => ⟨rfl, by rw [hU], by rw [hU]; exact hP, va_K.moved hW.alike hK, hD.weaken (fun _ _ _ _ => trivial), hN.warm hW⟩⟩ rfl hn hl.1 rfl (lv_room hW) hd ⟨hk.1, hk.2⟩) hS (fun q _ h => hF q h) hF (fun r u t H1 locs1 ht hvm hw hB hz1 hk1 hS1 => ?_)
  obtain ⟨r', σ'⟩ := u
  obtain ⟨hw1, hw2⟩ := hw
  obtain ⟨hP1, hD1, hR1⟩ := hB
  rw [ht] at hP1
  rw [hw1]
  exact kk r' σ' hw2 H1 locs1 ls hP1 (hD1.weaken (fun _ q _ h => hF _ h)) hS1 hR1 hl
end CL
