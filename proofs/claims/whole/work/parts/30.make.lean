/-! making: a judgement over any world -/
def aE (D : va_G) (k len : Nat) : va_E := if k = 9 then .inl (D.1 9, len, .inr (.inr (.inr (.inr (fun _ => none))))) else .inl (D.1 k, len, .inl (fun _ => iZ 0))
def G (κ : KT) (k1 k2 : Nat) (ws : va_G → va_W) (L : List (Nat × Value)) (pc : Nat) (st : List Value) : Prop := match κ with
  | (p, l, e, R, s, m, args, below, meth, c, nL, Q, A, D) => ∀ (H : Heap) (locs : List Loc) (ls : Array Slot), va_P D vwCl (ws D) H → va_D A (ws D) → va_S A s.heap H locs → lv_has ls nL L → W p l e R s m args below meth c H locs k1 k2 Q (F0 m pc ls st)
def CG (κ : KT) (ao : Prop) : Prop := match κ with
  | (_, _, _, _, s, _, _, _, meth, _, _, _, _, _) => meth.name = "<init>" ∧ (ao → va_AO "PartRoom$Voice" s)
def CO (κ : KT) : Prop := match κ with
  | (_, _, _, _, s, _, _, _, _, _, _, _, _, _) => va_AO "PartRoom$Voice" s
section GR
variable {κ : KT} {cc : ByteArray} {own : String} {mL : Nat} {rm : Room} {k1 k2 : Nat} {ws : va_G → va_W} {L : List (Nat × Value)} {pc : Nat} {st : List Value}
theorem g_eq {ws' : va_G → va_W} (h : ∀ D, ws D = ws' D) (k : G κ k1 k2 ws' L pc st) : G κ k1 k2 ws L pc st := by
  have e : ws = ws' := funext h
  rw [e]; exact k
theorem g_widen (c1 c2 : Nat) (h1 : k1 ≤ c1) (h2 : k2 ≤ c2) (k : G κ c1 c2 ws L pc st) : G κ k1 k2 ws L pc st := by
  obtain ⟨p, l, e, R, s, m, args, below, meth, c, nL, Q, A, D⟩ := κ
  intro H locs ls hP hD hS hl
  exact W.widen h1 h2 (k H locs ls hP hD hS hl)
theorem g_iconst {z : Int} (C : CX κ cc own mL rm) (hd : decode cc pc = .ok (.iconst z, 1)) (k : G κ k1 k2 ws L (pc + 1) (iv z :: st)) : G κ k1 k2 ws L pc st := by
  obtain ⟨p, l, e, R, s, m, args, below, meth, c, nL, Q, A, D⟩ := κ
  obtain ⟨hx, hb, hml, hown, hts, hK, hA, hlk, hnL, hRm, hN⟩ := C
  intro H locs ls hP hD hS hl
  exact lv_iconst hx hb hd rfl (k H locs ls hP hD hS hl)
theorem g_bipush {z : Int} (C : CX κ cc own mL rm) (hd : decode cc pc = .ok (.bipush z, 2)) (hz : (Int8.ofInt z).toInt32 = Int32.ofInt z) (k : G κ k1 k2 ws L (pc + 2) (iv z :: st)) : G κ k1 k2 ws L pc st := by
  obtain ⟨p, l, e, R, s, m, args, below, meth, c, nL, Q, A, D⟩ := κ
  obtain ⟨hx, hb, hml, hown, hts, hK, hA, hlk, hnL, hRm, hN⟩ := C
  intro H locs ls hP hD hS hl
  exact lv_bipush hx hb hd hz (k H locs ls hP hD hS hl)
theorem g_sipush {z : Int} (C : CX κ cc own mL rm) (hd : decode cc pc = .ok (.sipush z, 3)) (hz : (Int16.ofInt z).toInt32 = Int32.ofInt z) (k : G κ k1 k2 ws L (pc + 3) (iv z :: st)) : G κ k1 k2 ws L pc st := by
  obtain ⟨p, l, e, R, s, m, args, below, meth, c, nL, Q, A, D⟩ := κ
  obtain ⟨hx, hb, hml, hown, hts, hK, hA, hlk, hnL, hRm, hN⟩ := C
  intro H locs ls hP hD hS hl
  exact lv_sipush hx hb hd hz (k H locs ls hP hD hS hl)
theorem g_iload_n {j : Fin 4} {x : Int} (C : CX κ cc own mL rm) (hd : decode cc pc = .ok (.iload_n j, 1)) (q : Nat) (hq : L[q]? = some ((j : Nat), iv x)) (k : G κ k1 k2 ws L (pc + 1) (iv x :: st)) : G κ k1 k2 ws L pc st := by
  obtain ⟨p, l, e, R, s, m, args, below, meth, c, nL, Q, A, D⟩ := κ
  obtain ⟨hx, hb, hml, hown, hts, hK, hA, hlk, hnL, hRm, hN⟩ := C
  intro H locs ls hP hD hS hl
  exact lv_iload_n hx hb hd rfl (lv_at hl q hq) (k H locs ls hP hD hS hl)
theorem g_aload_n {j : Fin 4} {x : Nat} (C : CX κ cc own mL rm) (hd : decode cc pc = .ok (.aload_n j, 1)) (q : Nat) (hq : L[q]? = some ((j : Nat), .ref x)) (k : G κ k1 k2 ws L (pc + 1) (.ref x :: st)) : G κ k1 k2 ws L pc st := by
  obtain ⟨p, l, e, R, s, m, args, below, meth, c, nL, Q, A, D⟩ := κ
  obtain ⟨hx, hb, hml, hown, hts, hK, hA, hlk, hnL, hRm, hN⟩ := C
  intro H locs ls hP hD hS hl
  exact lv_aload_n hx hb hd rfl (lv_at hl q hq) (k H locs ls hP hD hS hl)
theorem g_astore_n {j : Fin 4} {x : Nat} (C : CX κ cc own mL rm) (hd : decode cc pc = .ok (.astore_n j, 1)) (hn : (j : Nat) < mL) (L' : List (Nat × Value)) (hl' : lst L j (.ref x) = L') (k : G κ k1 k2 ws L' (pc + 1) st) : G κ k1 k2 ws L pc (.ref x :: st) := by
  obtain ⟨p, l, e, R, s, m, args, below, meth, c, nL, Q, A, D⟩ := κ
  obtain ⟨hx, hb, hml, hown, hts, hK, hA, hlk, hnL, hRm, hN⟩ := C
  intro H locs ls hP hD hS hl
  exact lv_astore_n hx hb hd rfl hl (by omega) hl' (fun ls' hl2 => k H locs ls' hP hD hS hl2)
theorem g_perm (is : List Nat) (hn : va_nd is = true) {ws' : va_G → va_W} (h1 : ∀ D, is.filterMap (fun i => (ws D)[i]?) = ws' D) (h2 : ∀ D, is.map (fun i => (ws D)[i]?) = (ws' D).map some) (k : G κ k1 k2 ws' L pc st) : G κ k1 k2 ws L pc st := by
  obtain ⟨p, l, e, R, s, m, args, below, meth, c, nL, Q, A, D⟩ := κ
  intro H locs ls hP hD hS hl
  exact k H locs ls (hP.sub is (h1 D)) (hD.sub is hn (h2 D)) hS hl
theorem g_dup {v : Value} (C : CX κ cc own mL rm) (hd : decode cc pc = .ok (.dup, 1)) (hc : v.category = 1) (k : G κ k1 k2 ws L (pc + 1) (v :: v :: st)) : G κ k1 k2 ws L pc (v :: st) := by
  obtain ⟨p, l, e, R, s, m, args, below, meth, c, nL, Q, A, D⟩ := κ
  obtain ⟨hx, hb, hml, hown, hts, hK, hA, hlk, hnL, hRm, hN⟩ := C
  intro H locs ls hP hD hS hl
  exact lv_dup hx hb hd hc (k H locs ls hP hD hS hl)
theorem g_obj {idx x : Nat} (C : CX κ cc own mL rm) (hd : decode cc pc = .ok (.invokespecial idx, 3)) (hw : Cond.methodLink own idx Lib.objectInit ∈ lw_g) (h1 : 1 ≤ rm.frames) (h2 : 12 ≤ rm.locals) (k : G κ k1 k2 ws L (pc + 3) []) : G κ k1 k2 ws L pc [.ref x] := by
  obtain ⟨p, l, e, R, s, m, args, below, meth, c, nL, Q, A, D⟩ := κ
  obtain ⟨hx, hb, hml, hown, hts, hK, hA, hlk, hnL, hRm, hN⟩ := C
  intro H locs ls hP hD hS hl
  subst hRm
  refine W.objInit hx hb hown (hts _ hw) (hts _ tw15) (hts _ tw16) rfl (by rw [hml]; exact hl.1) rfl hd h1 (Nat.le_trans (Nat.le_of_ble_eq_true rfl) h2) ?_
  exact k H locs ls hP hD hS hl
theorem g_newa {z : Int} {len : Nat} (C : CX κ cc own mL rm) (hd : decode cc pc = .ok (.newarray .int, 2)) (hz : z = (len : Int)) (hl0 : len < 1000) (hc : k1 + 1 ≤ rm.cells) (hs : k2 + len ≤ rm.slots) (kk : ∀ q : Nat, G κ (k1 + 1) (k2 + len) (fun D => ws D ++ [(q, aE D 7 len)]) L (pc + 2) (.ref q :: st)) : G κ k1 k2 ws L pc (iv z :: st) := by
  obtain ⟨p, l, e, R, s, m, args, below, meth, c, nL, Q, A, D⟩ := κ
  obtain ⟨hx, hb, hml, hown, hts, hK, hA, hlk, hnL, hRm, hN⟩ := C
  intro H locs ls hP hD hS hl
  subst hRm; subst hz
  have hn : (iZ (len : Int)).toNatClampNeg = len := by have := iZ_nat (z := (len : Int)) ⟨by omega, by omega⟩ (by omega); omega
  refine va_newa (atype := .int) (ty := .int) (a0 := (len, .inl (fun _ => iZ 0))) hx hb (hts _ tw48) rfl hK hP hD hS hA (fun _ => rfl) (fun q => by rw [iZ_0, iZ_lt ⟨by omega, by omega⟩ in0] at q; omega) hn (by show len * 4 ≤ _; omega) hc hs hd (fun q cA H1 hK1 hP1 hD1 hS1 => ?_)
  have e1 : cA = D.1 7 := by
    have h1 : s.vm.findClass ("[" ++ FieldType.int.toString) = some cA := (hK1.2 3 (cA, .int) rfl).2
    have h2 : s.vm.findClass ("[" ++ FieldType.int.toString) = some (D.1 7) := (hK.2 0 (D.1 7, .int) rfl).2
    exact Option.some.inj (h1.symm.trans h2)
  subst e1
  exact kk q H1 locs ls hP1 hD1 hS1 hl
theorem g_newz {z : Int} {len : Nat} (C : CX κ cc own mL rm) (hd : decode cc pc = .ok (.newarray .boolean, 2)) (hz : z = (len : Int)) (hl0 : len < 1000) (hc : k1 + 1 ≤ rm.cells) (hs : k2 + len ≤ rm.slots) (kk : ∀ q : Nat, G κ (k1 + 1) (k2 + len) (fun D => ws D ++ [(q, aE D 8 len)]) L (pc + 2) (.ref q :: st)) : G κ k1 k2 ws L pc (iv z :: st) := by
  obtain ⟨p, l, e, R, s, m, args, below, meth, c, nL, Q, A, D⟩ := κ
  obtain ⟨hx, hb, hml, hown, hts, hK, hA, hlk, hnL, hRm, hN⟩ := C
  intro H locs ls hP hD hS hl
  subst hRm; subst hz
  have hn : (iZ (len : Int)).toNatClampNeg = len := by have := iZ_nat (z := (len : Int)) ⟨by omega, by omega⟩ (by omega); omega
  refine va_newa (atype := .boolean) (ty := .boolean) (a0 := (len, .inl (fun _ => iZ 0))) hx hb (hts _ tw607) rfl hK hP hD hS hA (fun _ => rfl) (fun q => by rw [iZ_0, iZ_lt ⟨by omega, by omega⟩ in0] at q; omega) hn (by show len * 1 ≤ _; omega) hc hs hd (fun q cA H1 hK1 hP1 hD1 hS1 => ?_)
  have e1 : cA = D.1 8 := by
    have h1 : s.vm.findClass ("[" ++ FieldType.boolean.toString) = some cA := (hK1.2 3 (cA, .boolean) rfl).2
    have h2 : s.vm.findClass ("[" ++ FieldType.boolean.toString) = some (D.1 8) := (hK.2 1 (D.1 8, .boolean) rfl).2
    exact Option.some.inj (h1.symm.trans h2)
  subst e1
  exact kk q H1 locs ls hP1 hD1 hS1 hl
theorem g_newq {z : Int} {len idx : Nat} {ao : Prop} (C : CX κ cc own mL rm) (C2 : CG κ ao) (hao : ao) (hd : decode cc pc = .ok (.anewarray idx, 3)) (hw : Cond.classLink own idx "PartRoom$Voice" ∈ lw_g) (hz : z = (len : Int)) (hl0 : len < 1000) (hc : k1 + 1 ≤ rm.cells) (hs : k2 + len ≤ rm.slots) (kk : ∀ q : Nat, G κ (k1 + 1) (k2 + len) (fun D => ws D ++ [(q, aE D 9 len)]) L (pc + 3) (.ref q :: st)) : G κ k1 k2 ws L pc (iv z :: st) := by
  obtain ⟨p, l, e, R, s, m, args, below, meth, c, nL, Q, A, D⟩ := κ
  obtain ⟨hx, hb, hml, hown, hts, hK, hA, hlk, hnL, hRm, hN⟩ := C
  intro H locs ls hP hD hS hl
  subst hRm; subst hz
  have hn : (iZ (len : Int)).toNatClampNeg = len := by have := iZ_nat (z := (len : Int)) ⟨by omega, by omega⟩ (by omega); omega
  refine va_newq hx hb hown (hts _ hw) (C2.2 hao) hK hP hD hS hA (fun q => by rw [iZ_0, iZ_lt ⟨by omega, by omega⟩ in0] at q; omega) hn (by omega) hc hs hd (fun q cA H1 hK1 hP1 hD1 hS1 => ?_)
  have e1 : cA = D.1 9 := by
    obtain ⟨_, _, _, _, _, h1⟩ := (hK1.2 3 (cA, .object "PartRoom$Voice") rfl).2
    obtain ⟨_, _, _, _, _, h2⟩ := (hK.2 2 (D.1 9, .object "PartRoom$Voice") rfl).2
    exact Option.some.inj (h1.symm.trans h2)
  subst e1
  exact kk q H1 locs ls hP1 hD1 hS1 hl
theorem g_put {ci N i k q0 x : Nat} {Cn : String} {T : u_T} {fs : List Value} {v : Value} {ty0 : Nat → FieldType} {ty : FieldType} {ao : Prop} (ws' : va_G → va_W) (C : CX κ cc own mL rm) (C2 : CG κ ao) (hd : decode cc pc = .ok (.putfield i, 3)) (he : ∀ D, (ws D)[q0]? = some (x, .inr (ci, fs))) (hs : ∀ D, (ws D).set q0 (x, .inr (ci, fs.set k v)) = ws' D) (hcl : vwCl[ci]? = some (Cn, T, N)) (hin : ∀ w ∈ u_ws Cn T N, w ∈ lw_g) (hty : ∀ k, k < N → parseFieldDescriptor (T k).2.2.1 = some (ty0 k)) (hnm : ∀ a, a < N → ∀ b, b < N → a ≠ b → (T a).2.1 ≠ (T b).2.1) (hk : k < N) (hl0 : k < fs.length) (hfin : (T k).2.2.2 = false ∨ (T k).1 = own) (hdt : parseFieldDescriptor (T k).2.2.1 = some ty) (hn : narrow ty v = v) (hfit : fits ty v = true) (hw : Cond.fieldLink own i (T k).1 (T k).2.1 (T k).2.2.1 ∈ lw_g) (kk : G κ k1 k2 ws' L (pc + 3) st) : G κ k1 k2 ws L pc (v :: .ref x :: st) := by
  obtain ⟨p, l, e, R, s, m, args, below, meth, c, nL, Q, A, D⟩ := κ
  obtain ⟨hx, hb, hml, hown, hts, hK, hA, hlk, hnL, hRm, hN⟩ := C
  intro H locs ls hP hD hS hl
  cases hf : (T k).2.2.2 with
  | false =>
    refine va_put hx hb hts hin ty0 hty hnm hown hK hP hD hS q0 (he D) hcl k hk (hts _ hw) (fun _ h => h) hf hdt hn hfit hl0 hd (fun H1 locs1 hP1 hD1 hS1 => ?_)
    rw [hs D] at hP1 hD1
    exact kk H1 locs1 ls hP1 hD1 hS1 hl
  | true =>
    refine va_putF hx hb hts hin ty0 hty hnm hown hK hP hD hS q0 (he D) hcl k hk (hts _ hw) (fun _ h => h) hf C2.1 (hfin.resolve_left (by rw [hf]; exact fun h => by cases h)) hdt hn hfit hl0 hd (fun H1 locs1 hP1 hD1 hS1 => ?_)
    rw [hs D] at hP1 hD1
    exact kk H1 locs1 ls hP1 hD1 hS1 hl
theorem g_get {ci N i k q0 x : Nat} {Cn : String} {T : u_T} {fs : List Value} {v : Value} (C : CX κ cc own mL rm) (hd : decode cc pc = .ok (.getfield i, 3)) (he : ∀ D, (ws D)[q0]? = some (x, .inr (ci, fs))) (hcl : vwCl[ci]? = some (Cn, T, N)) (hin : ∀ w ∈ u_ws Cn T N, w ∈ lw_g) (hk : k < N) (hw : Cond.fieldLink own i (T k).1 (T k).2.1 (T k).2.2.1 ∈ lw_g) (hv : fs[k]? = some v) (kk : G κ k1 k2 ws L (pc + 3) (v :: st)) : G κ k1 k2 ws L pc (.ref x :: st) := by
  obtain ⟨p, l, e, R, s, m, args, below, meth, c, nL, Q, A, D⟩ := κ
  obtain ⟨hx, hb, hml, hown, hts, hK, hA, hlk, hnL, hRm, hN⟩ := C
  intro H locs ls hP hD hS hl
  exact va_get hx hb hts hin hown hK hP q0 (he D) hcl k hk (hts _ hw) (fun _ h => h) hv hd (kk H locs ls hP hD hS hl)
theorem g_new {ci N i : Nat} {Cn : String} {T : u_T} {fs : List Value} {ty0 : Nat → FieldType} (C : CX κ cc own mL rm) (hd : decode cc pc = .ok (.new i, 3)) (hw1 : Cond.classLink own i Cn ∈ lw_g) (hw2 : Cond.instantiable Cn N ∈ lw_g) (hw3 : Cond.initialized Cn ∈ lw_g) (hcl : vwCl[ci]? = some (Cn, T, N)) (hin : ∀ w ∈ u_ws Cn T N, w ∈ lw_g) (hty : ∀ k, k < N → parseFieldDescriptor (T k).2.2.1 = some (ty0 k)) (hfs : ∀ j, j < N → defaultValue (ty0 j) = vp_V fs j) (hc : k1 + 1 ≤ rm.cells) (hs : k2 + N ≤ rm.slots) (kk : ∀ q : Nat, G κ (k1 + 1) (k2 + N) (fun D => ws D ++ [(q, .inr (ci, fs))]) L (pc + 3) (.ref q :: st)) : G κ k1 k2 ws L pc st := by
  obtain ⟨p, l, e, R, s, m, args, below, meth, c, nL, Q, A, D⟩ := κ
  obtain ⟨hx, hb, hml, hown, hts, hK, hA, hlk, hnL, hRm, hN⟩ := C
  intro H locs ls hP hD hS hl
  subst hRm
  exact va_new hx hb hts hin ty0 hty hown (hts _ hw1) (hts _ hw2) (hts _ hw3) hK hP hD hS hA hcl hfs hc hs hd (fun q H1 hP1 hD1 hS1 => kk q H1 locs ls hP1 hD1 hS1 hl)
end GR
/-- a maker's contract: it makes its object's arrays -/
def PreG (D : va_G) (ws : va_G → va_W) (sz : Nat) (ao : Prop) (av : List Value) : Array Value → State → Prop := va_Pc av (fun U => U.heap.size = sz ∧ va_P D vwCl (ws D) U.heap ∧ va_K D vwCl (tysD D) U ∧ va_D (fun _ => True) (ws D) ∧ NW U ∧ (ao → va_AO "PartRoom$Voice" U))
theorem PreG_blind {D : va_G} {ws : va_G → va_W} {sz : Nat} {ao : Prop} {av : List Value} : FrameBlind (PreG D ws sz ao av) := by
  intro v U g mk q
  obtain ⟨q0, q1, qP, qK, qD, qN, qO⟩ := q
  exact ⟨q0, q1, qP, va_K.moved (u := U) (U := U.calling g mk v) (Vm.Alike.refl U.vm) qK, qD, qN.same rfl, fun h => va_AO.moved (u := U) (U := U.calling g mk v) (Vm.Alike.refl U.vm) (qO h)⟩
def MC (y : MethodName) (cc : ByteArray) (mL : Nat) (rm : Room) (ao : Prop) (ws : va_G → va_W) (av : List Value) (ws' : (Nat → Nat) → va_G → va_W) : Prop :=
  ∀ (l : Launch) (D : va_G) (sz : Nat), Met l y (Cond.code y cc mL none :: lw_g) rm (PreG D ws sz ao av) (va_Qv (S := Nat → Nat) (fun _ => True) (fun u t => va_P D vwCl (ws' u D) t.heap ∧ va_D (va_A (ws D) sz) (ws' u D)) (va_A (ws D) sz)) rm.cells rm.slots (va_A (ws D) sz)
theorem MC.of {y : MethodName} {cc : ByteArray} {mL : Nat} {rm : Room} {ao : Prop} {ws : va_G → va_W} {av : List Value} {ws' : (Nat → Nat) → va_G → va_W} {own : String} (hy : plainName y.cls = true) (hown : y.cls = own) (hnm : y.name = "<init>") (hL : (lg_sl av).length ≤ mL) (body : ∀ κ : KT, CX κ cc own mL rm → CG κ ao → (∀ (u : Nat → Nat) (w : va_G → va_W) (L : List (Nat × Value)) (pc : Nat), decode cc pc = .ok (.return_, 1) → (∀ D, w D = ws' u D) → G κ rm.cells rm.slots w L pc []) → G κ 0 0 ws (lv_args 0 av) 0 []) : MC y cc mL rm ao ws av ws' := by
  intro l D sz
  refine Met.ofW (cc := cc) (maxL := mL) (ret := none) hy rfl ?_
  intro p e s m args below meth c s₁ B hml hv
  obtain ⟨rfl, hsz, hP, hK, hD0, hN, hO⟩ := hv
  subst hsz
  subst hown
  have hD := hD0.self (sz := s.heap.size)
  have hin : meth.name = "<init>" := ((name_of_methodNamed B.named B.method).1).trans hnm
  have key := body (p, l, e, rm, s, m, av.toArray, below, meth, c, mL, MQ below (va_Qv (S := Nat → Nat) (fun _ => True) (fun u t => va_P D vwCl (ws' u D) t.heap ∧ va_D (va_A (ws D) s.heap.size) (ws' u D)) (va_A (ws D) s.heap.size)) av.toArray s rm.cells rm.slots (va_A (ws D) s.heap.size), va_A (ws D) s.heap.size, D) ⟨B.exec, B.bytes, hml, findClass_of_methodNamed B.named, fun w hw => atoms_spec B.pre w (List.mem_cons_of_mem _ hw), hK, fun q h => Or.inr h, B.notSynchronized, rfl, rfl, hN⟩ ⟨hin, hO⟩ (by
    intro u w L pc hdec hw H locs ls hP' hD' hS' hl'
    rw [hw D] at hP' hD'
    exact W.vret B.exec B.bytes B.returns (fun t ht hW => ⟨⟨u, rfl, trivial, by rw [ht]; exact hP', hD'⟩, hS'.F ht⟩) hS'.2.2 hdec B.notSynchronized)
  rw [lg_entry_eq]
  exact key s.heap [] _ hP hD va_S.rf (lv_entry av hL)
theorem va_joinL {A0 : Nat → Prop} {D : va_G} {cl : List vw_C} {ws w1 : va_W} {x : Nat × va_E} {H H1 : Heap} (hP : va_P D cl (ws ++ [x]) H) (hD : va_D A0 (ws ++ [x])) (hk : ∀ q : Nat, q < H.size → ¬ va_A [x] H.size q → H1[q]? = H[q]?) (hF : ∀ q, va_A [x] H.size q → A0 q) (hP1 : va_P D cl w1 H1) (hD1 : va_D (va_A [x] H.size) w1) : va_P D cl (ws ++ w1) H1 ∧ va_D A0 (ws ++ w1) := by
  have atL : ∀ (k : Nat) (q : Nat × va_E), ws[k]? = some q → (ws ++ [x])[k]? = some q := by
    intro k q hq
    rw [List.getElem?_append_left (List.getElem?_eq_some_iff.mp hq).1]; exact hq
  have atX : (ws ++ [x])[ws.length]? = some x := by rw [List.getElem?_append_right (Nat.le_refl _)]; simp
  have apart : ∀ (k : Nat) (q : Nat × va_E), ws[k]? = some q → q.1 < H.size ∧ ¬ va_A [x] H.size q.1 := by
    intro k q hq
    have hl := (hP k q (atL k q hq)).lt
    refine ⟨hl, fun h => ?_⟩
    rcases h with ⟨k2, e, h⟩ | h
    · have hk2 : k2 < 1 := (List.getElem?_eq_some_iff.mp h).1
      rw [show k2 = 0 by omega] at h
      cases h
      have hij := hD.1 k ws.length q _ (atL k q hq) atX rfl
      have := (List.getElem?_eq_some_iff.mp hq).1
      omega
    · omega
  refine ⟨va_P.app (fun k q hq => ?_) hP1, va_D.app ⟨fun i j p q hp hq e => hD.1 i j p q (atL i p hp) (atL j q hq) e, fun k q hq => hD.2 k q (atL k q hq)⟩ (hD1.weaken (fun k q _ h => hF q.1 h)) (fun i j u v hu hv huv => ?_)⟩
  · obtain ⟨g1, g2⟩ := apart k q hq
    exact (hP k q (atL k q hq)).kept (hk q.1 g1 g2)
  · exact (apart i u hu).2 (by rw [huv]; exact hD1.2 j v hv)
/-- a call of a maker, its object the world's last cell -/
theorem g_call {κ : KT} {cc : ByteArray} {own : String} {mL : Nat} {rm : Room} {k1 k2 : Nat} {ws : va_G → va_W} {L : List (Nat × Value)} {pc : Nat} {rest As : List Value} {y : MethodName} {cc' : ByteArray} {mL' na idx q : Nat} {rm' : Room} {ao : Prop} {E : va_E} {ws' : (Nat → Nat) → va_G → va_W} (C : CX κ cc own mL rm) (hO : ao → CO κ) (hd : decode cc pc = .ok (.invokespecial idx, 3)) (w1 : Cond.methodLink own idx y ∈ lw_g) (w2 : Cond.instanceMethod y ∈ lw_g) (w4 : Cond.initialized y.cls ∈ lw_g) (w5 : Cond.code y cc' mL' none ∈ lw_g) (w6 : y.cls ≠ "java/lang/invoke/MethodHandle" ∧ y.cls ≠ "java/lang/invoke/VarHandle" ∧ (parseMethodDescriptor y.desc).map (fun d => d.parameters.length) = some na) (hnm : y.name = "<init>") (hM : MC y cc' mL' rm' ao (fun _ => [(q, E)]) (.ref q :: As) ws') (hroom : rm'.frames + 1 ≤ rm.frames ∧ 8 + (mL' + 11) + rm'.locals ≤ rm.locals) (hk : k1 + rm'.cells ≤ rm.cells ∧ k2 + rm'.slots ≤ rm.slots) (hn : As.length = na) (hW : (rest.map fun v => v.category).sum ≤ 8) (kk : ∀ u : Nat → Nat, G κ (k1 + rm'.cells) (k2 + rm'.slots) (fun D => ws D ++ ws' u D) L (pc + 3) rest) : G κ k1 k2 (fun D => ws D ++ [(q, E)]) L pc (As.reverse ++ .ref q :: rest) := by
  obtain ⟨p, l, e, R, s, m, args, below, meth, c, nL, Q, A, D⟩ := κ
  obtain ⟨hx, hb, hml, hown, hts, hK, hA, hlk, hnL, hRm, hN⟩ := C
  intro H locs ls hP hD hS hl
  subst hRm
  have hPc : va_P D vwCl [(q, E)] H := by
    intro k x hk
    have hz : k < 1 := (List.getElem?_eq_some_iff.mp hk).1
    rw [show k = 0 by omega] at hk
    cases hk
    exact hP (ws D).length _ (by rw [List.getElem?_append_right (Nat.le_refl _)]; simp)
  have hDc : va_D A [(q, E)] := by
    refine ⟨fun i j u v hu hv _ => ?_, fun k x hk => ?_⟩
    · have := (List.getElem?_eq_some_iff.mp hu).1
      have := (List.getElem?_eq_some_iff.mp hv).1
      simp at *; omega
    · have hz : k < 1 := (List.getElem?_eq_some_iff.mp hk).1
      rw [show k = 0 by omega] at hk
      cases hk
      exact hD.2 (ws D).length (q, E) (by rw [List.getElem?_append_right (Nat.le_refl _)]; simp)
  have hF : ∀ x, va_A [(q, E)] H.size x → A x := by
    intro x h
    rcases h with ⟨k, e, h⟩ | h
    · exact hDc.2 k (x, e) h
    · exact hA x (Nat.le_trans hS.1 h)
  refine va_callv (va_runI (As := As) (rest := rest) ⟨hx, hb, hml, hown, hts⟩ (hM l D H.size) (cwI na hts (tb_in w5) rfl rfl rfl (hts _ w4) (hts _ w1) (hts _ w2) hnm w6 hroom) ⟨PreG_blind, fun U hU hW => ⟨rfl, by rw [hU], by rw [hU]; exact hPc, va_K.moved hW.alike hK, hDc.weaken (fun _ _ _ _ => trivial), hN.warm hW, fun h => va_AO.moved hW.alike (hO h)⟩⟩ rfl hn hl.1 rfl (lv_room hW) hd hk) hS (fun x _ h => hF x h) hF (fun u t H1 locs1 ht hvm hw hB hz1 hk1 hS1 => ?_)
  obtain ⟨hP1, hD1⟩ := hB
  rw [ht] at hP1
  obtain ⟨hP2, hD2⟩ := va_joinL hP hD hk1 hF hP1 hD1
  exact kk u H1 locs1 ls hP2 hD2 hS1 hl
