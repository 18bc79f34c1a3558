section JR
variable {κ : KT} {cc : ByteArray} {own : String} {mL : Nat} {rm : Room} {k1 k2 : Nat} {a : Nat → Nat} {n : Nat} {σ : ST} {L : List (Nat × Value)} {pc : Nat} {st : List Value}
theorem r_sub (ks : List Nat) {L' : List (Nat × Value)} (hl : lv_pick L ks = L') (k : J κ k1 k2 a n σ L' pc st) : J κ k1 k2 a n σ L pc st := by
  obtain ⟨p, l, e, R, s, m, args, below, meth, c, nL, Q, A, D⟩ := κ
  intro H locs ls hP hD hS hR h
  exact k H locs ls hP hD hS hR (lv_sub h ks hl)
theorem r_inR (k : (∀ c j, inR (σ c j)) → J κ k1 k2 a n σ L pc st) : J κ k1 k2 a n σ L pc st := by
  obtain ⟨p, l, e, R, s, m, args, below, meth, c, nL, Q, A, D⟩ := κ
  intro H locs ls hP hD hS hR h
  exact k hR H locs ls hP hD hS hR h
theorem r_top {x : Int} (k : ∀ y : Int, y = x → J κ k1 k2 a n σ L pc (iv y :: st)) : J κ k1 k2 a n σ L pc (iv x :: st) := k x rfl
theorem r_topv {x : Int} (y : Int) (h : x = y) (k : J κ k1 k2 a n σ L pc (iv y :: st)) : J κ k1 k2 a n σ L pc (iv x :: st) := h ▸ k
theorem r_iconst {z : Int} (C : CX κ cc own mL rm) (hd : decode cc pc = .ok (.iconst z, 1)) (k : J κ k1 k2 a n σ L (pc + 1) (iv z :: st)) : J κ k1 k2 a n σ L pc st := by
  obtain ⟨p, l, e, R, s, m, args, below, meth, c, nL, Q, A, D⟩ := κ
  obtain ⟨hx, hb, hml, hown, hts, hK, hA, hlk, hnL, hRm, hN⟩ := C
  intro H locs ls hP hD hS hR hl
  exact lv_iconst hx hb hd rfl (k H locs ls hP hD hS hR hl)
theorem r_bipush {z : Int} (C : CX κ cc own mL rm) (hd : decode cc pc = .ok (.bipush z, 2)) (hz : (Int8.ofInt z).toInt32 = Int32.ofInt z) (k : J κ k1 k2 a n σ L (pc + 2) (iv z :: st)) : J κ k1 k2 a n σ L pc st := by
  obtain ⟨p, l, e, R, s, m, args, below, meth, c, nL, Q, A, D⟩ := κ
  obtain ⟨hx, hb, hml, hown, hts, hK, hA, hlk, hnL, hRm, hN⟩ := C
  intro H locs ls hP hD hS hR hl
  exact lv_bipush hx hb hd hz (k H locs ls hP hD hS hR hl)
theorem r_sipush {z : Int} (C : CX κ cc own mL rm) (hd : decode cc pc = .ok (.sipush z, 3)) (hz : (Int16.ofInt z).toInt32 = Int32.ofInt z) (k : J κ k1 k2 a n σ L (pc + 3) (iv z :: st)) : J κ k1 k2 a n σ L pc st := by
  obtain ⟨p, l, e, R, s, m, args, below, meth, c, nL, Q, A, D⟩ := κ
  obtain ⟨hx, hb, hml, hown, hts, hK, hA, hlk, hnL, hRm, hN⟩ := C
  intro H locs ls hP hD hS hR hl
  exact lv_sipush hx hb hd hz (k H locs ls hP hD hS hR hl)
theorem r_ldc {v : Int32} {i : Nat} (z : Int) (C : CX κ cc own mL rm) (hd : decode cc pc = .ok (.ldc i, 2)) (hw : Cond.constant own i v ∈ lw_g) (hz : v = Int32.ofInt z) (k : J κ k1 k2 a n σ L (pc + 2) (iv z :: st)) : J κ k1 k2 a n σ L pc st := by
  obtain ⟨p, l, e, R, s, m, args, below, meth, c, nL, Q, A, D⟩ := κ
  obtain ⟨hx, hb, hml, hown, hts, hK, hA, hlk, hnL, hRm, hN⟩ := C
  intro H locs ls hP hD hS hR hl
  subst hz
  exact lv_ldc hx hb hown (hts _ hw) hd (k H locs ls hP hD hS hR hl)
theorem r_iload_n {j : Fin 4} {x : Int} (C : CX κ cc own mL rm) (hd : decode cc pc = .ok (.iload_n j, 1)) (q : Nat) (hq : L[q]? = some ((j : Nat), iv x)) (k : J κ k1 k2 a n σ L (pc + 1) (iv x :: st)) : J κ k1 k2 a n σ L pc st := by
  obtain ⟨p, l, e, R, s, m, args, below, meth, c, nL, Q, A, D⟩ := κ
  obtain ⟨hx, hb, hml, hown, hts, hK, hA, hlk, hnL, hRm, hN⟩ := C
  intro H locs ls hP hD hS hR hl
  exact lv_iload_n hx hb hd rfl (lv_at hl q hq) (k H locs ls hP hD hS hR hl)
theorem r_iload {j : Nat} {x : Int} (C : CX κ cc own mL rm) (hd : decode cc pc = .ok (.iload j, 2)) (q : Nat) (hq : L[q]? = some (j, iv x)) (k : J κ k1 k2 a n σ L (pc + 2) (iv x :: st)) : J κ k1 k2 a n σ L pc st := by
  obtain ⟨p, l, e, R, s, m, args, below, meth, c, nL, Q, A, D⟩ := κ
  obtain ⟨hx, hb, hml, hown, hts, hK, hA, hlk, hnL, hRm, hN⟩ := C
  intro H locs ls hP hD hS hR hl
  exact lv_iload hx hb hd (lv_at hl q hq) (k H locs ls hP hD hS hR hl)
theorem r_aload_n {j : Fin 4} {x : Nat} (C : CX κ cc own mL rm) (hd : decode cc pc = .ok (.aload_n j, 1)) (q : Nat) (hq : L[q]? = some ((j : Nat), .ref x)) (k : J κ k1 k2 a n σ L (pc + 1) (.ref x :: st)) : J κ k1 k2 a n σ L pc st := by
  obtain ⟨p, l, e, R, s, m, args, below, meth, c, nL, Q, A, D⟩ := κ
  obtain ⟨hx, hb, hml, hown, hts, hK, hA, hlk, hnL, hRm, hN⟩ := C
  intro H locs ls hP hD hS hR hl
  exact lv_aload_n hx hb hd rfl (lv_at hl q hq) (k H locs ls hP hD hS hR hl)
theorem r_aload {j : Nat} {x : Nat} (C : CX κ cc own mL rm) (hd : decode cc pc = .ok (.aload j, 2)) (q : Nat) (hq : L[q]? = some (j, .ref x)) (k : J κ k1 k2 a n σ L (pc + 2) (.ref x :: st)) : J κ k1 k2 a n σ L pc st := by
  obtain ⟨p, l, e, R, s, m, args, below, meth, c, nL, Q, A, D⟩ := κ
  obtain ⟨hx, hb, hml, hown, hts, hK, hA, hlk, hnL, hRm, hN⟩ := C
  intro H locs ls hP hD hS hR hl
  exact lv_aload hx hb hd (lv_at hl q hq) (k H locs ls hP hD hS hR hl)
theorem r_aload_nN {j : Fin 4} (C : CX κ cc own mL rm) (hd : decode cc pc = .ok (.aload_n j, 1)) (q : Nat) (hq : L[q]? = some ((j : Nat), .null)) (k : J κ k1 k2 a n σ L (pc + 1) (.null :: st)) : J κ k1 k2 a n σ L pc st := by
  obtain ⟨p, l, e, R, s, m, args, below, meth, c, nL, Q, A, D⟩ := κ
  obtain ⟨hx, hb, hml, hown, hts, hK, hA, hlk, hnL, hRm, hN⟩ := C
  intro H locs ls hP hD hS hR hl
  exact lv_aload_nN hx hb hd rfl (lv_at hl q hq) (k H locs ls hP hD hS hR hl)
theorem r_aloadN {j : Nat} (C : CX κ cc own mL rm) (hd : decode cc pc = .ok (.aload j, 2)) (q : Nat) (hq : L[q]? = some (j, .null)) (k : J κ k1 k2 a n σ L (pc + 2) (.null :: st)) : J κ k1 k2 a n σ L pc st := by
  obtain ⟨p, l, e, R, s, m, args, below, meth, c, nL, Q, A, D⟩ := κ
  obtain ⟨hx, hb, hml, hown, hts, hK, hA, hlk, hnL, hRm, hN⟩ := C
  intro H locs ls hP hD hS hR hl
  exact lv_aloadN hx hb hd (lv_at hl q hq) (k H locs ls hP hD hS hR hl)
theorem r_istore_n {j : Fin 4} {x : Int} (C : CX κ cc own mL rm) (hd : decode cc pc = .ok (.istore_n j, 1)) (hn : (j : Nat) < mL) (L' : Int → List (Nat × Value)) (hl' : ∀ v, lst L j (iv v) = L' v) (k : ∀ v, v = x → J κ k1 k2 a n σ (L' v) (pc + 1) st) : J κ k1 k2 a n σ L pc (iv x :: st) := by
  have k0 := k x rfl
  rw [← hl' x] at k0
  obtain ⟨p, l, e, R, s, m, args, below, meth, c, nL, Q, A, D⟩ := κ
  obtain ⟨hx, hb, hml, hown, hts, hK, hA, hlk, hnL, hRm, hN⟩ := C
  intro H locs ls hP hD hS hR hl
  exact lv_istore_n (lv' := lst L j (iv x)) hx hb hd rfl hl (by rw [hnL]; exact hn) rfl (fun ls hl => k0 H locs ls hP hD hS hR hl)
theorem r_istore {j : Nat} {x : Int} (C : CX κ cc own mL rm) (hd : decode cc pc = .ok (.istore j, 2)) (hn : (j : Nat) < mL) (L' : Int → List (Nat × Value)) (hl' : ∀ v, lst L j (iv v) = L' v) (k : ∀ v, v = x → J κ k1 k2 a n σ (L' v) (pc + 2) st) : J κ k1 k2 a n σ L pc (iv x :: st) := by
  have k0 := k x rfl
  rw [← hl' x] at k0
  obtain ⟨p, l, e, R, s, m, args, below, meth, c, nL, Q, A, D⟩ := κ
  obtain ⟨hx, hb, hml, hown, hts, hK, hA, hlk, hnL, hRm, hN⟩ := C
  intro H locs ls hP hD hS hR hl
  exact lv_istore (lv' := lst L j (iv x)) hx hb hd hl (by rw [hnL]; exact hn) rfl (fun ls hl => k0 H locs ls hP hD hS hR hl)
theorem r_astore_n {j : Fin 4} {x : Nat} (C : CX κ cc own mL rm) (hd : decode cc pc = .ok (.astore_n j, 1)) (hn : (j : Nat) < mL) (L' : List (Nat × Value)) (hl' : lst L j (.ref x) = L') (k : J κ k1 k2 a n σ L' (pc + 1) st) : J κ k1 k2 a n σ L pc (.ref x :: st) := by
  subst hl'
  obtain ⟨p, l, e, R, s, m, args, below, meth, c, nL, Q, A, D⟩ := κ
  obtain ⟨hx, hb, hml, hown, hts, hK, hA, hlk, hnL, hRm, hN⟩ := C
  intro H locs ls hP hD hS hR hl
  exact lv_astore_n (lv' := lst L j (.ref x)) hx hb hd rfl hl (by rw [hnL]; exact hn) rfl (fun ls hl => k H locs ls hP hD hS hR hl)
theorem r_astore {j : Nat} {x : Nat} (C : CX κ cc own mL rm) (hd : decode cc pc = .ok (.astore j, 2)) (hn : (j : Nat) < mL) (L' : List (Nat × Value)) (hl' : lst L j (.ref x) = L') (k : J κ k1 k2 a n σ L' (pc + 2) st) : J κ k1 k2 a n σ L pc (.ref x :: st) := by
  subst hl'
  obtain ⟨p, l, e, R, s, m, args, below, meth, c, nL, Q, A, D⟩ := κ
  obtain ⟨hx, hb, hml, hown, hts, hK, hA, hlk, hnL, hRm, hN⟩ := C
  intro H locs ls hP hD hS hR hl
  exact lv_astore (lv' := lst L j (.ref x)) hx hb hd hl (by rw [hnL]; exact hn) rfl (fun ls hl => k H locs ls hP hD hS hR hl)
theorem r_astore_nN {j : Fin 4} (C : CX κ cc own mL rm) (hd : decode cc pc = .ok (.astore_n j, 1)) (hn : (j : Nat) < mL) (L' : List (Nat × Value)) (hl' : lst L j .null = L') (k : J κ k1 k2 a n σ L' (pc + 1) st) : J κ k1 k2 a n σ L pc (.null :: st) := by
  subst hl'
  obtain ⟨p, l, e, R, s, m, args, below, meth, c, nL, Q, A, D⟩ := κ
  obtain ⟨hx, hb, hml, hown, hts, hK, hA, hlk, hnL, hRm, hN⟩ := C
  intro H locs ls hP hD hS hR hl
  exact lv_astore_nN (lv' := lst L j .null) hx hb hd rfl hl (by rw [hnL]; exact hn) rfl (fun ls hl => k H locs ls hP hD hS hR hl)
theorem r_astoreN {j : Nat} (C : CX κ cc own mL rm) (hd : decode cc pc = .ok (.astore j, 2)) (hn : (j : Nat) < mL) (L' : List (Nat × Value)) (hl' : lst L j .null = L') (k : J κ k1 k2 a n σ L' (pc + 2) st) : J κ k1 k2 a n σ L pc (.null :: st) := by
  subst hl'
  obtain ⟨p, l, e, R, s, m, args, below, meth, c, nL, Q, A, D⟩ := κ
  obtain ⟨hx, hb, hml, hown, hts, hK, hA, hlk, hnL, hRm, hN⟩ := C
  intro H locs ls hP hD hS hR hl
  exact lv_astoreN (lv' := lst L j .null) hx hb hd hl (by rw [hnL]; exact hn) rfl (fun ls hl => k H locs ls hP hD hS hR hl)
theorem r_iinc {j : Nat} {x z : Int} (C : CX κ cc own mL rm) (hd : decode cc pc = .ok (.iinc j z, 3)) (hn : (j : Nat) < mL) (q : Nat) (hq : L[q]? = some (j, iv x)) (L' : Int → List (Nat × Value)) (hl' : ∀ v, lst L j (iv v) = L' v) (k : ∀ v, v = x + z → J κ k1 k2 a n σ (L' v) (pc + 3) st) : J κ k1 k2 a n σ L pc st := by
  have k0 := k (x + z) rfl
  rw [← hl' (x + z)] at k0
  obtain ⟨p, l, e, R, s, m, args, below, meth, c, nL, Q, A, D⟩ := κ
  obtain ⟨hx, hb, hml, hown, hts, hK, hA, hlk, hnL, hRm, hN⟩ := C
  intro H locs ls hP hD hS hR hl
  exact lv_iinc (v := iZ (x + z)) (lv' := lst L j (iv (x + z))) hx hb hd hl (k := q) hq (iZ_add x z) (by rw [hnL]; exact hn) rfl (fun ls hl => k0 H locs ls hP hD hS hR hl)
theorem r_iadd {x y : Int} (C : CX κ cc own mL rm) (hd : decode cc pc = .ok (.iadd, 1)) (k : J κ k1 k2 a n σ L (pc + 1) (iv (x + y) :: st)) : J κ k1 k2 a n σ L pc (iv y :: iv x :: st) := by
  obtain ⟨p, l, e, R, s, m, args, below, meth, c, nL, Q, A, D⟩ := κ
  obtain ⟨hx, hb, hml, hown, hts, hK, hA, hlk, hnL, hRm, hN⟩ := C
  intro H locs ls hP hD hS hR hl
  exact lv_iadd hx hb hd (by rw [iZ_add]; exact k H locs ls hP hD hS hR hl)
theorem r_isub {x y : Int} (C : CX κ cc own mL rm) (hd : decode cc pc = .ok (.isub, 1)) (k : J κ k1 k2 a n σ L (pc + 1) (iv (x - y) :: st)) : J κ k1 k2 a n σ L pc (iv y :: iv x :: st) := by
  obtain ⟨p, l, e, R, s, m, args, below, meth, c, nL, Q, A, D⟩ := κ
  obtain ⟨hx, hb, hml, hown, hts, hK, hA, hlk, hnL, hRm, hN⟩ := C
  intro H locs ls hP hD hS hR hl
  exact lv_isub hx hb hd (by rw [iZ_sub]; exact k H locs ls hP hD hS hR hl)
theorem r_imul {x y : Int} (C : CX κ cc own mL rm) (hd : decode cc pc = .ok (.imul, 1)) (k : J κ k1 k2 a n σ L (pc + 1) (iv (x * y) :: st)) : J κ k1 k2 a n σ L pc (iv y :: iv x :: st) := by
  obtain ⟨p, l, e, R, s, m, args, below, meth, c, nL, Q, A, D⟩ := κ
  obtain ⟨hx, hb, hml, hown, hts, hK, hA, hlk, hnL, hRm, hN⟩ := C
  intro H locs ls hP hD hS hR hl
  exact lv_imul hx hb hd (by rw [iZ_mul]; exact k H locs ls hP hD hS hR hl)
theorem r_ineg {x : Int} (C : CX κ cc own mL rm) (hd : decode cc pc = .ok (.ineg, 1)) (k : J κ k1 k2 a n σ L (pc + 1) (iv (-x) :: st)) : J κ k1 k2 a n σ L pc (iv x :: st) := by
  obtain ⟨p, l, e, R, s, m, args, below, meth, c, nL, Q, A, D⟩ := κ
  obtain ⟨hx, hb, hml, hown, hts, hK, hA, hlk, hnL, hRm, hN⟩ := C
  intro H locs ls hP hD hS hR hl
  exact lv_ineg hx hb hd (by rw [iZ_neg]; exact k H locs ls hP hD hS hR hl)
theorem r_iand {x y : Int} (C : CX κ cc own mL rm) (hd : decode cc pc = .ok (.iand, 1)) (k : J κ k1 k2 a n σ L (pc + 1) (iv (iand x y) :: st)) : J κ k1 k2 a n σ L pc (iv y :: iv x :: st) := by
  obtain ⟨p, l, e, R, s, m, args, below, meth, c, nL, Q, A, D⟩ := κ
  obtain ⟨hx, hb, hml, hown, hts, hK, hA, hlk, hnL, hRm, hN⟩ := C
  intro H locs ls hP hD hS hR hl
  exact lv_iand hx hb hd (by rw [iand_Z]; exact k H locs ls hP hD hS hR hl)
theorem r_ixor {x y : Int} (C : CX κ cc own mL rm) (hd : decode cc pc = .ok (.ixor, 1)) (k : J κ k1 k2 a n σ L (pc + 1) (iv (ixor x y) :: st)) : J κ k1 k2 a n σ L pc (iv y :: iv x :: st) := by
  obtain ⟨p, l, e, R, s, m, args, below, meth, c, nL, Q, A, D⟩ := κ
  obtain ⟨hx, hb, hml, hown, hts, hK, hA, hlk, hnL, hRm, hN⟩ := C
  intro H locs ls hP hD hS hR hl
  exact lv_ixor hx hb hd (by rw [ixor_Z]; exact k H locs ls hP hD hS hR hl)
theorem r_idiv {x y : Int} (C : CX κ cc own mL rm) (hd : decode cc pc = .ok (.idiv, 1)) (hx1 : inR x) (hy1 : inR y) (hy2 : y ≠ -1) (hy3 : y ≠ 0) (k : J κ k1 k2 a n σ L (pc + 1) (iv (x.tdiv y) :: st)) : J κ k1 k2 a n σ L pc (iv y :: iv x :: st) := by
  obtain ⟨p, l, e, R, s, m, args, below, meth, c, nL, Q, A, D⟩ := κ
  obtain ⟨hx, hb, hml, hown, hts, hK, hA, hlk, hnL, hRm, hN⟩ := C
  intro H locs ls hP hD hS hR hl
  exact lv_idiv hx hb hd (fun q => hy3 ((iZ_eq hy1 in0).mp (q.trans iZ_0))) (by rw [idiv_Z hx1 hy1 hy2]; exact k H locs ls hP hD hS hR hl)
theorem r_dup {v : Value} (C : CX κ cc own mL rm) (hd : decode cc pc = .ok (.dup, 1)) (hc : v.category = 1) (k : J κ k1 k2 a n σ L (pc + 1) (v :: v :: st)) : J κ k1 k2 a n σ L pc (v :: st) := by
  obtain ⟨p, l, e, R, s, m, args, below, meth, c, nL, Q, A, D⟩ := κ
  obtain ⟨hx, hb, hml, hown, hts, hK, hA, hlk, hnL, hRm, hN⟩ := C
  intro H locs ls hP hD hS hR hl
  exact lv_dup hx hb hd hc (k H locs ls hP hD hS hR hl)
theorem r_dup2 {v w : Value} (C : CX κ cc own mL rm) (hd : decode cc pc = .ok (.dup2, 1)) (hc : v.category = 1) (hc2 : w.category = 1) (k : J κ k1 k2 a n σ L (pc + 1) (v :: w :: v :: w :: st)) : J κ k1 k2 a n σ L pc (v :: w :: st) := by
  obtain ⟨p, l, e, R, s, m, args, below, meth, c, nL, Q, A, D⟩ := κ
  obtain ⟨hx, hb, hml, hown, hts, hK, hA, hlk, hnL, hRm, hN⟩ := C
  intro H locs ls hP hD hS hR hl
  exact lv_dup2_11 hx hb hd hc hc2 (k H locs ls hP hD hS hR hl)
theorem r_goto {off : Int} {tgt : Nat} (C : CX κ cc own mL rm) (hd : decode cc pc = .ok (.goto off, 3)) (ht : (pc : Int) + off = (tgt : Int)) (k : J κ k1 k2 a n σ L tgt st) : J κ k1 k2 a n σ L pc st := by
  obtain ⟨p, l, e, R, s, m, args, below, meth, c, nL, Q, A, D⟩ := κ
  obtain ⟨hx, hb, hml, hown, hts, hK, hA, hlk, hnL, hRm, hN⟩ := C
  intro H locs ls hP hD hS hR hl
  exact lv_goto hx hb hd ht (k H locs ls hP hD hS hR hl)
theorem iff0_eq {x : Int} (hx1 : inR x) : iZ x = 0 ↔ x = 0 := by rw [iZ_0]; exact (iZ_eq hx1 in0)
theorem r_icmp_eq {x y off : Int} {tgt : Nat} (C : CX κ cc own mL rm) (hd : decode cc pc = .ok (.if_icmp .eq off, 3)) (ht : (pc : Int) + off = (tgt : Int)) (hx1 : inR x) (hy1 : inR y) (kt : x = y → J κ k1 k2 a n σ L tgt st) (kf : ¬ x = y → J κ k1 k2 a n σ L (pc + 3) st) : J κ k1 k2 a n σ L pc (iv y :: iv x :: st) := by
  obtain ⟨p, l, e, R, s, m, args, below, meth, c, nL, Q, A, D⟩ := κ
  obtain ⟨hx, hb, hml, hown, hts, hK, hA, hlk, hnL, hRm, hN⟩ := C
  intro H locs ls hP hD hS hR hl
  exact lv_icmp_eq hx hb hd ht (fun q => kt ((iZ_eq hx1 hy1).mp q) H locs ls hP hD hS hR hl) (fun q => kf (fun q2 => q ((iZ_eq hx1 hy1).mpr q2)) H locs ls hP hD hS hR hl)
theorem r_if_eq {x off : Int} {tgt : Nat} (C : CX κ cc own mL rm) (hd : decode cc pc = .ok (.ifCond .eq off, 3)) (ht : (pc : Int) + off = (tgt : Int)) (hx1 : inR x) (kt : x = 0 → J κ k1 k2 a n σ L tgt st) (kf : ¬ x = 0 → J κ k1 k2 a n σ L (pc + 3) st) : J κ k1 k2 a n σ L pc (iv x :: st) := by
  obtain ⟨p, l, e, R, s, m, args, below, meth, c, nL, Q, A, D⟩ := κ
  obtain ⟨hx, hb, hml, hown, hts, hK, hA, hlk, hnL, hRm, hN⟩ := C
  intro H locs ls hP hD hS hR hl
  exact lv_if_eq hx hb hd ht (fun q => kt ((iff0_eq hx1).mp q) H locs ls hP hD hS hR hl) (fun q => kf (fun q2 => q ((iff0_eq hx1).mpr q2)) H locs ls hP hD hS hR hl)
theorem iff0_ne {x : Int} (hx1 : inR x) : iZ x = 0 ↔ x = 0 := by rw [iZ_0]; exact (iZ_eq hx1 in0)
theorem r_icmp_ne {x y off : Int} {tgt : Nat} (C : CX κ cc own mL rm) (hd : decode cc pc = .ok (.if_icmp .ne off, 3)) (ht : (pc : Int) + off = (tgt : Int)) (hx1 : inR x) (hy1 : inR y) (kt : ¬ x = y → J κ k1 k2 a n σ L tgt st) (kf : x = y → J κ k1 k2 a n σ L (pc + 3) st) : J κ k1 k2 a n σ L pc (iv y :: iv x :: st) := by
  obtain ⟨p, l, e, R, s, m, args, below, meth, c, nL, Q, A, D⟩ := κ
  obtain ⟨hx, hb, hml, hown, hts, hK, hA, hlk, hnL, hRm, hN⟩ := C
  intro H locs ls hP hD hS hR hl
  exact lv_icmp_ne hx hb hd ht (fun q => kt (fun q2 => q ((iZ_eq hx1 hy1).mpr q2)) H locs ls hP hD hS hR hl) (fun q => kf ((iZ_eq hx1 hy1).mp q) H locs ls hP hD hS hR hl)
theorem r_if_ne {x off : Int} {tgt : Nat} (C : CX κ cc own mL rm) (hd : decode cc pc = .ok (.ifCond .ne off, 3)) (ht : (pc : Int) + off = (tgt : Int)) (hx1 : inR x) (kt : ¬ x = 0 → J κ k1 k2 a n σ L tgt st) (kf : x = 0 → J κ k1 k2 a n σ L (pc + 3) st) : J κ k1 k2 a n σ L pc (iv x :: st) := by
  obtain ⟨p, l, e, R, s, m, args, below, meth, c, nL, Q, A, D⟩ := κ
  obtain ⟨hx, hb, hml, hown, hts, hK, hA, hlk, hnL, hRm, hN⟩ := C
  intro H locs ls hP hD hS hR hl
  exact lv_if_ne hx hb hd ht (fun q => kt (fun q2 => q ((iff0_ne hx1).mpr q2)) H locs ls hP hD hS hR hl) (fun q => kf ((iff0_ne hx1).mp q) H locs ls hP hD hS hR hl)
theorem iff0_lt {x : Int} (hx1 : inR x) : iZ x < 0 ↔ x < 0 := by rw [iZ_0]; exact (iZ_lt hx1 in0)
theorem r_icmp_lt {x y off : Int} {tgt : Nat} (C : CX κ cc own mL rm) (hd : decode cc pc = .ok (.if_icmp .lt off, 3)) (ht : (pc : Int) + off = (tgt : Int)) (hx1 : inR x) (hy1 : inR y) (kt : x < y → J κ k1 k2 a n σ L tgt st) (kf : ¬ x < y → J κ k1 k2 a n σ L (pc + 3) st) : J κ k1 k2 a n σ L pc (iv y :: iv x :: st) := by
  obtain ⟨p, l, e, R, s, m, args, below, meth, c, nL, Q, A, D⟩ := κ
  obtain ⟨hx, hb, hml, hown, hts, hK, hA, hlk, hnL, hRm, hN⟩ := C
  intro H locs ls hP hD hS hR hl
  exact lv_icmp_lt hx hb hd ht (fun q => kt ((iZ_lt hx1 hy1).mp q) H locs ls hP hD hS hR hl) (fun q => kf (fun q2 => q ((iZ_lt hx1 hy1).mpr q2)) H locs ls hP hD hS hR hl)
theorem r_if_lt {x off : Int} {tgt : Nat} (C : CX κ cc own mL rm) (hd : decode cc pc = .ok (.ifCond .lt off, 3)) (ht : (pc : Int) + off = (tgt : Int)) (hx1 : inR x) (kt : x < 0 → J κ k1 k2 a n σ L tgt st) (kf : ¬ x < 0 → J κ k1 k2 a n σ L (pc + 3) st) : J κ k1 k2 a n σ L pc (iv x :: st) := by
  obtain ⟨p, l, e, R, s, m, args, below, meth, c, nL, Q, A, D⟩ := κ
  obtain ⟨hx, hb, hml, hown, hts, hK, hA, hlk, hnL, hRm, hN⟩ := C
  intro H locs ls hP hD hS hR hl
  exact lv_if_lt hx hb hd ht (fun q => kt ((iff0_lt hx1).mp q) H locs ls hP hD hS hR hl) (fun q => kf (fun q2 => q ((iff0_lt hx1).mpr q2)) H locs ls hP hD hS hR hl)
theorem iff0_ge {x : Int} (hx1 : inR x) : 0 ≤ iZ x ↔ 0 ≤ x := by rw [iZ_0]; exact (iZ_le in0 hx1)
theorem r_icmp_ge {x y off : Int} {tgt : Nat} (C : CX κ cc own mL rm) (hd : decode cc pc = .ok (.if_icmp .ge off, 3)) (ht : (pc : Int) + off = (tgt : Int)) (hx1 : inR x) (hy1 : inR y) (kt : y ≤ x → J κ k1 k2 a n σ L tgt st) (kf : ¬ y ≤ x → J κ k1 k2 a n σ L (pc + 3) st) : J κ k1 k2 a n σ L pc (iv y :: iv x :: st) := by
  obtain ⟨p, l, e, R, s, m, args, below, meth, c, nL, Q, A, D⟩ := κ
  obtain ⟨hx, hb, hml, hown, hts, hK, hA, hlk, hnL, hRm, hN⟩ := C
  intro H locs ls hP hD hS hR hl
  exact lv_icmp_ge hx hb hd ht (fun q => kt ((iZ_le hy1 hx1).mp q) H locs ls hP hD hS hR hl) (fun q => kf (fun q2 => q ((iZ_le hy1 hx1).mpr q2)) H locs ls hP hD hS hR hl)
theorem r_if_ge {x off : Int} {tgt : Nat} (C : CX κ cc own mL rm) (hd : decode cc pc = .ok (.ifCond .ge off, 3)) (ht : (pc : Int) + off = (tgt : Int)) (hx1 : inR x) (kt : 0 ≤ x → J κ k1 k2 a n σ L tgt st) (kf : ¬ 0 ≤ x → J κ k1 k2 a n σ L (pc + 3) st) : J κ k1 k2 a n σ L pc (iv x :: st) := by
  obtain ⟨p, l, e, R, s, m, args, below, meth, c, nL, Q, A, D⟩ := κ
  obtain ⟨hx, hb, hml, hown, hts, hK, hA, hlk, hnL, hRm, hN⟩ := C
  intro H locs ls hP hD hS hR hl
  exact lv_if_ge hx hb hd ht (fun q => kt ((iff0_ge hx1).mp q) H locs ls hP hD hS hR hl) (fun q => kf (fun q2 => q ((iff0_ge hx1).mpr q2)) H locs ls hP hD hS hR hl)
theorem iff0_gt {x : Int} (hx1 : inR x) : 0 < iZ x ↔ 0 < x := by rw [iZ_0]; exact (iZ_lt in0 hx1)
theorem r_icmp_gt {x y off : Int} {tgt : Nat} (C : CX κ cc own mL rm) (hd : decode cc pc = .ok (.if_icmp .gt off, 3)) (ht : (pc : Int) + off = (tgt : Int)) (hx1 : inR x) (hy1 : inR y) (kt : y < x → J κ k1 k2 a n σ L tgt st) (kf : ¬ y < x → J κ k1 k2 a n σ L (pc + 3) st) : J κ k1 k2 a n σ L pc (iv y :: iv x :: st) := by
  obtain ⟨p, l, e, R, s, m, args, below, meth, c, nL, Q, A, D⟩ := κ
  obtain ⟨hx, hb, hml, hown, hts, hK, hA, hlk, hnL, hRm, hN⟩ := C
  intro H locs ls hP hD hS hR hl
  exact lv_icmp_gt hx hb hd ht (fun q => kt ((iZ_lt hy1 hx1).mp q) H locs ls hP hD hS hR hl) (fun q => kf (fun q2 => q ((iZ_lt hy1 hx1).mpr q2)) H locs ls hP hD hS hR hl)
theorem r_if_gt {x off : Int} {tgt : Nat} (C : CX κ cc own mL rm) (hd : decode cc pc = .ok (.ifCond .gt off, 3)) (ht : (pc : Int) + off = (tgt : Int)) (hx1 : inR x) (kt : 0 < x → J κ k1 k2 a n σ L tgt st) (kf : ¬ 0 < x → J κ k1 k2 a n σ L (pc + 3) st) : J κ k1 k2 a n σ L pc (iv x :: st) := by
  obtain ⟨p, l, e, R, s, m, args, below, meth, c, nL, Q, A, D⟩ := κ
  obtain ⟨hx, hb, hml, hown, hts, hK, hA, hlk, hnL, hRm, hN⟩ := C
  intro H locs ls hP hD hS hR hl
  exact lv_if_gt hx hb hd ht (fun q => kt ((iff0_gt hx1).mp q) H locs ls hP hD hS hR hl) (fun q => kf (fun q2 => q ((iff0_gt hx1).mpr q2)) H locs ls hP hD hS hR hl)
theorem iff0_le {x : Int} (hx1 : inR x) : iZ x ≤ 0 ↔ x ≤ 0 := by rw [iZ_0]; exact (iZ_le hx1 in0)
theorem r_icmp_le {x y off : Int} {tgt : Nat} (C : CX κ cc own mL rm) (hd : decode cc pc = .ok (.if_icmp .le off, 3)) (ht : (pc : Int) + off = (tgt : Int)) (hx1 : inR x) (hy1 : inR y) (kt : x ≤ y → J κ k1 k2 a n σ L tgt st) (kf : ¬ x ≤ y → J κ k1 k2 a n σ L (pc + 3) st) : J κ k1 k2 a n σ L pc (iv y :: iv x :: st) := by
  obtain ⟨p, l, e, R, s, m, args, below, meth, c, nL, Q, A, D⟩ := κ
  obtain ⟨hx, hb, hml, hown, hts, hK, hA, hlk, hnL, hRm, hN⟩ := C
  intro H locs ls hP hD hS hR hl
  exact lv_icmp_le hx hb hd ht (fun q => kt ((iZ_le hx1 hy1).mp q) H locs ls hP hD hS hR hl) (fun q => kf (fun q2 => q ((iZ_le hx1 hy1).mpr q2)) H locs ls hP hD hS hR hl)
theorem r_if_le {x off : Int} {tgt : Nat} (C : CX κ cc own mL rm) (hd : decode cc pc = .ok (.ifCond .le off, 3)) (ht : (pc : Int) + off = (tgt : Int)) (hx1 : inR x) (kt : x ≤ 0 → J κ k1 k2 a n σ L tgt st) (kf : ¬ x ≤ 0 → J κ k1 k2 a n σ L (pc + 3) st) : J κ k1 k2 a n σ L pc (iv x :: st) := by
  obtain ⟨p, l, e, R, s, m, args, below, meth, c, nL, Q, A, D⟩ := κ
  obtain ⟨hx, hb, hml, hown, hts, hK, hA, hlk, hnL, hRm, hN⟩ := C
  intro H locs ls hP hD hS hR hl
  exact lv_if_le hx hb hd ht (fun q => kt ((iff0_le hx1).mp q) H locs ls hP hD hS hR hl) (fun q => kf (fun q2 => q ((iff0_le hx1).mpr q2)) H locs ls hP hD hS hR hl)
theorem r_ifnull {x : Nat} {off : Int} (C : CX κ cc own mL rm) (hd : decode cc pc = .ok (.ifnull off, 3)) (k : J κ k1 k2 a n σ L (pc + 3) st) : J κ k1 k2 a n σ L pc (.ref x :: st) := by
  obtain ⟨p, l, e, R, s, m, args, below, meth, c, nL, Q, A, D⟩ := κ
  obtain ⟨hx, hb, hml, hown, hts, hK, hA, hlk, hnL, hRm, hN⟩ := C
  intro H locs ls hP hD hS hR hl
  exact lv_ifnull hx hb hd (k H locs ls hP hD hS hR hl)
theorem r_ifnullN {off : Int} {tgt : Nat} (C : CX κ cc own mL rm) (hd : decode cc pc = .ok (.ifnull off, 3)) (ht : (pc : Int) + off = (tgt : Int)) (k : J κ k1 k2 a n σ L tgt st) : J κ k1 k2 a n σ L pc (.null :: st) := by
  obtain ⟨p, l, e, R, s, m, args, below, meth, c, nL, Q, A, D⟩ := κ
  obtain ⟨hx, hb, hml, hown, hts, hK, hA, hlk, hnL, hRm, hN⟩ := C
  intro H locs ls hP hD hS hR hl
  exact lv_ifnullN hx hb hd ht (k H locs ls hP hD hS hR hl)
theorem r_ifnonnull {x : Nat} {off : Int} {tgt : Nat} (C : CX κ cc own mL rm) (hd : decode cc pc = .ok (.ifnonnull off, 3)) (ht : (pc : Int) + off = (tgt : Int)) (k : J κ k1 k2 a n σ L tgt st) : J κ k1 k2 a n σ L pc (.ref x :: st) := by
  obtain ⟨p, l, e, R, s, m, args, below, meth, c, nL, Q, A, D⟩ := κ
  obtain ⟨hx, hb, hml, hown, hts, hK, hA, hlk, hnL, hRm, hN⟩ := C
  intro H locs ls hP hD hS hR hl
  exact lv_ifnonnull hx hb hd ht (k H locs ls hP hD hS hR hl)
theorem r_ifnonnullN {off : Int} (C : CX κ cc own mL rm) (hd : decode cc pc = .ok (.ifnonnull off, 3)) (k : J κ k1 k2 a n σ L (pc + 3) st) : J κ k1 k2 a n σ L pc (.null :: st) := by
  obtain ⟨p, l, e, R, s, m, args, below, meth, c, nL, Q, A, D⟩ := κ
  obtain ⟨hx, hb, hml, hown, hts, hK, hA, hlk, hnL, hRm, hN⟩ := C
  intro H locs ls hP hD hS hR hl
  exact lv_ifnonnullN hx hb hd (k H locs ls hP hD hS hR hl)
theorem r_null (C : CX κ cc own mL rm) (hd : decode cc pc = .ok (.aconst_null, 1)) (k : J κ k1 k2 a n σ L (pc + 1) (.null :: st)) : J κ k1 k2 a n σ L pc st := by
  obtain ⟨p, l, e, R, s, m, args, below, meth, c, nL, Q, A, D⟩ := κ
  obtain ⟨hx, hb, hml, hown, hts, hK, hA, hlk, hnL, hRm, hN⟩ := C
  intro H locs ls hP hD hS hR hl
  exact lv_null hx hb hd (k H locs ls hP hD hS hR hl)
theorem r_st (k : ∀ τ : ST, τ = σ → J κ k1 k2 a n τ L pc st) : J κ k1 k2 a n σ L pc st := k σ rfl
theorem r_tIn {x off dflt lo hi : Int} {offs : Array Int} {len tgt : Nat} (C : CX κ cc own mL rm) (hd : decode cc pc = .ok (.tableswitch dflt lo hi offs, len)) (hx1 : inR x) (h1 : ¬ x < lo) (h2 : ¬ hi < x) (ho : offs[(x - lo).toNat]? = some off) (ht : (pc : Int) + off = (tgt : Int)) (k : J κ k1 k2 a n σ L tgt st) : J κ k1 k2 a n σ L pc (iv x :: st) := by
  obtain ⟨p, l, e, R, s, m, args, below, meth, c, nL, Q, A, D⟩ := κ
  obtain ⟨hx, hb, hml, hown, hts, hK, hA, hlk, hnL, hRm, hN⟩ := C
  intro H locs ls hP hD hS hR hl
  have e1 := iZ_toInt hx1
  exact lv_tableIn hx hb hd (by rw [e1]; exact h1) (by rw [e1]; exact h2) (by rw [e1]; exact ho) ht (k H locs ls hP hD hS hR hl)
theorem r_tOut {x dflt lo hi : Int} {offs : Array Int} {len tgt : Nat} (C : CX κ cc own mL rm) (hd : decode cc pc = .ok (.tableswitch dflt lo hi offs, len)) (hx1 : inR x) (h : x < lo ∨ hi < x) (ht : (pc : Int) + dflt = (tgt : Int)) (k : J κ k1 k2 a n σ L tgt st) : J κ k1 k2 a n σ L pc (iv x :: st) := by
  obtain ⟨p, l, e, R, s, m, args, below, meth, c, nL, Q, A, D⟩ := κ
  obtain ⟨hx, hb, hml, hown, hts, hK, hA, hlk, hnL, hRm, hN⟩ := C
  intro H locs ls hP hD hS hR hl
  have e1 := iZ_toInt hx1
  exact lv_tableOut hx hb hd (by rw [e1]; exact h) ht (k H locs ls hP hD hS hR hl)
/-! fields -/
theorem r_get {ci N i k : Nat} {Cn : String} {T : u_T} {fs : List Value} {v : Value} (C : CX κ cc own mL rm) (hd : decode cc pc = .ok (.getfield i, 3)) (c0 : Nat) (hc : c0 < 39 + 5 * n) (he : ∀ D, cF D a n c0 (σ c0) = .inr (ci, fs)) (hcl : vwCl[ci]? = some (Cn, T, N)) (hin : ∀ w ∈ u_ws Cn T N, w ∈ lw_g) (hk : k < N) (hw : Cond.fieldLink own i (T k).1 (T k).2.1 (T k).2.2.1 ∈ lw_g) (hv : fs[k]? = some v) (kk : J κ k1 k2 a n σ L (pc + 3) (v :: st)) : J κ k1 k2 a n σ L pc (.ref (a c0) :: st) := by
  obtain ⟨p, l, e, R, s, m, args, below, meth, c, nL, Q, A, D⟩ := κ
  obtain ⟨hx, hb, hml, hown, hts, hK, hA, hlk, hnL, hRm, hN⟩ := C
  intro H locs ls hP hD hS hR hl
  have h1 : (wS D a n σ)[c0]? = some (a c0, .inr (ci, fs)) := by rw [wS_at hc, he]
  exact va_get hx hb hts hin hown hK hP c0 h1 hcl k hk (hts _ hw) (fun _ h => h) hv hd (kk H locs ls hP hD hS hR hl)
theorem r_getN {ci N i k : Nat} {Cn host : String} {T : u_T} {fs : List Value} {v : Value} (C : CX κ cc own mL rm) (hd : decode cc pc = .ok (.getfield i, 3)) (c0 : Nat) (hc : c0 < 39 + 5 * n) (he : ∀ D, cF D a n c0 (σ c0) = .inr (ci, fs)) (hcl : vwCl[ci]? = some (Cn, T, N)) (hin : ∀ w ∈ u_ws Cn T N, w ∈ lw_g) (hk : k < N) (hw : Cond.fieldLinkNest own i (T k).1 (T k).2.1 (T k).2.2.1 host ∈ nwL) (hv : fs[k]? = some v) (kk : J κ k1 k2 a n σ L (pc + 3) (v :: st)) : J κ k1 k2 a n σ L pc (.ref (a c0) :: st) := by
  obtain ⟨p, l, e, R, s, m, args, below, meth, c, nL, Q, A, D⟩ := κ
  obtain ⟨hx, hb, hml, hown, hts, hK, hA, hlk, hnL, hRm, hN⟩ := C
  intro H locs ls hP hD hS hR hl
  have h1 : (wS D a n σ)[c0]? = some (a c0, .inr (ci, fs)) := by rw [wS_at hc, he]
  exact va_getN hx hb hts hin hown hK hP c0 h1 hcl k hk (va_Nw.use rfl (hN _ hw)) (fun _ h => h) hv hd (kk H locs ls hP hD hS hR hl)
theorem r_put {ci N i k : Nat} {Cn : String} {T : u_T} {fs : List Value} {z : Int} {ty0 : Nat → FieldType} {ty : FieldType} (C : CX κ cc own mL rm) (hd : decode cc pc = .ok (.putfield i, 3)) (c0 : Nat) (hc : c0 < 39 + 5 * n) (he : ∀ D, cF D a n c0 (σ c0) = .inr (ci, fs)) (he2 : ∀ D, cF D a n c0 (fun j => if j = (k : Int) then z else σ c0 j) = .inr (ci, fs.set k (iv z))) (hcl : vwCl[ci]? = some (Cn, T, N)) (hin : ∀ w ∈ u_ws Cn T N, w ∈ lw_g) (hty : ∀ k, k < N → parseFieldDescriptor (T k).2.2.1 = some (ty0 k)) (hnm : ∀ a, a < N → ∀ b, b < N → a ≠ b → (T a).2.1 ≠ (T b).2.1) (hk : k < N) (hl0 : k < fs.length) (hfin : (T k).2.2.2 = false) (hdt : parseFieldDescriptor (T k).2.2.1 = some ty) (hn : narrow ty (iv z) = iv z) (hfit : fits ty (iv z) = true) (hw : Cond.fieldLink own i (T k).1 (T k).2.1 (T k).2.2.1 ∈ lw_g) (hz : inR z) (kk : J κ k1 k2 a n (up2 σ c0 k z) L (pc + 3) st) : J κ k1 k2 a n σ L pc (iv z :: .ref (a c0) :: st) := by
  obtain ⟨p, l, e, R, s, m, args, below, meth, c, nL, Q, A, D⟩ := κ
  obtain ⟨hx, hb, hml, hown, hts, hK, hA, hlk, hnL, hRm, hN⟩ := C
  intro H locs ls hP hD hS hR hl
  have h1 : (wS D a n σ)[c0]? = some (a c0, .inr (ci, fs)) := by rw [wS_at hc, he]
  refine va_put hx hb hts hin ty0 hty hnm hown hK hP hD hS c0 h1 hcl k hk (hts _ hw) (fun _ h => h) hfin hdt hn hfit hl0 hd (fun H1 locs1 hP1 hD1 hS1 => ?_)
  rw [wS_set hc (he2 D).symm] at hP1 hD1
  exact kk H1 locs1 ls hP1 hD1 hS1 (up2_in hR hz) hl
theorem r_putN {ci N i k : Nat} {Cn host : String} {T : u_T} {fs : List Value} {z : Int} {ty0 : Nat → FieldType} {ty : FieldType} (C : CX κ cc own mL rm) (hd : decode cc pc = .ok (.putfield i, 3)) (c0 : Nat) (hc : c0 < 39 + 5 * n) (he : ∀ D, cF D a n c0 (σ c0) = .inr (ci, fs)) (he2 : ∀ D, cF D a n c0 (fun j => if j = (k : Int) then z else σ c0 j) = .inr (ci, fs.set k (iv z))) (hcl : vwCl[ci]? = some (Cn, T, N)) (hin : ∀ w ∈ u_ws Cn T N, w ∈ lw_g) (hty : ∀ k, k < N → parseFieldDescriptor (T k).2.2.1 = some (ty0 k)) (hnm : ∀ a, a < N → ∀ b, b < N → a ≠ b → (T a).2.1 ≠ (T b).2.1) (hk : k < N) (hl0 : k < fs.length) (hfin : (T k).2.2.2 = false) (hdt : parseFieldDescriptor (T k).2.2.1 = some ty) (hn : narrow ty (iv z) = iv z) (hfit : fits ty (iv z) = true) (hw : Cond.fieldLinkNest own i (T k).1 (T k).2.1 (T k).2.2.1 host ∈ nwL) (hz : inR z) (kk : J κ k1 k2 a n (up2 σ c0 k z) L (pc + 3) st) : J κ k1 k2 a n σ L pc (iv z :: .ref (a c0) :: st) := by
  obtain ⟨p, l, e, R, s, m, args, below, meth, c, nL, Q, A, D⟩ := κ
  obtain ⟨hx, hb, hml, hown, hts, hK, hA, hlk, hnL, hRm, hN⟩ := C
  intro H locs ls hP hD hS hR hl
  have h1 : (wS D a n σ)[c0]? = some (a c0, .inr (ci, fs)) := by rw [wS_at hc, he]
  refine va_putN hx hb hts hin ty0 hty hnm hown hK hP hD hS c0 h1 hcl k hk (va_Nw.use rfl (hN _ hw)) (fun _ h => h) hfin hdt hn hfit hl0 hd (fun H1 locs1 hP1 hD1 hS1 => ?_)
  rw [wS_set hc (he2 D).symm] at hP1 hD1
  exact kk H1 locs1 ls hP1 hD1 hS1 (up2_in hR hz) hl
/-! arrays -/
theorem r_iald {i : Int} (len : Nat) {c0 : Nat} (C : CX κ cc own mL rm) (hd : decode cc pc = .ok (.iaload, 1)) (hc : c0 < 39 + 5 * n) (he : ∀ D : va_G, cF D a n c0 (σ c0) = .inl (D.1 7, len, .inl (fun j => iZ (σ c0 j)))) (h0 : 0 ≤ i) (h1 : i < len) (hlen : len < 2147483648) (kk : inR (σ c0 i) → J κ k1 k2 a n σ L (pc + 1) (iv (σ c0 i) :: st)) : J κ k1 k2 a n σ L pc (iv i :: .ref (a c0) :: st) := by
  obtain ⟨p, l, e, R, s, m, args, below, meth, c, nL, Q, A, D⟩ := κ
  obtain ⟨hx, hb, hml, hown, hts, hK, hA, hlk, hnL, hRm, hN⟩ := C
  intro H locs ls hP hD hS hR hl
  have e1 : (wS D a n σ)[c0]? = some (a c0, .inl (D.1 7, len, .inl (fun j : Nat => iZ (σ c0 j)))) := by rw [wS_at hc, he]
  refine va_iald hx hb hK hP c0 0 e1 rfl (iZ_vpin h0 h1 hlen) hd ?_
  show W _ _ _ _ _ _ _ _ _ _ _ _ _ _ _ (F0 _ _ _ (.int (iZ (σ c0 ((iZ i).toNatClampNeg : Int))) :: _))
  rw [iZ_nat ⟨by omega, by omega⟩ h0]
  exact kk (hR c0 i) H locs ls hP hD hS hR hl
theorem r_zald {i : Int} (len : Nat) {c0 : Nat} (C : CX κ cc own mL rm) (hd : decode cc pc = .ok (.baload, 1)) (hc : c0 < 39 + 5 * n) (he : ∀ D : va_G, cF D a n c0 (σ c0) = .inl (D.1 8, len, .inl (fun j => iZ (σ c0 j)))) (h0 : 0 ≤ i) (h1 : i < len) (hlen : len < 2147483648) (kk : inR (σ c0 i) → J κ k1 k2 a n σ L (pc + 1) (iv (σ c0 i) :: st)) : J κ k1 k2 a n σ L pc (iv i :: .ref (a c0) :: st) := by
  obtain ⟨p, l, e, R, s, m, args, below, meth, c, nL, Q, A, D⟩ := κ
  obtain ⟨hx, hb, hml, hown, hts, hK, hA, hlk, hnL, hRm, hN⟩ := C
  intro H locs ls hP hD hS hR hl
  have e1 : (wS D a n σ)[c0]? = some (a c0, .inl (D.1 8, len, .inl (fun j : Nat => iZ (σ c0 j)))) := by rw [wS_at hc, he]
  refine va_zald hx hb hK hP c0 1 e1 rfl (iZ_vpin h0 h1 hlen) hd ?_
  show W _ _ _ _ _ _ _ _ _ _ _ _ _ _ _ (F0 _ _ _ (.int (iZ (σ c0 ((iZ i).toNatClampNeg : Int))) :: _))
  rw [iZ_nat ⟨by omega, by omega⟩ h0]
  exact kk (hR c0 i) H locs ls hP hD hS hR hl
theorem upd_iZ {f : Int → Int} {i z : Int} (h0 : 0 ≤ i) (h1 : i < 2147483648) : upd (fun j : Nat => iZ (f j)) (iZ i).toNatClampNeg (iZ z) = (fun j : Nat => iZ (if (j : Int) = i then z else f j)) := by
  funext j
  have e := iZ_nat (z := i) ⟨by omega, h1⟩ h0
  by_cases hj : j = (iZ i).toNatClampNeg
  · have : (j : Int) = i := by omega
    subst hj
    rw [pk_us]
    simp only [this, if_true]
  · have : ¬ (j : Int) = i := by omega
    rw [pk_un hj]
    simp only [this, if_false]
theorem r_iast {i z : Int} (len : Nat) {c0 : Nat} (C : CX κ cc own mL rm) (hd : decode cc pc = .ok (.iastore, 1)) (hc : c0 < 39 + 5 * n) (he : ∀ (D : va_G) (f : Int → Int), cF D a n c0 f = .inl (D.1 7, len, .inl (fun j => iZ (f j)))) (h0 : 0 ≤ i) (h1 : i < len) (hlen : len < 2147483648) (hz : inR z) (kk : J κ k1 k2 a n (up2 σ c0 i z) L (pc + 1) st) : J κ k1 k2 a n σ L pc (iv z :: iv i :: .ref (a c0) :: st) := by
  obtain ⟨p, l, e, R, s, m, args, below, meth, c, nL, Q, A, D⟩ := κ
  obtain ⟨hx, hb, hml, hown, hts, hK, hA, hlk, hnL, hRm, hN⟩ := C
  intro H locs ls hP hD hS hR hl
  have e1 : (wS D a n σ)[c0]? = some (a c0, .inl (D.1 7, len, .inl (fun j : Nat => iZ (σ c0 j)))) := by rw [wS_at hc, he]
  refine va_iast hx hb hK hP hD hS c0 0 e1 rfl (iZ_vpin h0 h1 hlen) hd (fun H1 locs1 hP1 hD1 hS1 => ?_)
  rw [upd_iZ h0 (by omega), wS_set (k := i) (z := z) hc (he D _).symm] at hP1 hD1
  exact kk H1 locs1 ls hP1 hD1 hS1 (up2_in hR hz) hl
theorem r_zast {i z : Int} (len : Nat) {c0 : Nat} (C : CX κ cc own mL rm) (hd : decode cc pc = .ok (.bastore, 1)) (hc : c0 < 39 + 5 * n) (he : ∀ (D : va_G) (f : Int → Int), cF D a n c0 f = .inl (D.1 8, len, .inl (fun j => iZ (f j)))) (h0 : 0 ≤ i) (h1 : i < len) (hlen : len < 2147483648) (hz : vp_nar .boolean (iZ z) = iZ z) (hz2 : inR z) (kk : J κ k1 k2 a n (up2 σ c0 i z) L (pc + 1) st) : J κ k1 k2 a n σ L pc (iv z :: iv i :: .ref (a c0) :: st) := by
  obtain ⟨p, l, e, R, s, m, args, below, meth, c, nL, Q, A, D⟩ := κ
  obtain ⟨hx, hb, hml, hown, hts, hK, hA, hlk, hnL, hRm, hN⟩ := C
  intro H locs ls hP hD hS hR hl
  have e1 : (wS D a n σ)[c0]? = some (a c0, .inl (D.1 8, len, .inl (fun j : Nat => iZ (σ c0 j)))) := by rw [wS_at hc, he]
  refine va_zast hx hb hK hP hD hS c0 1 e1 rfl (iZ_vpin h0 h1 hlen) hd (fun H1 locs1 hP1 hD1 hS1 => ?_)
  rw [hz, upd_iZ h0 (by omega), wS_set (k := i) (z := z) hc (he D _).symm] at hP1 hD1
  exact kk H1 locs1 ls hP1 hD1 hS1 (up2_in hR hz2) hl
theorem r_aald {i : Int} (C : CX κ cc own mL rm) (hd : decode cc pc = .ok (.aaload, 1)) (h0 : 0 ≤ i) (h1 : i < 6) (hi : i < n) (kk : J κ k1 k2 a n σ L (pc + 1) (.ref (a (39 + 5 * i.toNat)) :: st)) : J κ k1 k2 a n σ L pc (iv i :: .ref (a 8) :: st) := by
  obtain ⟨p, l, e, R, s, m, args, below, meth, c, nL, Q, A, D⟩ := κ
  obtain ⟨hx, hb, hml, hown, hts, hK, hA, hlk, hnL, hRm, hN⟩ := C
  intro H locs ls hP hD hS hR hl
  have e1 : (wS D a n σ)[8]? = some (a 8, .inl (D.1 9, 6, .inr (.inr (.inr (.inr (fun j => if j < n then some (a (39 + 5 * j)) else none)))))) := by rw [wS_at (by omega)]; rfl
  refine va_aldq (C := "PartRoom$Voice") hx hb hK hP 8 2 e1 rfl (iZ_vpin h0 h1 (by omega)) hd ?_
  have e2 := iZ_nat (z := i) ⟨by omega, by omega⟩ h0
  have e3 : (iZ i).toNatClampNeg = i.toNat := by omega
  show W _ _ _ _ _ _ _ _ _ _ _ _ _ _ _ (F0 _ _ _ (va_rf (if (iZ i).toNatClampNeg < n then some (a (39 + 5 * (iZ i).toNatClampNeg)) else none) :: _))
  rw [e3, if_pos (by omega)]
  exact kk H locs ls hP hD hS hR hl
end JR
