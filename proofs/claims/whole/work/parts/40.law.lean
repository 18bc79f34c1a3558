/-! the script -/
def XX (κ : KT) (b L : Nat) (xs : Nat → Int32) : Prop := match κ with
  | (_, _, _, _, s, _, _, _, _, _, _, _, A, _) => va_X b L xs s s.heap ∧ b < s.heap.size ∧ ¬ A b
def Zs (xs : Nat → Int32) (k : Int) : Int := (xs k.toNat).toInt
theorem Zs_in (xs : Nat → Int32) (k : Int) : inR (Zs xs k) := iZ_in _
section LAW
variable {κ : KT} {cc : ByteArray} {own : String} {mL : Nat} {rm : Room} {k1 k2 : Nat} {a : Nat → Nat} {n : Nat} {σ : ST} {L : List (Nat × Value)} {pc : Nat} {st : List Value}
theorem r_sld {i : Int} {b len : Nat} {xs : Nat → Int32} (C : CX κ cc own mL rm) (X : XX κ b len xs) (hd : decode cc pc = .ok (.iaload, 1)) (h0 : 0 ≤ i) (h1 : i < len) (hlen : len < 2147483648) (kk : J κ k1 k2 a n σ L (pc + 1) (iv (Zs xs i) :: st)) : J κ k1 k2 a n σ L pc (iv i :: .ref b :: st) := by
  obtain ⟨p, l, e, R, s, m, args, below, meth, c, nL, Q, A, D⟩ := κ
  obtain ⟨hx, hb, hml, hown, hts, hK, hA, hlk, hnL, hRm, hN⟩ := C
  obtain ⟨x1, x2, x3⟩ := X
  intro H locs ls hP hD hS hR hl
  refine va_sld hx hb x1 x2 x3 hS (iZ_vpin h0 h1 hlen) hd ?_
  have e2 := iZ_nat (z := i) ⟨by omega, by omega⟩ h0
  rw [show (iZ i).toNatClampNeg = i.toNat by omega, show xs i.toNat = iZ (Zs xs i) from (iZ_of _).symm]
  exact kk H locs ls hP hD hS hR hl
theorem r_slen {b len : Nat} {xs : Nat → Int32} (C : CX κ cc own mL rm) (X : XX κ b len xs) (hd : decode cc pc = .ok (.arraylength, 1)) (kk : J κ k1 k2 a n σ L (pc + 1) (iv (len : Int) :: st)) : J κ k1 k2 a n σ L pc (.ref b :: st) := by
  obtain ⟨p, l, e, R, s, m, args, below, meth, c, nL, Q, A, D⟩ := κ
  obtain ⟨hx, hb, hml, hown, hts, hK, hA, hlk, hnL, hRm, hN⟩ := C
  obtain ⟨x1, x2, x3⟩ := X
  intro H locs ls hP hD hS hR hl
  refine va_slen hx hb x1 x2 x3 hS hd ?_
  rw [show Int32.ofNat len = iZ (len : Int) from Int32.ofInt_eq_ofNat.symm]
  exact kk H locs ls hP hD hS hR hl
theorem r_eqs {x off : Int} {tgt : Nat} (C : CX κ cc own mL rm) (hd : decode cc pc = .ok (.if_icmp .eq off, 3)) (ht : (pc : Int) + off = (tgt : Int)) (kt : J κ k1 k2 a n σ L tgt st) : J κ k1 k2 a n σ L pc (iv x :: iv x :: st) := by
  obtain ⟨p, l, e, R, s, m, args, below, meth, c, nL, Q, A, D⟩ := κ
  obtain ⟨hx, hb, hml, hown, hts, hK, hA, hlk, hnL, hRm, hN⟩ := C
  intro H locs ls hP hD hS hR hl
  exact lv_icmp_eq hx hb hd ht (fun _ => kt H locs ls hP hD hS hR hl) (fun q => absurd rfl q)
end LAW

set_option maxHeartbeats 8000000 in
set_option maxRecDepth 100000 in
theorem law_loop {κ : KT} {b L : Nat} {xs : Nat → Int32} (C : CX κ code RL 4 room_1) (X : XX κ b L xs) (hL : L ≤ 2560) (hend : ∀ (a : Nat → Nat) (n : Nat) (σ : ST) (Lc : List (Nat × Value)) (k1 k2 : Nat), k1 ≤ 600000 → k2 ≤ 7302250 → J κ k1 k2 a n σ Lc 863 [iv 1]) : ∀ (f N : Nat) (a : Nat → Nat) (n : Nat) (σ : ST), 5 * N ≤ L → L < 5 * N + f → MS σ → E σ σ n (N : Int) → J κ (39 + 5 * N) (2350 + 168 * N) a n σ [(0, .ref b), (1, .ref (a 0)), (2, .ref (a 18)), (3, iv (5 * (N : Int)))] 18 [] := by
  intro f
  induction f with
  | zero => intro N a n σ h1 h2; omega
  | succ f ih =>
    intro N a n σ h5 hf hM hE
    have hN : (N : Int) < 900000 := by omega
    have hC := hE.cs hM
    have tail : ∀ (a' : Nat → Nat) (n' : Nat) (σ' : ST) (k1 k2 : Nat), 5 * (N : Int) + 5 ≤ L → k1 ≤ 44 + 5 * N → k2 ≤ 2518 + 168 * N → MS σ' → E σ' σ' n' ((N : Int) + 1) → J κ k1 k2 a' n' σ' [(0, .ref b), (1, .ref (a' 0)), (2, .ref (a' 18)), (3, iv (5 * (N : Int)))] 856 [] := by
      intro a' n' σ' k1 k2 hle hk1 hk2 hM' hE'
      refine r_iinc C dL_law_856 (by decide) 3 rfl (fun z_ => [(3, iv z_), (0, .ref b), (1, .ref (a' 0)), (2, .ref (a' 18))]) (fun _ => rfl) (fun z ez => ?_)
      refine r_goto (tgt := 18) C dL_law_859 (by decide) ?_
      refine r_sub [1, 2, 3, 0] (L' := [(0, .ref b), (1, .ref (a' 0)), (2, .ref (a' 18)), (3, iv z)]) rfl ?_
      have e1 : z = 5 * (((N + 1 : Nat)) : Int) := by omega
      rw [e1]
      exact r_widen _ _ (by omega) (by omega) (ih (N + 1) a' n' σ' (by omega) (by omega) hM' (by rw [show (((N + 1 : Nat)) : Int) = (N : Int) + 1 by omega]; exact hE'))
    refine r_iload_n C dL_law_18 3 rfl ?_
    refine r_aload_n C dL_law_19 0 rfl ?_
    refine r_slen C X dL_law_20 ?_
    refine r_iconst C dL_law_21 ?_
    refine r_isub C dL_law_22 ?_
    refine r_icmp_gt (tgt := 862) C dL_law_23 (by decide) (by omega) (by omega) (fun h => ?_) (fun h => ?_)
    · refine r_iconst C dL_law_862 ?_
      exact hend _ _ _ _ _ _ (by omega) (by omega)
    have hle : 5 * (N : Int) + 5 ≤ L := by omega
    refine r_aload_n C dL_law_26 0 rfl ?_
    refine r_iload_n C dL_law_27 3 rfl ?_
    refine r_sld C X dL_law_28 (by omega) (by omega) (by omega) ?_
    refine r_bipush C dL_law_29 (by decide) ?_
    refine r_iand C dL_law_31 ?_
    have hin := iand_in (Zs xs (5 * (N : Int))) 31
    refine r_top (fun y ey => ?_)
    rw [← ey] at hin
    have hy : y = 0 ∨ y = 1 ∨ y = 2 ∨ y = 3 ∨ y = 4 ∨ y = 5 ∨ y = 6 ∨ y = 7 ∨ y = 8 ∨ y = 9 ∨ y = 10 ∨ y = 11 ∨ y = 12 ∨ y = 13 ∨ y = 14 ∨ y = 15 ∨ y = 16 ∨ y = 17 ∨ y = 18 ∨ y = 19 ∨ y = 20 ∨ y = 21 ∨ y = 22 ∨ y = 23 ∨ (y < 0 ∨ 23 < y) := by omega
    rcases hy with rfl | rfl | rfl | rfl | rfl | rfl | rfl | rfl | rfl | rfl | rfl | rfl | rfl | rfl | rfl | rfl | rfl | rfl | rfl | rfl | rfl | rfl | rfl | rfl | h
    · refine r_tIn (off := 112) (tgt := 144) C dL_law_32 (by decide) (by decide) (by decide) rfl (by decide) ?_
      refine r_aload_n C dL_law_144 1 rfl ?_
      refine r_aload_n C dL_law_145 0 rfl ?_
      refine r_iload_n C dL_law_146 3 rfl ?_
      refine r_iconst C dL_law_147 ?_
      refine r_iadd C dL_law_148 ?_
      refine r_sld C X dL_law_149 (by omega) (by omega) (by omega) ?_
      refine r_callI1 0 C dL_law_150 lkL_13 (m_X5_bar hC (Zs_in _ _)) ⟨rfl, rfl, Nat.le_of_ble_eq_true rfl, Nat.le_of_ble_eq_true rfl⟩ ⟨by show _ ≤ 600000; omega, by show _ ≤ 7302250; omega⟩ rc0 (Nat.le_of_ble_eq_true rfl) (fun r1 σ1 h1 => ?_)
      obtain ⟨hM1, hq⟩ := q_bar hE hM hN h1
      refine r_aload_n C dL_law_153 2 rfl ?_
      refine r_aload_n C dL_law_154 0 rfl ?_
      refine r_iload_n C dL_law_155 3 rfl ?_
      refine r_iconst C dL_law_156 ?_
      refine r_iadd C dL_law_157 ?_
      refine r_sld C X dL_law_158 (by omega) (by omega) (by omega) ?_
      refine r_callI1 18 C dL_law_159 lkL_17 (m_X6_bar hM1 (Zs_in _ _)) ⟨rfl, rfl, Nat.le_of_ble_eq_true rfl, Nat.le_of_ble_eq_true rfl⟩ ⟨by show _ ≤ 600000; omega, by show _ ≤ 7302250; omega⟩ rc18 (Nat.le_of_ble_eq_true rfl) (fun r2 σ2 h2 => ?_)
      obtain ⟨er, hE2, hM2⟩ := hq _ _ h2
      subst er
      refine r_eqs (tgt := 856) C dL_law_162 (by decide) ?_
      exact tail _ _ _ _ _ hle (by omega) (by omega) hM2 hE2
    · refine r_tIn (off := 135) (tgt := 167) C dL_law_32 (by decide) (by decide) (by decide) rfl (by decide) ?_
      refine r_aload_n C dL_law_167 1 rfl ?_
      refine r_aload_n C dL_law_168 0 rfl ?_
      refine r_iload_n C dL_law_169 3 rfl ?_
      refine r_iconst C dL_law_170 ?_
      refine r_iadd C dL_law_171 ?_
      refine r_sld C X dL_law_172 (by omega) (by omega) (by omega) ?_
      refine r_aload_n C dL_law_173 0 rfl ?_
      refine r_iload_n C dL_law_174 3 rfl ?_
      refine r_iconst C dL_law_175 ?_
      refine r_iadd C dL_law_176 ?_
      refine r_sld C X dL_law_177 (by omega) (by omega) (by omega) ?_
      refine r_callA (As := [iv (Zs xs (5 * (N : Int) + 1)), iv (Zs xs (5 * (N : Int) + 2))]) (rest := []) 0 C dL_law_178 lkL_18 (m_X5_voice hC (Zs_in _ _) (Zs_in _ _)) ⟨rfl, rfl, Nat.le_of_ble_eq_true rfl, Nat.le_of_ble_eq_true rfl⟩ ⟨by show _ ≤ 600000; omega, by show _ ≤ 7302250; omega⟩ (by omega) (fun _ => rfl) rfl rfl rfl (Nat.le_of_ble_eq_true rfl) (fun r1 σ1 a1 n1 h1 => ?_)
      obtain ⟨hM1, hq⟩ := q_voice hE hM hN h1
      rw [← h1.1 0 (by omega), ← h1.1 18 (by omega)]
      refine r_aload_n C dL_law_181 2 rfl ?_
      refine r_aload_n C dL_law_182 0 rfl ?_
      refine r_iload_n C dL_law_183 3 rfl ?_
      refine r_iconst C dL_law_184 ?_
      refine r_iadd C dL_law_185 ?_
      refine r_sld C X dL_law_186 (by omega) (by omega) (by omega) ?_
      refine r_aload_n C dL_law_187 0 rfl ?_
      refine r_iload_n C dL_law_188 3 rfl ?_
      refine r_iconst C dL_law_189 ?_
      refine r_iadd C dL_law_190 ?_
      refine r_sld C X dL_law_191 (by omega) (by omega) (by omega) ?_
      refine r_callI2 18 C dL_law_192 lkL_22 (m_X6_voice hM1 (Zs_in _ _) (Zs_in _ _)) ⟨rfl, rfl, Nat.le_of_ble_eq_true rfl, Nat.le_of_ble_eq_true rfl⟩ ⟨by show _ ≤ 600000; omega, by show _ ≤ 7302250; omega⟩ rc18 (Nat.le_of_ble_eq_true rfl) (fun r2 σ2 h2 => ?_)
      obtain ⟨er, hE2, hM2⟩ := hq _ _ h2
      subst er
      refine r_eqs (tgt := 856) C dL_law_195 (by decide) ?_
      exact tail _ _ _ _ _ hle (by omega) (by omega) hM2 hE2
    · refine r_tIn (off := 168) (tgt := 200) C dL_law_32 (by decide) (by decide) (by decide) rfl (by decide) ?_
      refine r_aload_n C dL_law_200 1 rfl ?_
      refine r_aload_n C dL_law_201 0 rfl ?_
      refine r_iload_n C dL_law_202 3 rfl ?_
      refine r_iconst C dL_law_203 ?_
      refine r_iadd C dL_law_204 ?_
      refine r_sld C X dL_law_205 (by omega) (by omega) (by omega) ?_
      refine r_aload_n C dL_law_206 0 rfl ?_
      refine r_iload_n C dL_law_207 3 rfl ?_
      refine r_iconst C dL_law_208 ?_
      refine r_iadd C dL_law_209 ?_
      refine r_sld C X dL_law_210 (by omega) (by omega) (by omega) ?_
      refine r_callI2 0 C dL_law_211 lkL_23 (m_X5_as hC (Zs_in _ _) (Zs_in _ _)) ⟨rfl, rfl, Nat.le_of_ble_eq_true rfl, Nat.le_of_ble_eq_true rfl⟩ ⟨by show _ ≤ 600000; omega, by show _ ≤ 7302250; omega⟩ rc0 (Nat.le_of_ble_eq_true rfl) (fun r1 σ1 h1 => ?_)
      obtain ⟨hM1, hq⟩ := q_as hE hM hN h1
      refine r_aload_n C dL_law_214 2 rfl ?_
      refine r_aload_n C dL_law_215 0 rfl ?_
      refine r_iload_n C dL_law_216 3 rfl ?_
      refine r_iconst C dL_law_217 ?_
      refine r_iadd C dL_law_218 ?_
      refine r_sld C X dL_law_219 (by omega) (by omega) (by omega) ?_
      refine r_aload_n C dL_law_220 0 rfl ?_
      refine r_iload_n C dL_law_221 3 rfl ?_
      refine r_iconst C dL_law_222 ?_
      refine r_iadd C dL_law_223 ?_
      refine r_sld C X dL_law_224 (by omega) (by omega) (by omega) ?_
      refine r_callI2 18 C dL_law_225 lkL_26 (m_X6_as hM1 (Zs_in _ _) (Zs_in _ _)) ⟨rfl, rfl, Nat.le_of_ble_eq_true rfl, Nat.le_of_ble_eq_true rfl⟩ ⟨by show _ ≤ 600000; omega, by show _ ≤ 7302250; omega⟩ rc18 (Nat.le_of_ble_eq_true rfl) (fun r2 σ2 h2 => ?_)
      obtain ⟨er, hE2, hM2⟩ := hq _ _ h2
      subst er
      refine r_eqs (tgt := 856) C dL_law_228 (by decide) ?_
      exact tail _ _ _ _ _ hle (by omega) (by omega) hM2 hE2
    · refine r_tIn (off := 201) (tgt := 233) C dL_law_32 (by decide) (by decide) (by decide) rfl (by decide) ?_
      refine r_aload_n C dL_law_233 1 rfl ?_
      refine r_aload_n C dL_law_234 0 rfl ?_
      refine r_iload_n C dL_law_235 3 rfl ?_
      refine r_iconst C dL_law_236 ?_
      refine r_iadd C dL_law_237 ?_
      refine r_sld C X dL_law_238 (by omega) (by omega) (by omega) ?_
      refine r_aload_n C dL_law_239 0 rfl ?_
      refine r_iload_n C dL_law_240 3 rfl ?_
      refine r_iconst C dL_law_241 ?_
      refine r_iadd C dL_law_242 ?_
      refine r_sld C X dL_law_243 (by omega) (by omega) (by omega) ?_
      refine r_aload_n C dL_law_244 0 rfl ?_
      refine r_iload_n C dL_law_245 3 rfl ?_
      refine r_iconst C dL_law_246 ?_
      refine r_iadd C dL_law_247 ?_
      refine r_sld C X dL_law_248 (by omega) (by omega) (by omega) ?_
      refine r_aload_n C dL_law_249 0 rfl ?_
      refine r_iload_n C dL_law_250 3 rfl ?_
      refine r_iconst C dL_law_251 ?_
      refine r_iadd C dL_law_252 ?_
      refine r_sld C X dL_law_253 (by omega) (by omega) (by omega) ?_
      refine r_callI4 0 C dL_law_254 lkL_27 (m_X5_notes hC (Zs_in _ _) (Zs_in _ _) (Zs_in _ _) (Zs_in _ _)) ⟨rfl, rfl, Nat.le_of_ble_eq_true rfl, Nat.le_of_ble_eq_true rfl⟩ ⟨by show _ ≤ 600000; omega, by show _ ≤ 7302250; omega⟩ rc0 (Nat.le_of_ble_eq_true rfl) (fun r1 σ1 h1 => ?_)
      obtain ⟨hM1, hq⟩ := q_notes hE hM hN h1
      refine r_aload_n C dL_law_257 2 rfl ?_
      refine r_aload_n C dL_law_258 0 rfl ?_
      refine r_iload_n C dL_law_259 3 rfl ?_
      refine r_iconst C dL_law_260 ?_
      refine r_iadd C dL_law_261 ?_
      refine r_sld C X dL_law_262 (by omega) (by omega) (by omega) ?_
      refine r_aload_n C dL_law_263 0 rfl ?_
      refine r_iload_n C dL_law_264 3 rfl ?_
      refine r_iconst C dL_law_265 ?_
      refine r_iadd C dL_law_266 ?_
      refine r_sld C X dL_law_267 (by omega) (by omega) (by omega) ?_
      refine r_aload_n C dL_law_268 0 rfl ?_
      refine r_iload_n C dL_law_269 3 rfl ?_
      refine r_iconst C dL_law_270 ?_
      refine r_iadd C dL_law_271 ?_
      refine r_sld C X dL_law_272 (by omega) (by omega) (by omega) ?_
      refine r_aload_n C dL_law_273 0 rfl ?_
      refine r_iload_n C dL_law_274 3 rfl ?_
      refine r_iconst C dL_law_275 ?_
      refine r_iadd C dL_law_276 ?_
      refine r_sld C X dL_law_277 (by omega) (by omega) (by omega) ?_
      refine r_callI4 18 C dL_law_278 lkL_31 (m_X6_notes hM1 (Zs_in _ _) (Zs_in _ _) (Zs_in _ _) (Zs_in _ _)) ⟨rfl, rfl, Nat.le_of_ble_eq_true rfl, Nat.le_of_ble_eq_true rfl⟩ ⟨by show _ ≤ 600000; omega, by show _ ≤ 7302250; omega⟩ rc18 (Nat.le_of_ble_eq_true rfl) (fun r2 σ2 h2 => ?_)
      obtain ⟨er, hE2, hM2⟩ := hq _ _ h2
      subst er
      refine r_eqs (tgt := 856) C dL_law_281 (by decide) ?_
      exact tail _ _ _ _ _ hle (by omega) (by omega) hM2 hE2
    · refine r_tIn (off := 254) (tgt := 286) C dL_law_32 (by decide) (by decide) (by decide) rfl (by decide) ?_
      refine r_aload_n C dL_law_286 1 rfl ?_
      refine r_aload_n C dL_law_287 0 rfl ?_
      refine r_iload_n C dL_law_288 3 rfl ?_
      refine r_iconst C dL_law_289 ?_
      refine r_iadd C dL_law_290 ?_
      refine r_sld C X dL_law_291 (by omega) (by omega) (by omega) ?_
      refine r_aload_n C dL_law_292 0 rfl ?_
      refine r_iload_n C dL_law_293 3 rfl ?_
      refine r_iconst C dL_law_294 ?_
      refine r_iadd C dL_law_295 ?_
      refine r_sld C X dL_law_296 (by omega) (by omega) (by omega) ?_
      refine r_callI2 0 C dL_law_297 lkL_32 (m_X5_sign hC (Zs_in _ _) (Zs_in _ _)) ⟨rfl, rfl, Nat.le_of_ble_eq_true rfl, Nat.le_of_ble_eq_true rfl⟩ ⟨by show _ ≤ 600000; omega, by show _ ≤ 7302250; omega⟩ rc0 (Nat.le_of_ble_eq_true rfl) (fun r1 σ1 h1 => ?_)
      obtain ⟨hM1, hq⟩ := q_sign hE hM hN h1
      refine r_aload_n C dL_law_300 2 rfl ?_
      refine r_aload_n C dL_law_301 0 rfl ?_
      refine r_iload_n C dL_law_302 3 rfl ?_
      refine r_iconst C dL_law_303 ?_
      refine r_iadd C dL_law_304 ?_
      refine r_sld C X dL_law_305 (by omega) (by omega) (by omega) ?_
      refine r_aload_n C dL_law_306 0 rfl ?_
      refine r_iload_n C dL_law_307 3 rfl ?_
      refine r_iconst C dL_law_308 ?_
      refine r_iadd C dL_law_309 ?_
      refine r_sld C X dL_law_310 (by omega) (by omega) (by omega) ?_
      refine r_callI2 18 C dL_law_311 lkL_35 (m_X6_sign hM1 (Zs_in _ _) (Zs_in _ _)) ⟨rfl, rfl, Nat.le_of_ble_eq_true rfl, Nat.le_of_ble_eq_true rfl⟩ ⟨by show _ ≤ 600000; omega, by show _ ≤ 7302250; omega⟩ rc18 (Nat.le_of_ble_eq_true rfl) (fun r2 σ2 h2 => ?_)
      obtain ⟨er, hE2, hM2⟩ := hq _ _ h2
      subst er
      refine r_eqs (tgt := 856) C dL_law_314 (by decide) ?_
      exact tail _ _ _ _ _ hle (by omega) (by omega) hM2 hE2
    · refine r_tIn (off := 287) (tgt := 319) C dL_law_32 (by decide) (by decide) (by decide) rfl (by decide) ?_
      refine r_aload_n C dL_law_319 1 rfl ?_
      refine r_aload_n C dL_law_320 0 rfl ?_
      refine r_iload_n C dL_law_321 3 rfl ?_
      refine r_iconst C dL_law_322 ?_
      refine r_iadd C dL_law_323 ?_
      refine r_sld C X dL_law_324 (by omega) (by omega) (by omega) ?_
      refine r_aload_n C dL_law_325 0 rfl ?_
      refine r_iload_n C dL_law_326 3 rfl ?_
      refine r_iconst C dL_law_327 ?_
      refine r_iadd C dL_law_328 ?_
      refine r_sld C X dL_law_329 (by omega) (by omega) (by omega) ?_
      refine r_aload_n C dL_law_330 0 rfl ?_
      refine r_iload_n C dL_law_331 3 rfl ?_
      refine r_iconst C dL_law_332 ?_
      refine r_iadd C dL_law_333 ?_
      refine r_sld C X dL_law_334 (by omega) (by omega) (by omega) ?_
      refine r_callI3 0 C dL_law_335 lkL_36 (m_X5_cut hC (Zs_in _ _) (Zs_in _ _) (Zs_in _ _)) ⟨rfl, rfl, Nat.le_of_ble_eq_true rfl, Nat.le_of_ble_eq_true rfl⟩ ⟨by show _ ≤ 600000; omega, by show _ ≤ 7302250; omega⟩ rc0 (Nat.le_of_ble_eq_true rfl) (fun r1 σ1 h1 => ?_)
      obtain ⟨hM1, hq⟩ := q_cut hE hM hN h1
      refine r_aload_n C dL_law_338 2 rfl ?_
      refine r_aload_n C dL_law_339 0 rfl ?_
      refine r_iload_n C dL_law_340 3 rfl ?_
      refine r_iconst C dL_law_341 ?_
      refine r_iadd C dL_law_342 ?_
      refine r_sld C X dL_law_343 (by omega) (by omega) (by omega) ?_
      refine r_aload_n C dL_law_344 0 rfl ?_
      refine r_iload_n C dL_law_345 3 rfl ?_
      refine r_iconst C dL_law_346 ?_
      refine r_iadd C dL_law_347 ?_
      refine r_sld C X dL_law_348 (by omega) (by omega) (by omega) ?_
      refine r_aload_n C dL_law_349 0 rfl ?_
      refine r_iload_n C dL_law_350 3 rfl ?_
      refine r_iconst C dL_law_351 ?_
      refine r_iadd C dL_law_352 ?_
      refine r_sld C X dL_law_353 (by omega) (by omega) (by omega) ?_
      refine r_callI3 18 C dL_law_354 lkL_40 (m_X6_cut hM1 (Zs_in _ _) (Zs_in _ _) (Zs_in _ _)) ⟨rfl, rfl, Nat.le_of_ble_eq_true rfl, Nat.le_of_ble_eq_true rfl⟩ ⟨by show _ ≤ 600000; omega, by show _ ≤ 7302250; omega⟩ rc18 (Nat.le_of_ble_eq_true rfl) (fun r2 σ2 h2 => ?_)
      obtain ⟨er, hE2, hM2⟩ := hq _ _ h2
      subst er
      refine r_eqs (tgt := 856) C dL_law_357 (by decide) ?_
      exact tail _ _ _ _ _ hle (by omega) (by omega) hM2 hE2
    · refine r_tIn (off := 330) (tgt := 362) C dL_law_32 (by decide) (by decide) (by decide) rfl (by decide) ?_
      refine r_aload_n C dL_law_362 1 rfl ?_
      refine r_aload_n C dL_law_363 0 rfl ?_
      refine r_iload_n C dL_law_364 3 rfl ?_
      refine r_iconst C dL_law_365 ?_
      refine r_iadd C dL_law_366 ?_
      refine r_sld C X dL_law_367 (by omega) (by omega) (by omega) ?_
      refine r_aload_n C dL_law_368 0 rfl ?_
      refine r_iload_n C dL_law_369 3 rfl ?_
      refine r_iconst C dL_law_370 ?_
      refine r_iadd C dL_law_371 ?_
      refine r_sld C X dL_law_372 (by omega) (by omega) (by omega) ?_
      refine r_callI2 0 C dL_law_373 lkL_41 (m_X5_stage hC (Zs_in _ _) (Zs_in _ _)) ⟨rfl, rfl, Nat.le_of_ble_eq_true rfl, Nat.le_of_ble_eq_true rfl⟩ ⟨by show _ ≤ 600000; omega, by show _ ≤ 7302250; omega⟩ rc0 (Nat.le_of_ble_eq_true rfl) (fun r1 σ1 h1 => ?_)
      obtain ⟨hM1, hq⟩ := q_stage hE hM hN h1
      refine r_aload_n C dL_law_376 2 rfl ?_
      refine r_aload_n C dL_law_377 0 rfl ?_
      refine r_iload_n C dL_law_378 3 rfl ?_
      refine r_iconst C dL_law_379 ?_
      refine r_iadd C dL_law_380 ?_
      refine r_sld C X dL_law_381 (by omega) (by omega) (by omega) ?_
      refine r_aload_n C dL_law_382 0 rfl ?_
      refine r_iload_n C dL_law_383 3 rfl ?_
      refine r_iconst C dL_law_384 ?_
      refine r_iadd C dL_law_385 ?_
      refine r_sld C X dL_law_386 (by omega) (by omega) (by omega) ?_
      refine r_callI2 18 C dL_law_387 lkL_44 (m_X6_stage hM1 (Zs_in _ _) (Zs_in _ _)) ⟨rfl, rfl, Nat.le_of_ble_eq_true rfl, Nat.le_of_ble_eq_true rfl⟩ ⟨by show _ ≤ 600000; omega, by show _ ≤ 7302250; omega⟩ rc18 (Nat.le_of_ble_eq_true rfl) (fun r2 σ2 h2 => ?_)
      obtain ⟨er, hE2, hM2⟩ := hq _ _ h2
      subst er
      refine r_eqs (tgt := 856) C dL_law_390 (by decide) ?_
      exact tail _ _ _ _ _ hle (by omega) (by omega) hM2 hE2
    · refine r_tIn (off := 363) (tgt := 395) C dL_law_32 (by decide) (by decide) (by decide) rfl (by decide) ?_
      refine r_aload_n C dL_law_395 1 rfl ?_
      refine r_aload_n C dL_law_396 0 rfl ?_
      refine r_iload_n C dL_law_397 3 rfl ?_
      refine r_iconst C dL_law_398 ?_
      refine r_iadd C dL_law_399 ?_
      refine r_sld C X dL_law_400 (by omega) (by omega) (by omega) ?_
      refine r_aload_n C dL_law_401 0 rfl ?_
      refine r_iload_n C dL_law_402 3 rfl ?_
      refine r_iconst C dL_law_403 ?_
      refine r_iadd C dL_law_404 ?_
      refine r_sld C X dL_law_405 (by omega) (by omega) (by omega) ?_
      refine r_callI2 0 C dL_law_406 lkL_45 (m_X5_rest hC (Zs_in _ _) (Zs_in _ _)) ⟨rfl, rfl, Nat.le_of_ble_eq_true rfl, Nat.le_of_ble_eq_true rfl⟩ ⟨by show _ ≤ 600000; omega, by show _ ≤ 7302250; omega⟩ rc0 (Nat.le_of_ble_eq_true rfl) (fun r1 σ1 h1 => ?_)
      obtain ⟨hM1, hq⟩ := q_rest hE hM hN h1
      refine r_aload_n C dL_law_409 2 rfl ?_
      refine r_aload_n C dL_law_410 0 rfl ?_
      refine r_iload_n C dL_law_411 3 rfl ?_
      refine r_iconst C dL_law_412 ?_
      refine r_iadd C dL_law_413 ?_
      refine r_sld C X dL_law_414 (by omega) (by omega) (by omega) ?_
      refine r_aload_n C dL_law_415 0 rfl ?_
      refine r_iload_n C dL_law_416 3 rfl ?_
      refine r_iconst C dL_law_417 ?_
      refine r_iadd C dL_law_418 ?_
      refine r_sld C X dL_law_419 (by omega) (by omega) (by omega) ?_
      refine r_callI2 18 C dL_law_420 lkL_48 (m_X6_rest hM1 (Zs_in _ _) (Zs_in _ _)) ⟨rfl, rfl, Nat.le_of_ble_eq_true rfl, Nat.le_of_ble_eq_true rfl⟩ ⟨by show _ ≤ 600000; omega, by show _ ≤ 7302250; omega⟩ rc18 (Nat.le_of_ble_eq_true rfl) (fun r2 σ2 h2 => ?_)
      obtain ⟨er, hE2, hM2⟩ := hq _ _ h2
      subst er
      refine r_eqs (tgt := 856) C dL_law_423 (by decide) ?_
      exact tail _ _ _ _ _ hle (by omega) (by omega) hM2 hE2
    · refine r_tIn (off := 396) (tgt := 428) C dL_law_32 (by decide) (by decide) (by decide) rfl (by decide) ?_
      refine r_aload_n C dL_law_428 1 rfl ?_
      refine r_aload_n C dL_law_429 0 rfl ?_
      refine r_iload_n C dL_law_430 3 rfl ?_
      refine r_iconst C dL_law_431 ?_
      refine r_iadd C dL_law_432 ?_
      refine r_sld C X dL_law_433 (by omega) (by omega) (by omega) ?_
      refine r_aload_n C dL_law_434 0 rfl ?_
      refine r_iload_n C dL_law_435 3 rfl ?_
      refine r_iconst C dL_law_436 ?_
      refine r_iadd C dL_law_437 ?_
      refine r_sld C X dL_law_438 (by omega) (by omega) (by omega) ?_
      refine r_callI2 0 C dL_law_439 lkL_49 (m_X5_cue hC (Zs_in _ _) (Zs_in _ _)) ⟨rfl, rfl, Nat.le_of_ble_eq_true rfl, Nat.le_of_ble_eq_true rfl⟩ ⟨by show _ ≤ 600000; omega, by show _ ≤ 7302250; omega⟩ rc0 (Nat.le_of_ble_eq_true rfl) (fun r1 σ1 h1 => ?_)
      obtain ⟨hM1, hq⟩ := q_cue hE hM hN h1
      refine r_aload_n C dL_law_442 2 rfl ?_
      refine r_aload_n C dL_law_443 0 rfl ?_
      refine r_iload_n C dL_law_444 3 rfl ?_
      refine r_iconst C dL_law_445 ?_
      refine r_iadd C dL_law_446 ?_
      refine r_sld C X dL_law_447 (by omega) (by omega) (by omega) ?_
      refine r_aload_n C dL_law_448 0 rfl ?_
      refine r_iload_n C dL_law_449 3 rfl ?_
      refine r_iconst C dL_law_450 ?_
      refine r_iadd C dL_law_451 ?_
      refine r_sld C X dL_law_452 (by omega) (by omega) (by omega) ?_
      refine r_callI2 18 C dL_law_453 lkL_52 (m_X6_cue hM1 (Zs_in _ _) (Zs_in _ _)) ⟨rfl, rfl, Nat.le_of_ble_eq_true rfl, Nat.le_of_ble_eq_true rfl⟩ ⟨by show _ ≤ 600000; omega, by show _ ≤ 7302250; omega⟩ rc18 (Nat.le_of_ble_eq_true rfl) (fun r2 σ2 h2 => ?_)
      obtain ⟨er, hE2, hM2⟩ := hq _ _ h2
      subst er
      refine r_eqs (tgt := 856) C dL_law_456 (by decide) ?_
      exact tail _ _ _ _ _ hle (by omega) (by omega) hM2 hE2
    · refine r_tIn (off := 429) (tgt := 461) C dL_law_32 (by decide) (by decide) (by decide) rfl (by decide) ?_
      refine r_aload_n C dL_law_461 1 rfl ?_
      refine r_aload_n C dL_law_462 0 rfl ?_
      refine r_iload_n C dL_law_463 3 rfl ?_
      refine r_iconst C dL_law_464 ?_
      refine r_iadd C dL_law_465 ?_
      refine r_sld C X dL_law_466 (by omega) (by omega) (by omega) ?_
      refine r_callI1 0 C dL_law_467 lkL_53 (m_X5_key hC (Zs_in _ _)) ⟨rfl, rfl, Nat.le_of_ble_eq_true rfl, Nat.le_of_ble_eq_true rfl⟩ ⟨by show _ ≤ 600000; omega, by show _ ≤ 7302250; omega⟩ rc0 (Nat.le_of_ble_eq_true rfl) (fun r1 σ1 h1 => ?_)
      obtain ⟨hM1, hq⟩ := q_key hE hM hN h1
      refine r_aload_n C dL_law_470 2 rfl ?_
      refine r_aload_n C dL_law_471 0 rfl ?_
      refine r_iload_n C dL_law_472 3 rfl ?_
      refine r_iconst C dL_law_473 ?_
      refine r_iadd C dL_law_474 ?_
      refine r_sld C X dL_law_475 (by omega) (by omega) (by omega) ?_
      refine r_callI1 18 C dL_law_476 lkL_56 (m_X6_key hM1 (Zs_in _ _)) ⟨rfl, rfl, Nat.le_of_ble_eq_true rfl, Nat.le_of_ble_eq_true rfl⟩ ⟨by show _ ≤ 600000; omega, by show _ ≤ 7302250; omega⟩ rc18 (Nat.le_of_ble_eq_true rfl) (fun r2 σ2 h2 => ?_)
      obtain ⟨er, hE2, hM2⟩ := hq _ _ h2
      subst er
      refine r_eqs (tgt := 856) C dL_law_479 (by decide) ?_
      exact tail _ _ _ _ _ hle (by omega) (by omega) hM2 hE2
    · refine r_tIn (off := 452) (tgt := 484) C dL_law_32 (by decide) (by decide) (by decide) rfl (by decide) ?_
      refine r_aload_n C dL_law_484 1 rfl ?_
      refine r_aload_n C dL_law_485 0 rfl ?_
      refine r_iload_n C dL_law_486 3 rfl ?_
      refine r_iconst C dL_law_487 ?_
      refine r_iadd C dL_law_488 ?_
      refine r_sld C X dL_law_489 (by omega) (by omega) (by omega) ?_
      refine r_callI1 0 C dL_law_490 lkL_57 (m_X5_written hC (Zs_in _ _)) ⟨rfl, rfl, Nat.le_of_ble_eq_true rfl, Nat.le_of_ble_eq_true rfl⟩ ⟨by show _ ≤ 600000; omega, by show _ ≤ 7302250; omega⟩ rc0 (Nat.le_of_ble_eq_true rfl) (fun r1 σ1 h1 => ?_)
      obtain ⟨hM1, hq⟩ := q_written hE hM hN h1
      refine r_aload_n C dL_law_493 2 rfl ?_
      refine r_aload_n C dL_law_494 0 rfl ?_
      refine r_iload_n C dL_law_495 3 rfl ?_
      refine r_iconst C dL_law_496 ?_
      refine r_iadd C dL_law_497 ?_
      refine r_sld C X dL_law_498 (by omega) (by omega) (by omega) ?_
      refine r_callI1 18 C dL_law_499 lkL_60 (m_X6_written hM1 (Zs_in _ _)) ⟨rfl, rfl, Nat.le_of_ble_eq_true rfl, Nat.le_of_ble_eq_true rfl⟩ ⟨by show _ ≤ 600000; omega, by show _ ≤ 7302250; omega⟩ rc18 (Nat.le_of_ble_eq_true rfl) (fun r2 σ2 h2 => ?_)
      obtain ⟨er, hE2, hM2⟩ := hq _ _ h2
      subst er
      refine r_eqs (tgt := 856) C dL_law_502 (by decide) ?_
      exact tail _ _ _ _ _ hle (by omega) (by omega) hM2 hE2
    · refine r_tIn (off := 475) (tgt := 507) C dL_law_32 (by decide) (by decide) (by decide) rfl (by decide) ?_
      refine r_aload_n C dL_law_507 1 rfl ?_
      refine r_aload_n C dL_law_508 0 rfl ?_
      refine r_iload_n C dL_law_509 3 rfl ?_
      refine r_iconst C dL_law_510 ?_
      refine r_iadd C dL_law_511 ?_
      refine r_sld C X dL_law_512 (by omega) (by omega) (by omega) ?_
      refine r_callI1 0 C dL_law_513 lkL_61 (m_X5_due hC (Zs_in _ _)) ⟨rfl, rfl, Nat.le_of_ble_eq_true rfl, Nat.le_of_ble_eq_true rfl⟩ ⟨by show _ ≤ 600000; omega, by show _ ≤ 7302250; omega⟩ rc0 (Nat.le_of_ble_eq_true rfl) (fun r1 σ1 h1 => ?_)
      obtain ⟨hM1, hq⟩ := q_due hE hM hN h1
      refine r_aload_n C dL_law_516 2 rfl ?_
      refine r_aload_n C dL_law_517 0 rfl ?_
      refine r_iload_n C dL_law_518 3 rfl ?_
      refine r_iconst C dL_law_519 ?_
      refine r_iadd C dL_law_520 ?_
      refine r_sld C X dL_law_521 (by omega) (by omega) (by omega) ?_
      refine r_callI1 18 C dL_law_522 lkL_64 (m_X6_due hM1 (Zs_in _ _)) ⟨rfl, rfl, Nat.le_of_ble_eq_true rfl, Nat.le_of_ble_eq_true rfl⟩ ⟨by show _ ≤ 600000; omega, by show _ ≤ 7302250; omega⟩ rc18 (Nat.le_of_ble_eq_true rfl) (fun r2 σ2 h2 => ?_)
      obtain ⟨er, hE2, hM2⟩ := hq _ _ h2
      subst er
      refine r_eqs (tgt := 856) C dL_law_525 (by decide) ?_
      exact tail _ _ _ _ _ hle (by omega) (by omega) hM2 hE2
    · refine r_tIn (off := 498) (tgt := 530) C dL_law_32 (by decide) (by decide) (by decide) rfl (by decide) ?_
      refine r_aload_n C dL_law_530 1 rfl ?_
      refine r_aload_n C dL_law_531 0 rfl ?_
      refine r_iload_n C dL_law_532 3 rfl ?_
      refine r_iconst C dL_law_533 ?_
      refine r_iadd C dL_law_534 ?_
      refine r_sld C X dL_law_535 (by omega) (by omega) (by omega) ?_
      refine r_aload_n C dL_law_536 0 rfl ?_
      refine r_iload_n C dL_law_537 3 rfl ?_
      refine r_iconst C dL_law_538 ?_
      refine r_iadd C dL_law_539 ?_
      refine r_sld C X dL_law_540 (by omega) (by omega) (by omega) ?_
      refine r_callI2 0 C dL_law_541 lkL_65 (m_X5_paper hC (Zs_in _ _) (Zs_in _ _)) ⟨rfl, rfl, Nat.le_of_ble_eq_true rfl, Nat.le_of_ble_eq_true rfl⟩ ⟨by show _ ≤ 600000; omega, by show _ ≤ 7302250; omega⟩ rc0 (Nat.le_of_ble_eq_true rfl) (fun r1 σ1 h1 => ?_)
      obtain ⟨hM1, hq⟩ := q_paper hE hM hN h1
      refine r_aload_n C dL_law_544 2 rfl ?_
      refine r_aload_n C dL_law_545 0 rfl ?_
      refine r_iload_n C dL_law_546 3 rfl ?_
      refine r_iconst C dL_law_547 ?_
      refine r_iadd C dL_law_548 ?_
      refine r_sld C X dL_law_549 (by omega) (by omega) (by omega) ?_
      refine r_aload_n C dL_law_550 0 rfl ?_
      refine r_iload_n C dL_law_551 3 rfl ?_
      refine r_iconst C dL_law_552 ?_
      refine r_iadd C dL_law_553 ?_
      refine r_sld C X dL_law_554 (by omega) (by omega) (by omega) ?_
      refine r_callI2 18 C dL_law_555 lkL_68 (m_X6_paper hM1 (Zs_in _ _) (Zs_in _ _)) ⟨rfl, rfl, Nat.le_of_ble_eq_true rfl, Nat.le_of_ble_eq_true rfl⟩ ⟨by show _ ≤ 600000; omega, by show _ ≤ 7302250; omega⟩ rc18 (Nat.le_of_ble_eq_true rfl) (fun r2 σ2 h2 => ?_)
      obtain ⟨er, hE2, hM2⟩ := hq _ _ h2
      subst er
      refine r_eqs (tgt := 856) C dL_law_558 (by decide) ?_
      exact tail _ _ _ _ _ hle (by omega) (by omega) hM2 hE2
    · refine r_tIn (off := 531) (tgt := 563) C dL_law_32 (by decide) (by decide) (by decide) rfl (by decide) ?_
      refine r_aload_n C dL_law_563 1 rfl ?_
      refine r_aload_n C dL_law_564 0 rfl ?_
      refine r_iload_n C dL_law_565 3 rfl ?_
      refine r_iconst C dL_law_566 ?_
      refine r_iadd C dL_law_567 ?_
      refine r_sld C X dL_law_568 (by omega) (by omega) (by omega) ?_
      refine r_callI1 0 C dL_law_569 lkL_69 (m_X5_need hC (Zs_in _ _)) ⟨rfl, rfl, Nat.le_of_ble_eq_true rfl, Nat.le_of_ble_eq_true rfl⟩ ⟨by show _ ≤ 600000; omega, by show _ ≤ 7302250; omega⟩ rc0 (Nat.le_of_ble_eq_true rfl) (fun r1 σ1 h1 => ?_)
      obtain ⟨hM1, hq⟩ := q_need hE hM hN h1
      refine r_aload_n C dL_law_572 2 rfl ?_
      refine r_aload_n C dL_law_573 0 rfl ?_
      refine r_iload_n C dL_law_574 3 rfl ?_
      refine r_iconst C dL_law_575 ?_
      refine r_iadd C dL_law_576 ?_
      refine r_sld C X dL_law_577 (by omega) (by omega) (by omega) ?_
      refine r_callI1 18 C dL_law_578 lkL_72 (m_X6_need hM1 (Zs_in _ _)) ⟨rfl, rfl, Nat.le_of_ble_eq_true rfl, Nat.le_of_ble_eq_true rfl⟩ ⟨by show _ ≤ 600000; omega, by show _ ≤ 7302250; omega⟩ rc18 (Nat.le_of_ble_eq_true rfl) (fun r2 σ2 h2 => ?_)
      obtain ⟨er, hE2, hM2⟩ := hq _ _ h2
      subst er
      refine r_eqs (tgt := 856) C dL_law_581 (by decide) ?_
      exact tail _ _ _ _ _ hle (by omega) (by omega) hM2 hE2
    · refine r_tIn (off := 554) (tgt := 586) C dL_law_32 (by decide) (by decide) (by decide) rfl (by decide) ?_
      refine r_aload_n C dL_law_586 1 rfl ?_
      refine r_aload_n C dL_law_587 0 rfl ?_
      refine r_iload_n C dL_law_588 3 rfl ?_
      refine r_iconst C dL_law_589 ?_
      refine r_iadd C dL_law_590 ?_
      refine r_sld C X dL_law_591 (by omega) (by omega) (by omega) ?_
      refine r_aload_n C dL_law_592 0 rfl ?_
      refine r_iload_n C dL_law_593 3 rfl ?_
      refine r_iconst C dL_law_594 ?_
      refine r_iadd C dL_law_595 ?_
      refine r_sld C X dL_law_596 (by omega) (by omega) (by omega) ?_
      refine r_callI2 0 C dL_law_597 lkL_73 (m_X5_pages hC (Zs_in _ _) (Zs_in _ _)) ⟨rfl, rfl, Nat.le_of_ble_eq_true rfl, Nat.le_of_ble_eq_true rfl⟩ ⟨by show _ ≤ 600000; omega, by show _ ≤ 7302250; omega⟩ rc0 (Nat.le_of_ble_eq_true rfl) (fun r1 σ1 h1 => ?_)
      obtain ⟨hM1, hq⟩ := q_pages hE hM hN h1
      refine r_aload_n C dL_law_600 2 rfl ?_
      refine r_aload_n C dL_law_601 0 rfl ?_
      refine r_iload_n C dL_law_602 3 rfl ?_
      refine r_iconst C dL_law_603 ?_
      refine r_iadd C dL_law_604 ?_
      refine r_sld C X dL_law_605 (by omega) (by omega) (by omega) ?_
      refine r_aload_n C dL_law_606 0 rfl ?_
      refine r_iload_n C dL_law_607 3 rfl ?_
      refine r_iconst C dL_law_608 ?_
      refine r_iadd C dL_law_609 ?_
      refine r_sld C X dL_law_610 (by omega) (by omega) (by omega) ?_
      refine r_callI2 18 C dL_law_611 lkL_76 (m_X6_pages hM1 (Zs_in _ _) (Zs_in _ _)) ⟨rfl, rfl, Nat.le_of_ble_eq_true rfl, Nat.le_of_ble_eq_true rfl⟩ ⟨by show _ ≤ 600000; omega, by show _ ≤ 7302250; omega⟩ rc18 (Nat.le_of_ble_eq_true rfl) (fun r2 σ2 h2 => ?_)
      obtain ⟨er, hE2, hM2⟩ := hq _ _ h2
      subst er
      refine r_eqs (tgt := 856) C dL_law_614 (by decide) ?_
      exact tail _ _ _ _ _ hle (by omega) (by omega) hM2 hE2
    · refine r_tIn (off := 587) (tgt := 619) C dL_law_32 (by decide) (by decide) (by decide) rfl (by decide) ?_
      refine r_aload_n C dL_law_619 1 rfl ?_
      refine r_aload_n C dL_law_620 0 rfl ?_
      refine r_iload_n C dL_law_621 3 rfl ?_
      refine r_iconst C dL_law_622 ?_
      refine r_iadd C dL_law_623 ?_
      refine r_sld C X dL_law_624 (by omega) (by omega) (by omega) ?_
      refine r_aload_n C dL_law_625 0 rfl ?_
      refine r_iload_n C dL_law_626 3 rfl ?_
      refine r_iconst C dL_law_627 ?_
      refine r_iadd C dL_law_628 ?_
      refine r_sld C X dL_law_629 (by omega) (by omega) (by omega) ?_
      refine r_callI2 0 C dL_law_630 lkL_77 (m_X5_page hC (Zs_in _ _) (Zs_in _ _)) ⟨rfl, rfl, Nat.le_of_ble_eq_true rfl, Nat.le_of_ble_eq_true rfl⟩ ⟨by show _ ≤ 600000; omega, by show _ ≤ 7302250; omega⟩ rc0 (Nat.le_of_ble_eq_true rfl) (fun r1 σ1 h1 => ?_)
      obtain ⟨hM1, hq⟩ := q_page hE hM hN h1
      refine r_aload_n C dL_law_633 2 rfl ?_
      refine r_aload_n C dL_law_634 0 rfl ?_
      refine r_iload_n C dL_law_635 3 rfl ?_
      refine r_iconst C dL_law_636 ?_
      refine r_iadd C dL_law_637 ?_
      refine r_sld C X dL_law_638 (by omega) (by omega) (by omega) ?_
      refine r_aload_n C dL_law_639 0 rfl ?_
      refine r_iload_n C dL_law_640 3 rfl ?_
      refine r_iconst C dL_law_641 ?_
      refine r_iadd C dL_law_642 ?_
      refine r_sld C X dL_law_643 (by omega) (by omega) (by omega) ?_
      refine r_callI2 18 C dL_law_644 lkL_80 (m_X6_page hM1 (Zs_in _ _) (Zs_in _ _)) ⟨rfl, rfl, Nat.le_of_ble_eq_true rfl, Nat.le_of_ble_eq_true rfl⟩ ⟨by show _ ≤ 600000; omega, by show _ ≤ 7302250; omega⟩ rc18 (Nat.le_of_ble_eq_true rfl) (fun r2 σ2 h2 => ?_)
      obtain ⟨er, hE2, hM2⟩ := hq _ _ h2
      subst er
      refine r_eqs (tgt := 856) C dL_law_647 (by decide) ?_
      exact tail _ _ _ _ _ hle (by omega) (by omega) hM2 hE2
    · refine r_tIn (off := 620) (tgt := 652) C dL_law_32 (by decide) (by decide) (by decide) rfl (by decide) ?_
      refine r_aload_n C dL_law_652 1 rfl ?_
      refine r_aload_n C dL_law_653 0 rfl ?_
      refine r_iload_n C dL_law_654 3 rfl ?_
      refine r_iconst C dL_law_655 ?_
      refine r_iadd C dL_law_656 ?_
      refine r_sld C X dL_law_657 (by omega) (by omega) (by omega) ?_
      refine r_aload_n C dL_law_658 0 rfl ?_
      refine r_iload_n C dL_law_659 3 rfl ?_
      refine r_iconst C dL_law_660 ?_
      refine r_iadd C dL_law_661 ?_
      refine r_sld C X dL_law_662 (by omega) (by omega) (by omega) ?_
      refine r_callI2 0 C dL_law_663 lkL_81 (m_X5_free hC (Zs_in _ _) (Zs_in _ _)) ⟨rfl, rfl, Nat.le_of_ble_eq_true rfl, Nat.le_of_ble_eq_true rfl⟩ ⟨by show _ ≤ 600000; omega, by show _ ≤ 7302250; omega⟩ rc0 (Nat.le_of_ble_eq_true rfl) (fun r1 σ1 h1 => ?_)
      obtain ⟨hM1, hq⟩ := q_free hE hM hN h1
      refine r_aload_n C dL_law_666 2 rfl ?_
      refine r_aload_n C dL_law_667 0 rfl ?_
      refine r_iload_n C dL_law_668 3 rfl ?_
      refine r_iconst C dL_law_669 ?_
      refine r_iadd C dL_law_670 ?_
      refine r_sld C X dL_law_671 (by omega) (by omega) (by omega) ?_
      refine r_aload_n C dL_law_672 0 rfl ?_
      refine r_iload_n C dL_law_673 3 rfl ?_
      refine r_iconst C dL_law_674 ?_
      refine r_iadd C dL_law_675 ?_
      refine r_sld C X dL_law_676 (by omega) (by omega) (by omega) ?_
      refine r_callI2 18 C dL_law_677 lkL_84 (m_X6_free hM1 (Zs_in _ _) (Zs_in _ _)) ⟨rfl, rfl, Nat.le_of_ble_eq_true rfl, Nat.le_of_ble_eq_true rfl⟩ ⟨by show _ ≤ 600000; omega, by show _ ≤ 7302250; omega⟩ rc18 (Nat.le_of_ble_eq_true rfl) (fun r2 σ2 h2 => ?_)
      obtain ⟨er, hE2, hM2⟩ := hq _ _ h2
      subst er
      refine r_eqs (tgt := 856) C dL_law_680 (by decide) ?_
      exact tail _ _ _ _ _ hle (by omega) (by omega) hM2 hE2
    · refine r_tIn (off := 653) (tgt := 685) C dL_law_32 (by decide) (by decide) (by decide) rfl (by decide) ?_
      refine r_aload_n C dL_law_685 1 rfl ?_
      refine r_aload_n C dL_law_686 0 rfl ?_
      refine r_iload_n C dL_law_687 3 rfl ?_
      refine r_iconst C dL_law_688 ?_
      refine r_iadd C dL_law_689 ?_
      refine r_sld C X dL_law_690 (by omega) (by omega) (by omega) ?_
      refine r_aload_n C dL_law_691 0 rfl ?_
      refine r_iload_n C dL_law_692 3 rfl ?_
      refine r_iconst C dL_law_693 ?_
      refine r_iadd C dL_law_694 ?_
      refine r_sld C X dL_law_695 (by omega) (by omega) (by omega) ?_
      refine r_callI2 0 C dL_law_696 lkL_85 (m_X5_systems hC (Zs_in _ _) (Zs_in _ _)) ⟨rfl, rfl, Nat.le_of_ble_eq_true rfl, Nat.le_of_ble_eq_true rfl⟩ ⟨by show _ ≤ 600000; omega, by show _ ≤ 7302250; omega⟩ rc0 (Nat.le_of_ble_eq_true rfl) (fun r1 σ1 h1 => ?_)
      obtain ⟨hM1, hq⟩ := q_systems hE hM hN h1
      refine r_aload_n C dL_law_699 2 rfl ?_
      refine r_aload_n C dL_law_700 0 rfl ?_
      refine r_iload_n C dL_law_701 3 rfl ?_
      refine r_iconst C dL_law_702 ?_
      refine r_iadd C dL_law_703 ?_
      refine r_sld C X dL_law_704 (by omega) (by omega) (by omega) ?_
      refine r_aload_n C dL_law_705 0 rfl ?_
      refine r_iload_n C dL_law_706 3 rfl ?_
      refine r_iconst C dL_law_707 ?_
      refine r_iadd C dL_law_708 ?_
      refine r_sld C X dL_law_709 (by omega) (by omega) (by omega) ?_
      refine r_callI2 18 C dL_law_710 lkL_88 (m_X6_systems hM1 (Zs_in _ _) (Zs_in _ _)) ⟨rfl, rfl, Nat.le_of_ble_eq_true rfl, Nat.le_of_ble_eq_true rfl⟩ ⟨by show _ ≤ 600000; omega, by show _ ≤ 7302250; omega⟩ rc18 (Nat.le_of_ble_eq_true rfl) (fun r2 σ2 h2 => ?_)
      obtain ⟨er, hE2, hM2⟩ := hq _ _ h2
      subst er
      refine r_eqs (tgt := 856) C dL_law_713 (by decide) ?_
      exact tail _ _ _ _ _ hle (by omega) (by omega) hM2 hE2
    · refine r_tIn (off := 686) (tgt := 718) C dL_law_32 (by decide) (by decide) (by decide) rfl (by decide) ?_
      refine r_aload_n C dL_law_718 1 rfl ?_
      refine r_aload_n C dL_law_719 0 rfl ?_
      refine r_iload_n C dL_law_720 3 rfl ?_
      refine r_iconst C dL_law_721 ?_
      refine r_iadd C dL_law_722 ?_
      refine r_sld C X dL_law_723 (by omega) (by omega) (by omega) ?_
      refine r_callI1 0 C dL_law_724 lkL_89 (m_X5_lay hC (Zs_in _ _)) ⟨rfl, rfl, Nat.le_of_ble_eq_true rfl, Nat.le_of_ble_eq_true rfl⟩ ⟨by show _ ≤ 600000; omega, by show _ ≤ 7302250; omega⟩ rc0 (Nat.le_of_ble_eq_true rfl) (fun r1 σ1 h1 => ?_)
      obtain ⟨hM1, hq⟩ := q_lay hE hM hN h1
      refine r_aload_n C dL_law_727 2 rfl ?_
      refine r_aload_n C dL_law_728 0 rfl ?_
      refine r_iload_n C dL_law_729 3 rfl ?_
      refine r_iconst C dL_law_730 ?_
      refine r_iadd C dL_law_731 ?_
      refine r_sld C X dL_law_732 (by omega) (by omega) (by omega) ?_
      refine r_callI1 18 C dL_law_733 lkL_92 (m_X6_lay hM1 (Zs_in _ _)) ⟨rfl, rfl, Nat.le_of_ble_eq_true rfl, Nat.le_of_ble_eq_true rfl⟩ ⟨by show _ ≤ 600000; omega, by show _ ≤ 7302250; omega⟩ rc18 (Nat.le_of_ble_eq_true rfl) (fun r2 σ2 h2 => ?_)
      obtain ⟨er, hE2, hM2⟩ := hq _ _ h2
      subst er
      refine r_eqs (tgt := 856) C dL_law_736 (by decide) ?_
      exact tail _ _ _ _ _ hle (by omega) (by omega) hM2 hE2
    · refine r_tIn (off := 709) (tgt := 741) C dL_law_32 (by decide) (by decide) (by decide) rfl (by decide) ?_
      refine r_aload_n C dL_law_741 1 rfl ?_
      refine r_aload_n C dL_law_742 0 rfl ?_
      refine r_iload_n C dL_law_743 3 rfl ?_
      refine r_iconst C dL_law_744 ?_
      refine r_iadd C dL_law_745 ?_
      refine r_sld C X dL_law_746 (by omega) (by omega) (by omega) ?_
      refine r_callI1 0 C dL_law_747 lkL_93 (m_X5_stale hC (Zs_in _ _)) ⟨rfl, rfl, Nat.le_of_ble_eq_true rfl, Nat.le_of_ble_eq_true rfl⟩ ⟨by show _ ≤ 600000; omega, by show _ ≤ 7302250; omega⟩ rc0 (Nat.le_of_ble_eq_true rfl) (fun r1 σ1 h1 => ?_)
      obtain ⟨hM1, hq⟩ := q_stale hE hM hN h1
      refine r_aload_n C dL_law_750 2 rfl ?_
      refine r_aload_n C dL_law_751 0 rfl ?_
      refine r_iload_n C dL_law_752 3 rfl ?_
      refine r_iconst C dL_law_753 ?_
      refine r_iadd C dL_law_754 ?_
      refine r_sld C X dL_law_755 (by omega) (by omega) (by omega) ?_
      refine r_callI1 18 C dL_law_756 lkL_96 (m_X6_stale hM1 (Zs_in _ _)) ⟨rfl, rfl, Nat.le_of_ble_eq_true rfl, Nat.le_of_ble_eq_true rfl⟩ ⟨by show _ ≤ 600000; omega, by show _ ≤ 7302250; omega⟩ rc18 (Nat.le_of_ble_eq_true rfl) (fun r2 σ2 h2 => ?_)
      obtain ⟨er, hE2, hM2⟩ := hq _ _ h2
      subst er
      refine r_eqs (tgt := 856) C dL_law_759 (by decide) ?_
      exact tail _ _ _ _ _ hle (by omega) (by omega) hM2 hE2
    · refine r_tIn (off := 732) (tgt := 764) C dL_law_32 (by decide) (by decide) (by decide) rfl (by decide) ?_
      refine r_aload_n C dL_law_764 1 rfl ?_
      refine r_aload_n C dL_law_765 0 rfl ?_
      refine r_iload_n C dL_law_766 3 rfl ?_
      refine r_iconst C dL_law_767 ?_
      refine r_iadd C dL_law_768 ?_
      refine r_sld C X dL_law_769 (by omega) (by omega) (by omega) ?_
      refine r_callI1 0 C dL_law_770 lkL_97 (m_X5_tell hC (Zs_in _ _)) ⟨rfl, rfl, Nat.le_of_ble_eq_true rfl, Nat.le_of_ble_eq_true rfl⟩ ⟨by show _ ≤ 600000; omega, by show _ ≤ 7302250; omega⟩ rc0 (Nat.le_of_ble_eq_true rfl) (fun r1 σ1 h1 => ?_)
      obtain ⟨hM1, hq⟩ := q_tell hE hM hN h1
      refine r_aload_n C dL_law_773 2 rfl ?_
      refine r_aload_n C dL_law_774 0 rfl ?_
      refine r_iload_n C dL_law_775 3 rfl ?_
      refine r_iconst C dL_law_776 ?_
      refine r_iadd C dL_law_777 ?_
      refine r_sld C X dL_law_778 (by omega) (by omega) (by omega) ?_
      refine r_callI1 18 C dL_law_779 lkL_100 (m_X6_tell hM1 (Zs_in _ _)) ⟨rfl, rfl, Nat.le_of_ble_eq_true rfl, Nat.le_of_ble_eq_true rfl⟩ ⟨by show _ ≤ 600000; omega, by show _ ≤ 7302250; omega⟩ rc18 (Nat.le_of_ble_eq_true rfl) (fun r2 σ2 h2 => ?_)
      obtain ⟨er, hE2, hM2⟩ := hq _ _ h2
      subst er
      refine r_eqs (tgt := 856) C dL_law_782 (by decide) ?_
      exact tail _ _ _ _ _ hle (by omega) (by omega) hM2 hE2
    · refine r_tIn (off := 755) (tgt := 787) C dL_law_32 (by decide) (by decide) (by decide) rfl (by decide) ?_
      refine r_aload_n C dL_law_787 1 rfl ?_
      refine r_aload_n C dL_law_788 0 rfl ?_
      refine r_iload_n C dL_law_789 3 rfl ?_
      refine r_iconst C dL_law_790 ?_
      refine r_iadd C dL_law_791 ?_
      refine r_sld C X dL_law_792 (by omega) (by omega) (by omega) ?_
      refine r_callI1 0 C dL_law_793 lkL_101 (m_X5_check hC (Zs_in _ _)) ⟨rfl, rfl, Nat.le_of_ble_eq_true rfl, Nat.le_of_ble_eq_true rfl⟩ ⟨by show _ ≤ 600000; omega, by show _ ≤ 7302250; omega⟩ rc0 (Nat.le_of_ble_eq_true rfl) (fun r1 σ1 h1 => ?_)
      obtain ⟨hM1, hq⟩ := q_check hE hM hN h1
      refine r_aload_n C dL_law_796 2 rfl ?_
      refine r_aload_n C dL_law_797 0 rfl ?_
      refine r_iload_n C dL_law_798 3 rfl ?_
      refine r_iconst C dL_law_799 ?_
      refine r_iadd C dL_law_800 ?_
      refine r_sld C X dL_law_801 (by omega) (by omega) (by omega) ?_
      refine r_callI1 18 C dL_law_802 lkL_104 (m_X6_check hM1 (Zs_in _ _)) ⟨rfl, rfl, Nat.le_of_ble_eq_true rfl, Nat.le_of_ble_eq_true rfl⟩ ⟨by show _ ≤ 600000; omega, by show _ ≤ 7302250; omega⟩ rc18 (Nat.le_of_ble_eq_true rfl) (fun r2 σ2 h2 => ?_)
      obtain ⟨er, hE2, hM2⟩ := hq _ _ h2
      subst er
      refine r_eqs (tgt := 856) C dL_law_805 (by decide) ?_
      exact tail _ _ _ _ _ hle (by omega) (by omega) hM2 hE2
    · refine r_tIn (off := 778) (tgt := 810) C dL_law_32 (by decide) (by decide) (by decide) rfl (by decide) ?_
      refine r_aload_n C dL_law_810 1 rfl ?_
      refine r_aload_n C dL_law_811 0 rfl ?_
      refine r_iload_n C dL_law_812 3 rfl ?_
      refine r_iconst C dL_law_813 ?_
      refine r_iadd C dL_law_814 ?_
      refine r_sld C X dL_law_815 (by omega) (by omega) (by omega) ?_
      refine r_callI1 0 C dL_law_816 lkL_105 (m_X5_count hC (Zs_in _ _)) ⟨rfl, rfl, Nat.le_of_ble_eq_true rfl, Nat.le_of_ble_eq_true rfl⟩ ⟨by show _ ≤ 600000; omega, by show _ ≤ 7302250; omega⟩ rc0 (Nat.le_of_ble_eq_true rfl) (fun r1 σ1 h1 => ?_)
      obtain ⟨hM1, hq⟩ := q_count hE hM hN h1
      refine r_aload_n C dL_law_819 2 rfl ?_
      refine r_aload_n C dL_law_820 0 rfl ?_
      refine r_iload_n C dL_law_821 3 rfl ?_
      refine r_iconst C dL_law_822 ?_
      refine r_iadd C dL_law_823 ?_
      refine r_sld C X dL_law_824 (by omega) (by omega) (by omega) ?_
      refine r_callI1 18 C dL_law_825 lkL_108 (m_X6_count hM1 (Zs_in _ _)) ⟨rfl, rfl, Nat.le_of_ble_eq_true rfl, Nat.le_of_ble_eq_true rfl⟩ ⟨by show _ ≤ 600000; omega, by show _ ≤ 7302250; omega⟩ rc18 (Nat.le_of_ble_eq_true rfl) (fun r2 σ2 h2 => ?_)
      obtain ⟨er, hE2, hM2⟩ := hq _ _ h2
      subst er
      refine r_eqs (tgt := 856) C dL_law_828 (by decide) ?_
      exact tail _ _ _ _ _ hle (by omega) (by omega) hM2 hE2
    · refine r_tIn (off := 801) (tgt := 833) C dL_law_32 (by decide) (by decide) (by decide) rfl (by decide) ?_
      refine r_aload_n C dL_law_833 1 rfl ?_
      refine r_aload_n C dL_law_834 0 rfl ?_
      refine r_iload_n C dL_law_835 3 rfl ?_
      refine r_iconst C dL_law_836 ?_
      refine r_iadd C dL_law_837 ?_
      refine r_sld C X dL_law_838 (by omega) (by omega) (by omega) ?_
      refine r_callI1 0 C dL_law_839 lkL_109 (m_X5_found hC (Zs_in _ _)) ⟨rfl, rfl, Nat.le_of_ble_eq_true rfl, Nat.le_of_ble_eq_true rfl⟩ ⟨by show _ ≤ 600000; omega, by show _ ≤ 7302250; omega⟩ rc0 (Nat.le_of_ble_eq_true rfl) (fun r1 σ1 h1 => ?_)
      obtain ⟨hM1, hq⟩ := q_found hE hM hN h1
      refine r_aload_n C dL_law_842 2 rfl ?_
      refine r_aload_n C dL_law_843 0 rfl ?_
      refine r_iload_n C dL_law_844 3 rfl ?_
      refine r_iconst C dL_law_845 ?_
      refine r_iadd C dL_law_846 ?_
      refine r_sld C X dL_law_847 (by omega) (by omega) (by omega) ?_
      refine r_callI1 18 C dL_law_848 lkL_112 (m_X6_found hM1 (Zs_in _ _)) ⟨rfl, rfl, Nat.le_of_ble_eq_true rfl, Nat.le_of_ble_eq_true rfl⟩ ⟨by show _ ≤ 600000; omega, by show _ ≤ 7302250; omega⟩ rc18 (Nat.le_of_ble_eq_true rfl) (fun r2 σ2 h2 => ?_)
      obtain ⟨er, hE2, hM2⟩ := hq _ _ h2
      subst er
      refine r_eqs (tgt := 856) C dL_law_851 (by decide) ?_
      exact tail _ _ _ _ _ hle (by omega) (by omega) hM2 hE2
    · refine r_tOut (tgt := 856) C dL_law_32 hin (by omega) (by decide) ?_
      exact tail _ _ _ _ _ hle (by omega) (by omega) hM hE.mono
