theorem dfX0 : ∀ j, j < 11 → defaultValue (tyX0 j) = vp_V [.null, .null, .null, .null, .null, .null, .null, .null, iv 0, iv 0, iv 0] j := by
  intro j hj
  have h : j = 0 ∨ j = 1 ∨ j = 2 ∨ j = 3 ∨ j = 4 ∨ j = 5 ∨ j = 6 ∨ j = 7 ∨ j = 8 ∨ j = 9 ∨ j = 10 := by omega
  rcases h with rfl | rfl | rfl | rfl | rfl | rfl | rfl | rfl | rfl | rfl | rfl <;> rfl
theorem dfX1 : ∀ j, j < 6 → defaultValue (tyX1 j) = vp_V [.null, .null, .null, iv 0, iv 0, iv 0] j := by
  intro j hj
  have h : j = 0 ∨ j = 1 ∨ j = 2 ∨ j = 3 ∨ j = 4 ∨ j = 5 := by omega
  rcases h with rfl | rfl | rfl | rfl | rfl | rfl <;> rfl
theorem dfX2 : ∀ j, j < 5 → defaultValue (tyX2 j) = vp_V [.null, .null, .null, iv 0, iv 0] j := by
  intro j hj
  have h : j = 0 ∨ j = 1 ∨ j = 2 ∨ j = 3 ∨ j = 4 := by omega
  rcases h with rfl | rfl | rfl | rfl | rfl <;> rfl
theorem dfX3 : ∀ j, j < 2 → defaultValue (tyX3 j) = vp_V [.null, iv 0] j := by
  intro j hj
  have h : j = 0 ∨ j = 1 := by omega
  rcases h with rfl | rfl <;> rfl
theorem dfX4 : ∀ j, j < 8 → defaultValue (tyX4 j) = vp_V [iv 0, iv 0, .null, .null, iv 0, .null, .null, iv 0] j := by
  intro j hj
  have h : j = 0 ∨ j = 1 ∨ j = 2 ∨ j = 3 ∨ j = 4 ∨ j = 5 ∨ j = 6 ∨ j = 7 := by omega
  rcases h with rfl | rfl | rfl | rfl | rfl | rfl | rfl | rfl <;> rfl
theorem dfX5 : ∀ j, j < 10 → defaultValue (tyX5 j) = vp_V [.null, .null, .null, .null, .null, iv 0, iv 0, iv 0, iv 0, iv 0] j := by
  intro j hj
  have h : j = 0 ∨ j = 1 ∨ j = 2 ∨ j = 3 ∨ j = 4 ∨ j = 5 ∨ j = 6 ∨ j = 7 ∨ j = 8 ∨ j = 9 := by omega
  rcases h with rfl | rfl | rfl | rfl | rfl | rfl | rfl | rfl | rfl | rfl <;> rfl
theorem dfX6 : ∀ j, j < 28 → defaultValue (tyX6 j) = vp_V [iv 0, iv 0, iv 0, iv 0, iv 0, iv 0, iv 0, iv 0, .null, .null, .null, .null, .null, .null, .null, .null, .null, .null, iv 0, .null, .null, .null, .null, .null, .null, .null, .null, .null] j := by
  intro j hj
  have h : j = 0 ∨ j = 1 ∨ j = 2 ∨ j = 3 ∨ j = 4 ∨ j = 5 ∨ j = 6 ∨ j = 7 ∨ j = 8 ∨ j = 9 ∨ j = 10 ∨ j = 11 ∨ j = 12 ∨ j = 13 ∨ j = 14 ∨ j = 15 ∨ j = 16 ∨ j = 17 ∨ j = 18 ∨ j = 19 ∨ j = 20 ∨ j = 21 ∨ j = 22 ∨ j = 23 ∨ j = 24 ∨ j = 25 ∨ j = 26 ∨ j = 27 := by omega
  rcases h with rfl | rfl | rfl | rfl | rfl | rfl | rfl | rfl | rfl | rfl | rfl | rfl | rfl | rfl | rfl | rfl | rfl | rfl | rfl | rfl | rfl | rfl | rfl | rfl | rfl | rfl | rfl | rfl <;> rfl
set_option maxRecDepth 20000 in
theorem m_X2_init {h0 : Nat} : MC yX2_init cX2_init 1 { frames := 1, cells := 3, slots := 86, locals := 12 } True (fun D => [(h0, .inr (2, [.null, .null, .null, iv 0, iv 0]))]) [.ref h0] (fun u D => [(h0, .inr (2, [.ref (u 0), .ref (u 1), .ref (u 2), iv 0, iv 0])), (u 0, aE D 7 40), (u 1, aE D 7 40), (u 2, aE D 9 6)]) := by
  refine MC.of (own := RX2) (by decide +kernel) rfl rfl (Nat.le_of_ble_eq_true rfl) ?_
  intro κ C C2 ret
  refine g_aload_n C dX2_init_0 0 rfl ?_
  refine g_obj C dX2_init_1 tw22 (Nat.le_of_ble_eq_true rfl) (Nat.le_of_ble_eq_true rfl) ?_
  refine g_aload_n C dX2_init_4 0 rfl ?_
  refine g_bipush C dX2_init_5 (by decide) ?_
  refine g_newa (len := 40) C dX2_init_7 rfl (by decide) (Nat.le_of_ble_eq_true rfl) (Nat.le_of_ble_eq_true rfl) (fun q7 => ?_)
  refine g_put (k := 0) (q0 := 0) (ty := .array .int) (fun D => [(h0, .inr (2, [.ref q7, .null, .null, iv 0, iv 0])), (q7, aE D 7 40)]) C C2 dX2_init_9 (fun _ => rfl) (fun _ => rfl) rfl inT2 tyX2_ok nmX2 (by decide) (Nat.le_of_ble_eq_true rfl) (by first | exact Or.inl rfl | exact Or.inr rfl) (by decide +kernel) rfl rfl tw25 ?_
  refine g_aload_n C dX2_init_12 0 rfl ?_
  refine g_bipush C dX2_init_13 (by decide) ?_
  refine g_newa (len := 40) C dX2_init_15 rfl (by decide) (Nat.le_of_ble_eq_true rfl) (Nat.le_of_ble_eq_true rfl) (fun q15 => ?_)
  refine g_put (k := 1) (q0 := 0) (ty := .array .int) (fun D => [(h0, .inr (2, [.ref q7, .ref q15, .null, iv 0, iv 0])), (q7, aE D 7 40), (q15, aE D 7 40)]) C C2 dX2_init_17 (fun _ => rfl) (fun _ => rfl) rfl inT2 tyX2_ok nmX2 (by decide) (Nat.le_of_ble_eq_true rfl) (by first | exact Or.inl rfl | exact Or.inr rfl) (by decide +kernel) rfl rfl tw27 ?_
  refine g_aload_n C dX2_init_20 0 rfl ?_
  refine g_bipush C dX2_init_21 (by decide) ?_
  refine g_newq (len := 6) C C2 trivial dX2_init_23 tw23 rfl (by decide) (Nat.le_of_ble_eq_true rfl) (Nat.le_of_ble_eq_true rfl) (fun q23 => ?_)
  refine g_put (k := 2) (q0 := 0) (ty := .array (.object "PartRoom$Voice")) (fun D => [(h0, .inr (2, [.ref q7, .ref q15, .ref q23, iv 0, iv 0])), (q7, aE D 7 40), (q15, aE D 7 40), (q23, aE D 9 6)]) C C2 dX2_init_26 (fun _ => rfl) (fun _ => rfl) rfl inT2 tyX2_ok nmX2 (by decide) (Nat.le_of_ble_eq_true rfl) (by first | exact Or.inl rfl | exact Or.inr rfl) (by decide +kernel) rfl rfl tw31 ?_
  refine g_aload_n C dX2_init_29 0 rfl ?_
  refine g_iconst C dX2_init_30 ?_
  refine g_put (k := 3) (q0 := 0) (ty := .int) (fun D => [(h0, .inr (2, [.ref q7, .ref q15, .ref q23, iv 0, iv 0])), (q7, aE D 7 40), (q15, aE D 7 40), (q23, aE D 9 6)]) C C2 dX2_init_31 (fun _ => rfl) (fun _ => rfl) rfl inT2 tyX2_ok nmX2 (by decide) (Nat.le_of_ble_eq_true rfl) (by first | exact Or.inl rfl | exact Or.inr rfl) (by decide +kernel) rfl rfl tw32 ?_
  refine g_aload_n C dX2_init_34 0 rfl ?_
  refine g_iconst C dX2_init_35 ?_
  refine g_put (k := 4) (q0 := 0) (ty := .int) (fun D => [(h0, .inr (2, [.ref q7, .ref q15, .ref q23, iv 0, iv 0])), (q7, aE D 7 40), (q15, aE D 7 40), (q23, aE D 9 6)]) C C2 dX2_init_36 (fun _ => rfl) (fun _ => rfl) rfl inT2 tyX2_ok nmX2 (by decide) (Nat.le_of_ble_eq_true rfl) (by first | exact Or.inl rfl | exact Or.inr rfl) (by decide +kernel) rfl rfl tw34 ?_
  exact g_widen 3 86 (Nat.le_of_ble_eq_true rfl) (Nat.le_of_ble_eq_true rfl) (ret (fun k => [q7, q15, q23].getD k 0) _ _ _ dX2_init_39 (fun _ => rfl))
set_option maxRecDepth 20000 in
theorem m_X1_init {h0 : Nat} {x1 : Nat} : MC yX1_init cX1_init 2 { frames := 1, cells := 2, slots := 80, locals := 12 } True (fun D => [(h0, .inr (1, [.null, .null, .null, iv 0, iv 0, iv 0]))]) [.ref h0, .ref x1] (fun u D => [(h0, .inr (1, [.ref x1, .ref (u 0), .ref (u 1), iv 0, iv 0, iv 1])), (u 0, aE D 7 40), (u 1, aE D 7 40)]) := by
  refine MC.of (own := RX1) (by decide +kernel) rfl rfl (Nat.le_of_ble_eq_true rfl) ?_
  intro κ C C2 ret
  refine g_aload_n C dX1_init_0 0 rfl ?_
  refine g_obj C dX1_init_1 tw54 (Nat.le_of_ble_eq_true rfl) (Nat.le_of_ble_eq_true rfl) ?_
  refine g_aload_n C dX1_init_4 0 rfl ?_
  refine g_aload_n C dX1_init_5 1 rfl ?_
  refine g_put (k := 0) (q0 := 0) (ty := .object "PartRoom$Score") (fun D => [(h0, .inr (1, [.ref x1, .null, .null, iv 0, iv 0, iv 0]))]) C C2 dX1_init_6 (fun _ => rfl) (fun _ => rfl) rfl inT1 tyX1_ok nmX1 (by decide) (Nat.le_of_ble_eq_true rfl) (by first | exact Or.inl rfl | exact Or.inr rfl) (by decide +kernel) rfl rfl tw55 ?_
  refine g_aload_n C dX1_init_9 0 rfl ?_
  refine g_bipush C dX1_init_10 (by decide) ?_
  refine g_newa (len := 40) C dX1_init_12 rfl (by decide) (Nat.le_of_ble_eq_true rfl) (Nat.le_of_ble_eq_true rfl) (fun q12 => ?_)
  refine g_put (k := 1) (q0 := 0) (ty := .array .int) (fun D => [(h0, .inr (1, [.ref x1, .ref q12, .null, iv 0, iv 0, iv 0])), (q12, aE D 7 40)]) C C2 dX1_init_14 (fun _ => rfl) (fun _ => rfl) rfl inT1 tyX1_ok nmX1 (by decide) (Nat.le_of_ble_eq_true rfl) (by first | exact Or.inl rfl | exact Or.inr rfl) (by decide +kernel) rfl rfl tw56 ?_
  refine g_aload_n C dX1_init_17 0 rfl ?_
  refine g_bipush C dX1_init_18 (by decide) ?_
  refine g_newa (len := 40) C dX1_init_20 rfl (by decide) (Nat.le_of_ble_eq_true rfl) (Nat.le_of_ble_eq_true rfl) (fun q20 => ?_)
  refine g_put (k := 2) (q0 := 0) (ty := .array .int) (fun D => [(h0, .inr (1, [.ref x1, .ref q12, .ref q20, iv 0, iv 0, iv 0])), (q12, aE D 7 40), (q20, aE D 7 40)]) C C2 dX1_init_22 (fun _ => rfl) (fun _ => rfl) rfl inT1 tyX1_ok nmX1 (by decide) (Nat.le_of_ble_eq_true rfl) (by first | exact Or.inl rfl | exact Or.inr rfl) (by decide +kernel) rfl rfl tw57 ?_
  refine g_aload_n C dX1_init_25 0 rfl ?_
  refine g_iconst C dX1_init_26 ?_
  refine g_put (k := 3) (q0 := 0) (ty := .int) (fun D => [(h0, .inr (1, [.ref x1, .ref q12, .ref q20, iv 0, iv 0, iv 0])), (q12, aE D 7 40), (q20, aE D 7 40)]) C C2 dX1_init_27 (fun _ => rfl) (fun _ => rfl) rfl inT1 tyX1_ok nmX1 (by decide) (Nat.le_of_ble_eq_true rfl) (by first | exact Or.inl rfl | exact Or.inr rfl) (by decide +kernel) rfl rfl tw58 ?_
  refine g_aload_n C dX1_init_30 0 rfl ?_
  refine g_iconst C dX1_init_31 ?_
  refine g_put (k := 4) (q0 := 0) (ty := .int) (fun D => [(h0, .inr (1, [.ref x1, .ref q12, .ref q20, iv 0, iv 0, iv 0])), (q12, aE D 7 40), (q20, aE D 7 40)]) C C2 dX1_init_32 (fun _ => rfl) (fun _ => rfl) rfl inT1 tyX1_ok nmX1 (by decide) (Nat.le_of_ble_eq_true rfl) (by first | exact Or.inl rfl | exact Or.inr rfl) (by decide +kernel) rfl rfl tw61 ?_
  refine g_aload_n C dX1_init_35 0 rfl ?_
  refine g_iconst C dX1_init_36 ?_
  refine g_put (k := 5) (q0 := 0) (ty := .int) (fun D => [(h0, .inr (1, [.ref x1, .ref q12, .ref q20, iv 0, iv 0, iv 1])), (q12, aE D 7 40), (q20, aE D 7 40)]) C C2 dX1_init_37 (fun _ => rfl) (fun _ => rfl) rfl inT1 tyX1_ok nmX1 (by decide) (Nat.le_of_ble_eq_true rfl) (by first | exact Or.inl rfl | exact Or.inr rfl) (by decide +kernel) rfl rfl tw62 ?_
  exact g_widen 2 80 (Nat.le_of_ble_eq_true rfl) (Nat.le_of_ble_eq_true rfl) (ret (fun k => [q12, q20].getD k 0) _ _ _ dX1_init_40 (fun _ => rfl))
set_option maxRecDepth 20000 in
theorem m_X0_init {h0 : Nat} {x1 : Nat} : MC yX0_init cX0_init 2 { frames := 1, cells := 7, slots := 283, locals := 12 } True (fun D => [(h0, .inr (0, [.null, .null, .null, .null, .null, .null, .null, .null, iv 0, iv 0, iv 0]))]) [.ref h0, .ref x1] (fun u D => [(h0, .inr (0, [.ref x1, .ref (u 0), .ref (u 1), .ref (u 2), .ref (u 3), .ref (u 4), .ref (u 5), .ref (u 6), iv 0, iv 0, iv 0])), (u 0, aE D 7 40), (u 1, aE D 7 40), (u 2, aE D 7 40), (u 3, aE D 7 41), (u 4, aE D 7 41), (u 5, aE D 7 41), (u 6, aE D 7 40)]) := by
  refine MC.of (own := RX0) (by decide +kernel) rfl rfl (Nat.le_of_ble_eq_true rfl) ?_
  intro κ C C2 ret
  refine g_aload_n C dX0_init_0 0 rfl ?_
  refine g_obj C dX0_init_1 tw81 (Nat.le_of_ble_eq_true rfl) (Nat.le_of_ble_eq_true rfl) ?_
  refine g_aload_n C dX0_init_4 0 rfl ?_
  refine g_aload_n C dX0_init_5 1 rfl ?_
  refine g_put (k := 0) (q0 := 0) (ty := .object "PartRoom$Part") (fun D => [(h0, .inr (0, [.ref x1, .null, .null, .null, .null, .null, .null, .null, iv 0, iv 0, iv 0]))]) C C2 dX0_init_6 (fun _ => rfl) (fun _ => rfl) rfl inT0 tyX0_ok nmX0 (by decide) (Nat.le_of_ble_eq_true rfl) (by first | exact Or.inl rfl | exact Or.inr rfl) (by decide +kernel) rfl rfl tw82 ?_
  refine g_aload_n C dX0_init_9 0 rfl ?_
  refine g_bipush C dX0_init_10 (by decide) ?_
  refine g_newa (len := 40) C dX0_init_12 rfl (by decide) (Nat.le_of_ble_eq_true rfl) (Nat.le_of_ble_eq_true rfl) (fun q12 => ?_)
  refine g_put (k := 1) (q0 := 0) (ty := .array .int) (fun D => [(h0, .inr (0, [.ref x1, .ref q12, .null, .null, .null, .null, .null, .null, iv 0, iv 0, iv 0])), (q12, aE D 7 40)]) C C2 dX0_init_14 (fun _ => rfl) (fun _ => rfl) rfl inT0 tyX0_ok nmX0 (by decide) (Nat.le_of_ble_eq_true rfl) (by first | exact Or.inl rfl | exact Or.inr rfl) (by decide +kernel) rfl rfl tw83 ?_
  refine g_aload_n C dX0_init_17 0 rfl ?_
  refine g_bipush C dX0_init_18 (by decide) ?_
  refine g_newa (len := 40) C dX0_init_20 rfl (by decide) (Nat.le_of_ble_eq_true rfl) (Nat.le_of_ble_eq_true rfl) (fun q20 => ?_)
  refine g_put (k := 2) (q0 := 0) (ty := .array .int) (fun D => [(h0, .inr (0, [.ref x1, .ref q12, .ref q20, .null, .null, .null, .null, .null, iv 0, iv 0, iv 0])), (q12, aE D 7 40), (q20, aE D 7 40)]) C C2 dX0_init_22 (fun _ => rfl) (fun _ => rfl) rfl inT0 tyX0_ok nmX0 (by decide) (Nat.le_of_ble_eq_true rfl) (by first | exact Or.inl rfl | exact Or.inr rfl) (by decide +kernel) rfl rfl tw84 ?_
  refine g_aload_n C dX0_init_25 0 rfl ?_
  refine g_bipush C dX0_init_26 (by decide) ?_
  refine g_newa (len := 40) C dX0_init_28 rfl (by decide) (Nat.le_of_ble_eq_true rfl) (Nat.le_of_ble_eq_true rfl) (fun q28 => ?_)
  refine g_put (k := 3) (q0 := 0) (ty := .array .int) (fun D => [(h0, .inr (0, [.ref x1, .ref q12, .ref q20, .ref q28, .null, .null, .null, .null, iv 0, iv 0, iv 0])), (q12, aE D 7 40), (q20, aE D 7 40), (q28, aE D 7 40)]) C C2 dX0_init_30 (fun _ => rfl) (fun _ => rfl) rfl inT0 tyX0_ok nmX0 (by decide) (Nat.le_of_ble_eq_true rfl) (by first | exact Or.inl rfl | exact Or.inr rfl) (by decide +kernel) rfl rfl tw85 ?_
  refine g_aload_n C dX0_init_33 0 rfl ?_
  refine g_bipush C dX0_init_34 (by decide) ?_
  refine g_newa (len := 41) C dX0_init_36 rfl (by decide) (Nat.le_of_ble_eq_true rfl) (Nat.le_of_ble_eq_true rfl) (fun q36 => ?_)
  refine g_put (k := 4) (q0 := 0) (ty := .array .int) (fun D => [(h0, .inr (0, [.ref x1, .ref q12, .ref q20, .ref q28, .ref q36, .null, .null, .null, iv 0, iv 0, iv 0])), (q12, aE D 7 40), (q20, aE D 7 40), (q28, aE D 7 40), (q36, aE D 7 41)]) C C2 dX0_init_38 (fun _ => rfl) (fun _ => rfl) rfl inT0 tyX0_ok nmX0 (by decide) (Nat.le_of_ble_eq_true rfl) (by first | exact Or.inl rfl | exact Or.inr rfl) (by decide +kernel) rfl rfl tw86 ?_
  refine g_aload_n C dX0_init_41 0 rfl ?_
  refine g_bipush C dX0_init_42 (by decide) ?_
  refine g_newa (len := 41) C dX0_init_44 rfl (by decide) (Nat.le_of_ble_eq_true rfl) (Nat.le_of_ble_eq_true rfl) (fun q44 => ?_)
  refine g_put (k := 5) (q0 := 0) (ty := .array .int) (fun D => [(h0, .inr (0, [.ref x1, .ref q12, .ref q20, .ref q28, .ref q36, .ref q44, .null, .null, iv 0, iv 0, iv 0])), (q12, aE D 7 40), (q20, aE D 7 40), (q28, aE D 7 40), (q36, aE D 7 41), (q44, aE D 7 41)]) C C2 dX0_init_46 (fun _ => rfl) (fun _ => rfl) rfl inT0 tyX0_ok nmX0 (by decide) (Nat.le_of_ble_eq_true rfl) (by first | exact Or.inl rfl | exact Or.inr rfl) (by decide +kernel) rfl rfl tw87 ?_
  refine g_aload_n C dX0_init_49 0 rfl ?_
  refine g_bipush C dX0_init_50 (by decide) ?_
  refine g_newa (len := 41) C dX0_init_52 rfl (by decide) (Nat.le_of_ble_eq_true rfl) (Nat.le_of_ble_eq_true rfl) (fun q52 => ?_)
  refine g_put (k := 6) (q0 := 0) (ty := .array .int) (fun D => [(h0, .inr (0, [.ref x1, .ref q12, .ref q20, .ref q28, .ref q36, .ref q44, .ref q52, .null, iv 0, iv 0, iv 0])), (q12, aE D 7 40), (q20, aE D 7 40), (q28, aE D 7 40), (q36, aE D 7 41), (q44, aE D 7 41), (q52, aE D 7 41)]) C C2 dX0_init_54 (fun _ => rfl) (fun _ => rfl) rfl inT0 tyX0_ok nmX0 (by decide) (Nat.le_of_ble_eq_true rfl) (by first | exact Or.inl rfl | exact Or.inr rfl) (by decide +kernel) rfl rfl tw88 ?_
  refine g_aload_n C dX0_init_57 0 rfl ?_
  refine g_bipush C dX0_init_58 (by decide) ?_
  refine g_newa (len := 40) C dX0_init_60 rfl (by decide) (Nat.le_of_ble_eq_true rfl) (Nat.le_of_ble_eq_true rfl) (fun q60 => ?_)
  refine g_put (k := 7) (q0 := 0) (ty := .array .int) (fun D => [(h0, .inr (0, [.ref x1, .ref q12, .ref q20, .ref q28, .ref q36, .ref q44, .ref q52, .ref q60, iv 0, iv 0, iv 0])), (q12, aE D 7 40), (q20, aE D 7 40), (q28, aE D 7 40), (q36, aE D 7 41), (q44, aE D 7 41), (q52, aE D 7 41), (q60, aE D 7 40)]) C C2 dX0_init_62 (fun _ => rfl) (fun _ => rfl) rfl inT0 tyX0_ok nmX0 (by decide) (Nat.le_of_ble_eq_true rfl) (by first | exact Or.inl rfl | exact Or.inr rfl) (by decide +kernel) rfl rfl tw89 ?_
  refine g_aload_n C dX0_init_65 0 rfl ?_
  refine g_iconst C dX0_init_66 ?_
  refine g_put (k := 8) (q0 := 0) (ty := .int) (fun D => [(h0, .inr (0, [.ref x1, .ref q12, .ref q20, .ref q28, .ref q36, .ref q44, .ref q52, .ref q60, iv 0, iv 0, iv 0])), (q12, aE D 7 40), (q20, aE D 7 40), (q28, aE D 7 40), (q36, aE D 7 41), (q44, aE D 7 41), (q52, aE D 7 41), (q60, aE D 7 40)]) C C2 dX0_init_67 (fun _ => rfl) (fun _ => rfl) rfl inT0 tyX0_ok nmX0 (by decide) (Nat.le_of_ble_eq_true rfl) (by first | exact Or.inl rfl | exact Or.inr rfl) (by decide +kernel) rfl rfl tw90 ?_
  refine g_aload_n C dX0_init_70 0 rfl ?_
  refine g_iconst C dX0_init_71 ?_
  refine g_put (k := 9) (q0 := 0) (ty := .int) (fun D => [(h0, .inr (0, [.ref x1, .ref q12, .ref q20, .ref q28, .ref q36, .ref q44, .ref q52, .ref q60, iv 0, iv 0, iv 0])), (q12, aE D 7 40), (q20, aE D 7 40), (q28, aE D 7 40), (q36, aE D 7 41), (q44, aE D 7 41), (q52, aE D 7 41), (q60, aE D 7 40)]) C C2 dX0_init_72 (fun _ => rfl) (fun _ => rfl) rfl inT0 tyX0_ok nmX0 (by decide) (Nat.le_of_ble_eq_true rfl) (by first | exact Or.inl rfl | exact Or.inr rfl) (by decide +kernel) rfl rfl tw91 ?_
  refine g_aload_n C dX0_init_75 0 rfl ?_
  refine g_iconst C dX0_init_76 ?_
  refine g_put (k := 10) (q0 := 0) (ty := .int) (fun D => [(h0, .inr (0, [.ref x1, .ref q12, .ref q20, .ref q28, .ref q36, .ref q44, .ref q52, .ref q60, iv 0, iv 0, iv 0])), (q12, aE D 7 40), (q20, aE D 7 40), (q28, aE D 7 40), (q36, aE D 7 41), (q44, aE D 7 41), (q52, aE D 7 41), (q60, aE D 7 40)]) C C2 dX0_init_77 (fun _ => rfl) (fun _ => rfl) rfl inT0 tyX0_ok nmX0 (by decide) (Nat.le_of_ble_eq_true rfl) (by first | exact Or.inl rfl | exact Or.inr rfl) (by decide +kernel) rfl rfl tw92 ?_
  exact g_widen 7 283 (Nat.le_of_ble_eq_true rfl) (Nat.le_of_ble_eq_true rfl) (ret (fun k => [q12, q20, q28, q36, q44, q52, q60].getD k 0) _ _ _ dX0_init_80 (fun _ => rfl))
set_option maxRecDepth 20000 in
theorem m_X3_init {h0 : Nat} : MC yX3_init cX3_init 1 { frames := 1, cells := 1, slots := 40, locals := 12 } True (fun D => [(h0, .inr (3, [.null, iv 0]))]) [.ref h0] (fun u D => [(h0, .inr (3, [.ref (u 0), iv 0])), (u 0, aE D 7 40)]) := by
  refine MC.of (own := RX3) (by decide +kernel) rfl rfl (Nat.le_of_ble_eq_true rfl) ?_
  intro κ C C2 ret
  refine g_aload_n C dX3_init_0 0 rfl ?_
  refine g_obj C dX3_init_1 tw121 (Nat.le_of_ble_eq_true rfl) (Nat.le_of_ble_eq_true rfl) ?_
  refine g_aload_n C dX3_init_4 0 rfl ?_
  refine g_bipush C dX3_init_5 (by decide) ?_
  refine g_newa (len := 40) C dX3_init_7 rfl (by decide) (Nat.le_of_ble_eq_true rfl) (Nat.le_of_ble_eq_true rfl) (fun q7 => ?_)
  refine g_put (k := 0) (q0 := 0) (ty := .array .int) (fun D => [(h0, .inr (3, [.ref q7, iv 0])), (q7, aE D 7 40)]) C C2 dX3_init_9 (fun _ => rfl) (fun _ => rfl) rfl inT3 tyX3_ok nmX3 (by decide) (Nat.le_of_ble_eq_true rfl) (by first | exact Or.inl rfl | exact Or.inr rfl) (by decide +kernel) rfl rfl tw122 ?_
  refine g_aload_n C dX3_init_12 0 rfl ?_
  refine g_iconst C dX3_init_13 ?_
  refine g_put (k := 1) (q0 := 0) (ty := .int) (fun D => [(h0, .inr (3, [.ref q7, iv 0])), (q7, aE D 7 40)]) C C2 dX3_init_14 (fun _ => rfl) (fun _ => rfl) rfl inT3 tyX3_ok nmX3 (by decide) (Nat.le_of_ble_eq_true rfl) (by first | exact Or.inl rfl | exact Or.inr rfl) (by decide +kernel) rfl rfl tw123 ?_
  exact g_widen 1 40 (Nat.le_of_ble_eq_true rfl) (Nat.le_of_ble_eq_true rfl) (ret (fun k => [q7].getD k 0) _ _ _ dX3_init_17 (fun _ => rfl))
set_option maxRecDepth 20000 in
theorem m_X4_init {h0 : Nat} {x1 x2 : Int} : MC yX4_init cX4_init 3 { frames := 1, cells := 4, slots := 160, locals := 12 } False (fun D => [(h0, .inr (4, [iv 0, iv 0, .null, .null, iv 0, .null, .null, iv 0]))]) [.ref h0, iv x1, iv x2] (fun u D => [(h0, .inr (4, [iv x1, iv x2, .ref (u 0), .ref (u 1), iv 1, .ref (u 2), .ref (u 3), iv 0])), (u 0, aE D 7 40), (u 1, aE D 7 40), (u 2, aE D 7 40), (u 3, aE D 7 40)]) := by
  refine MC.of (own := RX4) (by decide +kernel) rfl rfl (Nat.le_of_ble_eq_true rfl) ?_
  intro κ C C2 ret
  refine g_aload_n C dX4_init_0 0 rfl ?_
  refine g_obj C dX4_init_1 tw192 (Nat.le_of_ble_eq_true rfl) (Nat.le_of_ble_eq_true rfl) ?_
  refine g_aload_n C dX4_init_4 0 rfl ?_
  refine g_iload_n C dX4_init_5 1 rfl ?_
  refine g_put (k := 0) (q0 := 0) (ty := .int) (fun D => [(h0, .inr (4, [iv x1, iv 0, .null, .null, iv 0, .null, .null, iv 0]))]) C C2 dX4_init_6 (fun _ => rfl) (fun _ => rfl) rfl inT4 tyX4_ok nmX4 (by decide) (Nat.le_of_ble_eq_true rfl) (by first | exact Or.inl rfl | exact Or.inr rfl) (by decide +kernel) rfl rfl tw193 ?_
  refine g_aload_n C dX4_init_9 0 rfl ?_
  refine g_iload_n C dX4_init_10 2 rfl ?_
  refine g_put (k := 1) (q0 := 0) (ty := .int) (fun D => [(h0, .inr (4, [iv x1, iv x2, .null, .null, iv 0, .null, .null, iv 0]))]) C C2 dX4_init_11 (fun _ => rfl) (fun _ => rfl) rfl inT4 tyX4_ok nmX4 (by decide) (Nat.le_of_ble_eq_true rfl) (by first | exact Or.inl rfl | exact Or.inr rfl) (by decide +kernel) rfl rfl tw194 ?_
  refine g_aload_n C dX4_init_14 0 rfl ?_
  refine g_bipush C dX4_init_15 (by decide) ?_
  refine g_newa (len := 40) C dX4_init_17 rfl (by decide) (Nat.le_of_ble_eq_true rfl) (Nat.le_of_ble_eq_true rfl) (fun q17 => ?_)
  refine g_put (k := 2) (q0 := 0) (ty := .array .int) (fun D => [(h0, .inr (4, [iv x1, iv x2, .ref q17, .null, iv 0, .null, .null, iv 0])), (q17, aE D 7 40)]) C C2 dX4_init_19 (fun _ => rfl) (fun _ => rfl) rfl inT4 tyX4_ok nmX4 (by decide) (Nat.le_of_ble_eq_true rfl) (by first | exact Or.inl rfl | exact Or.inr rfl) (by decide +kernel) rfl rfl tw196 ?_
  refine g_aload_n C dX4_init_22 0 rfl ?_
  refine g_bipush C dX4_init_23 (by decide) ?_
  refine g_newa (len := 40) C dX4_init_25 rfl (by decide) (Nat.le_of_ble_eq_true rfl) (Nat.le_of_ble_eq_true rfl) (fun q25 => ?_)
  refine g_put (k := 3) (q0 := 0) (ty := .array .int) (fun D => [(h0, .inr (4, [iv x1, iv x2, .ref q17, .ref q25, iv 0, .null, .null, iv 0])), (q17, aE D 7 40), (q25, aE D 7 40)]) C C2 dX4_init_27 (fun _ => rfl) (fun _ => rfl) rfl inT4 tyX4_ok nmX4 (by decide) (Nat.le_of_ble_eq_true rfl) (by first | exact Or.inl rfl | exact Or.inr rfl) (by decide +kernel) rfl rfl tw199 ?_
  refine g_aload_n C dX4_init_30 0 rfl ?_
  refine g_iconst C dX4_init_31 ?_
  refine g_put (k := 4) (q0 := 0) (ty := .boolean) (fun D => [(h0, .inr (4, [iv x1, iv x2, .ref q17, .ref q25, iv 1, .null, .null, iv 0])), (q17, aE D 7 40), (q25, aE D 7 40)]) C C2 dX4_init_32 (fun _ => rfl) (fun _ => rfl) rfl inT4 tyX4_ok nmX4 (by decide) (Nat.le_of_ble_eq_true rfl) (by first | exact Or.inl rfl | exact Or.inr rfl) (by decide +kernel) (nar_b (Or.inr rfl)) (fit_b (Or.inr rfl)) tw202 ?_
  refine g_aload_n C dX4_init_35 0 rfl ?_
  refine g_bipush C dX4_init_36 (by decide) ?_
  refine g_newa (len := 40) C dX4_init_38 rfl (by decide) (Nat.le_of_ble_eq_true rfl) (Nat.le_of_ble_eq_true rfl) (fun q38 => ?_)
  refine g_put (k := 5) (q0 := 0) (ty := .array .int) (fun D => [(h0, .inr (4, [iv x1, iv x2, .ref q17, .ref q25, iv 1, .ref q38, .null, iv 0])), (q17, aE D 7 40), (q25, aE D 7 40), (q38, aE D 7 40)]) C C2 dX4_init_40 (fun _ => rfl) (fun _ => rfl) rfl inT4 tyX4_ok nmX4 (by decide) (Nat.le_of_ble_eq_true rfl) (by first | exact Or.inl rfl | exact Or.inr rfl) (by decide +kernel) rfl rfl tw205 ?_
  refine g_aload_n C dX4_init_43 0 rfl ?_
  refine g_bipush C dX4_init_44 (by decide) ?_
  refine g_newa (len := 40) C dX4_init_46 rfl (by decide) (Nat.le_of_ble_eq_true rfl) (Nat.le_of_ble_eq_true rfl) (fun q46 => ?_)
  refine g_put (k := 6) (q0 := 0) (ty := .array .int) (fun D => [(h0, .inr (4, [iv x1, iv x2, .ref q17, .ref q25, iv 1, .ref q38, .ref q46, iv 0])), (q17, aE D 7 40), (q25, aE D 7 40), (q38, aE D 7 40), (q46, aE D 7 40)]) C C2 dX4_init_48 (fun _ => rfl) (fun _ => rfl) rfl inT4 tyX4_ok nmX4 (by decide) (Nat.le_of_ble_eq_true rfl) (by first | exact Or.inl rfl | exact Or.inr rfl) (by decide +kernel) rfl rfl tw206 ?_
  refine g_aload_n C dX4_init_51 0 rfl ?_
  refine g_iconst C dX4_init_52 ?_
  refine g_put (k := 7) (q0 := 0) (ty := .int) (fun D => [(h0, .inr (4, [iv x1, iv x2, .ref q17, .ref q25, iv 1, .ref q38, .ref q46, iv 0])), (q17, aE D 7 40), (q25, aE D 7 40), (q38, aE D 7 40), (q46, aE D 7 40)]) C C2 dX4_init_53 (fun _ => rfl) (fun _ => rfl) rfl inT4 tyX4_ok nmX4 (by decide) (Nat.le_of_ble_eq_true rfl) (by first | exact Or.inl rfl | exact Or.inr rfl) (by decide +kernel) rfl rfl tw207 ?_
  exact g_widen 4 160 (Nat.le_of_ble_eq_true rfl) (Nat.le_of_ble_eq_true rfl) (ret (fun k => [q17, q25, q38, q46].getD k 0) _ _ _ dX4_init_56 (fun _ => rfl))
set_option maxRecDepth 20000 in
theorem m_X6_init {h0 : Nat} : MC yX6_init cX6_init 1 { frames := 1, cells := 19, slots := 1793, locals := 12 } True (fun D => [(h0, .inr (6, [iv 0, iv 0, iv 0, iv 0, iv 0, iv 0, iv 0, iv 0, .null, .null, .null, .null, .null, .null, .null, .null, .null, .null, iv 0, .null, .null, .null, .null, .null, .null, .null, .null, .null]))]) [.ref h0] (fun u D => [(h0, .inr (6, [iv 0, iv 0, iv 0, iv 0, iv 8, iv 40, iv 4, iv 5, .ref (u 0), .ref (u 1), .ref (u 2), .ref (u 3), .ref (u 4), .ref (u 5), .ref (u 6), .ref (u 7), .ref (u 8), .ref (u 9), iv 0, .ref (u 10), .ref (u 11), .ref (u 12), .ref (u 13), .ref (u 14), .ref (u 15), .ref (u 16), .ref (u 17), .ref (u 18)])), (u 0, aE D 7 40), (u 1, aE D 7 40), (u 2, aE D 7 6), (u 3, aE D 7 6), (u 4, aE D 7 6), (u 5, aE D 7 240), (u 6, aE D 7 240), (u 7, aE D 7 40), (u 8, aE D 7 6), (u 9, aE D 7 40), (u 10, aE D 7 41), (u 11, aE D 7 41), (u 12, aE D 7 41), (u 13, aE D 7 6), (u 14, aE D 7 240), (u 15, aE D 7 240), (u 16, aE D 7 240), (u 17, aE D 7 240), (u 18, aE D 8 40)]) := by
  refine MC.of (own := RX6) (by decide +kernel) rfl rfl (Nat.le_of_ble_eq_true rfl) ?_
  intro κ C C2 ret
  refine g_aload_n C dX6_init_0 0 rfl ?_
  refine g_obj C dX6_init_1 tw521 (Nat.le_of_ble_eq_true rfl) (Nat.le_of_ble_eq_true rfl) ?_
  refine g_aload_n C dX6_init_4 0 rfl ?_
  refine g_bipush C dX6_init_5 (by decide) ?_
  refine g_put (k := 4) (q0 := 0) (ty := .int) (fun D => [(h0, .inr (6, [iv 0, iv 0, iv 0, iv 0, iv 8, iv 0, iv 0, iv 0, .null, .null, .null, .null, .null, .null, .null, .null, .null, .null, iv 0, .null, .null, .null, .null, .null, .null, .null, .null, .null]))]) C C2 dX6_init_7 (fun _ => rfl) (fun _ => rfl) rfl inT6 tyX6_ok nmX6 (by decide) (Nat.le_of_ble_eq_true rfl) (by first | exact Or.inl rfl | exact Or.inr rfl) (by decide +kernel) rfl rfl tw526 ?_
  refine g_aload_n C dX6_init_10 0 rfl ?_
  refine g_bipush C dX6_init_11 (by decide) ?_
  refine g_put (k := 5) (q0 := 0) (ty := .int) (fun D => [(h0, .inr (6, [iv 0, iv 0, iv 0, iv 0, iv 8, iv 40, iv 0, iv 0, .null, .null, .null, .null, .null, .null, .null, .null, .null, .null, iv 0, .null, .null, .null, .null, .null, .null, .null, .null, .null]))]) C C2 dX6_init_13 (fun _ => rfl) (fun _ => rfl) rfl inT6 tyX6_ok nmX6 (by decide) (Nat.le_of_ble_eq_true rfl) (by first | exact Or.inl rfl | exact Or.inr rfl) (by decide +kernel) rfl rfl tw527 ?_
  refine g_aload_n C dX6_init_16 0 rfl ?_
  refine g_iconst C dX6_init_17 ?_
  refine g_put (k := 6) (q0 := 0) (ty := .int) (fun D => [(h0, .inr (6, [iv 0, iv 0, iv 0, iv 0, iv 8, iv 40, iv 4, iv 0, .null, .null, .null, .null, .null, .null, .null, .null, .null, .null, iv 0, .null, .null, .null, .null, .null, .null, .null, .null, .null]))]) C C2 dX6_init_18 (fun _ => rfl) (fun _ => rfl) rfl inT6 tyX6_ok nmX6 (by decide) (Nat.le_of_ble_eq_true rfl) (by first | exact Or.inl rfl | exact Or.inr rfl) (by decide +kernel) rfl rfl tw528 ?_
  refine g_aload_n C dX6_init_21 0 rfl ?_
  refine g_iconst C dX6_init_22 ?_
  refine g_put (k := 7) (q0 := 0) (ty := .int) (fun D => [(h0, .inr (6, [iv 0, iv 0, iv 0, iv 0, iv 8, iv 40, iv 4, iv 5, .null, .null, .null, .null, .null, .null, .null, .null, .null, .null, iv 0, .null, .null, .null, .null, .null, .null, .null, .null, .null]))]) C C2 dX6_init_23 (fun _ => rfl) (fun _ => rfl) rfl inT6 tyX6_ok nmX6 (by decide) (Nat.le_of_ble_eq_true rfl) (by first | exact Or.inl rfl | exact Or.inr rfl) (by decide +kernel) rfl rfl tw529 ?_
  refine g_aload_n C dX6_init_26 0 rfl ?_
  refine g_bipush C dX6_init_27 (by decide) ?_
  refine g_newa (len := 40) C dX6_init_29 rfl (by decide) (Nat.le_of_ble_eq_true rfl) (Nat.le_of_ble_eq_true rfl) (fun q29 => ?_)
  refine g_put (k := 8) (q0 := 0) (ty := .array .int) (fun D => [(h0, .inr (6, [iv 0, iv 0, iv 0, iv 0, iv 8, iv 40, iv 4, iv 5, .ref q29, .null, .null, .null, .null, .null, .null, .null, .null, .null, iv 0, .null, .null, .null, .null, .null, .null, .null, .null, .null])), (q29, aE D 7 40)]) C C2 dX6_init_31 (fun _ => rfl) (fun _ => rfl) rfl inT6 tyX6_ok nmX6 (by decide) (Nat.le_of_ble_eq_true rfl) (by first | exact Or.inl rfl | exact Or.inr rfl) (by decide +kernel) rfl rfl tw530 ?_
  refine g_aload_n C dX6_init_34 0 rfl ?_
  refine g_bipush C dX6_init_35 (by decide) ?_
  refine g_newa (len := 40) C dX6_init_37 rfl (by decide) (Nat.le_of_ble_eq_true rfl) (Nat.le_of_ble_eq_true rfl) (fun q37 => ?_)
  refine g_put (k := 9) (q0 := 0) (ty := .array .int) (fun D => [(h0, .inr (6, [iv 0, iv 0, iv 0, iv 0, iv 8, iv 40, iv 4, iv 5, .ref q29, .ref q37, .null, .null, .null, .null, .null, .null, .null, .null, iv 0, .null, .null, .null, .null, .null, .null, .null, .null, .null])), (q29, aE D 7 40), (q37, aE D 7 40)]) C C2 dX6_init_39 (fun _ => rfl) (fun _ => rfl) rfl inT6 tyX6_ok nmX6 (by decide) (Nat.le_of_ble_eq_true rfl) (by first | exact Or.inl rfl | exact Or.inr rfl) (by decide +kernel) rfl rfl tw531 ?_
  refine g_aload_n C dX6_init_42 0 rfl ?_
  refine g_bipush C dX6_init_43 (by decide) ?_
  refine g_newa (len := 6) C dX6_init_45 rfl (by decide) (Nat.le_of_ble_eq_true rfl) (Nat.le_of_ble_eq_true rfl) (fun q45 => ?_)
  refine g_put (k := 10) (q0 := 0) (ty := .array .int) (fun D => [(h0, .inr (6, [iv 0, iv 0, iv 0, iv 0, iv 8, iv 40, iv 4, iv 5, .ref q29, .ref q37, .ref q45, .null, .null, .null, .null, .null, .null, .null, iv 0, .null, .null, .null, .null, .null, .null, .null, .null, .null])), (q29, aE D 7 40), (q37, aE D 7 40), (q45, aE D 7 6)]) C C2 dX6_init_47 (fun _ => rfl) (fun _ => rfl) rfl inT6 tyX6_ok nmX6 (by decide) (Nat.le_of_ble_eq_true rfl) (by first | exact Or.inl rfl | exact Or.inr rfl) (by decide +kernel) rfl rfl tw532 ?_
  refine g_aload_n C dX6_init_50 0 rfl ?_
  refine g_bipush C dX6_init_51 (by decide) ?_
  refine g_newa (len := 6) C dX6_init_53 rfl (by decide) (Nat.le_of_ble_eq_true rfl) (Nat.le_of_ble_eq_true rfl) (fun q53 => ?_)
  refine g_put (k := 11) (q0 := 0) (ty := .array .int) (fun D => [(h0, .inr (6, [iv 0, iv 0, iv 0, iv 0, iv 8, iv 40, iv 4, iv 5, .ref q29, .ref q37, .ref q45, .ref q53, .null, .null, .null, .null, .null, .null, iv 0, .null, .null, .null, .null, .null, .null, .null, .null, .null])), (q29, aE D 7 40), (q37, aE D 7 40), (q45, aE D 7 6), (q53, aE D 7 6)]) C C2 dX6_init_55 (fun _ => rfl) (fun _ => rfl) rfl inT6 tyX6_ok nmX6 (by decide) (Nat.le_of_ble_eq_true rfl) (by first | exact Or.inl rfl | exact Or.inr rfl) (by decide +kernel) rfl rfl tw533 ?_
  refine g_aload_n C dX6_init_58 0 rfl ?_
  refine g_bipush C dX6_init_59 (by decide) ?_
  refine g_newa (len := 6) C dX6_init_61 rfl (by decide) (Nat.le_of_ble_eq_true rfl) (Nat.le_of_ble_eq_true rfl) (fun q61 => ?_)
  refine g_put (k := 12) (q0 := 0) (ty := .array .int) (fun D => [(h0, .inr (6, [iv 0, iv 0, iv 0, iv 0, iv 8, iv 40, iv 4, iv 5, .ref q29, .ref q37, .ref q45, .ref q53, .ref q61, .null, .null, .null, .null, .null, iv 0, .null, .null, .null, .null, .null, .null, .null, .null, .null])), (q29, aE D 7 40), (q37, aE D 7 40), (q45, aE D 7 6), (q53, aE D 7 6), (q61, aE D 7 6)]) C C2 dX6_init_63 (fun _ => rfl) (fun _ => rfl) rfl inT6 tyX6_ok nmX6 (by decide) (Nat.le_of_ble_eq_true rfl) (by first | exact Or.inl rfl | exact Or.inr rfl) (by decide +kernel) rfl rfl tw534 ?_
  refine g_aload_n C dX6_init_66 0 rfl ?_
  refine g_sipush C dX6_init_67 (by decide) ?_
  refine g_newa (len := 240) C dX6_init_70 rfl (by decide) (Nat.le_of_ble_eq_true rfl) (Nat.le_of_ble_eq_true rfl) (fun q70 => ?_)
  refine g_put (k := 13) (q0 := 0) (ty := .array .int) (fun D => [(h0, .inr (6, [iv 0, iv 0, iv 0, iv 0, iv 8, iv 40, iv 4, iv 5, .ref q29, .ref q37, .ref q45, .ref q53, .ref q61, .ref q70, .null, .null, .null, .null, iv 0, .null, .null, .null, .null, .null, .null, .null, .null, .null])), (q29, aE D 7 40), (q37, aE D 7 40), (q45, aE D 7 6), (q53, aE D 7 6), (q61, aE D 7 6), (q70, aE D 7 240)]) C C2 dX6_init_72 (fun _ => rfl) (fun _ => rfl) rfl inT6 tyX6_ok nmX6 (by decide) (Nat.le_of_ble_eq_true rfl) (by first | exact Or.inl rfl | exact Or.inr rfl) (by decide +kernel) rfl rfl tw535 ?_
  refine g_aload_n C dX6_init_75 0 rfl ?_
  refine g_sipush C dX6_init_76 (by decide) ?_
  refine g_newa (len := 240) C dX6_init_79 rfl (by decide) (Nat.le_of_ble_eq_true rfl) (Nat.le_of_ble_eq_true rfl) (fun q79 => ?_)
  refine g_put (k := 14) (q0 := 0) (ty := .array .int) (fun D => [(h0, .inr (6, [iv 0, iv 0, iv 0, iv 0, iv 8, iv 40, iv 4, iv 5, .ref q29, .ref q37, .ref q45, .ref q53, .ref q61, .ref q70, .ref q79, .null, .null, .null, iv 0, .null, .null, .null, .null, .null, .null, .null, .null, .null])), (q29, aE D 7 40), (q37, aE D 7 40), (q45, aE D 7 6), (q53, aE D 7 6), (q61, aE D 7 6), (q70, aE D 7 240), (q79, aE D 7 240)]) C C2 dX6_init_81 (fun _ => rfl) (fun _ => rfl) rfl inT6 tyX6_ok nmX6 (by decide) (Nat.le_of_ble_eq_true rfl) (by first | exact Or.inl rfl | exact Or.inr rfl) (by decide +kernel) rfl rfl tw536 ?_
  refine g_aload_n C dX6_init_84 0 rfl ?_
  refine g_bipush C dX6_init_85 (by decide) ?_
  refine g_newa (len := 40) C dX6_init_87 rfl (by decide) (Nat.le_of_ble_eq_true rfl) (Nat.le_of_ble_eq_true rfl) (fun q87 => ?_)
  refine g_put (k := 15) (q0 := 0) (ty := .array .int) (fun D => [(h0, .inr (6, [iv 0, iv 0, iv 0, iv 0, iv 8, iv 40, iv 4, iv 5, .ref q29, .ref q37, .ref q45, .ref q53, .ref q61, .ref q70, .ref q79, .ref q87, .null, .null, iv 0, .null, .null, .null, .null, .null, .null, .null, .null, .null])), (q29, aE D 7 40), (q37, aE D 7 40), (q45, aE D 7 6), (q53, aE D 7 6), (q61, aE D 7 6), (q70, aE D 7 240), (q79, aE D 7 240), (q87, aE D 7 40)]) C C2 dX6_init_89 (fun _ => rfl) (fun _ => rfl) rfl inT6 tyX6_ok nmX6 (by decide) (Nat.le_of_ble_eq_true rfl) (by first | exact Or.inl rfl | exact Or.inr rfl) (by decide +kernel) rfl rfl tw537 ?_
  refine g_aload_n C dX6_init_92 0 rfl ?_
  refine g_bipush C dX6_init_93 (by decide) ?_
  refine g_newa (len := 6) C dX6_init_95 rfl (by decide) (Nat.le_of_ble_eq_true rfl) (Nat.le_of_ble_eq_true rfl) (fun q95 => ?_)
  refine g_put (k := 16) (q0 := 0) (ty := .array .int) (fun D => [(h0, .inr (6, [iv 0, iv 0, iv 0, iv 0, iv 8, iv 40, iv 4, iv 5, .ref q29, .ref q37, .ref q45, .ref q53, .ref q61, .ref q70, .ref q79, .ref q87, .ref q95, .null, iv 0, .null, .null, .null, .null, .null, .null, .null, .null, .null])), (q29, aE D 7 40), (q37, aE D 7 40), (q45, aE D 7 6), (q53, aE D 7 6), (q61, aE D 7 6), (q70, aE D 7 240), (q79, aE D 7 240), (q87, aE D 7 40), (q95, aE D 7 6)]) C C2 dX6_init_97 (fun _ => rfl) (fun _ => rfl) rfl inT6 tyX6_ok nmX6 (by decide) (Nat.le_of_ble_eq_true rfl) (by first | exact Or.inl rfl | exact Or.inr rfl) (by decide +kernel) rfl rfl tw538 ?_
  refine g_aload_n C dX6_init_100 0 rfl ?_
  refine g_bipush C dX6_init_101 (by decide) ?_
  refine g_newa (len := 40) C dX6_init_103 rfl (by decide) (Nat.le_of_ble_eq_true rfl) (Nat.le_of_ble_eq_true rfl) (fun q103 => ?_)
  refine g_put (k := 17) (q0 := 0) (ty := .array .int) (fun D => [(h0, .inr (6, [iv 0, iv 0, iv 0, iv 0, iv 8, iv 40, iv 4, iv 5, .ref q29, .ref q37, .ref q45, .ref q53, .ref q61, .ref q70, .ref q79, .ref q87, .ref q95, .ref q103, iv 0, .null, .null, .null, .null, .null, .null, .null, .null, .null])), (q29, aE D 7 40), (q37, aE D 7 40), (q45, aE D 7 6), (q53, aE D 7 6), (q61, aE D 7 6), (q70, aE D 7 240), (q79, aE D 7 240), (q87, aE D 7 40), (q95, aE D 7 6), (q103, aE D 7 40)]) C C2 dX6_init_105 (fun _ => rfl) (fun _ => rfl) rfl inT6 tyX6_ok nmX6 (by decide) (Nat.le_of_ble_eq_true rfl) (by first | exact Or.inl rfl | exact Or.inr rfl) (by decide +kernel) rfl rfl tw539 ?_
  refine g_aload_n C dX6_init_108 0 rfl ?_
  refine g_bipush C dX6_init_109 (by decide) ?_
  refine g_newa (len := 41) C dX6_init_111 rfl (by decide) (Nat.le_of_ble_eq_true rfl) (Nat.le_of_ble_eq_true rfl) (fun q111 => ?_)
  refine g_put (k := 19) (q0 := 0) (ty := .array .int) (fun D => [(h0, .inr (6, [iv 0, iv 0, iv 0, iv 0, iv 8, iv 40, iv 4, iv 5, .ref q29, .ref q37, .ref q45, .ref q53, .ref q61, .ref q70, .ref q79, .ref q87, .ref q95, .ref q103, iv 0, .ref q111, .null, .null, .null, .null, .null, .null, .null, .null])), (q29, aE D 7 40), (q37, aE D 7 40), (q45, aE D 7 6), (q53, aE D 7 6), (q61, aE D 7 6), (q70, aE D 7 240), (q79, aE D 7 240), (q87, aE D 7 40), (q95, aE D 7 6), (q103, aE D 7 40), (q111, aE D 7 41)]) C C2 dX6_init_113 (fun _ => rfl) (fun _ => rfl) rfl inT6 tyX6_ok nmX6 (by decide) (Nat.le_of_ble_eq_true rfl) (by first | exact Or.inl rfl | exact Or.inr rfl) (by decide +kernel) rfl rfl tw541 ?_
  refine g_aload_n C dX6_init_116 0 rfl ?_
  refine g_bipush C dX6_init_117 (by decide) ?_
  refine g_newa (len := 41) C dX6_init_119 rfl (by decide) (Nat.le_of_ble_eq_true rfl) (Nat.le_of_ble_eq_true rfl) (fun q119 => ?_)
  refine g_put (k := 20) (q0 := 0) (ty := .array .int) (fun D => [(h0, .inr (6, [iv 0, iv 0, iv 0, iv 0, iv 8, iv 40, iv 4, iv 5, .ref q29, .ref q37, .ref q45, .ref q53, .ref q61, .ref q70, .ref q79, .ref q87, .ref q95, .ref q103, iv 0, .ref q111, .ref q119, .null, .null, .null, .null, .null, .null, .null])), (q29, aE D 7 40), (q37, aE D 7 40), (q45, aE D 7 6), (q53, aE D 7 6), (q61, aE D 7 6), (q70, aE D 7 240), (q79, aE D 7 240), (q87, aE D 7 40), (q95, aE D 7 6), (q103, aE D 7 40), (q111, aE D 7 41), (q119, aE D 7 41)]) C C2 dX6_init_121 (fun _ => rfl) (fun _ => rfl) rfl inT6 tyX6_ok nmX6 (by decide) (Nat.le_of_ble_eq_true rfl) (by first | exact Or.inl rfl | exact Or.inr rfl) (by decide +kernel) rfl rfl tw542 ?_
  refine g_aload_n C dX6_init_124 0 rfl ?_
  refine g_bipush C dX6_init_125 (by decide) ?_
  refine g_newa (len := 41) C dX6_init_127 rfl (by decide) (Nat.le_of_ble_eq_true rfl) (Nat.le_of_ble_eq_true rfl) (fun q127 => ?_)
  refine g_put (k := 21) (q0 := 0) (ty := .array .int) (fun D => [(h0, .inr (6, [iv 0, iv 0, iv 0, iv 0, iv 8, iv 40, iv 4, iv 5, .ref q29, .ref q37, .ref q45, .ref q53, .ref q61, .ref q70, .ref q79, .ref q87, .ref q95, .ref q103, iv 0, .ref q111, .ref q119, .ref q127, .null, .null, .null, .null, .null, .null])), (q29, aE D 7 40), (q37, aE D 7 40), (q45, aE D 7 6), (q53, aE D 7 6), (q61, aE D 7 6), (q70, aE D 7 240), (q79, aE D 7 240), (q87, aE D 7 40), (q95, aE D 7 6), (q103, aE D 7 40), (q111, aE D 7 41), (q119, aE D 7 41), (q127, aE D 7 41)]) C C2 dX6_init_129 (fun _ => rfl) (fun _ => rfl) rfl inT6 tyX6_ok nmX6 (by decide) (Nat.le_of_ble_eq_true rfl) (by first | exact Or.inl rfl | exact Or.inr rfl) (by decide +kernel) rfl rfl tw543 ?_
  refine g_aload_n C dX6_init_132 0 rfl ?_
  refine g_bipush C dX6_init_133 (by decide) ?_
  refine g_newa (len := 6) C dX6_init_135 rfl (by decide) (Nat.le_of_ble_eq_true rfl) (Nat.le_of_ble_eq_true rfl) (fun q135 => ?_)
  refine g_put (k := 22) (q0 := 0) (ty := .array .int) (fun D => [(h0, .inr (6, [iv 0, iv 0, iv 0, iv 0, iv 8, iv 40, iv 4, iv 5, .ref q29, .ref q37, .ref q45, .ref q53, .ref q61, .ref q70, .ref q79, .ref q87, .ref q95, .ref q103, iv 0, .ref q111, .ref q119, .ref q127, .ref q135, .null, .null, .null, .null, .null])), (q29, aE D 7 40), (q37, aE D 7 40), (q45, aE D 7 6), (q53, aE D 7 6), (q61, aE D 7 6), (q70, aE D 7 240), (q79, aE D 7 240), (q87, aE D 7 40), (q95, aE D 7 6), (q103, aE D 7 40), (q111, aE D 7 41), (q119, aE D 7 41), (q127, aE D 7 41), (q135, aE D 7 6)]) C C2 dX6_init_137 (fun _ => rfl) (fun _ => rfl) rfl inT6 tyX6_ok nmX6 (by decide) (Nat.le_of_ble_eq_true rfl) (by first | exact Or.inl rfl | exact Or.inr rfl) (by decide +kernel) rfl rfl tw544 ?_
  refine g_aload_n C dX6_init_140 0 rfl ?_
  refine g_sipush C dX6_init_141 (by decide) ?_
  refine g_newa (len := 240) C dX6_init_144 rfl (by decide) (Nat.le_of_ble_eq_true rfl) (Nat.le_of_ble_eq_true rfl) (fun q144 => ?_)
  refine g_put (k := 23) (q0 := 0) (ty := .array .int) (fun D => [(h0, .inr (6, [iv 0, iv 0, iv 0, iv 0, iv 8, iv 40, iv 4, iv 5, .ref q29, .ref q37, .ref q45, .ref q53, .ref q61, .ref q70, .ref q79, .ref q87, .ref q95, .ref q103, iv 0, .ref q111, .ref q119, .ref q127, .ref q135, .ref q144, .null, .null, .null, .null])), (q29, aE D 7 40), (q37, aE D 7 40), (q45, aE D 7 6), (q53, aE D 7 6), (q61, aE D 7 6), (q70, aE D 7 240), (q79, aE D 7 240), (q87, aE D 7 40), (q95, aE D 7 6), (q103, aE D 7 40), (q111, aE D 7 41), (q119, aE D 7 41), (q127, aE D 7 41), (q135, aE D 7 6), (q144, aE D 7 240)]) C C2 dX6_init_146 (fun _ => rfl) (fun _ => rfl) rfl inT6 tyX6_ok nmX6 (by decide) (Nat.le_of_ble_eq_true rfl) (by first | exact Or.inl rfl | exact Or.inr rfl) (by decide +kernel) rfl rfl tw545 ?_
  refine g_aload_n C dX6_init_149 0 rfl ?_
  refine g_sipush C dX6_init_150 (by decide) ?_
  refine g_newa (len := 240) C dX6_init_153 rfl (by decide) (Nat.le_of_ble_eq_true rfl) (Nat.le_of_ble_eq_true rfl) (fun q153 => ?_)
  refine g_put (k := 24) (q0 := 0) (ty := .array .int) (fun D => [(h0, .inr (6, [iv 0, iv 0, iv 0, iv 0, iv 8, iv 40, iv 4, iv 5, .ref q29, .ref q37, .ref q45, .ref q53, .ref q61, .ref q70, .ref q79, .ref q87, .ref q95, .ref q103, iv 0, .ref q111, .ref q119, .ref q127, .ref q135, .ref q144, .ref q153, .null, .null, .null])), (q29, aE D 7 40), (q37, aE D 7 40), (q45, aE D 7 6), (q53, aE D 7 6), (q61, aE D 7 6), (q70, aE D 7 240), (q79, aE D 7 240), (q87, aE D 7 40), (q95, aE D 7 6), (q103, aE D 7 40), (q111, aE D 7 41), (q119, aE D 7 41), (q127, aE D 7 41), (q135, aE D 7 6), (q144, aE D 7 240), (q153, aE D 7 240)]) C C2 dX6_init_155 (fun _ => rfl) (fun _ => rfl) rfl inT6 tyX6_ok nmX6 (by decide) (Nat.le_of_ble_eq_true rfl) (by first | exact Or.inl rfl | exact Or.inr rfl) (by decide +kernel) rfl rfl tw546 ?_
  refine g_aload_n C dX6_init_158 0 rfl ?_
  refine g_sipush C dX6_init_159 (by decide) ?_
  refine g_newa (len := 240) C dX6_init_162 rfl (by decide) (Nat.le_of_ble_eq_true rfl) (Nat.le_of_ble_eq_true rfl) (fun q162 => ?_)
  refine g_put (k := 25) (q0 := 0) (ty := .array .int) (fun D => [(h0, .inr (6, [iv 0, iv 0, iv 0, iv 0, iv 8, iv 40, iv 4, iv 5, .ref q29, .ref q37, .ref q45, .ref q53, .ref q61, .ref q70, .ref q79, .ref q87, .ref q95, .ref q103, iv 0, .ref q111, .ref q119, .ref q127, .ref q135, .ref q144, .ref q153, .ref q162, .null, .null])), (q29, aE D 7 40), (q37, aE D 7 40), (q45, aE D 7 6), (q53, aE D 7 6), (q61, aE D 7 6), (q70, aE D 7 240), (q79, aE D 7 240), (q87, aE D 7 40), (q95, aE D 7 6), (q103, aE D 7 40), (q111, aE D 7 41), (q119, aE D 7 41), (q127, aE D 7 41), (q135, aE D 7 6), (q144, aE D 7 240), (q153, aE D 7 240), (q162, aE D 7 240)]) C C2 dX6_init_164 (fun _ => rfl) (fun _ => rfl) rfl inT6 tyX6_ok nmX6 (by decide) (Nat.le_of_ble_eq_true rfl) (by first | exact Or.inl rfl | exact Or.inr rfl) (by decide +kernel) rfl rfl tw547 ?_
  refine g_aload_n C dX6_init_167 0 rfl ?_
  refine g_sipush C dX6_init_168 (by decide) ?_
  refine g_newa (len := 240) C dX6_init_171 rfl (by decide) (Nat.le_of_ble_eq_true rfl) (Nat.le_of_ble_eq_true rfl) (fun q171 => ?_)
  refine g_put (k := 26) (q0 := 0) (ty := .array .int) (fun D => [(h0, .inr (6, [iv 0, iv 0, iv 0, iv 0, iv 8, iv 40, iv 4, iv 5, .ref q29, .ref q37, .ref q45, .ref q53, .ref q61, .ref q70, .ref q79, .ref q87, .ref q95, .ref q103, iv 0, .ref q111, .ref q119, .ref q127, .ref q135, .ref q144, .ref q153, .ref q162, .ref q171, .null])), (q29, aE D 7 40), (q37, aE D 7 40), (q45, aE D 7 6), (q53, aE D 7 6), (q61, aE D 7 6), (q70, aE D 7 240), (q79, aE D 7 240), (q87, aE D 7 40), (q95, aE D 7 6), (q103, aE D 7 40), (q111, aE D 7 41), (q119, aE D 7 41), (q127, aE D 7 41), (q135, aE D 7 6), (q144, aE D 7 240), (q153, aE D 7 240), (q162, aE D 7 240), (q171, aE D 7 240)]) C C2 dX6_init_173 (fun _ => rfl) (fun _ => rfl) rfl inT6 tyX6_ok nmX6 (by decide) (Nat.le_of_ble_eq_true rfl) (by first | exact Or.inl rfl | exact Or.inr rfl) (by decide +kernel) rfl rfl tw548 ?_
  refine g_aload_n C dX6_init_176 0 rfl ?_
  refine g_bipush C dX6_init_177 (by decide) ?_
  refine g_newz (len := 40) C dX6_init_179 rfl (by decide) (Nat.le_of_ble_eq_true rfl) (Nat.le_of_ble_eq_true rfl) (fun q179 => ?_)
  refine g_put (k := 27) (q0 := 0) (ty := .array .boolean) (fun D => [(h0, .inr (6, [iv 0, iv 0, iv 0, iv 0, iv 8, iv 40, iv 4, iv 5, .ref q29, .ref q37, .ref q45, .ref q53, .ref q61, .ref q70, .ref q79, .ref q87, .ref q95, .ref q103, iv 0, .ref q111, .ref q119, .ref q127, .ref q135, .ref q144, .ref q153, .ref q162, .ref q171, .ref q179])), (q29, aE D 7 40), (q37, aE D 7 40), (q45, aE D 7 6), (q53, aE D 7 6), (q61, aE D 7 6), (q70, aE D 7 240), (q79, aE D 7 240), (q87, aE D 7 40), (q95, aE D 7 6), (q103, aE D 7 40), (q111, aE D 7 41), (q119, aE D 7 41), (q127, aE D 7 41), (q135, aE D 7 6), (q144, aE D 7 240), (q153, aE D 7 240), (q162, aE D 7 240), (q171, aE D 7 240), (q179, aE D 8 40)]) C C2 dX6_init_181 (fun _ => rfl) (fun _ => rfl) rfl inT6 tyX6_ok nmX6 (by decide) (Nat.le_of_ble_eq_true rfl) (by first | exact Or.inl rfl | exact Or.inr rfl) (by decide +kernel) rfl rfl tw549 ?_
  exact g_widen 19 1793 (Nat.le_of_ble_eq_true rfl) (Nat.le_of_ble_eq_true rfl) (ret (fun k => [q29, q37, q45, q53, q61, q70, q79, q87, q95, q103, q111, q119, q127, q135, q144, q153, q162, q171, q179].getD k 0) _ _ _ dX6_init_184 (fun _ => rfl))
set_option maxRecDepth 20000 in
theorem m_X5_init {h0 : Nat} : MC yX5_init cX5_init 1 { frames := 2, cells := 18, slots := 519, locals := 33 } True (fun D => [(h0, .inr (5, [.null, .null, .null, .null, .null, iv 0, iv 0, iv 0, iv 0, iv 0]))]) [.ref h0] (fun u D => [(h0, .inr (5, [.ref (u 0), .ref (u 4), .ref (u 7), .ref (u 15), .ref (u 17), iv 0, iv 8, iv 40, iv 4, iv 5])), (u 0, .inr (2, [.ref (u 1), .ref (u 2), .ref (u 3), iv 0, iv 0])), (u 1, aE D 7 40), (u 2, aE D 7 40), (u 3, aE D 9 6), (u 4, .inr (1, [.ref (u 0), .ref (u 5), .ref (u 6), iv 0, iv 0, iv 1])), (u 5, aE D 7 40), (u 6, aE D 7 40), (u 7, .inr (0, [.ref (u 4), .ref (u 8), .ref (u 9), .ref (u 10), .ref (u 11), .ref (u 12), .ref (u 13), .ref (u 14), iv 0, iv 0, iv 0])), (u 8, aE D 7 40), (u 9, aE D 7 40), (u 10, aE D 7 40), (u 11, aE D 7 41), (u 12, aE D 7 41), (u 13, aE D 7 41), (u 14, aE D 7 40), (u 15, .inr (3, [.ref (u 16), iv 0])), (u 16, aE D 7 40), (u 17, aE D 7 6)]) := by
  refine MC.of (own := RX5) (by decide +kernel) rfl rfl (Nat.le_of_ble_eq_true rfl) ?_
  intro κ C C2 ret
  refine g_aload_n C dX5_init_0 0 rfl ?_
  refine g_obj C dX5_init_1 tw14 (Nat.le_of_ble_eq_true rfl) (Nat.le_of_ble_eq_true rfl) ?_
  refine g_aload_n C dX5_init_4 0 rfl ?_
  refine g_new (ci := 2) (fs := [.null, .null, .null, iv 0, iv 0]) C dX5_init_5 tw17 tw18 tw2 rfl inT2 tyX2_ok dfX2 (Nat.le_of_ble_eq_true rfl) (Nat.le_of_ble_eq_true rfl) (fun q5 => ?_)
  refine g_dup C dX5_init_8 rfl ?_
  refine g_call (na := 0) (As := []) (rest := [.ref q5, .ref h0]) C (fun _ => C2.2 trivial) dX5_init_9 tw19 tw20 tw2 tw21 (by decide +kernel) rfl (m_X2_init) ⟨(Nat.le_of_ble_eq_true rfl), (Nat.le_of_ble_eq_true rfl)⟩ ⟨(Nat.le_of_ble_eq_true rfl), (Nat.le_of_ble_eq_true rfl)⟩ rfl (Nat.le_of_ble_eq_true rfl) (fun u9 => ?_)
  refine g_put (k := 0) (q0 := 0) (ty := .object "PartRoom$Score") (fun D => [(h0, .inr (5, [.ref q5, .null, .null, .null, .null, iv 0, iv 0, iv 0, iv 0, iv 0])), (q5, .inr (2, [.ref (u9 0), .ref (u9 1), .ref (u9 2), iv 0, iv 0])), (u9 0, aE D 7 40), (u9 1, aE D 7 40), (u9 2, aE D 9 6)]) C C2 dX5_init_12 (fun _ => rfl) (fun _ => rfl) rfl inT5 tyX5_ok nmX5 (by decide) (Nat.le_of_ble_eq_true rfl) (by first | exact Or.inl rfl | exact Or.inr rfl) (by decide +kernel) rfl rfl tw130 ?_
  refine g_aload_n C dX5_init_15 0 rfl ?_
  refine g_new (ci := 1) (fs := [.null, .null, .null, iv 0, iv 0, iv 0]) C dX5_init_16 tw49 tw50 tw3 rfl inT1 tyX1_ok dfX1 (Nat.le_of_ble_eq_true rfl) (Nat.le_of_ble_eq_true rfl) (fun q16 => ?_)
  refine g_dup C dX5_init_19 rfl ?_
  refine g_aload_n C dX5_init_20 0 rfl ?_
  refine g_get (k := 0) (q0 := 0) C dX5_init_21 (fun _ => rfl) rfl inT5 (by decide) tw130 rfl ?_
  refine g_call (na := 1) (As := [.ref q5]) (rest := [.ref q16, .ref h0]) C (fun _ => C2.2 trivial) dX5_init_24 tw51 tw52 tw3 tw53 (by decide +kernel) rfl (m_X1_init) ⟨(Nat.le_of_ble_eq_true rfl), (Nat.le_of_ble_eq_true rfl)⟩ ⟨(Nat.le_of_ble_eq_true rfl), (Nat.le_of_ble_eq_true rfl)⟩ rfl (Nat.le_of_ble_eq_true rfl) (fun u24 => ?_)
  refine g_put (k := 1) (q0 := 0) (ty := .object "PartRoom$Part") (fun D => [(h0, .inr (5, [.ref q5, .ref q16, .null, .null, .null, iv 0, iv 0, iv 0, iv 0, iv 0])), (q5, .inr (2, [.ref (u9 0), .ref (u9 1), .ref (u9 2), iv 0, iv 0])), (u9 0, aE D 7 40), (u9 1, aE D 7 40), (u9 2, aE D 9 6), (q16, .inr (1, [.ref q5, .ref (u24 0), .ref (u24 1), iv 0, iv 0, iv 1])), (u24 0, aE D 7 40), (u24 1, aE D 7 40)]) C C2 dX5_init_27 (fun _ => rfl) (fun _ => rfl) rfl inT5 tyX5_ok nmX5 (by decide) (Nat.le_of_ble_eq_true rfl) (by first | exact Or.inl rfl | exact Or.inr rfl) (by decide +kernel) rfl rfl tw131 ?_
  refine g_aload_n C dX5_init_30 0 rfl ?_
  refine g_new (ci := 0) (fs := [.null, .null, .null, .null, .null, .null, .null, .null, iv 0, iv 0, iv 0]) C dX5_init_31 tw76 tw77 tw4 rfl inT0 tyX0_ok dfX0 (Nat.le_of_ble_eq_true rfl) (Nat.le_of_ble_eq_true rfl) (fun q31 => ?_)
  refine g_dup C dX5_init_34 rfl ?_
  refine g_aload_n C dX5_init_35 0 rfl ?_
  refine g_get (k := 1) (q0 := 0) C dX5_init_36 (fun _ => rfl) rfl inT5 (by decide) tw131 rfl ?_
  refine g_call (na := 1) (As := [.ref q16]) (rest := [.ref q31, .ref h0]) C (fun _ => C2.2 trivial) dX5_init_39 tw78 tw79 tw4 tw80 (by decide +kernel) rfl (m_X0_init) ⟨(Nat.le_of_ble_eq_true rfl), (Nat.le_of_ble_eq_true rfl)⟩ ⟨(Nat.le_of_ble_eq_true rfl), (Nat.le_of_ble_eq_true rfl)⟩ rfl (Nat.le_of_ble_eq_true rfl) (fun u39 => ?_)
  refine g_put (k := 2) (q0 := 0) (ty := .object "PartRoom$Layout") (fun D => [(h0, .inr (5, [.ref q5, .ref q16, .ref q31, .null, .null, iv 0, iv 0, iv 0, iv 0, iv 0])), (q5, .inr (2, [.ref (u9 0), .ref (u9 1), .ref (u9 2), iv 0, iv 0])), (u9 0, aE D 7 40), (u9 1, aE D 7 40), (u9 2, aE D 9 6), (q16, .inr (1, [.ref q5, .ref (u24 0), .ref (u24 1), iv 0, iv 0, iv 1])), (u24 0, aE D 7 40), (u24 1, aE D 7 40), (q31, .inr (0, [.ref q16, .ref (u39 0), .ref (u39 1), .ref (u39 2), .ref (u39 3), .ref (u39 4), .ref (u39 5), .ref (u39 6), iv 0, iv 0, iv 0])), (u39 0, aE D 7 40), (u39 1, aE D 7 40), (u39 2, aE D 7 40), (u39 3, aE D 7 41), (u39 4, aE D 7 41), (u39 5, aE D 7 41), (u39 6, aE D 7 40)]) C C2 dX5_init_42 (fun _ => rfl) (fun _ => rfl) rfl inT5 tyX5_ok nmX5 (by decide) (Nat.le_of_ble_eq_true rfl) (by first | exact Or.inl rfl | exact Or.inr rfl) (by decide +kernel) rfl rfl tw132 ?_
  refine g_aload_n C dX5_init_45 0 rfl ?_
  refine g_new (ci := 3) (fs := [.null, iv 0]) C dX5_init_46 tw116 tw117 tw5 rfl inT3 tyX3_ok dfX3 (Nat.le_of_ble_eq_true rfl) (Nat.le_of_ble_eq_true rfl) (fun q46 => ?_)
  refine g_dup C dX5_init_49 rfl ?_
  refine g_call (na := 0) (As := []) (rest := [.ref q46, .ref h0]) C (fun _ => C2.2 trivial) dX5_init_50 tw118 tw119 tw5 tw120 (by decide +kernel) rfl (m_X3_init) ⟨(Nat.le_of_ble_eq_true rfl), (Nat.le_of_ble_eq_true rfl)⟩ ⟨(Nat.le_of_ble_eq_true rfl), (Nat.le_of_ble_eq_true rfl)⟩ rfl (Nat.le_of_ble_eq_true rfl) (fun u50 => ?_)
  refine g_put (k := 3) (q0 := 0) (ty := .object "PartRoom$Told") (fun D => [(h0, .inr (5, [.ref q5, .ref q16, .ref q31, .ref q46, .null, iv 0, iv 0, iv 0, iv 0, iv 0])), (q5, .inr (2, [.ref (u9 0), .ref (u9 1), .ref (u9 2), iv 0, iv 0])), (u9 0, aE D 7 40), (u9 1, aE D 7 40), (u9 2, aE D 9 6), (q16, .inr (1, [.ref q5, .ref (u24 0), .ref (u24 1), iv 0, iv 0, iv 1])), (u24 0, aE D 7 40), (u24 1, aE D 7 40), (q31, .inr (0, [.ref q16, .ref (u39 0), .ref (u39 1), .ref (u39 2), .ref (u39 3), .ref (u39 4), .ref (u39 5), .ref (u39 6), iv 0, iv 0, iv 0])), (u39 0, aE D 7 40), (u39 1, aE D 7 40), (u39 2, aE D 7 40), (u39 3, aE D 7 41), (u39 4, aE D 7 41), (u39 5, aE D 7 41), (u39 6, aE D 7 40), (q46, .inr (3, [.ref (u50 0), iv 0])), (u50 0, aE D 7 40)]) C C2 dX5_init_53 (fun _ => rfl) (fun _ => rfl) rfl inT5 tyX5_ok nmX5 (by decide) (Nat.le_of_ble_eq_true rfl) (by first | exact Or.inl rfl | exact Or.inr rfl) (by decide +kernel) rfl rfl tw133 ?_
  refine g_aload_n C dX5_init_56 0 rfl ?_
  refine g_bipush C dX5_init_57 (by decide) ?_
  refine g_newa (len := 6) C dX5_init_59 rfl (by decide) (Nat.le_of_ble_eq_true rfl) (Nat.le_of_ble_eq_true rfl) (fun q59 => ?_)
  refine g_put (k := 4) (q0 := 0) (ty := .array .int) (fun D => [(h0, .inr (5, [.ref q5, .ref q16, .ref q31, .ref q46, .ref q59, iv 0, iv 0, iv 0, iv 0, iv 0])), (q5, .inr (2, [.ref (u9 0), .ref (u9 1), .ref (u9 2), iv 0, iv 0])), (u9 0, aE D 7 40), (u9 1, aE D 7 40), (u9 2, aE D 9 6), (q16, .inr (1, [.ref q5, .ref (u24 0), .ref (u24 1), iv 0, iv 0, iv 1])), (u24 0, aE D 7 40), (u24 1, aE D 7 40), (q31, .inr (0, [.ref q16, .ref (u39 0), .ref (u39 1), .ref (u39 2), .ref (u39 3), .ref (u39 4), .ref (u39 5), .ref (u39 6), iv 0, iv 0, iv 0])), (u39 0, aE D 7 40), (u39 1, aE D 7 40), (u39 2, aE D 7 40), (u39 3, aE D 7 41), (u39 4, aE D 7 41), (u39 5, aE D 7 41), (u39 6, aE D 7 40), (q46, .inr (3, [.ref (u50 0), iv 0])), (u50 0, aE D 7 40), (q59, aE D 7 6)]) C C2 dX5_init_61 (fun _ => rfl) (fun _ => rfl) rfl inT5 tyX5_ok nmX5 (by decide) (Nat.le_of_ble_eq_true rfl) (by first | exact Or.inl rfl | exact Or.inr rfl) (by decide +kernel) rfl rfl tw134 ?_
  refine g_aload_n C dX5_init_64 0 rfl ?_
  refine g_iconst C dX5_init_65 ?_
  refine g_put (k := 5) (q0 := 0) (ty := .int) (fun D => [(h0, .inr (5, [.ref q5, .ref q16, .ref q31, .ref q46, .ref q59, iv 0, iv 0, iv 0, iv 0, iv 0])), (q5, .inr (2, [.ref (u9 0), .ref (u9 1), .ref (u9 2), iv 0, iv 0])), (u9 0, aE D 7 40), (u9 1, aE D 7 40), (u9 2, aE D 9 6), (q16, .inr (1, [.ref q5, .ref (u24 0), .ref (u24 1), iv 0, iv 0, iv 1])), (u24 0, aE D 7 40), (u24 1, aE D 7 40), (q31, .inr (0, [.ref q16, .ref (u39 0), .ref (u39 1), .ref (u39 2), .ref (u39 3), .ref (u39 4), .ref (u39 5), .ref (u39 6), iv 0, iv 0, iv 0])), (u39 0, aE D 7 40), (u39 1, aE D 7 40), (u39 2, aE D 7 40), (u39 3, aE D 7 41), (u39 4, aE D 7 41), (u39 5, aE D 7 41), (u39 6, aE D 7 40), (q46, .inr (3, [.ref (u50 0), iv 0])), (u50 0, aE D 7 40), (q59, aE D 7 6)]) C C2 dX5_init_66 (fun _ => rfl) (fun _ => rfl) rfl inT5 tyX5_ok nmX5 (by decide) (Nat.le_of_ble_eq_true rfl) (by first | exact Or.inl rfl | exact Or.inr rfl) (by decide +kernel) rfl rfl tw135 ?_
  refine g_aload_n C dX5_init_69 0 rfl ?_
  refine g_bipush C dX5_init_70 (by decide) ?_
  refine g_put (k := 6) (q0 := 0) (ty := .int) (fun D => [(h0, .inr (5, [.ref q5, .ref q16, .ref q31, .ref q46, .ref q59, iv 0, iv 8, iv 0, iv 0, iv 0])), (q5, .inr (2, [.ref (u9 0), .ref (u9 1), .ref (u9 2), iv 0, iv 0])), (u9 0, aE D 7 40), (u9 1, aE D 7 40), (u9 2, aE D 9 6), (q16, .inr (1, [.ref q5, .ref (u24 0), .ref (u24 1), iv 0, iv 0, iv 1])), (u24 0, aE D 7 40), (u24 1, aE D 7 40), (q31, .inr (0, [.ref q16, .ref (u39 0), .ref (u39 1), .ref (u39 2), .ref (u39 3), .ref (u39 4), .ref (u39 5), .ref (u39 6), iv 0, iv 0, iv 0])), (u39 0, aE D 7 40), (u39 1, aE D 7 40), (u39 2, aE D 7 40), (u39 3, aE D 7 41), (u39 4, aE D 7 41), (u39 5, aE D 7 41), (u39 6, aE D 7 40), (q46, .inr (3, [.ref (u50 0), iv 0])), (u50 0, aE D 7 40), (q59, aE D 7 6)]) C C2 dX5_init_72 (fun _ => rfl) (fun _ => rfl) rfl inT5 tyX5_ok nmX5 (by decide) (Nat.le_of_ble_eq_true rfl) (by first | exact Or.inl rfl | exact Or.inr rfl) (by decide +kernel) rfl rfl tw136 ?_
  refine g_aload_n C dX5_init_75 0 rfl ?_
  refine g_bipush C dX5_init_76 (by decide) ?_
  refine g_put (k := 7) (q0 := 0) (ty := .int) (fun D => [(h0, .inr (5, [.ref q5, .ref q16, .ref q31, .ref q46, .ref q59, iv 0, iv 8, iv 40, iv 0, iv 0])), (q5, .inr (2, [.ref (u9 0), .ref (u9 1), .ref (u9 2), iv 0, iv 0])), (u9 0, aE D 7 40), (u9 1, aE D 7 40), (u9 2, aE D 9 6), (q16, .inr (1, [.ref q5, .ref (u24 0), .ref (u24 1), iv 0, iv 0, iv 1])), (u24 0, aE D 7 40), (u24 1, aE D 7 40), (q31, .inr (0, [.ref q16, .ref (u39 0), .ref (u39 1), .ref (u39 2), .ref (u39 3), .ref (u39 4), .ref (u39 5), .ref (u39 6), iv 0, iv 0, iv 0])), (u39 0, aE D 7 40), (u39 1, aE D 7 40), (u39 2, aE D 7 40), (u39 3, aE D 7 41), (u39 4, aE D 7 41), (u39 5, aE D 7 41), (u39 6, aE D 7 40), (q46, .inr (3, [.ref (u50 0), iv 0])), (u50 0, aE D 7 40), (q59, aE D 7 6)]) C C2 dX5_init_78 (fun _ => rfl) (fun _ => rfl) rfl inT5 tyX5_ok nmX5 (by decide) (Nat.le_of_ble_eq_true rfl) (by first | exact Or.inl rfl | exact Or.inr rfl) (by decide +kernel) rfl rfl tw137 ?_
  refine g_aload_n C dX5_init_81 0 rfl ?_
  refine g_iconst C dX5_init_82 ?_
  refine g_put (k := 8) (q0 := 0) (ty := .int) (fun D => [(h0, .inr (5, [.ref q5, .ref q16, .ref q31, .ref q46, .ref q59, iv 0, iv 8, iv 40, iv 4, iv 0])), (q5, .inr (2, [.ref (u9 0), .ref (u9 1), .ref (u9 2), iv 0, iv 0])), (u9 0, aE D 7 40), (u9 1, aE D 7 40), (u9 2, aE D 9 6), (q16, .inr (1, [.ref q5, .ref (u24 0), .ref (u24 1), iv 0, iv 0, iv 1])), (u24 0, aE D 7 40), (u24 1, aE D 7 40), (q31, .inr (0, [.ref q16, .ref (u39 0), .ref (u39 1), .ref (u39 2), .ref (u39 3), .ref (u39 4), .ref (u39 5), .ref (u39 6), iv 0, iv 0, iv 0])), (u39 0, aE D 7 40), (u39 1, aE D 7 40), (u39 2, aE D 7 40), (u39 3, aE D 7 41), (u39 4, aE D 7 41), (u39 5, aE D 7 41), (u39 6, aE D 7 40), (q46, .inr (3, [.ref (u50 0), iv 0])), (u50 0, aE D 7 40), (q59, aE D 7 6)]) C C2 dX5_init_83 (fun _ => rfl) (fun _ => rfl) rfl inT5 tyX5_ok nmX5 (by decide) (Nat.le_of_ble_eq_true rfl) (by first | exact Or.inl rfl | exact Or.inr rfl) (by decide +kernel) rfl rfl tw138 ?_
  refine g_aload_n C dX5_init_86 0 rfl ?_
  refine g_iconst C dX5_init_87 ?_
  refine g_put (k := 9) (q0 := 0) (ty := .int) (fun D => [(h0, .inr (5, [.ref q5, .ref q16, .ref q31, .ref q46, .ref q59, iv 0, iv 8, iv 40, iv 4, iv 5])), (q5, .inr (2, [.ref (u9 0), .ref (u9 1), .ref (u9 2), iv 0, iv 0])), (u9 0, aE D 7 40), (u9 1, aE D 7 40), (u9 2, aE D 9 6), (q16, .inr (1, [.ref q5, .ref (u24 0), .ref (u24 1), iv 0, iv 0, iv 1])), (u24 0, aE D 7 40), (u24 1, aE D 7 40), (q31, .inr (0, [.ref q16, .ref (u39 0), .ref (u39 1), .ref (u39 2), .ref (u39 3), .ref (u39 4), .ref (u39 5), .ref (u39 6), iv 0, iv 0, iv 0])), (u39 0, aE D 7 40), (u39 1, aE D 7 40), (u39 2, aE D 7 40), (u39 3, aE D 7 41), (u39 4, aE D 7 41), (u39 5, aE D 7 41), (u39 6, aE D 7 40), (q46, .inr (3, [.ref (u50 0), iv 0])), (u50 0, aE D 7 40), (q59, aE D 7 6)]) C C2 dX5_init_88 (fun _ => rfl) (fun _ => rfl) rfl inT5 tyX5_ok nmX5 (by decide) (Nat.le_of_ble_eq_true rfl) (by first | exact Or.inl rfl | exact Or.inr rfl) (by decide +kernel) rfl rfl tw139 ?_
  exact g_widen 18 519 (Nat.le_of_ble_eq_true rfl) (Nat.le_of_ble_eq_true rfl) (ret (fun k => [q5, (u9 0), (u9 1), (u9 2), q16, (u24 0), (u24 1), q31, (u39 0), (u39 1), (u39 2), (u39 3), (u39 4), (u39 5), (u39 6), q46, (u50 0), q59].getD k 0) _ _ _ dX5_init_91 (fun _ => rfl))
