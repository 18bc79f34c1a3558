def s00 : ST := fun c => match c with
  | 0 => fun j => if j = 6 then 8 else if j = 7 then 40 else if j = 8 then 4 else if j = 9 then 5 else 0
  | 2 => fun j => if j = 5 then 1 else 0
  | 18 => fun j => if j = 4 then 8 else if j = 5 then 40 else if j = 6 then 4 else if j = 7 then 5 else 0
  | _ => fun _ => 0
theorem s00_MS : MS s00 := by
  refine ⟨by decide, by decide, by decide, by decide, by decide, by decide, by decide, by decide, ?_, ?_, ?_, ?_, ?_, ?_, ?_, ?_, ?_, ?_⟩ <;> intro j
  · exact (show (0 : Int) ≤ 0 ∧ (0 : Int) ≤ 60 by decide)
  · exact (show (0 : Int) ≤ 0 ∧ (0 : Int) ≤ 7 by decide)
  · exact (show (0 : Int) ≤ 0 ∧ (0 : Int) ≤ 2 by decide)
  · exact (show (-11 : Int) ≤ 0 ∧ (0 : Int) ≤ 11 by decide)
  · exact (show (0 : Int) ≤ 0 ∧ (0 : Int) ≤ 1 by decide)
  · exact (show (0 : Int) ≤ 0 ∧ (0 : Int) ≤ 16 by decide)
  · exact (show (0 : Int) ≤ 0 ∧ (0 : Int) ≤ 9 by decide)
  · exact (show (0 : Int) ≤ 0 ∧ (0 : Int) < 1000000 by decide)
  · exact (show (0 : Int) ≤ 0 ∧ (0 : Int) ≤ 40 by decide)
  · exact (show (-1 : Int) ≤ 0 ∧ (0 : Int) < 40 by decide)
theorem s00_E : E s00 s00 0 (((0 : Nat)) : Int) := by
  refine ⟨⟨rfl, rfl, rfl⟩, rfl, ⟨rfl, rfl, rfl, rfl, rfl⟩, fun j => ⟨rfl, (show (0 : Int) ≤ 0 by decide)⟩, fun j => rfl, fun j => rfl, fun j _ => rfl, fun j => rfl, fun j _ => ⟨rfl, rfl⟩, fun j _ => rfl, fun i hi => absurd hi (Nat.not_lt_zero _)⟩
theorem s00_in : ∀ c j, inR (s00 c j) := by
  intro c j
  unfold s00
  split
  · dsimp only
    repeat' split
    all_goals decide
  · dsimp only
    split <;> decide
  · dsimp only
    repeat' split
    all_goals decide
  · exact in0
def is00 : List Nat := [0, 1, 5, 8, 16, 18, 2, 3, 4, 6, 7, 9, 10, 11, 12, 13, 14, 17, 19, 20, 21, 22, 23, 24, 25, 26, 27, 28, 29, 30, 31, 32, 33, 34, 35, 36, 37, 38, 15]
set_option maxHeartbeats 4000000 in
set_option maxRecDepth 100000 in
/-- the law behind both makers -/
theorem law_make {κ : KT} {b : Nat} (C : CX κ code RL 4 room_1) (O : CO κ) (go : ∀ a : Nat → Nat, J κ 39 2350 a 0 s00 [(0, .ref b), (1, .ref (a 0)), (2, .ref (a 18)), (3, iv (5 * (((0 : Nat)) : Int)))] 18 []) : G κ 0 0 (fun _ => []) [(0, .ref b)] 0 [] := by
  refine g_new (ci := 5) (fs := [.null, .null, .null, .null, .null, iv 0, iv 0, iv 0, iv 0, iv 0]) C dL_law_0 tw9 tw10 tw1 rfl inT5 tyX5_ok dfX5 (Nat.le_of_ble_eq_true rfl) (Nat.le_of_ble_eq_true rfl) (fun h0 => ?_)
  refine g_dup C dL_law_3 rfl ?_
  refine g_call (na := 0) (As := []) (rest := [.ref h0]) C (fun _ => O) dL_law_4 tw11 tw12 tw1 tw13 (by decide +kernel) rfl m_X5_init ⟨Nat.le_of_ble_eq_true rfl, Nat.le_of_ble_eq_true rfl⟩ ⟨Nat.le_of_ble_eq_true rfl, Nat.le_of_ble_eq_true rfl⟩ rfl (Nat.le_of_ble_eq_true rfl) (fun u => ?_)
  refine g_astore_n C dL_law_7 (by decide) [(1, .ref h0), (0, .ref b)] rfl ?_
  refine g_new (ci := 6) (fs := [iv 0, iv 0, iv 0, iv 0, iv 0, iv 0, iv 0, iv 0, .null, .null, .null, .null, .null, .null, .null, .null, .null, .null, iv 0, .null, .null, .null, .null, .null, .null, .null, .null, .null]) C dL_law_8 tw516 tw517 tw6 rfl inT6 tyX6_ok dfX6 (Nat.le_of_ble_eq_true rfl) (Nat.le_of_ble_eq_true rfl) (fun h18 => ?_)
  refine g_dup C dL_law_11 rfl ?_
  refine g_call (na := 0) (As := []) (rest := [.ref h18]) C (fun _ => O) dL_law_12 tw518 tw519 tw6 tw520 (by decide +kernel) rfl m_X6_init ⟨Nat.le_of_ble_eq_true rfl, Nat.le_of_ble_eq_true rfl⟩ ⟨Nat.le_of_ble_eq_true rfl, Nat.le_of_ble_eq_true rfl⟩ rfl (Nat.le_of_ble_eq_true rfl) (fun w => ?_)
  refine g_astore_n C dL_law_15 (by decide) [(2, .ref h18), (1, .ref h0), (0, .ref b)] rfl ?_
  refine g_perm is00 (by decide) (ws' := fun D => wS D (fun k => [h0, (u 0), (u 4), (u 7), (u 15), (u 17), (u 1), (u 2), (u 3), (u 5), (u 6), (u 8), (u 9), (u 10), (u 11), (u 12), (u 13), (u 16), h18, (w 0), (w 1), (w 2), (w 3), (w 4), (w 5), (w 6), (w 7), (w 8), (w 9), (w 10), (w 11), (w 12), (w 13), (w 14), (w 15), (w 16), (w 17), (w 18), (u 14)].getD k 0) 0 s00) (fun D => rfl) (fun D => rfl) ?_
  refine g_J (a := fun k => [h0, (u 0), (u 4), (u 7), (u 15), (u 17), (u 1), (u 2), (u 3), (u 5), (u 6), (u 8), (u 9), (u 10), (u 11), (u 12), (u 13), (u 16), h18, (w 0), (w 1), (w 2), (w 3), (w 4), (w 5), (w 6), (w 7), (w 8), (w 9), (w 10), (w 11), (w 12), (w 13), (w 14), (w 15), (w 16), (w 17), (w 18), (u 14)].getD k 0) (n := 0) (σ := s00) (fun D => rfl) s00_in ?_
  refine r_iconst C dL_law_16 ?_
  refine r_istore_n C dL_law_17 (by decide) (fun z_ => [(3, iv z_), (2, .ref h18), (1, .ref h0), (0, .ref b)]) (fun _ => rfl) (fun z ez => ?_)
  refine r_sub [3, 2, 1, 0] (L' := [(0, .ref b), (1, .ref h0), (2, .ref h18), (3, iv z)]) rfl ?_
  have e1 : z = 5 * (((0 : Nat)) : Int) := by omega
  rw [e1]
  exact r_widen 39 2350 (Nat.le_of_ble_eq_true rfl) (Nat.le_of_ble_eq_true rfl) (go _)
