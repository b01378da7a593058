/-! THE CONSTRUCTORS: the world as it is first -/
abbrev zf0 : List Value := [.null, .int 0]
theorem df0 : ∀ j, j < 2 → defaultValue (tg 0 j) = vp_V zf0 j := fun j hj => match j, hj with
  | 0, _ => rfl
  | 1, _ => rfl
  | j + 2, hj => absurd hj (by omega)
abbrev zf1 : List Value := [.null, .null, .null, .null, .int 0]
theorem df1 : ∀ j, j < 5 → defaultValue (tg 1 j) = vp_V zf1 j := fun j hj => match j, hj with
  | 0, _ => rfl
  | 1, _ => rfl
  | 2, _ => rfl
  | 3, _ => rfl
  | 4, _ => rfl
  | j + 5, hj => absurd hj (by omega)
abbrev zf2 : List Value := [.null, .int 0]
theorem df2 : ∀ j, j < 2 → defaultValue (tg 2 j) = vp_V zf2 j := fun j hj => match j, hj with
  | 0, _ => rfl
  | 1, _ => rfl
  | j + 2, hj => absurd hj (by omega)
abbrev zf3 : List Value := [.null, .null, .null, .null, .int 0, .int 0]
theorem df3 : ∀ j, j < 6 → defaultValue (tg 3 j) = vp_V zf3 j := fun j hj => match j, hj with
  | 0, _ => rfl
  | 1, _ => rfl
  | 2, _ => rfl
  | 3, _ => rfl
  | 4, _ => rfl
  | 5, _ => rfl
  | j + 6, hj => absurd hj (by omega)
abbrev zf4 : List Value := [.null, .null, .int 0, .int 0, .int 0, .int 0, .int 0]
theorem df4 : ∀ j, j < 7 → defaultValue (tg 4 j) = vp_V zf4 j := fun j hj => match j, hj with
  | 0, _ => rfl
  | 1, _ => rfl
  | 2, _ => rfl
  | 3, _ => rfl
  | 4, _ => rfl
  | 5, _ => rfl
  | 6, _ => rfl
  | j + 7, hj => absurd hj (by omega)
abbrev zf5 : List Value := [.null, .null, .null, .null, .null, .null, .int 0, .int 0, .int 0, .int 0, .int 0]
theorem df5 : ∀ j, j < 11 → defaultValue (tg 5 j) = vp_V zf5 j := fun j hj => match j, hj with
  | 0, _ => rfl
  | 1, _ => rfl
  | 2, _ => rfl
  | 3, _ => rfl
  | 4, _ => rfl
  | 5, _ => rfl
  | 6, _ => rfl
  | 7, _ => rfl
  | 8, _ => rfl
  | 9, _ => rfl
  | 10, _ => rfl
  | j + 11, hj => absurd hj (by omega)
abbrev zf6 : List Value := [.int 0, .int 0, .null, .int 0, .int 0, .int 0, .int 0, .int 0, .int 0, .null, .null, .null, .null, .int 0, .int 0, .null, .int 0, .int 0, .null, .long 0, .int 0, .int 0, .int 0, .int 0, .int 0, .int 0, .int 0, .int 0, .null, .null, .null, .null, .null, .long 0]
theorem df6 : ∀ j, j < 34 → defaultValue (tg 6 j) = vp_V zf6 j := fun j hj => match j, hj with
  | 0, _ => rfl
  | 1, _ => rfl
  | 2, _ => rfl
  | 3, _ => rfl
  | 4, _ => rfl
  | 5, _ => rfl
  | 6, _ => rfl
  | 7, _ => rfl
  | 8, _ => rfl
  | 9, _ => rfl
  | 10, _ => rfl
  | 11, _ => rfl
  | 12, _ => rfl
  | 13, _ => rfl
  | 14, _ => rfl
  | 15, _ => rfl
  | 16, _ => rfl
  | 17, _ => rfl
  | 18, _ => rfl
  | 19, _ => rfl
  | 20, _ => rfl
  | 21, _ => rfl
  | 22, _ => rfl
  | 23, _ => rfl
  | 24, _ => rfl
  | 25, _ => rfl
  | 26, _ => rfl
  | 27, _ => rfl
  | 28, _ => rfl
  | 29, _ => rfl
  | 30, _ => rfl
  | 31, _ => rfl
  | 32, _ => rfl
  | 33, _ => rfl
  | j + 34, hj => absurd hj (by omega)
set_option maxRecDepth 100000 in
set_option maxHeartbeats 4000000 in
theorem i_Ground {h : AH} {K : Option Value → AH → Prop} {b : Nat} (hz : hsz h (b + 1)) (hb : b < 900) (h0 : h b = some (.inl (0, zf0))) (hK : ∀ h' : AH, hsz h' (b + 2) → fr h h' b (b + 2) → gr h' b 0 (fun _ => 0) → K none h') : aX0_init 1 1 12 [.ref b] h K := by
  refine AM.of [some (.ref b)] pn_X0_init rfl (Nat.le_of_ble_eq_true rfl) (fun X hX hE => ?_)
  refine AW_aload_n 1 hX dX0_init_0 rfl rfl ?_
  refine AW_objInit 4 hX dX0_init_1 rfl ml_X0_3 oi_1 oi_2 (Nat.le_of_ble_eq_true rfl) (by decide) ?_
  refine AW_aload_n 5 hX dX0_init_4 rfl rfl ?_
  refine AW_bipush 7 hX dX0_init_5 rfl bp_12 ?_
  refine AW_newa (t := 0) (N := 12) 9 hX dX0_init_7 rfl (by decide) rfl ac_int (hz) (by omega) (by decide) rfl (Nat.le_of_ble_eq_true rfl) (Nat.le_of_ble_eq_true rfl) ?_
  refine AW_putF 12 hX dX0_init_9 rfl fl_X0_9 (by first | assumption | exact hset_eq | exact (hset_ne (by omega)).trans (by first | assumption | exact hset_eq | exact (hset_ne (by omega)).trans (by first | assumption | exact hset_eq | exact (hset_ne (by omega)).trans (by first | assumption | exact hset_eq | exact (hset_ne (by omega)).trans (by first | assumption | exact hset_eq))))) rfl rfl rfl (fun _ => rfl) (fun _ => rfl) (Nat.le_of_ble_eq_true rfl) ?_
  try rw [hset_hset]
  refine AW_aload_n 13 hX dX0_init_12 rfl rfl ?_
  refine AW_iconst 14 hX dX0_init_13 rfl ic_0 ?_
  refine AW_put 17 hX dX0_init_14 rfl fl_X0_15 (by first | assumption | exact hset_eq | exact (hset_ne (by omega)).trans (by first | assumption | exact hset_eq | exact (hset_ne (by omega)).trans (by first | assumption | exact hset_eq | exact (hset_ne (by omega)).trans (by first | assumption | exact hset_eq | exact (hset_ne (by omega)).trans (by first | assumption | exact hset_eq))))) rfl (fun _ => rfl) (fun _ => rfl) (Nat.le_of_ble_eq_true rfl) ?_
  try rw [hset_hset]
  refine AW_vret hX hE dX0_init_17 (Nat.le_of_ble_eq_true rfl) (Nat.le_of_ble_eq_true rfl) ?_
  exact hK _ (hsz_set (hsz_new (hz)) (by omega)) (fun q hq => (hset_ne (by omega)).trans ((hset_ne (by omega)).trans (rfl))) ⟨hset_eq, (hset_ne (by omega)).trans (hset_eq), by omega⟩
set_option maxRecDepth 100000 in
set_option maxHeartbeats 4000000 in
theorem i_Heard {h : AH} {K : Option Value → AH → Prop} {b : Nat} (hz : hsz h (b + 1)) (hb : b < 900) (h0 : h b = some (.inl (1, zf1))) (hK : ∀ h' : AH, hsz h' (b + 5) → fr h h' b (b + 5) → heC h' b 0 (fun _ => (0, 0, 0, 0)) → K none h') : aX1_init 1 4 24 [.ref b] h K := by
  refine AM.of [some (.ref b)] pn_X1_init rfl (Nat.le_of_ble_eq_true rfl) (fun X hX hE => ?_)
  refine AW_aload_n 1 hX dX1_init_0 rfl rfl ?_
  refine AW_objInit 4 hX dX1_init_1 rfl ml_X1_3 oi_1 oi_2 (Nat.le_of_ble_eq_true rfl) (by decide) ?_
  refine AW_aload_n 5 hX dX1_init_4 rfl rfl ?_
  refine AW_bipush 7 hX dX1_init_5 rfl bp_6 ?_
  refine AW_newa (t := 0) (N := 6) 9 hX dX1_init_7 rfl (by decide) rfl ac_int (hz) (by omega) (by decide) rfl (Nat.le_of_ble_eq_true rfl) (Nat.le_of_ble_eq_true rfl) ?_
  refine AW_putF 12 hX dX1_init_9 rfl fl_X1_11 (by first | assumption | exact hset_eq | exact (hset_ne (by omega)).trans (by first | assumption | exact hset_eq | exact (hset_ne (by omega)).trans (by first | assumption | exact hset_eq | exact (hset_ne (by omega)).trans (by first | assumption | exact hset_eq | exact (hset_ne (by omega)).trans (by first | assumption | exact hset_eq))))) rfl rfl rfl (fun _ => rfl) (fun _ => rfl) (Nat.le_of_ble_eq_true rfl) ?_
  try rw [hset_hset]
  refine AW_aload_n 13 hX dX1_init_12 rfl rfl ?_
  refine AW_bipush 15 hX dX1_init_13 rfl bp_6 ?_
  refine AW_newa (t := 0) (N := 6) 17 hX dX1_init_15 rfl (by decide) rfl ac_int (hsz_set (hsz_new (hz)) (by omega)) (by omega) (by decide) rfl (Nat.le_of_ble_eq_true rfl) (Nat.le_of_ble_eq_true rfl) ?_
  refine AW_putF 20 hX dX1_init_17 rfl fl_X1_15 (by first | assumption | exact hset_eq | exact (hset_ne (by omega)).trans (by first | assumption | exact hset_eq | exact (hset_ne (by omega)).trans (by first | assumption | exact hset_eq | exact (hset_ne (by omega)).trans (by first | assumption | exact hset_eq | exact (hset_ne (by omega)).trans (by first | assumption | exact hset_eq))))) rfl rfl rfl (fun _ => rfl) (fun _ => rfl) (Nat.le_of_ble_eq_true rfl) ?_
  try rw [hset_hset]
  refine AW_aload_n 21 hX dX1_init_20 rfl rfl ?_
  refine AW_bipush 23 hX dX1_init_21 rfl bp_6 ?_
  refine AW_newa (t := 0) (N := 6) 25 hX dX1_init_23 rfl (by decide) rfl ac_int (hsz_set (hsz_new (hsz_set (hsz_new (hz)) (by omega))) (by omega)) (by omega) (by decide) rfl (Nat.le_of_ble_eq_true rfl) (Nat.le_of_ble_eq_true rfl) ?_
  refine AW_putF 28 hX dX1_init_25 rfl fl_X1_18 (by first | assumption | exact hset_eq | exact (hset_ne (by omega)).trans (by first | assumption | exact hset_eq | exact (hset_ne (by omega)).trans (by first | assumption | exact hset_eq | exact (hset_ne (by omega)).trans (by first | assumption | exact hset_eq | exact (hset_ne (by omega)).trans (by first | assumption | exact hset_eq))))) rfl rfl rfl (fun _ => rfl) (fun _ => rfl) (Nat.le_of_ble_eq_true rfl) ?_
  try rw [hset_hset]
  refine AW_aload_n 29 hX dX1_init_28 rfl rfl ?_
  refine AW_bipush 31 hX dX1_init_29 rfl bp_6 ?_
  refine AW_newa (t := 2) (N := 6) 33 hX dX1_init_31 rfl (by decide) rfl ac_boolean (hsz_set (hsz_new (hsz_set (hsz_new (hsz_set (hsz_new (hz)) (by omega))) (by omega))) (by omega)) (by omega) (by decide) rfl (Nat.le_of_ble_eq_true rfl) (Nat.le_of_ble_eq_true rfl) ?_
  refine AW_putF 36 hX dX1_init_33 rfl fl_X1_21 (by first | assumption | exact hset_eq | exact (hset_ne (by omega)).trans (by first | assumption | exact hset_eq | exact (hset_ne (by omega)).trans (by first | assumption | exact hset_eq | exact (hset_ne (by omega)).trans (by first | assumption | exact hset_eq | exact (hset_ne (by omega)).trans (by first | assumption | exact hset_eq))))) rfl rfl rfl (fun _ => rfl) (fun _ => rfl) (Nat.le_of_ble_eq_true rfl) ?_
  try rw [hset_hset]
  refine AW_aload_n 37 hX dX1_init_36 rfl rfl ?_
  refine AW_iconst 38 hX dX1_init_37 rfl ic_0 ?_
  refine AW_put 41 hX dX1_init_38 rfl fl_X1_25 (by first | assumption | exact hset_eq | exact (hset_ne (by omega)).trans (by first | assumption | exact hset_eq | exact (hset_ne (by omega)).trans (by first | assumption | exact hset_eq | exact (hset_ne (by omega)).trans (by first | assumption | exact hset_eq | exact (hset_ne (by omega)).trans (by first | assumption | exact hset_eq))))) rfl (fun _ => rfl) (fun _ => rfl) (Nat.le_of_ble_eq_true rfl) ?_
  try rw [hset_hset]
  refine AW_vret hX hE dX1_init_41 (Nat.le_of_ble_eq_true rfl) (Nat.le_of_ble_eq_true rfl) ?_
  exact hK _ (hsz_set (hsz_new (hsz_set (hsz_new (hsz_set (hsz_new (hsz_set (hsz_new (hz)) (by omega))) (by omega))) (by omega))) (by omega)) (fun q hq => (hset_ne (by omega)).trans ((hset_ne (by omega)).trans ((hset_ne (by omega)).trans ((hset_ne (by omega)).trans ((hset_ne (by omega)).trans ((hset_ne (by omega)).trans ((hset_ne (by omega)).trans ((hset_ne (by omega)).trans (rfl))))))))) ⟨hset_eq, by omega, fun _ => 0, fun _ => 0, fun _ => 0, fun _ => 0, (hset_ne (by omega)).trans ((hset_ne (by omega)).trans ((hset_ne (by omega)).trans ((hset_ne (by omega)).trans ((hset_ne (by omega)).trans ((hset_ne (by omega)).trans ((hset_ne (by omega)).trans (hset_eq))))))), (hset_ne (by omega)).trans ((hset_ne (by omega)).trans ((hset_ne (by omega)).trans ((hset_ne (by omega)).trans ((hset_ne (by omega)).trans (hset_eq))))), (hset_ne (by omega)).trans ((hset_ne (by omega)).trans ((hset_ne (by omega)).trans (hset_eq))), (hset_ne (by omega)).trans (hset_eq), fun j hj => absurd hj (Nat.not_lt_zero j)⟩
set_option maxRecDepth 100000 in
set_option maxHeartbeats 4000000 in
theorem i_Page {h : AH} {K : Option Value → AH → Prop} {b : Nat} (hz : hsz h (b + 1)) (hb : b < 900) (h0 : h b = some (.inl (2, zf2))) (hK : ∀ h' : AH, hsz h' (b + 2) → fr h h' b (b + 2) → pgC h' b 0 (fun _ => 0) → K none h') : aX3_init 1 1 16 [.ref b] h K := by
  refine AM.of [some (.ref b)] pn_X3_init rfl (Nat.le_of_ble_eq_true rfl) (fun X hX hE => ?_)
  refine AW_aload_n 1 hX dX3_init_0 rfl rfl ?_
  refine AW_objInit 4 hX dX3_init_1 rfl ml_X3_3 oi_1 oi_2 (Nat.le_of_ble_eq_true rfl) (by decide) ?_
  refine AW_aload_n 5 hX dX3_init_4 rfl rfl ?_
  refine AW_bipush 7 hX dX3_init_5 rfl bp_16 ?_
  refine AW_newa (t := 0) (N := 16) 9 hX dX3_init_7 rfl (by decide) rfl ac_int (hz) (by omega) (by decide) rfl (Nat.le_of_ble_eq_true rfl) (Nat.le_of_ble_eq_true rfl) ?_
  refine AW_putF 12 hX dX3_init_9 rfl fl_X3_11 (by first | assumption | exact hset_eq | exact (hset_ne (by omega)).trans (by first | assumption | exact hset_eq | exact (hset_ne (by omega)).trans (by first | assumption | exact hset_eq | exact (hset_ne (by omega)).trans (by first | assumption | exact hset_eq | exact (hset_ne (by omega)).trans (by first | assumption | exact hset_eq))))) rfl rfl rfl (fun _ => rfl) (fun _ => rfl) (Nat.le_of_ble_eq_true rfl) ?_
  try rw [hset_hset]
  refine AW_aload_n 13 hX dX3_init_12 rfl rfl ?_
  refine AW_iconst 14 hX dX3_init_13 rfl ic_0 ?_
  refine AW_put 17 hX dX3_init_14 rfl fl_X3_15 (by first | assumption | exact hset_eq | exact (hset_ne (by omega)).trans (by first | assumption | exact hset_eq | exact (hset_ne (by omega)).trans (by first | assumption | exact hset_eq | exact (hset_ne (by omega)).trans (by first | assumption | exact hset_eq | exact (hset_ne (by omega)).trans (by first | assumption | exact hset_eq))))) rfl (fun _ => rfl) (fun _ => rfl) (Nat.le_of_ble_eq_true rfl) ?_
  try rw [hset_hset]
  refine AW_vret hX hE dX3_init_17 (Nat.le_of_ble_eq_true rfl) (Nat.le_of_ble_eq_true rfl) ?_
  exact hK _ (hsz_set (hsz_new (hz)) (by omega)) (fun q hq => (hset_ne (by omega)).trans ((hset_ne (by omega)).trans (rfl))) ⟨hset_eq, by omega, fun j hj => absurd hj (Nat.not_lt_zero j), fun _ => 0, (hset_ne (by omega)).trans (hset_eq), fun j hj => absurd hj (Nat.not_lt_zero j)⟩
set_option maxRecDepth 100000 in
set_option maxHeartbeats 4000000 in
theorem i_Route {h : AH} {K : Option Value → AH → Prop} {b : Nat} (hz : hsz h (b + 1)) (hb : b < 900) (h0 : h b = some (.inl (3, zf3))) (hK : ∀ h' : AH, hsz h' (b + 5) → fr h h' b (b + 5) → rtA h' b → K none h') : aX4_init 1 4 576 [.ref b] h K := by
  refine AM.of [some (.ref b)] pn_X4_init rfl (Nat.le_of_ble_eq_true rfl) (fun X hX hE => ?_)
  refine AW_aload_n 1 hX dX4_init_0 rfl rfl ?_
  refine AW_objInit 4 hX dX4_init_1 rfl ml_X4_3 oi_1 oi_2 (Nat.le_of_ble_eq_true rfl) (by decide) ?_
  refine AW_aload_n 5 hX dX4_init_4 rfl rfl ?_
  refine AW_sipush 8 hX dX4_init_5 rfl sp_144 ?_
  refine AW_newa (t := 0) (N := 144) 10 hX dX4_init_8 rfl (by decide) rfl ac_int (hz) (by omega) (by decide) rfl (Nat.le_of_ble_eq_true rfl) (Nat.le_of_ble_eq_true rfl) ?_
  refine AW_putF 13 hX dX4_init_10 rfl fl_X4_11 (by first | assumption | exact hset_eq | exact (hset_ne (by omega)).trans (by first | assumption | exact hset_eq | exact (hset_ne (by omega)).trans (by first | assumption | exact hset_eq | exact (hset_ne (by omega)).trans (by first | assumption | exact hset_eq | exact (hset_ne (by omega)).trans (by first | assumption | exact hset_eq))))) rfl rfl rfl (fun _ => rfl) (fun _ => rfl) (Nat.le_of_ble_eq_true rfl) ?_
  try rw [hset_hset]
  refine AW_aload_n 14 hX dX4_init_13 rfl rfl ?_
  refine AW_sipush 17 hX dX4_init_14 rfl sp_144 ?_
  refine AW_newa (t := 0) (N := 144) 19 hX dX4_init_17 rfl (by decide) rfl ac_int (hsz_set (hsz_new (hz)) (by omega)) (by omega) (by decide) rfl (Nat.le_of_ble_eq_true rfl) (Nat.le_of_ble_eq_true rfl) ?_
  refine AW_putF 22 hX dX4_init_19 rfl fl_X4_15 (by first | assumption | exact hset_eq | exact (hset_ne (by omega)).trans (by first | assumption | exact hset_eq | exact (hset_ne (by omega)).trans (by first | assumption | exact hset_eq | exact (hset_ne (by omega)).trans (by first | assumption | exact hset_eq | exact (hset_ne (by omega)).trans (by first | assumption | exact hset_eq))))) rfl rfl rfl (fun _ => rfl) (fun _ => rfl) (Nat.le_of_ble_eq_true rfl) ?_
  try rw [hset_hset]
  refine AW_aload_n 23 hX dX4_init_22 rfl rfl ?_
  refine AW_sipush 26 hX dX4_init_23 rfl sp_144 ?_
  refine AW_newa (t := 0) (N := 144) 28 hX dX4_init_26 rfl (by decide) rfl ac_int (hsz_set (hsz_new (hsz_set (hsz_new (hz)) (by omega))) (by omega)) (by omega) (by decide) rfl (Nat.le_of_ble_eq_true rfl) (Nat.le_of_ble_eq_true rfl) ?_
  refine AW_putF 31 hX dX4_init_28 rfl fl_X4_18 (by first | assumption | exact hset_eq | exact (hset_ne (by omega)).trans (by first | assumption | exact hset_eq | exact (hset_ne (by omega)).trans (by first | assumption | exact hset_eq | exact (hset_ne (by omega)).trans (by first | assumption | exact hset_eq | exact (hset_ne (by omega)).trans (by first | assumption | exact hset_eq))))) rfl rfl rfl (fun _ => rfl) (fun _ => rfl) (Nat.le_of_ble_eq_true rfl) ?_
  try rw [hset_hset]
  refine AW_aload_n 32 hX dX4_init_31 rfl rfl ?_
  refine AW_sipush 35 hX dX4_init_32 rfl sp_144 ?_
  refine AW_newa (t := 0) (N := 144) 37 hX dX4_init_35 rfl (by decide) rfl ac_int (hsz_set (hsz_new (hsz_set (hsz_new (hsz_set (hsz_new (hz)) (by omega))) (by omega))) (by omega)) (by omega) (by decide) rfl (Nat.le_of_ble_eq_true rfl) (Nat.le_of_ble_eq_true rfl) ?_
  refine AW_putF 40 hX dX4_init_37 rfl fl_X4_21 (by first | assumption | exact hset_eq | exact (hset_ne (by omega)).trans (by first | assumption | exact hset_eq | exact (hset_ne (by omega)).trans (by first | assumption | exact hset_eq | exact (hset_ne (by omega)).trans (by first | assumption | exact hset_eq | exact (hset_ne (by omega)).trans (by first | assumption | exact hset_eq))))) rfl rfl rfl (fun _ => rfl) (fun _ => rfl) (Nat.le_of_ble_eq_true rfl) ?_
  try rw [hset_hset]
  refine AW_aload_n 41 hX dX4_init_40 rfl rfl ?_
  refine AW_iconst 42 hX dX4_init_41 rfl ic_0 ?_
  refine AW_put 45 hX dX4_init_42 rfl fl_X4_24 (by first | assumption | exact hset_eq | exact (hset_ne (by omega)).trans (by first | assumption | exact hset_eq | exact (hset_ne (by omega)).trans (by first | assumption | exact hset_eq | exact (hset_ne (by omega)).trans (by first | assumption | exact hset_eq | exact (hset_ne (by omega)).trans (by first | assumption | exact hset_eq))))) rfl (fun _ => rfl) (fun _ => rfl) (Nat.le_of_ble_eq_true rfl) ?_
  try rw [hset_hset]
  refine AW_aload_n 46 hX dX4_init_45 rfl rfl ?_
  refine AW_iconst 47 hX dX4_init_46 rfl ic_m1 ?_
  refine AW_put 50 hX dX4_init_47 rfl fl_X4_28 (by first | assumption | exact hset_eq | exact (hset_ne (by omega)).trans (by first | assumption | exact hset_eq | exact (hset_ne (by omega)).trans (by first | assumption | exact hset_eq | exact (hset_ne (by omega)).trans (by first | assumption | exact hset_eq | exact (hset_ne (by omega)).trans (by first | assumption | exact hset_eq))))) rfl (fun _ => rfl) (fun _ => rfl) (Nat.le_of_ble_eq_true rfl) ?_
  try rw [hset_hset]
  refine AW_vret hX hE dX4_init_50 (Nat.le_of_ble_eq_true rfl) (Nat.le_of_ble_eq_true rfl) ?_
  exact hK _ (hsz_set (hsz_new (hsz_set (hsz_new (hsz_set (hsz_new (hsz_set (hsz_new (hz)) (by omega))) (by omega))) (by omega))) (by omega)) (fun q hq => (hset_ne (by omega)).trans ((hset_ne (by omega)).trans ((hset_ne (by omega)).trans ((hset_ne (by omega)).trans ((hset_ne (by omega)).trans ((hset_ne (by omega)).trans ((hset_ne (by omega)).trans ((hset_ne (by omega)).trans (rfl))))))))) ⟨0, -1, fun _ => 0, fun _ => 0, fun _ => 0, fun _ => 0, hset_eq, (hset_ne (by omega)).trans ((hset_ne (by omega)).trans ((hset_ne (by omega)).trans ((hset_ne (by omega)).trans ((hset_ne (by omega)).trans ((hset_ne (by omega)).trans ((hset_ne (by omega)).trans (hset_eq))))))), (hset_ne (by omega)).trans ((hset_ne (by omega)).trans ((hset_ne (by omega)).trans ((hset_ne (by omega)).trans ((hset_ne (by omega)).trans (hset_eq))))), (hset_ne (by omega)).trans ((hset_ne (by omega)).trans ((hset_ne (by omega)).trans (hset_eq))), (hset_ne (by omega)).trans (hset_eq)⟩
abbrev SV0 : SV := (0, fun _ => 0, 0, 0, 0, 0, 0, 0, fun _ => (0, 0, 0, 0))
abbrev S0 : ST := (0, 0, 0, 0, fun _ => 0, SV0, SV0)
set_option maxRecDepth 100000 in
set_option maxHeartbeats 4000000 in
theorem i_Scene {h : AH} {K : Option Value → AH → Prop} {b : Nat} (hz : hsz h (b + 1)) (hb : b < 800) (h0 : h b = some (.inl (4, zf4))) (hK : ∀ h' : AH, hsz h' (b + 8) → fr h h' b (b + 8) → sc h' b SV0 → K none h') : aX5_init 2 7 43 [.ref b] h K := by
  refine AM.of [some (.ref b)] pn_X5_init rfl (Nat.le_of_ble_eq_true rfl) (fun X hX hE => ?_)
  refine AW_aload_n 1 hX dX5_init_0 rfl rfl ?_
  refine AW_objInit 4 hX dX5_init_1 rfl ml_X5_1 oi_1 oi_2 (Nat.le_of_ble_eq_true rfl) (by decide) ?_
  refine AW_aload_n 5 hX dX5_init_4 rfl rfl ?_
  refine AW_new (ci := 0) 8 hX zf0 dX5_init_5 rfl (by decide) cl_X5_7 in_X0 iz_X0 (hz) (by omega) df0 (fun _ => rfl) (Nat.le_of_ble_eq_true rfl) (Nat.le_of_ble_eq_true rfl) ?_
  refine AW_dup 9 hX dX5_init_8 rfl rfl ?_
  refine AW_callIN (kz := 1) (mc := 1) (ms := 12) (As := []) 12 hX dX5_init_9 rfl mn_X5_9 mw_X0_init (by first | assumption | exact hset_eq | exact (hset_ne (by omega)).trans (by first | assumption | exact hset_eq | exact (hset_ne (by omega)).trans (by first | assumption | exact hset_eq | exact (hset_ne (by omega)).trans (by first | assumption | exact hset_eq | exact (hset_ne (by omega)).trans (by first | assumption | exact hset_eq))))) rfl rfl (Nat.le_of_ble_eq_true rfl) (by decide) ⟨(Nat.le_of_ble_eq_true rfl), (Nat.le_of_ble_eq_true rfl)⟩ (i_Ground (b := b + 1) (hsz_new hz) (by omega) hset_eq (fun h2 hz2 fr2 g2 => ?_))
  have hb2 : h2 b = some (.inl (4, zf4)) := (fr2 b (by omega)).trans ((hset_ne (by omega)).trans h0)
  refine AW_putF 15 hX dX5_init_12 rfl fl_X5_10 (by first | assumption | exact hset_eq | exact (hset_ne (by omega)).trans (by first | assumption | exact hset_eq | exact (hset_ne (by omega)).trans (by first | assumption | exact hset_eq | exact (hset_ne (by omega)).trans (by first | assumption | exact hset_eq | exact (hset_ne (by omega)).trans (by first | assumption | exact hset_eq))))) rfl rfl rfl (fun _ => rfl) (fun _ => rfl) (Nat.le_of_ble_eq_true rfl) ?_
  try rw [hset_hset]
  refine AW_aload_n 16 hX dX5_init_15 rfl rfl ?_
  refine AW_new (ci := 1) 19 hX zf1 dX5_init_16 rfl (by decide) cl_X5_16 in_X1 iz_X1 (show hsz _ (b + 3) from hsz_set hz2 (by omega)) (by omega) df1 (fun _ => rfl) (Nat.le_of_ble_eq_true rfl) (Nat.le_of_ble_eq_true rfl) ?_
  refine AW_dup 20 hX dX5_init_19 rfl rfl ?_
  refine AW_callIN (kz := 1) (mc := 4) (ms := 24) (As := []) 23 hX dX5_init_20 rfl mn_X5_18 mw_X1_init (by first | assumption | exact hset_eq | exact (hset_ne (by omega)).trans (by first | assumption | exact hset_eq | exact (hset_ne (by omega)).trans (by first | assumption | exact hset_eq | exact (hset_ne (by omega)).trans (by first | assumption | exact hset_eq | exact (hset_ne (by omega)).trans (by first | assumption | exact hset_eq))))) rfl rfl (Nat.le_of_ble_eq_true rfl) (by decide) ⟨(Nat.le_of_ble_eq_true rfl), (Nat.le_of_ble_eq_true rfl)⟩ (i_Heard (b := b + 3) (hsz_new (hsz_set hz2 (by omega))) (by omega) hset_eq (fun h3 hz3 fr3 g3 => ?_))
  have hb3 : h3 b = some (.inl (4, List.set zf4 0 (.ref (b + 1)))) := (fr3 b (by omega)).trans ((hset_ne (by omega)).trans hset_eq)
  refine AW_putF 26 hX dX5_init_23 rfl fl_X5_19 (by first | assumption | exact hset_eq | exact (hset_ne (by omega)).trans (by first | assumption | exact hset_eq | exact (hset_ne (by omega)).trans (by first | assumption | exact hset_eq | exact (hset_ne (by omega)).trans (by first | assumption | exact hset_eq | exact (hset_ne (by omega)).trans (by first | assumption | exact hset_eq))))) rfl rfl rfl (fun _ => rfl) (fun _ => rfl) (Nat.le_of_ble_eq_true rfl) ?_
  try rw [hset_hset]
  refine AW_aload_n 27 hX dX5_init_26 rfl rfl ?_
  refine AW_iconst 28 hX dX5_init_27 rfl ic_0 ?_
  refine AW_put 31 hX dX5_init_28 rfl fl_X5_23 (by first | assumption | exact hset_eq | exact (hset_ne (by omega)).trans (by first | assumption | exact hset_eq | exact (hset_ne (by omega)).trans (by first | assumption | exact hset_eq | exact (hset_ne (by omega)).trans (by first | assumption | exact hset_eq | exact (hset_ne (by omega)).trans (by first | assumption | exact hset_eq))))) rfl (fun _ => rfl) (fun _ => rfl) (Nat.le_of_ble_eq_true rfl) ?_
  try rw [hset_hset]
  refine AW_aload_n 32 hX dX5_init_31 rfl rfl ?_
  refine AW_iconst 33 hX dX5_init_32 rfl ic_0 ?_
  refine AW_put 36 hX dX5_init_33 rfl fl_X5_27 (by first | assumption | exact hset_eq | exact (hset_ne (by omega)).trans (by first | assumption | exact hset_eq | exact (hset_ne (by omega)).trans (by first | assumption | exact hset_eq | exact (hset_ne (by omega)).trans (by first | assumption | exact hset_eq | exact (hset_ne (by omega)).trans (by first | assumption | exact hset_eq))))) rfl (fun _ => rfl) (fun _ => rfl) (Nat.le_of_ble_eq_true rfl) ?_
  try rw [hset_hset]
  refine AW_aload_n 37 hX dX5_init_36 rfl rfl ?_
  refine AW_iconst 38 hX dX5_init_37 rfl ic_0 ?_
  refine AW_put 41 hX dX5_init_38 rfl fl_X5_30 (by first | assumption | exact hset_eq | exact (hset_ne (by omega)).trans (by first | assumption | exact hset_eq | exact (hset_ne (by omega)).trans (by first | assumption | exact hset_eq | exact (hset_ne (by omega)).trans (by first | assumption | exact hset_eq | exact (hset_ne (by omega)).trans (by first | assumption | exact hset_eq))))) rfl (fun _ => rfl) (fun _ => rfl) (Nat.le_of_ble_eq_true rfl) ?_
  try rw [hset_hset]
  refine AW_aload_n 42 hX dX5_init_41 rfl rfl ?_
  refine AW_iconst 43 hX dX5_init_42 rfl ic_0 ?_
  refine AW_put 46 hX dX5_init_43 rfl fl_X5_33 (by first | assumption | exact hset_eq | exact (hset_ne (by omega)).trans (by first | assumption | exact hset_eq | exact (hset_ne (by omega)).trans (by first | assumption | exact hset_eq | exact (hset_ne (by omega)).trans (by first | assumption | exact hset_eq | exact (hset_ne (by omega)).trans (by first | assumption | exact hset_eq))))) rfl (fun _ => rfl) (fun _ => rfl) (Nat.le_of_ble_eq_true rfl) ?_
  try rw [hset_hset]
  refine AW_aload_n 47 hX dX5_init_46 rfl rfl ?_
  refine AW_iconst 48 hX dX5_init_47 rfl ic_0 ?_
  refine AW_put 51 hX dX5_init_48 rfl fl_X5_36 (by first | assumption | exact hset_eq | exact (hset_ne (by omega)).trans (by first | assumption | exact hset_eq | exact (hset_ne (by omega)).trans (by first | assumption | exact hset_eq | exact (hset_ne (by omega)).trans (by first | assumption | exact hset_eq | exact (hset_ne (by omega)).trans (by first | assumption | exact hset_eq))))) rfl (fun _ => rfl) (fun _ => rfl) (Nat.le_of_ble_eq_true rfl) ?_
  try rw [hset_hset]
  refine AW_vret hX hE dX5_init_51 (Nat.le_of_ble_eq_true rfl) (Nat.le_of_ble_eq_true rfl) ?_
  refine hK _ (hsz_set hz3 (by omega)) ?_ ⟨hset_eq, ⟨fun _ => 0, gr_fr (gr_fr (gr_fr (gr_fr g2 (fr_set (lo := b) (hi := b + 1) (by omega) (by omega)) (by omega)) (fr_set (lo := b + 3) (hi := b + 4) (by omega) (by omega)) (by omega)) fr3 (by omega)) (fr_set (lo := b) (hi := b + 1) (by omega) (by omega)) (by omega), fun j hj => absurd hj (Nat.not_lt_zero j)⟩, heC_fr g3 (fr_set (lo := b) (hi := b + 1) (by omega) (by omega)) (by omega)⟩
  exact fr_tr (fr_tr (fr_tr (fr_tr (fr_tr (fr_set (by omega) (by omega)) (fr_wide fr2 (by omega) (by omega))) (fr_set (by omega) (by omega))) (fr_set (by omega) (by omega))) (fr_wide fr3 (by omega) (by omega))) (fr_set (by omega) (by omega))
set_option maxRecDepth 100000 in
set_option maxHeartbeats 4000000 in
theorem i_Yard {h : AH} {K : Option Value → AH → Prop} (hz : hsz h 1) (h0 : h 0 = some (.inl (5, zf5))) (hK : ∀ h' : AH, hsz h' 34 → CJ h' S0 (-1) (-1) → K none h') : aX6_init 3 33 764 [.ref 0] h K := by
  refine AM.of [some (.ref 0)] pn_X6_init rfl (Nat.le_of_ble_eq_true rfl) (fun X hX hE => ?_)
  refine AW_aload_n 1 hX dX6_init_0 rfl rfl ?_
  refine AW_objInit 4 hX dX6_init_1 rfl ml_X6_1 oi_1 oi_2 (Nat.le_of_ble_eq_true rfl) (by decide) ?_
  refine AW_aload_n 5 hX dX6_init_4 rfl rfl ?_
  refine AW_new (ci := 2) 8 hX zf2 dX6_init_5 rfl (by decide) cl_X6_7 in_X3 iz_X3 (show hsz _ 1 from hz) (by omega) df2 (fun _ => rfl) (Nat.le_of_ble_eq_true rfl) (Nat.le_of_ble_eq_true rfl) ?_
  refine AW_dup 9 hX dX6_init_8 rfl rfl ?_
  refine AW_callIN (kz := 1) (mc := 1) (ms := 16) (As := []) 12 hX dX6_init_9 rfl mn_X6_9 mw_X3_init (by first | assumption | exact hset_eq | exact (hset_ne (by omega)).trans (by first | assumption | exact hset_eq | exact (hset_ne (by omega)).trans (by first | assumption | exact hset_eq | exact (hset_ne (by omega)).trans (by first | assumption | exact hset_eq | exact (hset_ne (by omega)).trans (by first | assumption | exact hset_eq))))) rfl rfl (Nat.le_of_ble_eq_true rfl) (by decide) ⟨(Nat.le_of_ble_eq_true rfl), (Nat.le_of_ble_eq_true rfl)⟩ (i_Page (b := 1) (hsz_new (hz)) (by omega) hset_eq (fun h1 hz1 fr1 g1 => ?_))
  have hb1 : h1 0 = some (.inl (5, zf5)) := (fr1 0 (by omega)).trans ((hset_ne (by omega)).trans h0)
  refine AW_putF 15 hX dX6_init_12 rfl fl_X6_10 (by first | assumption | exact hset_eq | exact (hset_ne (by omega)).trans (by first | assumption | exact hset_eq | exact (hset_ne (by omega)).trans (by first | assumption | exact hset_eq | exact (hset_ne (by omega)).trans (by first | assumption | exact hset_eq | exact (hset_ne (by omega)).trans (by first | assumption | exact hset_eq))))) rfl rfl rfl (fun _ => rfl) (fun _ => rfl) (Nat.le_of_ble_eq_true rfl) ?_
  try rw [hset_hset]
  refine AW_aload_n 16 hX dX6_init_15 rfl rfl ?_
  refine AW_new (ci := 4) 19 hX zf4 dX6_init_16 rfl (by decide) cl_X6_16 in_X5 iz_X5 (show hsz _ 3 from hsz_set hz1 (by omega)) (by omega) df4 (fun _ => rfl) (Nat.le_of_ble_eq_true rfl) (Nat.le_of_ble_eq_true rfl) ?_
  refine AW_dup 20 hX dX6_init_19 rfl rfl ?_
  refine AW_callIN (kz := 2) (mc := 7) (ms := 43) (As := []) 23 hX dX6_init_20 rfl mn_X6_18 mw_X5_init (by first | assumption | exact hset_eq | exact (hset_ne (by omega)).trans (by first | assumption | exact hset_eq | exact (hset_ne (by omega)).trans (by first | assumption | exact hset_eq | exact (hset_ne (by omega)).trans (by first | assumption | exact hset_eq | exact (hset_ne (by omega)).trans (by first | assumption | exact hset_eq))))) rfl rfl (Nat.le_of_ble_eq_true rfl) (by decide) ⟨(Nat.le_of_ble_eq_true rfl), (Nat.le_of_ble_eq_true rfl)⟩ (i_Scene (b := 3) (hsz_new (hsz_set hz1 (by omega))) (by omega) hset_eq (fun h2 hz2 fr2 g2 => ?_))
  have hb2 : h2 0 = some (.inl (5, List.set (zf5) 0 (.ref 1))) := (fr2 0 (by omega)).trans ((hset_ne (by omega)).trans hset_eq)
  have g1 := pgC_fr (pgC_fr (pgC_fr g1 (fr_set (lo := 0) (hi := 1) (by omega) (by omega)) (by omega)) (fr_set (lo := 3) (hi := 4) (by omega) (by omega)) (by omega)) fr2 (by omega)
  refine AW_putF 26 hX dX6_init_23 rfl fl_X6_19 (by first | assumption | exact hset_eq | exact (hset_ne (by omega)).trans (by first | assumption | exact hset_eq | exact (hset_ne (by omega)).trans (by first | assumption | exact hset_eq | exact (hset_ne (by omega)).trans (by first | assumption | exact hset_eq | exact (hset_ne (by omega)).trans (by first | assumption | exact hset_eq))))) rfl rfl rfl (fun _ => rfl) (fun _ => rfl) (Nat.le_of_ble_eq_true rfl) ?_
  try rw [hset_hset]
  refine AW_aload_n 27 hX dX6_init_26 rfl rfl ?_
  refine AW_new (ci := 4) 30 hX zf4 dX6_init_27 rfl (by decide) cl_X6_16 in_X5 iz_X5 (show hsz _ 11 from hsz_set hz2 (by omega)) (by omega) df4 (fun _ => rfl) (Nat.le_of_ble_eq_true rfl) (Nat.le_of_ble_eq_true rfl) ?_
  refine AW_dup 31 hX dX6_init_30 rfl rfl ?_
  refine AW_callIN (kz := 2) (mc := 7) (ms := 43) (As := []) 34 hX dX6_init_31 rfl mn_X6_18 mw_X5_init (by first | assumption | exact hset_eq | exact (hset_ne (by omega)).trans (by first | assumption | exact hset_eq | exact (hset_ne (by omega)).trans (by first | assumption | exact hset_eq | exact (hset_ne (by omega)).trans (by first | assumption | exact hset_eq | exact (hset_ne (by omega)).trans (by first | assumption | exact hset_eq))))) rfl rfl (Nat.le_of_ble_eq_true rfl) (by decide) ⟨(Nat.le_of_ble_eq_true rfl), (Nat.le_of_ble_eq_true rfl)⟩ (i_Scene (b := 11) (hsz_new (hsz_set hz2 (by omega))) (by omega) hset_eq (fun h3 hz3 fr3 g3 => ?_))
  have hb3 : h3 0 = some (.inl (5, List.set (List.set (zf5) 0 (.ref 1)) 1 (.ref 3))) := (fr3 0 (by omega)).trans ((hset_ne (by omega)).trans hset_eq)
  have g1 := pgC_fr (pgC_fr (pgC_fr g1 (fr_set (lo := 0) (hi := 1) (by omega) (by omega)) (by omega)) (fr_set (lo := 11) (hi := 12) (by omega) (by omega)) (by omega)) fr3 (by omega)
  have g2 := sc_fr (sc_fr (sc_fr g2 (fr_set (lo := 0) (hi := 1) (by omega) (by omega)) (by omega)) (fr_set (lo := 11) (hi := 12) (by omega) (by omega)) (by omega)) fr3 (by omega)
  refine AW_putF 37 hX dX6_init_34 rfl fl_X6_23 (by first | assumption | exact hset_eq | exact (hset_ne (by omega)).trans (by first | assumption | exact hset_eq | exact (hset_ne (by omega)).trans (by first | assumption | exact hset_eq | exact (hset_ne (by omega)).trans (by first | assumption | exact hset_eq | exact (hset_ne (by omega)).trans (by first | assumption | exact hset_eq))))) rfl rfl rfl (fun _ => rfl) (fun _ => rfl) (Nat.le_of_ble_eq_true rfl) ?_
  try rw [hset_hset]
  refine AW_aload_n 38 hX dX6_init_37 rfl rfl ?_
  refine AW_new (ci := 4) 41 hX zf4 dX6_init_38 rfl (by decide) cl_X6_16 in_X5 iz_X5 (show hsz _ 19 from hsz_set hz3 (by omega)) (by omega) df4 (fun _ => rfl) (Nat.le_of_ble_eq_true rfl) (Nat.le_of_ble_eq_true rfl) ?_
  refine AW_dup 42 hX dX6_init_41 rfl rfl ?_
  refine AW_callIN (kz := 2) (mc := 7) (ms := 43) (As := []) 45 hX dX6_init_42 rfl mn_X6_18 mw_X5_init (by first | assumption | exact hset_eq | exact (hset_ne (by omega)).trans (by first | assumption | exact hset_eq | exact (hset_ne (by omega)).trans (by first | assumption | exact hset_eq | exact (hset_ne (by omega)).trans (by first | assumption | exact hset_eq | exact (hset_ne (by omega)).trans (by first | assumption | exact hset_eq))))) rfl rfl (Nat.le_of_ble_eq_true rfl) (by decide) ⟨(Nat.le_of_ble_eq_true rfl), (Nat.le_of_ble_eq_true rfl)⟩ (i_Scene (b := 19) (hsz_new (hsz_set hz3 (by omega))) (by omega) hset_eq (fun h4 hz4 fr4 g4 => ?_))
  have hb4 : h4 0 = some (.inl (5, List.set (List.set (List.set (zf5) 0 (.ref 1)) 1 (.ref 3)) 2 (.ref 11))) := (fr4 0 (by omega)).trans ((hset_ne (by omega)).trans hset_eq)
  have g1 := pgC_fr (pgC_fr (pgC_fr g1 (fr_set (lo := 0) (hi := 1) (by omega) (by omega)) (by omega)) (fr_set (lo := 19) (hi := 20) (by omega) (by omega)) (by omega)) fr4 (by omega)
  have g2 := sc_fr (sc_fr (sc_fr g2 (fr_set (lo := 0) (hi := 1) (by omega) (by omega)) (by omega)) (fr_set (lo := 19) (hi := 20) (by omega) (by omega)) (by omega)) fr4 (by omega)
  have g3 := sc_fr (sc_fr (sc_fr g3 (fr_set (lo := 0) (hi := 1) (by omega) (by omega)) (by omega)) (fr_set (lo := 19) (hi := 20) (by omega) (by omega)) (by omega)) fr4 (by omega)
  refine AW_putF 48 hX dX6_init_45 rfl fl_X6_26 (by first | assumption | exact hset_eq | exact (hset_ne (by omega)).trans (by first | assumption | exact hset_eq | exact (hset_ne (by omega)).trans (by first | assumption | exact hset_eq | exact (hset_ne (by omega)).trans (by first | assumption | exact hset_eq | exact (hset_ne (by omega)).trans (by first | assumption | exact hset_eq))))) rfl rfl rfl (fun _ => rfl) (fun _ => rfl) (Nat.le_of_ble_eq_true rfl) ?_
  try rw [hset_hset]
  refine AW_aload_n 49 hX dX6_init_48 rfl rfl ?_
  refine AW_new (ci := 0) 52 hX zf0 dX6_init_49 rfl (by decide) cl_X6_29 in_X0 iz_X0 (show hsz _ 27 from hsz_set hz4 (by omega)) (by omega) df0 (fun _ => rfl) (Nat.le_of_ble_eq_true rfl) (Nat.le_of_ble_eq_true rfl) ?_
  refine AW_dup 53 hX dX6_init_52 rfl rfl ?_
  refine AW_callIN (kz := 1) (mc := 1) (ms := 12) (As := []) 56 hX dX6_init_53 rfl mn_X6_31 mw_X0_init (by first | assumption | exact hset_eq | exact (hset_ne (by omega)).trans (by first | assumption | exact hset_eq | exact (hset_ne (by omega)).trans (by first | assumption | exact hset_eq | exact (hset_ne (by omega)).trans (by first | assumption | exact hset_eq | exact (hset_ne (by omega)).trans (by first | assumption | exact hset_eq))))) rfl rfl (Nat.le_of_ble_eq_true rfl) (by decide) ⟨(Nat.le_of_ble_eq_true rfl), (Nat.le_of_ble_eq_true rfl)⟩ (i_Ground (b := 27) (hsz_new (hsz_set hz4 (by omega))) (by omega) hset_eq (fun h5 hz5 fr5 g5 => ?_))
  have hb5 : h5 0 = some (.inl (5, List.set (List.set (List.set (List.set (zf5) 0 (.ref 1)) 1 (.ref 3)) 2 (.ref 11)) 3 (.ref 19))) := (fr5 0 (by omega)).trans ((hset_ne (by omega)).trans hset_eq)
  have g1 := pgC_fr (pgC_fr (pgC_fr g1 (fr_set (lo := 0) (hi := 1) (by omega) (by omega)) (by omega)) (fr_set (lo := 27) (hi := 28) (by omega) (by omega)) (by omega)) fr5 (by omega)
  have g2 := sc_fr (sc_fr (sc_fr g2 (fr_set (lo := 0) (hi := 1) (by omega) (by omega)) (by omega)) (fr_set (lo := 27) (hi := 28) (by omega) (by omega)) (by omega)) fr5 (by omega)
  have g3 := sc_fr (sc_fr (sc_fr g3 (fr_set (lo := 0) (hi := 1) (by omega) (by omega)) (by omega)) (fr_set (lo := 27) (hi := 28) (by omega) (by omega)) (by omega)) fr5 (by omega)
  have g4 := sc_fr (sc_fr (sc_fr g4 (fr_set (lo := 0) (hi := 1) (by omega) (by omega)) (by omega)) (fr_set (lo := 27) (hi := 28) (by omega) (by omega)) (by omega)) fr5 (by omega)
  refine AW_putF 59 hX dX6_init_56 rfl fl_X6_32 (by first | assumption | exact hset_eq | exact (hset_ne (by omega)).trans (by first | assumption | exact hset_eq | exact (hset_ne (by omega)).trans (by first | assumption | exact hset_eq | exact (hset_ne (by omega)).trans (by first | assumption | exact hset_eq | exact (hset_ne (by omega)).trans (by first | assumption | exact hset_eq))))) rfl rfl rfl (fun _ => rfl) (fun _ => rfl) (Nat.le_of_ble_eq_true rfl) ?_
  try rw [hset_hset]
  refine AW_aload_n 60 hX dX6_init_59 rfl rfl ?_
  refine AW_new (ci := 3) 63 hX zf3 dX6_init_60 rfl (by decide) cl_X6_36 in_X4 iz_X4 (show hsz _ 29 from hsz_set hz5 (by omega)) (by omega) df3 (fun _ => rfl) (Nat.le_of_ble_eq_true rfl) (Nat.le_of_ble_eq_true rfl) ?_
  refine AW_dup 64 hX dX6_init_63 rfl rfl ?_
  refine AW_callIN (kz := 1) (mc := 4) (ms := 576) (As := []) 67 hX dX6_init_64 rfl mn_X6_38 mw_X4_init (by first | assumption | exact hset_eq | exact (hset_ne (by omega)).trans (by first | assumption | exact hset_eq | exact (hset_ne (by omega)).trans (by first | assumption | exact hset_eq | exact (hset_ne (by omega)).trans (by first | assumption | exact hset_eq | exact (hset_ne (by omega)).trans (by first | assumption | exact hset_eq))))) rfl rfl (Nat.le_of_ble_eq_true rfl) (by decide) ⟨(Nat.le_of_ble_eq_true rfl), (Nat.le_of_ble_eq_true rfl)⟩ (i_Route (b := 29) (hsz_new (hsz_set hz5 (by omega))) (by omega) hset_eq (fun h6 hz6 fr6 g6 => ?_))
  have hb6 : h6 0 = some (.inl (5, List.set (List.set (List.set (List.set (List.set (zf5) 0 (.ref 1)) 1 (.ref 3)) 2 (.ref 11)) 3 (.ref 19)) 4 (.ref 27))) := (fr6 0 (by omega)).trans ((hset_ne (by omega)).trans hset_eq)
  have g1 := pgC_fr (pgC_fr (pgC_fr g1 (fr_set (lo := 0) (hi := 1) (by omega) (by omega)) (by omega)) (fr_set (lo := 29) (hi := 30) (by omega) (by omega)) (by omega)) fr6 (by omega)
  have g2 := sc_fr (sc_fr (sc_fr g2 (fr_set (lo := 0) (hi := 1) (by omega) (by omega)) (by omega)) (fr_set (lo := 29) (hi := 30) (by omega) (by omega)) (by omega)) fr6 (by omega)
  have g3 := sc_fr (sc_fr (sc_fr g3 (fr_set (lo := 0) (hi := 1) (by omega) (by omega)) (by omega)) (fr_set (lo := 29) (hi := 30) (by omega) (by omega)) (by omega)) fr6 (by omega)
  have g4 := sc_fr (sc_fr (sc_fr g4 (fr_set (lo := 0) (hi := 1) (by omega) (by omega)) (by omega)) (fr_set (lo := 29) (hi := 30) (by omega) (by omega)) (by omega)) fr6 (by omega)
  have g5 := gr_fr (gr_fr (gr_fr g5 (fr_set (lo := 0) (hi := 1) (by omega) (by omega)) (by omega)) (fr_set (lo := 29) (hi := 30) (by omega) (by omega)) (by omega)) fr6 (by omega)
  refine AW_putF 70 hX dX6_init_67 rfl fl_X6_39 (by first | assumption | exact hset_eq | exact (hset_ne (by omega)).trans (by first | assumption | exact hset_eq | exact (hset_ne (by omega)).trans (by first | assumption | exact hset_eq | exact (hset_ne (by omega)).trans (by first | assumption | exact hset_eq | exact (hset_ne (by omega)).trans (by first | assumption | exact hset_eq))))) rfl rfl rfl (fun _ => rfl) (fun _ => rfl) (Nat.le_of_ble_eq_true rfl) ?_
  try rw [hset_hset]
  refine AW_aload_n 71 hX dX6_init_70 rfl rfl ?_
  refine AW_iconst 72 hX dX6_init_71 rfl ic_0 ?_
  refine AW_put 75 hX dX6_init_72 rfl fl_X6_43 (by first | assumption | exact hset_eq | exact (hset_ne (by omega)).trans (by first | assumption | exact hset_eq | exact (hset_ne (by omega)).trans (by first | assumption | exact hset_eq | exact (hset_ne (by omega)).trans (by first | assumption | exact hset_eq | exact (hset_ne (by omega)).trans (by first | assumption | exact hset_eq))))) rfl (fun _ => rfl) (fun _ => rfl) (Nat.le_of_ble_eq_true rfl) ?_
  try rw [hset_hset]
  refine AW_aload_n 76 hX dX6_init_75 rfl rfl ?_
  refine AW_iconst 77 hX dX6_init_76 rfl ic_0 ?_
  refine AW_put 80 hX dX6_init_77 rfl fl_X6_47 (by first | assumption | exact hset_eq | exact (hset_ne (by omega)).trans (by first | assumption | exact hset_eq | exact (hset_ne (by omega)).trans (by first | assumption | exact hset_eq | exact (hset_ne (by omega)).trans (by first | assumption | exact hset_eq | exact (hset_ne (by omega)).trans (by first | assumption | exact hset_eq))))) rfl (fun _ => rfl) (fun _ => rfl) (Nat.le_of_ble_eq_true rfl) ?_
  try rw [hset_hset]
  refine AW_aload_n 81 hX dX6_init_80 rfl rfl ?_
  refine AW_iconst 82 hX dX6_init_81 rfl ic_0 ?_
  refine AW_put 85 hX dX6_init_82 rfl fl_X6_51 (by first | assumption | exact hset_eq | exact (hset_ne (by omega)).trans (by first | assumption | exact hset_eq | exact (hset_ne (by omega)).trans (by first | assumption | exact hset_eq | exact (hset_ne (by omega)).trans (by first | assumption | exact hset_eq | exact (hset_ne (by omega)).trans (by first | assumption | exact hset_eq))))) rfl (fun _ => rfl) (fun _ => rfl) (Nat.le_of_ble_eq_true rfl) ?_
  try rw [hset_hset]
  refine AW_aload_n 86 hX dX6_init_85 rfl rfl ?_
  refine AW_iconst 87 hX dX6_init_86 rfl ic_m1 ?_
  refine AW_put 90 hX dX6_init_87 rfl fl_X6_54 (by first | assumption | exact hset_eq | exact (hset_ne (by omega)).trans (by first | assumption | exact hset_eq | exact (hset_ne (by omega)).trans (by first | assumption | exact hset_eq | exact (hset_ne (by omega)).trans (by first | assumption | exact hset_eq | exact (hset_ne (by omega)).trans (by first | assumption | exact hset_eq))))) rfl (fun _ => rfl) (fun _ => rfl) (Nat.le_of_ble_eq_true rfl) ?_
  try rw [hset_hset]
  refine AW_aload_n 91 hX dX6_init_90 rfl rfl ?_
  refine AW_iconst 92 hX dX6_init_91 rfl ic_m1 ?_
  refine AW_put 95 hX dX6_init_92 rfl fl_X6_57 (by first | assumption | exact hset_eq | exact (hset_ne (by omega)).trans (by first | assumption | exact hset_eq | exact (hset_ne (by omega)).trans (by first | assumption | exact hset_eq | exact (hset_ne (by omega)).trans (by first | assumption | exact hset_eq | exact (hset_ne (by omega)).trans (by first | assumption | exact hset_eq))))) rfl (fun _ => rfl) (fun _ => rfl) (Nat.le_of_ble_eq_true rfl) ?_
  try rw [hset_hset]
  refine AW_vret hX hE dX6_init_95 (Nat.le_of_ble_eq_true rfl) (Nat.le_of_ble_eq_true rfl) ?_
  exact hK _ (hsz_set hz6 (by omega)) ⟨hset_eq, (pgC_fr g1 (fr_set (lo := 0) (hi := 1) (by omega) (by omega)) (by omega)), (sc_fr g2 (fr_set (lo := 0) (hi := 1) (by omega) (by omega)) (by omega)), ⟨_, (sc_fr g3 (fr_set (lo := 0) (hi := 1) (by omega) (by omega)) (by omega)), fun _ => rfl⟩, ⟨_, (sc_fr g4 (fr_set (lo := 0) (hi := 1) (by omega) (by omega)) (by omega))⟩, ⟨_, _, (gr_fr g5 (fr_set (lo := 0) (hi := 1) (by omega) (by omega)) (by omega))⟩, (rtA_fr g6 (fr_set (lo := 0) (hi := 1) (by omega) (by omega)) (by omega))⟩
set_option maxRecDepth 100000 in
set_option maxHeartbeats 4000000 in
theorem i_Model {h : AH} {K : Option Value → AH → Prop} (hz : hsz h 35) (h0 : h 34 = some (.inl (6, zf6))) (hK : ∀ h' : AH, hsz h' 47 → fr h h' 34 47 → MH h' (fun _ => 0) 0 0 (fun _ _ => 0) → K none h') : aX7_init 1 12 232 [.ref 34] h K := by
  refine AM.of [some (.ref 34)] pn_X7_init rfl (Nat.le_of_ble_eq_true rfl) (fun X hX hE => ?_)
  refine AW_aload_n 1 hX dX7_init_0 rfl rfl ?_
  refine AW_objInit 4 hX dX7_init_1 rfl ml_X7_1 oi_1 oi_2 (Nat.le_of_ble_eq_true rfl) (by decide) ?_
  refine AW_aload_n 5 hX dX7_init_4 rfl rfl ?_
  refine AW_bipush 7 hX dX7_init_5 rfl bp_12 ?_
  refine AW_newa (t := 0) (N := 12) 9 hX dX7_init_7 rfl (by decide) rfl ac_int (show hsz _ 35 from hz) (by decide) (by decide) rfl (Nat.le_of_ble_eq_true rfl) (Nat.le_of_ble_eq_true rfl) ?_
  refine AW_putF 12 hX dX7_init_9 rfl fl_X7_7 (by first | assumption | exact hset_eq | exact (hset_ne (by omega)).trans (by first | assumption | exact hset_eq | exact (hset_ne (by omega)).trans (by first | assumption | exact hset_eq | exact (hset_ne (by omega)).trans (by first | assumption | exact hset_eq | exact (hset_ne (by omega)).trans (by first | assumption | exact hset_eq))))) rfl rfl rfl (fun _ => rfl) (fun _ => rfl) (Nat.le_of_ble_eq_true rfl) ?_
  try rw [hset_hset]
  refine AW_aload_n 13 hX dX7_init_12 rfl rfl ?_
  refine AW_bipush 15 hX dX7_init_13 rfl bp_6 ?_
  refine AW_newa (t := 0) (N := 6) 17 hX dX7_init_15 rfl (by decide) rfl ac_int (show hsz _ 36 from hsz_set (hsz_new (hz)) (by decide)) (by decide) (by decide) rfl (Nat.le_of_ble_eq_true rfl) (Nat.le_of_ble_eq_true rfl) ?_
  refine AW_putF 20 hX dX7_init_17 rfl fl_X7_13 (by first | assumption | exact hset_eq | exact (hset_ne (by omega)).trans (by first | assumption | exact hset_eq | exact (hset_ne (by omega)).trans (by first | assumption | exact hset_eq | exact (hset_ne (by omega)).trans (by first | assumption | exact hset_eq | exact (hset_ne (by omega)).trans (by first | assumption | exact hset_eq))))) rfl rfl rfl (fun _ => rfl) (fun _ => rfl) (Nat.le_of_ble_eq_true rfl) ?_
  try rw [hset_hset]
  refine AW_aload_n 21 hX dX7_init_20 rfl rfl ?_
  refine AW_bipush 23 hX dX7_init_21 rfl bp_6 ?_
  refine AW_newa (t := 0) (N := 6) 25 hX dX7_init_23 rfl (by decide) rfl ac_int (show hsz _ 37 from hsz_set (hsz_new (hsz_set (hsz_new (hz)) (by decide))) (by decide)) (by decide) (by decide) rfl (Nat.le_of_ble_eq_true rfl) (Nat.le_of_ble_eq_true rfl) ?_
  refine AW_putF 28 hX dX7_init_25 rfl fl_X7_16 (by first | assumption | exact hset_eq | exact (hset_ne (by omega)).trans (by first | assumption | exact hset_eq | exact (hset_ne (by omega)).trans (by first | assumption | exact hset_eq | exact (hset_ne (by omega)).trans (by first | assumption | exact hset_eq | exact (hset_ne (by omega)).trans (by first | assumption | exact hset_eq))))) rfl rfl rfl (fun _ => rfl) (fun _ => rfl) (Nat.le_of_ble_eq_true rfl) ?_
  try rw [hset_hset]
  refine AW_aload_n 29 hX dX7_init_28 rfl rfl ?_
  refine AW_bipush 31 hX dX7_init_29 rfl bp_6 ?_
  refine AW_newa (t := 0) (N := 6) 33 hX dX7_init_31 rfl (by decide) rfl ac_int (show hsz _ 38 from hsz_set (hsz_new (hsz_set (hsz_new (hsz_set (hsz_new (hz)) (by decide))) (by decide))) (by decide)) (by decide) (by decide) rfl (Nat.le_of_ble_eq_true rfl) (Nat.le_of_ble_eq_true rfl) ?_
  refine AW_putF 36 hX dX7_init_33 rfl fl_X7_19 (by first | assumption | exact hset_eq | exact (hset_ne (by omega)).trans (by first | assumption | exact hset_eq | exact (hset_ne (by omega)).trans (by first | assumption | exact hset_eq | exact (hset_ne (by omega)).trans (by first | assumption | exact hset_eq | exact (hset_ne (by omega)).trans (by first | assumption | exact hset_eq))))) rfl rfl rfl (fun _ => rfl) (fun _ => rfl) (Nat.le_of_ble_eq_true rfl) ?_
  try rw [hset_hset]
  refine AW_aload_n 37 hX dX7_init_36 rfl rfl ?_
  refine AW_bipush 39 hX dX7_init_37 rfl bp_6 ?_
  refine AW_newa (t := 0) (N := 6) 41 hX dX7_init_39 rfl (by decide) rfl ac_int (show hsz _ 39 from hsz_set (hsz_new (hsz_set (hsz_new (hsz_set (hsz_new (hsz_set (hsz_new (hz)) (by decide))) (by decide))) (by decide))) (by decide)) (by decide) (by decide) rfl (Nat.le_of_ble_eq_true rfl) (Nat.le_of_ble_eq_true rfl) ?_
  refine AW_putF 44 hX dX7_init_41 rfl fl_X7_22 (by first | assumption | exact hset_eq | exact (hset_ne (by omega)).trans (by first | assumption | exact hset_eq | exact (hset_ne (by omega)).trans (by first | assumption | exact hset_eq | exact (hset_ne (by omega)).trans (by first | assumption | exact hset_eq | exact (hset_ne (by omega)).trans (by first | assumption | exact hset_eq))))) rfl rfl rfl (fun _ => rfl) (fun _ => rfl) (Nat.le_of_ble_eq_true rfl) ?_
  try rw [hset_hset]
  refine AW_aload_n 45 hX dX7_init_44 rfl rfl ?_
  refine AW_bipush 47 hX dX7_init_45 rfl bp_16 ?_
  refine AW_newa (t := 1) (N := 16) 49 hX dX7_init_47 rfl (by decide) rfl ac_byte (show hsz _ 40 from hsz_set (hsz_new (hsz_set (hsz_new (hsz_set (hsz_new (hsz_set (hsz_new (hsz_set (hsz_new (hz)) (by decide))) (by decide))) (by decide))) (by decide))) (by decide)) (by decide) (by decide) rfl (Nat.le_of_ble_eq_true rfl) (Nat.le_of_ble_eq_true rfl) ?_
  refine AW_putF 52 hX dX7_init_49 rfl fl_X7_25 (by first | assumption | exact hset_eq | exact (hset_ne (by omega)).trans (by first | assumption | exact hset_eq | exact (hset_ne (by omega)).trans (by first | assumption | exact hset_eq | exact (hset_ne (by omega)).trans (by first | assumption | exact hset_eq | exact (hset_ne (by omega)).trans (by first | assumption | exact hset_eq))))) rfl rfl rfl (fun _ => rfl) (fun _ => rfl) (Nat.le_of_ble_eq_true rfl) ?_
  try rw [hset_hset]
  refine AW_aload_n 53 hX dX7_init_52 rfl rfl ?_
  refine AW_sipush 56 hX dX7_init_53 rfl sp_144 ?_
  refine AW_newa (t := 0) (N := 144) 58 hX dX7_init_56 rfl (by decide) rfl ac_int (show hsz _ 41 from hsz_set (hsz_new (hsz_set (hsz_new (hsz_set (hsz_new (hsz_set (hsz_new (hsz_set (hsz_new (hsz_set (hsz_new (hz)) (by decide))) (by decide))) (by decide))) (by decide))) (by decide))) (by decide)) (by decide) (by decide) rfl (Nat.le_of_ble_eq_true rfl) (Nat.le_of_ble_eq_true rfl) ?_
  refine AW_putF 61 hX dX7_init_58 rfl fl_X7_29 (by first | assumption | exact hset_eq | exact (hset_ne (by omega)).trans (by first | assumption | exact hset_eq | exact (hset_ne (by omega)).trans (by first | assumption | exact hset_eq | exact (hset_ne (by omega)).trans (by first | assumption | exact hset_eq | exact (hset_ne (by omega)).trans (by first | assumption | exact hset_eq))))) rfl rfl rfl (fun _ => rfl) (fun _ => rfl) (Nat.le_of_ble_eq_true rfl) ?_
  try rw [hset_hset]
  refine AW_aload_n 62 hX dX7_init_61 rfl rfl ?_
  refine AW_bipush 64 hX dX7_init_62 rfl bp_12 ?_
  refine AW_newa (t := 0) (N := 12) 66 hX dX7_init_64 rfl (by decide) rfl ac_int (show hsz _ 42 from hsz_set (hsz_new (hsz_set (hsz_new (hsz_set (hsz_new (hsz_set (hsz_new (hsz_set (hsz_new (hsz_set (hsz_new (hsz_set (hsz_new (hz)) (by decide))) (by decide))) (by decide))) (by decide))) (by decide))) (by decide))) (by decide)) (by decide) (by decide) rfl (Nat.le_of_ble_eq_true rfl) (Nat.le_of_ble_eq_true rfl) ?_
  refine AW_putF 69 hX dX7_init_66 rfl fl_X7_32 (by first | assumption | exact hset_eq | exact (hset_ne (by omega)).trans (by first | assumption | exact hset_eq | exact (hset_ne (by omega)).trans (by first | assumption | exact hset_eq | exact (hset_ne (by omega)).trans (by first | assumption | exact hset_eq | exact (hset_ne (by omega)).trans (by first | assumption | exact hset_eq))))) rfl rfl rfl (fun _ => rfl) (fun _ => rfl) (Nat.le_of_ble_eq_true rfl) ?_
  try rw [hset_hset]
  refine AW_aload_n 70 hX dX7_init_69 rfl rfl ?_
  refine AW_bipush 72 hX dX7_init_70 rfl bp_6 ?_
  refine AW_newa (t := 0) (N := 6) 74 hX dX7_init_72 rfl (by decide) rfl ac_int (show hsz _ 43 from hsz_set (hsz_new (hsz_set (hsz_new (hsz_set (hsz_new (hsz_set (hsz_new (hsz_set (hsz_new (hsz_set (hsz_new (hsz_set (hsz_new (hsz_set (hsz_new (hz)) (by decide))) (by decide))) (by decide))) (by decide))) (by decide))) (by decide))) (by decide))) (by decide)) (by decide) (by decide) rfl (Nat.le_of_ble_eq_true rfl) (Nat.le_of_ble_eq_true rfl) ?_
  refine AW_putF 77 hX dX7_init_74 rfl fl_X7_35 (by first | assumption | exact hset_eq | exact (hset_ne (by omega)).trans (by first | assumption | exact hset_eq | exact (hset_ne (by omega)).trans (by first | assumption | exact hset_eq | exact (hset_ne (by omega)).trans (by first | assumption | exact hset_eq | exact (hset_ne (by omega)).trans (by first | assumption | exact hset_eq))))) rfl rfl rfl (fun _ => rfl) (fun _ => rfl) (Nat.le_of_ble_eq_true rfl) ?_
  try rw [hset_hset]
  refine AW_aload_n 78 hX dX7_init_77 rfl rfl ?_
  refine AW_bipush 80 hX dX7_init_78 rfl bp_6 ?_
  refine AW_newa (t := 0) (N := 6) 82 hX dX7_init_80 rfl (by decide) rfl ac_int (show hsz _ 44 from hsz_set (hsz_new (hsz_set (hsz_new (hsz_set (hsz_new (hsz_set (hsz_new (hsz_set (hsz_new (hsz_set (hsz_new (hsz_set (hsz_new (hsz_set (hsz_new (hsz_set (hsz_new (hz)) (by decide))) (by decide))) (by decide))) (by decide))) (by decide))) (by decide))) (by decide))) (by decide))) (by decide)) (by decide) (by decide) rfl (Nat.le_of_ble_eq_true rfl) (Nat.le_of_ble_eq_true rfl) ?_
  refine AW_putF 85 hX dX7_init_82 rfl fl_X7_38 (by first | assumption | exact hset_eq | exact (hset_ne (by omega)).trans (by first | assumption | exact hset_eq | exact (hset_ne (by omega)).trans (by first | assumption | exact hset_eq | exact (hset_ne (by omega)).trans (by first | assumption | exact hset_eq | exact (hset_ne (by omega)).trans (by first | assumption | exact hset_eq))))) rfl rfl rfl (fun _ => rfl) (fun _ => rfl) (Nat.le_of_ble_eq_true rfl) ?_
  try rw [hset_hset]
  refine AW_aload_n 86 hX dX7_init_85 rfl rfl ?_
  refine AW_bipush 88 hX dX7_init_86 rfl bp_6 ?_
  refine AW_newa (t := 0) (N := 6) 90 hX dX7_init_88 rfl (by decide) rfl ac_int (show hsz _ 45 from hsz_set (hsz_new (hsz_set (hsz_new (hsz_set (hsz_new (hsz_set (hsz_new (hsz_set (hsz_new (hsz_set (hsz_new (hsz_set (hsz_new (hsz_set (hsz_new (hsz_set (hsz_new (hsz_set (hsz_new (hz)) (by decide))) (by decide))) (by decide))) (by decide))) (by decide))) (by decide))) (by decide))) (by decide))) (by decide))) (by decide)) (by decide) (by decide) rfl (Nat.le_of_ble_eq_true rfl) (Nat.le_of_ble_eq_true rfl) ?_
  refine AW_putF 93 hX dX7_init_90 rfl fl_X7_41 (by first | assumption | exact hset_eq | exact (hset_ne (by omega)).trans (by first | assumption | exact hset_eq | exact (hset_ne (by omega)).trans (by first | assumption | exact hset_eq | exact (hset_ne (by omega)).trans (by first | assumption | exact hset_eq | exact (hset_ne (by omega)).trans (by first | assumption | exact hset_eq))))) rfl rfl rfl (fun _ => rfl) (fun _ => rfl) (Nat.le_of_ble_eq_true rfl) ?_
  try rw [hset_hset]
  refine AW_aload_n 94 hX dX7_init_93 rfl rfl ?_
  refine AW_bipush 96 hX dX7_init_94 rfl bp_6 ?_
  refine AW_newa (t := 0) (N := 6) 98 hX dX7_init_96 rfl (by decide) rfl ac_int (show hsz _ 46 from hsz_set (hsz_new (hsz_set (hsz_new (hsz_set (hsz_new (hsz_set (hsz_new (hsz_set (hsz_new (hsz_set (hsz_new (hsz_set (hsz_new (hsz_set (hsz_new (hsz_set (hsz_new (hsz_set (hsz_new (hsz_set (hsz_new (hz)) (by decide))) (by decide))) (by decide))) (by decide))) (by decide))) (by decide))) (by decide))) (by decide))) (by decide))) (by decide))) (by decide)) (by decide) (by decide) rfl (Nat.le_of_ble_eq_true rfl) (Nat.le_of_ble_eq_true rfl) ?_
  refine AW_putF 101 hX dX7_init_98 rfl fl_X7_44 (by first | assumption | exact hset_eq | exact (hset_ne (by omega)).trans (by first | assumption | exact hset_eq | exact (hset_ne (by omega)).trans (by first | assumption | exact hset_eq | exact (hset_ne (by omega)).trans (by first | assumption | exact hset_eq | exact (hset_ne (by omega)).trans (by first | assumption | exact hset_eq))))) rfl rfl rfl (fun _ => rfl) (fun _ => rfl) (Nat.le_of_ble_eq_true rfl) ?_
  try rw [hset_hset]
  refine AW_vret hX hE dX7_init_101 (Nat.le_of_ble_eq_true rfl) (Nat.le_of_ble_eq_true rfl) ?_
  exact hK _ (hsz_set (hsz_new (hsz_set (hsz_new (hsz_set (hsz_new (hsz_set (hsz_new (hsz_set (hsz_new (hsz_set (hsz_new (hsz_set (hsz_new (hsz_set (hsz_new (hsz_set (hsz_new (hsz_set (hsz_new (hsz_set (hsz_new (hsz_set (hsz_new (hz)) (by decide))) (by decide))) (by decide))) (by decide))) (by decide))) (by decide))) (by decide))) (by decide))) (by decide))) (by decide))) (by decide))) (by decide)) (fun q hq => (hset_ne (by omega)).trans ((hset_ne (by omega)).trans ((hset_ne (by omega)).trans ((hset_ne (by omega)).trans ((hset_ne (by omega)).trans ((hset_ne (by omega)).trans ((hset_ne (by omega)).trans ((hset_ne (by omega)).trans ((hset_ne (by omega)).trans ((hset_ne (by omega)).trans ((hset_ne (by omega)).trans ((hset_ne (by omega)).trans ((hset_ne (by omega)).trans ((hset_ne (by omega)).trans ((hset_ne (by omega)).trans ((hset_ne (by omega)).trans ((hset_ne (by omega)).trans ((hset_ne (by omega)).trans ((hset_ne (by omega)).trans ((hset_ne (by omega)).trans ((hset_ne (by omega)).trans ((hset_ne (by omega)).trans ((hset_ne (by omega)).trans ((hset_ne (by omega)).trans (rfl))))))))))))))))))))))))) ⟨hset_eq, (hset_ne (by omega)).trans ((hset_ne (by omega)).trans ((hset_ne (by omega)).trans ((hset_ne (by omega)).trans ((hset_ne (by omega)).trans ((hset_ne (by omega)).trans ((hset_ne (by omega)).trans ((hset_ne (by omega)).trans ((hset_ne (by omega)).trans ((hset_ne (by omega)).trans ((hset_ne (by omega)).trans ((hset_ne (by omega)).trans ((hset_ne (by omega)).trans ((hset_ne (by omega)).trans ((hset_ne (by omega)).trans ((hset_ne (by omega)).trans ((hset_ne (by omega)).trans ((hset_ne (by omega)).trans ((hset_ne (by omega)).trans ((hset_ne (by omega)).trans ((hset_ne (by omega)).trans ((hset_ne (by omega)).trans ((hset_ne (by omega)).trans (hset_eq))))))))))))))))))))))), (hset_ne (by omega)).trans ((hset_ne (by omega)).trans ((hset_ne (by omega)).trans ((hset_ne (by omega)).trans ((hset_ne (by omega)).trans ((hset_ne (by omega)).trans ((hset_ne (by omega)).trans ((hset_ne (by omega)).trans ((hset_ne (by omega)).trans ((hset_ne (by omega)).trans ((hset_ne (by omega)).trans ((hset_ne (by omega)).trans ((hset_ne (by omega)).trans ((hset_ne (by omega)).trans ((hset_ne (by omega)).trans ((hset_ne (by omega)).trans ((hset_ne (by omega)).trans ((hset_ne (by omega)).trans ((hset_ne (by omega)).trans ((hset_ne (by omega)).trans ((hset_ne (by omega)).trans (hset_eq))))))))))))))))))))), (hset_ne (by omega)).trans ((hset_ne (by omega)).trans ((hset_ne (by omega)).trans ((hset_ne (by omega)).trans ((hset_ne (by omega)).trans ((hset_ne (by omega)).trans ((hset_ne (by omega)).trans ((hset_ne (by omega)).trans ((hset_ne (by omega)).trans ((hset_ne (by omega)).trans ((hset_ne (by omega)).trans ((hset_ne (by omega)).trans ((hset_ne (by omega)).trans ((hset_ne (by omega)).trans ((hset_ne (by omega)).trans ((hset_ne (by omega)).trans ((hset_ne (by omega)).trans ((hset_ne (by omega)).trans ((hset_ne (by omega)).trans (hset_eq))))))))))))))))))), (hset_ne (by omega)).trans ((hset_ne (by omega)).trans ((hset_ne (by omega)).trans ((hset_ne (by omega)).trans ((hset_ne (by omega)).trans ((hset_ne (by omega)).trans ((hset_ne (by omega)).trans ((hset_ne (by omega)).trans ((hset_ne (by omega)).trans ((hset_ne (by omega)).trans ((hset_ne (by omega)).trans ((hset_ne (by omega)).trans ((hset_ne (by omega)).trans ((hset_ne (by omega)).trans ((hset_ne (by omega)).trans ((hset_ne (by omega)).trans ((hset_ne (by omega)).trans (hset_eq))))))))))))))))), (hset_ne (by omega)).trans ((hset_ne (by omega)).trans ((hset_ne (by omega)).trans ((hset_ne (by omega)).trans ((hset_ne (by omega)).trans ((hset_ne (by omega)).trans ((hset_ne (by omega)).trans ((hset_ne (by omega)).trans ((hset_ne (by omega)).trans ((hset_ne (by omega)).trans ((hset_ne (by omega)).trans ((hset_ne (by omega)).trans ((hset_ne (by omega)).trans ((hset_ne (by omega)).trans ((hset_ne (by omega)).trans (hset_eq))))))))))))))), (hset_ne (by omega)).trans ((hset_ne (by omega)).trans ((hset_ne (by omega)).trans ((hset_ne (by omega)).trans ((hset_ne (by omega)).trans ((hset_ne (by omega)).trans ((hset_ne (by omega)).trans ((hset_ne (by omega)).trans ((hset_ne (by omega)).trans ((hset_ne (by omega)).trans ((hset_ne (by omega)).trans ((hset_ne (by omega)).trans ((hset_ne (by omega)).trans (hset_eq))))))))))))), (hset_ne (by omega)).trans ((hset_ne (by omega)).trans ((hset_ne (by omega)).trans ((hset_ne (by omega)).trans ((hset_ne (by omega)).trans ((hset_ne (by omega)).trans ((hset_ne (by omega)).trans ((hset_ne (by omega)).trans ((hset_ne (by omega)).trans ((hset_ne (by omega)).trans ((hset_ne (by omega)).trans (hset_eq))))))))))), (hset_ne (by omega)).trans ((hset_ne (by omega)).trans ((hset_ne (by omega)).trans ((hset_ne (by omega)).trans ((hset_ne (by omega)).trans ((hset_ne (by omega)).trans ((hset_ne (by omega)).trans ((hset_ne (by omega)).trans ((hset_ne (by omega)).trans (hset_eq))))))))), (hset_ne (by omega)).trans ((hset_ne (by omega)).trans ((hset_ne (by omega)).trans ((hset_ne (by omega)).trans ((hset_ne (by omega)).trans ((hset_ne (by omega)).trans ((hset_ne (by omega)).trans (hset_eq))))))), (hset_ne (by omega)).trans ((hset_ne (by omega)).trans ((hset_ne (by omega)).trans ((hset_ne (by omega)).trans ((hset_ne (by omega)).trans (hset_eq))))), (hset_ne (by omega)).trans ((hset_ne (by omega)).trans ((hset_ne (by omega)).trans (hset_eq))), (hset_ne (by omega)).trans (hset_eq)⟩
