/-- a Route at r, with N spots found -/
def rtC (h : AH) (r N : Nat) (Qs par cb dp : Nat → Nat) (en : Int32) : Prop := h r = some (.inl (3, [.ref (r + 1), .ref (r + 2), .ref (r + 3), .ref (r + 4), .int (nI N), .int en])) ∧ ∃ q1 q2 q3 q4, h (r + 1) = some (.inr (0, 144, q1)) ∧ h (r + 2) = some (.inr (0, 144, q2)) ∧ h (r + 3) = some (.inr (0, 144, q3)) ∧ h (r + 4) = some (.inr (0, 144, q4)) ∧ (∀ t, t < N → q1 t = nI (Qs t) ∧ q2 (Qs t) = nI (dp t) ∧ (0 < t → q3 (Qs t) = nI (Qs (par t)) ∧ q4 (Qs t) = nI (cb t))) ∧ (∀ v, v < 144 → (∀ t, t < N → Qs t ≠ v) → q2 v = -1)
/-- a Route at r, whatever it holds -/
def rtA (h : AH) (r : Nat) : Prop := ∃ x y q1 q2 q3 q4, h r = some (.inl (3, [.ref (r + 1), .ref (r + 2), .ref (r + 3), .ref (r + 4), .int x, .int y])) ∧ h (r + 1) = some (.inr (0, 144, q1)) ∧ h (r + 2) = some (.inr (0, 144, q2)) ∧ h (r + 3) = some (.inr (0, 144, q3)) ∧ h (r + 4) = some (.inr (0, 144, q4))
theorem rtC_A {h : AH} {r N : Nat} {Qs par cb dp : Nat → Nat} {en : Int32} (g : rtC h r N Qs par cb dp en) : rtA h r := by
  obtain ⟨h1, q1, q2, q3, q4, a1, a2, a3, a4, -⟩ := g
  exact ⟨_, _, q1, q2, q3, q4, h1, a1, a2, a3, a4⟩
theorem rtA_fr {h h' : AH} {r lo hi : Nat} (g : rtA h r) (e : fr h h' lo hi) (ho : r + 5 ≤ lo ∨ hi ≤ r) : rtA h' r := by
  obtain ⟨x, y, q1, q2, q3, q4, h1, a1, a2, a3, a4⟩ := g
  exact ⟨x, y, q1, q2, q3, q4, (e _ (by omega)).trans h1, (e _ (by omega)).trans a1, (e _ (by omega)).trans a2, (e _ (by omega)).trans a3, (e _ (by omega)).trans a4⟩
theorem N143 {N v : Nat} {Qs : Nat → Nat} (hlt : ∀ t, t < N → Qs t < 144) (hinj : ∀ a b, a < N → b < N → Qs a = Qs b → a = b) (hv : v < 144) (hno : ∀ t, t < N → Qs t ≠ v) : N + 1 ≤ 144 := by
  refine fb_holes 144 (N + 1) (ap Qs N v) (fun t ht => ?_) (fun a b hab hb => ?_)
  · by_cases e : t = N
    · subst e; rw [ap_eq]; exact hv
    · rw [ap_lt (by omega)]; exact hlt t (by omega)
  · by_cases e : b = N
    · subst e; rw [ap_eq, ap_lt hab]; exact hno a hab
    · rw [ap_lt (by omega), ap_lt (by omega)]
      intro q
      have := hinj a b (by omega) (by omega) q
      omega
theorem m1n : ∀ v, v < 144 → ¬ nI v = -1 := by decide +kernel
theorem BI_144 {n : Nat} {ks : Nat → Nat} {B st N : Nat} {Qs par cb dp : Nat → Nat} (hB : B ≤ 11) (hn : n ≤ 12) (h : BI n ks B st N Qs par cb dp) (h1 : st / 12 < n) (h2 : st % 12 ≤ B) : N ≤ 144 ∧ ∀ t, t < N → Qs t < 144 := by
  have hin : ∀ t, t < N → Qs t < 144 := fun t ht => by
    have := BI_in hB h h1 h2 t ht
    omega
  refine ⟨fb_holes 144 N Qs hin (fun i j hij hj e => ?_), hin⟩
  have := h.2.2.1 i j (by omega) hj e
  omega
set_option maxRecDepth 100000 in
set_option maxHeartbeats 4000000 in
theorem c_isSpotY {h : AH} {K : Option Value → AH → Prop} (v : Nat) (hv : v < 144) (hK : K (some (.int 1)) h) : aX4_isSpot 0 [.int (nI v)] h K := by
  refine AM.of [some (.int (nI v))] pn_X4_isSpot rfl (Nat.le_of_ble_eq_true rfl) (fun X hX hE => ?_)
  refine AW_iload_n 1 hX dX4_isSpot_0 rfl rfl ?_
  refine AW_if_lt 4 15 hX dX4_isSpot_1 rfl (by decide) (fun c1 => absurd c1 (nI_pos (by omega))) (fun c1 => ?_)
  refine AW_iload_n 5 hX dX4_isSpot_4 rfl rfl ?_
  refine AW_sipush 8 hX dX4_isSpot_5 rfl sp_144 ?_
  refine AW_icmp_ge 11 15 hX dX4_isSpot_8 rfl (by decide) (fun c8 => absurd c8 (nI_ge (a := v) (b := 144) hv (by decide))) (fun c8 => ?_)
  refine AW_iconst 12 hX dX4_isSpot_11 rfl ic_1 ?_
  refine AW_goto 16 hX dX4_isSpot_12 (by decide) ?_
  refine AW_iret hX hE dX4_isSpot_16 rfl (Nat.le_refl _) (Nat.le_refl _) ?_
  exact hK
set_option maxRecDepth 100000 in
set_option maxHeartbeats 4000000 in
theorem c_isSpotN {h : AH} {K : Option Value → AH → Prop} (hK : K (some (.int 0)) h) : aX4_isSpot 0 [.int (-1)] h K := by
  refine AM.of [some (.int (-1))] pn_X4_isSpot rfl (Nat.le_of_ble_eq_true rfl) (fun X hX hE => ?_)
  refine AW_iload_n 1 hX dX4_isSpot_0 rfl rfl ?_
  refine AW_if_lt 4 15 hX dX4_isSpot_1 rfl (by decide) (fun c1 => ?_) (fun c1 => absurd (by decide) c1)
  refine AW_iconst 16 hX dX4_isSpot_15 rfl ic_0 ?_
  refine AW_iret hX hE dX4_isSpot_16 rfl (Nat.le_refl _) (Nat.le_refl _) ?_
  exact hK
set_option maxRecDepth 100000 in
set_option maxHeartbeats 4000000 in
theorem c_stepsOfY {h : AH} {K : Option Value → AH → Prop} {r N : Nat} {Qs par cb dp : Nat → Nat} {en : Int32} (hr : rtC h r N Qs par cb dp en) (t : Nat) (ht : t < N) (hv : Qs t < 144) (hK : K (some (.int (nI (dp t)))) h) : aX4_stepsOf 1 [.ref r, .int (nI (Qs t))] h K := by
  obtain ⟨ha, q1, q2, q3, q4, a1, a2, a3, a4, hq, hno⟩ := id hr
  refine AM.of [some (.ref r), some (.int (nI (Qs t)))] pn_X4_stepsOf rfl (Nat.le_of_ble_eq_true rfl) (fun X hX hE => ?_)
  refine AW_iload_n 1 hX dX4_stepsOf_0 rfl rfl ?_
  refine AW_cS (As := [_]) 4 hX dX4_stepsOf_1 rfl ml_X4_52 mw_X4_isSpot rfl rfl (Nat.le_of_ble_eq_true rfl) (by decide) ⟨(Nat.le_refl _), (Nat.le_refl _)⟩ (c_isSpotY _ hv ?_)
  refine AW_if_eq 7 16 hX dX4_stepsOf_4 rfl (by decide) (fun c4 => absurd c4 (by decide)) (fun c4 => ?_)
  refine AW_aload_n 8 hX dX4_stepsOf_7 rfl rfl ?_
  refine AW_get 11 hX dX4_stepsOf_8 rfl fl_X4_15 (by first | assumption | exact hset_eq | exact (hset_ne (by omega)).trans (by first | assumption | exact hset_eq | exact (hset_ne (by omega)).trans (by first | assumption | exact hset_eq | exact (hset_ne (by omega)).trans (by first | assumption | exact hset_eq | exact (hset_ne (by omega)).trans (by first | assumption | exact hset_eq))))) rfl ?_
  refine AW_iload_n 12 hX dX4_stepsOf_11 rfl rfl ?_
  refine AW_iald 13 hX dX4_stepsOf_12 rfl (by first | assumption | exact hset_eq | exact (hset_ne (by omega)).trans (by first | assumption | exact hset_eq | exact (hset_ne (by omega)).trans (by first | assumption | exact hset_eq | exact (hset_ne (by omega)).trans (by first | assumption | exact hset_eq | exact (hset_ne (by omega)).trans (by first | assumption | exact hset_eq))))) (j := Qs t) hv rfl ?_
  refine AW_goto 17 hX dX4_stepsOf_13 (by decide) ?_
  refine AW_iret hX hE dX4_stepsOf_17 rfl (Nat.le_refl _) (Nat.le_refl _) ?_
  rw [(hq t ht).2.1]
  exact hK
set_option maxRecDepth 100000 in
set_option maxHeartbeats 4000000 in
theorem c_stepsOfN {h : AH} {K : Option Value → AH → Prop} {r : Nat} (hK : K (some (.int (-1))) h) : aX4_stepsOf 1 [.ref r, .int (-1)] h K := by
  refine AM.of [some (.ref r), some (.int (-1))] pn_X4_stepsOf rfl (Nat.le_of_ble_eq_true rfl) (fun X hX hE => ?_)
  refine AW_iload_n 1 hX dX4_stepsOf_0 rfl rfl ?_
  refine AW_cS (As := [_]) 4 hX dX4_stepsOf_1 rfl ml_X4_52 mw_X4_isSpot rfl rfl (Nat.le_of_ble_eq_true rfl) (by decide) ⟨(Nat.le_refl _), (Nat.le_refl _)⟩ (c_isSpotN ?_)
  refine AW_if_eq 7 16 hX dX4_stepsOf_4 rfl (by decide) (fun c4 => ?_) (fun c4 => absurd rfl c4)
  refine AW_iconst 17 hX dX4_stepsOf_16 rfl ic_m1 ?_
  refine AW_iret hX hE dX4_stepsOf_17 rfl (Nat.le_refl _) (Nat.le_refl _) ?_
  exact hK
set_option maxRecDepth 100000 in
set_option maxHeartbeats 4000000 in
theorem stepsOf_any {h : AH} {K : Option Value → AH → Prop} {r N : Nat} {Qs par cb dp : Nat → Nat} {en : Int32} (hr : rtC h r N Qs par cb dp en) (x : Int32) (i D : Nat) (hlt : ∀ t, t < N → Qs t < 144) (hx0 : N = 0 → x = -1 ∧ D = 0) (hxi : 0 < N → i < N ∧ x = nI (Qs i) ∧ D = dp i + 1) (hK : K (some (.int (nI D - 1))) h) : aX4_stepsOf 1 [.ref r, .int x] h K := by
  by_cases e : N = 0
  · obtain ⟨e1, e2⟩ := hx0 e
    subst e1 e2
    exact c_stepsOfN hK
  · obtain ⟨e1, e2, e3⟩ := hxi (by omega)
    subst e2 e3
    rw [nI_pred] at hK
    exact c_stepsOfY hr i e1 (hlt i e1) hK
theorem i_m1p (x : Int32) : x - 1 + 1 = x := Int32.sub_add_cancel x 1
set_option maxRecDepth 100000 in
set_option maxHeartbeats 4000000 in
theorem c_reach {h : AH} {K : Option Value → AH → Prop} {r N : Nat} {Qs par cb dp : Nat → Nat} {en : Int32} (hr : rtC h r N Qs par cb dp en) (hinj : ∀ a b, a < N → b < N → Qs a = Qs b → a = b) (hlt : ∀ t, t < N → Qs t < 144) (hdp : ∀ t, t < N → dp t ≤ 40) (hpar : ∀ t, 0 < t → t < N → par t < N) (p s c last i D : Nat) (x : Int32) (hp : p < 12) (hs : s < 12) (hlast : last < 12) (hx0 : N = 0 → x = -1 ∧ D = 0) (hxi : 0 < N → i < N ∧ x = nI (Qs i) ∧ D = dp i + 1) (hold : ∀ t, t < N → Qs t = p * 12 + s → K none h) (hnew : ∀ h' : AH, (∀ t, t < N → Qs t ≠ p * 12 + s) → rtC h' r (N + 1) (ap Qs N (p * 12 + s)) (ap par N i) (ap cb N c) (ap dp N D) (if p = last then nI (p * 12 + s) else en) → fr h h' r (r + 5) → K none h') : aX4_reach 2 [.ref r, .int (nI p), .int (nI s), .int x, .int (nI c), .int (nI last)] h K := by
  obtain ⟨ha, q1, q2, q3, q4, a1, a2, a3, a4, hq, hno⟩ := id hr
  have hv : p * 12 + s < 144 := by omega
  have hdn : ∀ t, t < N → ¬ nI (dp t) = -1 := fun t ht => m1n _ (by have := hdp t ht; omega)
  have hN : N ≤ 144 := fb_holes 144 N Qs hlt (fun i j hij hj e => by have := hinj i j (by omega) hj e; omega)
  refine AM.of [some (.ref r), some (.int (nI p)), some (.int (nI s)), some (.int x), some (.int (nI c)), some (.int (nI last)), none] pn_X4_reach rfl (Nat.le_of_ble_eq_true rfl) (fun X hX hE => ?_)
  refine AW_iload_n 1 hX dX4_reach_0 rfl rfl ?_
  refine AW_bipush 3 hX dX4_reach_1 rfl bp_12 ?_
  refine AW_imul 4 hX dX4_reach_3 rfl ?_
  refine AW_iload_n 5 hX dX4_reach_4 rfl rfl ?_
  refine AW_iadd 6 hX dX4_reach_5 rfl ?_
  rw [show (12 : Int32) = nI 12 from rfl, pk_mul, nI_add]
  refine AW_istore 8 hX dX4_reach_6 rfl (Nat.le_of_ble_eq_true rfl) rfl ?_
  refine AW_iload 10 hX dX4_reach_8 rfl rfl ?_
  refine AW_cS (As := [_]) 13 hX dX4_reach_10 rfl ml_X4_52 mw_X4_isSpot rfl rfl (Nat.le_of_ble_eq_true rfl) (by decide) ⟨(Nat.le_refl _), (Nat.le_refl _)⟩ (c_isSpotY _ hv ?_)
  refine AW_if_eq 16 44 hX dX4_reach_13 rfl (by decide) (fun c13 => absurd c13 (by decide)) (fun c13 => ?_)
  refine AW_aload_n 17 hX dX4_reach_16 rfl rfl ?_
  refine AW_get 20 hX dX4_reach_17 rfl fl_X4_15 (by first | assumption | exact hset_eq | exact (hset_ne (by omega)).trans (by first | assumption | exact hset_eq | exact (hset_ne (by omega)).trans (by first | assumption | exact hset_eq | exact (hset_ne (by omega)).trans (by first | assumption | exact hset_eq | exact (hset_ne (by omega)).trans (by first | assumption | exact hset_eq))))) rfl ?_
  refine AW_iload 22 hX dX4_reach_20 rfl rfl ?_
  refine AW_iald 23 hX dX4_reach_22 rfl (by first | assumption | exact hset_eq | exact (hset_ne (by omega)).trans (by first | assumption | exact hset_eq | exact (hset_ne (by omega)).trans (by first | assumption | exact hset_eq | exact (hset_ne (by omega)).trans (by first | assumption | exact hset_eq | exact (hset_ne (by omega)).trans (by first | assumption | exact hset_eq))))) (j := p * 12 + s) hv rfl ?_
  refine AW_iconst 24 hX dX4_reach_23 rfl ic_m1 ?_
  refine AW_icmp_ne 27 44 hX dX4_reach_24 rfl (by decide) (fun c24 => ?_) (fun c24 => ?_)
  · refine AW_vret hX hE dX4_reach_44 (Nat.le_refl _) (Nat.le_refl _) ?_
    have hex : ∃ t, t < N ∧ Qs t = p * 12 + s := Classical.byContradiction fun hc => c24 (hno _ hv (fun t ht e => hc ⟨t, ht, e⟩))
    obtain ⟨t, ht, e⟩ := hex
    exact hold t ht e
  · refine AW_aload_n 28 hX dX4_reach_27 rfl rfl ?_
    refine AW_get 31 hX dX4_reach_28 rfl fl_X4_24 (by first | assumption | exact hset_eq | exact (hset_ne (by omega)).trans (by first | assumption | exact hset_eq | exact (hset_ne (by omega)).trans (by first | assumption | exact hset_eq | exact (hset_ne (by omega)).trans (by first | assumption | exact hset_eq | exact (hset_ne (by omega)).trans (by first | assumption | exact hset_eq))))) rfl ?_
    refine AW_if_lt 34 44 hX dX4_reach_31 rfl (by decide) (fun c31 => absurd c31 (nI_pos (by omega))) (fun c31 => ?_)
    refine AW_aload_n 35 hX dX4_reach_34 rfl rfl ?_
    refine AW_get 38 hX dX4_reach_35 rfl fl_X4_24 (by first | assumption | exact hset_eq | exact (hset_ne (by omega)).trans (by first | assumption | exact hset_eq | exact (hset_ne (by omega)).trans (by first | assumption | exact hset_eq | exact (hset_ne (by omega)).trans (by first | assumption | exact hset_eq | exact (hset_ne (by omega)).trans (by first | assumption | exact hset_eq))))) rfl ?_
    refine AW_sipush 41 hX dX4_reach_38 rfl sp_144 ?_
    refine AW_icmp_lt 44 45 hX dX4_reach_41 rfl (by decide) (fun c41 => ?_) (fun c41 => absurd (nI_lt (a := N) (b := 144) (N143 hlt hinj hv (fun t ht e => by have := (hq t ht).2.1; rw [e, c24] at this; exact absurd this.symm (hdn t ht))) (by decide)) c41)
    refine AW_aload_n 46 hX dX4_reach_45 rfl rfl ?_
    refine AW_get 49 hX dX4_reach_46 rfl fl_X4_15 (by first | assumption | exact hset_eq | exact (hset_ne (by omega)).trans (by first | assumption | exact hset_eq | exact (hset_ne (by omega)).trans (by first | assumption | exact hset_eq | exact (hset_ne (by omega)).trans (by first | assumption | exact hset_eq | exact (hset_ne (by omega)).trans (by first | assumption | exact hset_eq))))) rfl ?_
    refine AW_iload 51 hX dX4_reach_49 rfl rfl ?_
    refine AW_aload_n 52 hX dX4_reach_51 rfl rfl ?_
    refine AW_iload_n 53 hX dX4_reach_52 rfl rfl ?_
    refine AW_cV (As := [_]) 56 hX dX4_reach_53 rfl ml_X4_49 mw_X4_stepsOf (by first | assumption | exact hset_eq | exact (hset_ne (by omega)).trans (by first | assumption | exact hset_eq | exact (hset_ne (by omega)).trans (by first | assumption | exact hset_eq | exact (hset_ne (by omega)).trans (by first | assumption | exact hset_eq | exact (hset_ne (by omega)).trans (by first | assumption | exact hset_eq))))) (by decide) rfl rfl rfl (Nat.le_of_ble_eq_true rfl) (by decide) ⟨(Nat.le_refl _), (Nat.le_refl _)⟩ (stepsOf_any hr x i D hlt hx0 hxi ?_)
    refine AW_iconst 57 hX dX4_reach_56 rfl ic_1 ?_
    refine AW_iadd 58 hX dX4_reach_57 rfl ?_
    rw [i_m1p]
    refine AW_iast 59 hX dX4_reach_58 rfl (by first | assumption | exact hset_eq | exact (hset_ne (by omega)).trans (by first | assumption | exact hset_eq | exact (hset_ne (by omega)).trans (by first | assumption | exact hset_eq | exact (hset_ne (by omega)).trans (by first | assumption | exact hset_eq | exact (hset_ne (by omega)).trans (by first | assumption | exact hset_eq))))) (j := p * 12 + s) hv rfl ?_
    try rw [hset_hset]
    refine AW_aload_n 60 hX dX4_reach_59 rfl rfl ?_
    refine AW_get 63 hX dX4_reach_60 rfl fl_X4_18 (by first | assumption | exact hset_eq | exact (hset_ne (by omega)).trans (by first | assumption | exact hset_eq | exact (hset_ne (by omega)).trans (by first | assumption | exact hset_eq | exact (hset_ne (by omega)).trans (by first | assumption | exact hset_eq | exact (hset_ne (by omega)).trans (by first | assumption | exact hset_eq))))) rfl ?_
    refine AW_iload 65 hX dX4_reach_63 rfl rfl ?_
    refine AW_iload_n 66 hX dX4_reach_65 rfl rfl ?_
    refine AW_iast 67 hX dX4_reach_66 rfl (by first | assumption | exact hset_eq | exact (hset_ne (by omega)).trans (by first | assumption | exact hset_eq | exact (hset_ne (by omega)).trans (by first | assumption | exact hset_eq | exact (hset_ne (by omega)).trans (by first | assumption | exact hset_eq | exact (hset_ne (by omega)).trans (by first | assumption | exact hset_eq))))) (j := p * 12 + s) hv rfl ?_
    try rw [hset_hset]
    refine AW_aload_n 68 hX dX4_reach_67 rfl rfl ?_
    refine AW_get 71 hX dX4_reach_68 rfl fl_X4_21 (by first | assumption | exact hset_eq | exact (hset_ne (by omega)).trans (by first | assumption | exact hset_eq | exact (hset_ne (by omega)).trans (by first | assumption | exact hset_eq | exact (hset_ne (by omega)).trans (by first | assumption | exact hset_eq | exact (hset_ne (by omega)).trans (by first | assumption | exact hset_eq))))) rfl ?_
    refine AW_iload 73 hX dX4_reach_71 rfl rfl ?_
    refine AW_iload 75 hX dX4_reach_73 rfl rfl ?_
    refine AW_iast 76 hX dX4_reach_75 rfl (by first | assumption | exact hset_eq | exact (hset_ne (by omega)).trans (by first | assumption | exact hset_eq | exact (hset_ne (by omega)).trans (by first | assumption | exact hset_eq | exact (hset_ne (by omega)).trans (by first | assumption | exact hset_eq | exact (hset_ne (by omega)).trans (by first | assumption | exact hset_eq))))) (j := p * 12 + s) hv rfl ?_
    try rw [hset_hset]
    refine AW_aload_n 77 hX dX4_reach_76 rfl rfl ?_
    refine AW_get 80 hX dX4_reach_77 rfl fl_X4_11 (by first | assumption | exact hset_eq | exact (hset_ne (by omega)).trans (by first | assumption | exact hset_eq | exact (hset_ne (by omega)).trans (by first | assumption | exact hset_eq | exact (hset_ne (by omega)).trans (by first | assumption | exact hset_eq | exact (hset_ne (by omega)).trans (by first | assumption | exact hset_eq))))) rfl ?_
    refine AW_aload_n 81 hX dX4_reach_80 rfl rfl ?_
    refine AW_get 84 hX dX4_reach_81 rfl fl_X4_24 (by first | assumption | exact hset_eq | exact (hset_ne (by omega)).trans (by first | assumption | exact hset_eq | exact (hset_ne (by omega)).trans (by first | assumption | exact hset_eq | exact (hset_ne (by omega)).trans (by first | assumption | exact hset_eq | exact (hset_ne (by omega)).trans (by first | assumption | exact hset_eq))))) rfl ?_
    refine AW_iload 86 hX dX4_reach_84 rfl rfl ?_
    refine AW_iast 87 hX dX4_reach_86 rfl (by first | assumption | exact hset_eq | exact (hset_ne (by omega)).trans (by first | assumption | exact hset_eq | exact (hset_ne (by omega)).trans (by first | assumption | exact hset_eq | exact (hset_ne (by omega)).trans (by first | assumption | exact hset_eq | exact (hset_ne (by omega)).trans (by first | assumption | exact hset_eq))))) (j := N) (by have := iLt (b := 144) c41; omega) rfl ?_
    try rw [hset_hset]
    refine AW_aload_n 88 hX dX4_reach_87 rfl rfl ?_
    refine AW_dup 89 hX dX4_reach_88 rfl rfl ?_
    refine AW_get 92 hX dX4_reach_89 rfl fl_X4_24 (by first | assumption | exact hset_eq | exact (hset_ne (by omega)).trans (by first | assumption | exact hset_eq | exact (hset_ne (by omega)).trans (by first | assumption | exact hset_eq | exact (hset_ne (by omega)).trans (by first | assumption | exact hset_eq | exact (hset_ne (by omega)).trans (by first | assumption | exact hset_eq))))) rfl ?_
    refine AW_iconst 93 hX dX4_reach_92 rfl ic_1 ?_
    refine AW_iadd 94 hX dX4_reach_93 rfl ?_
    refine AW_put 97 hX dX4_reach_94 rfl fl_X4_24 (by first | assumption | exact hset_eq | exact (hset_ne (by omega)).trans (by first | assumption | exact hset_eq | exact (hset_ne (by omega)).trans (by first | assumption | exact hset_eq | exact (hset_ne (by omega)).trans (by first | assumption | exact hset_eq | exact (hset_ne (by omega)).trans (by first | assumption | exact hset_eq))))) rfl (fun _ => rfl) (fun _ => rfl) (Nat.le_of_ble_eq_true rfl) ?_
    try rw [hset_hset]
    refine AW_iload_n 98 hX dX4_reach_97 rfl rfl ?_
    refine AW_iload 100 hX dX4_reach_98 rfl rfl ?_
    refine AW_icmp_ne 103 109 hX dX4_reach_100 rfl (by decide) (fun c100 => ?_) (fun c100 => ?_)
    · refine AW_vret hX hE dX4_reach_109 (Nat.le_refl _) (Nat.le_refl _) ?_
      have hno2 : ∀ t, t < N → Qs t ≠ p * 12 + s := fun t ht e => by
        have := (hq t ht).2.1
        rw [e, c24] at this
        exact absurd this.symm (hdn t ht)
      have hpl : ¬ p = last := fun e => c100 (by rw [e])
      refine hnew _ hno2 ⟨?_, upd q1 N (nI (p * 12 + s)), upd q2 (p * 12 + s) (nI D), upd q3 (p * 12 + s) x, upd q4 (p * 12 + s) (nI c), ?_, ?_, ?_, ?_, fun t ht => ?_, fun v hv hvn => ?_⟩ ?_
      · rw [hset_eq, nI_1]
        simp only [if_neg hpl]
        rfl
      · rw [hset_ne (by omega)]; exact hset_eq
      · rw [hset_ne (by omega), hset_ne (by omega), hset_ne (by omega), hset_ne (by omega)]; exact hset_eq
      · rw [hset_ne (by omega), hset_ne (by omega), hset_ne (by omega)]; exact hset_eq
      · rw [hset_ne (by omega), hset_ne (by omega)]; exact hset_eq
      · by_cases e : t = N
        · subst e
          rw [ap_eq, ap_eq, ap_eq, ap_eq, pk_us, pk_us, pk_us, pk_us]
          refine ⟨rfl, rfl, fun h0 => ⟨?_, rfl⟩⟩
          rw [ap_lt (hxi h0).1]
          exact (hxi h0).2.1
        · have htN : t < N := by omega
          obtain ⟨g1, g2, g3⟩ := hq t htN
          rw [ap_lt htN, ap_lt htN, ap_lt htN, ap_lt htN, pk_un e, pk_un (hno2 t htN), pk_un (hno2 t htN), pk_un (hno2 t htN)]
          refine ⟨g1, g2, fun h0 => ?_⟩
          rw [ap_lt (hpar t h0 htN)]
          exact g3 h0
      · rw [pk_un (fun e => hvn N (by omega) (by rw [ap_eq, e]))]
        exact hno v hv (fun t ht e => hvn t (by omega) (by rw [ap_lt ht]; exact e))
      · exact fr_tr (fr_tr (fr_tr (fr_tr (fr_set (by omega) (by omega)) (fr_set (by omega) (by omega))) (fr_set (by omega) (by omega))) (fr_set (by omega) (by omega))) (fr_set (by omega) (by omega))
    · refine AW_aload_n 104 hX dX4_reach_103 rfl rfl ?_
      refine AW_iload 106 hX dX4_reach_104 rfl rfl ?_
      refine AW_put 109 hX dX4_reach_106 rfl fl_X4_28 (by first | assumption | exact hset_eq | exact (hset_ne (by omega)).trans (by first | assumption | exact hset_eq | exact (hset_ne (by omega)).trans (by first | assumption | exact hset_eq | exact (hset_ne (by omega)).trans (by first | assumption | exact hset_eq | exact (hset_ne (by omega)).trans (by first | assumption | exact hset_eq))))) rfl (fun _ => rfl) (fun _ => rfl) (Nat.le_of_ble_eq_true rfl) ?_
      try rw [hset_hset]
      refine AW_vret hX hE dX4_reach_109 (Nat.le_refl _) (Nat.le_refl _) ?_
      have hno2 : ∀ t, t < N → Qs t ≠ p * 12 + s := fun t ht e => by
        have := (hq t ht).2.1
        rw [e, c24] at this
        exact absurd this.symm (hdn t ht)
      have hpl : p = last := iEq c100
      refine hnew _ hno2 ⟨?_, upd q1 N (nI (p * 12 + s)), upd q2 (p * 12 + s) (nI D), upd q3 (p * 12 + s) x, upd q4 (p * 12 + s) (nI c), ?_, ?_, ?_, ?_, fun t ht => ?_, fun v hv hvn => ?_⟩ ?_
      · rw [hset_eq, nI_1]
        simp only [if_pos hpl]
        rfl
      · rw [hset_ne (by omega)]; exact hset_eq
      · rw [hset_ne (by omega), hset_ne (by omega), hset_ne (by omega), hset_ne (by omega)]; exact hset_eq
      · rw [hset_ne (by omega), hset_ne (by omega), hset_ne (by omega)]; exact hset_eq
      · rw [hset_ne (by omega), hset_ne (by omega)]; exact hset_eq
      · by_cases e : t = N
        · subst e
          rw [ap_eq, ap_eq, ap_eq, ap_eq, pk_us, pk_us, pk_us, pk_us]
          refine ⟨rfl, rfl, fun h0 => ⟨?_, rfl⟩⟩
          rw [ap_lt (hxi h0).1]
          exact (hxi h0).2.1
        · have htN : t < N := by omega
          obtain ⟨g1, g2, g3⟩ := hq t htN
          rw [ap_lt htN, ap_lt htN, ap_lt htN, ap_lt htN, pk_un e, pk_un (hno2 t htN), pk_un (hno2 t htN), pk_un (hno2 t htN)]
          refine ⟨g1, g2, fun h0 => ?_⟩
          rw [ap_lt (hpar t h0 htN)]
          exact g3 h0
      · rw [pk_un (fun e => hvn N (by omega) (by rw [ap_eq, e]))]
        exact hno v hv (fun t ht e => hvn t (by omega) (by rw [ap_lt ht]; exact e))
      · exact fr_tr (fr_tr (fr_tr (fr_tr (fr_set (by omega) (by omega)) (fr_set (by omega) (by omega))) (fr_set (by omega) (by omega))) (fr_set (by omega) (by omega))) (fr_set (by omega) (by omega))
set_option maxRecDepth 100000 in
set_option maxHeartbeats 4000000 in
theorem c_goOn {h : AH} {K : Option Value → AH → Prop} {r N : Nat} {Qs par cb dp : Nat → Nat} (hr : rtC h r N Qs par cb dp (-1)) {a n : Nat} {f : Nat → Int32} {ks : Nat → Nat} (gg : gr h a n f) (hks : ∀ j, j < n → f j = nI (ks j)) (hk4 : ∀ j, j < n → ks j ≤ 4) (hab : a + 2 ≤ r ∨ r + 5 ≤ a) {B st : Nat} (hB : B ≤ 11) (hI : BI n ks B st N Qs par cb dp) (hs1 : st / 12 < n) (hs2 : st % 12 ≤ B) (hd40 : ∀ t, t < N → dp t ≤ 40) (i : Nat) (hi : i < N) (hN : BN n ks B N Qs dp i 0) (hP : BP N par i) (hL : ∀ t, t < N → Qs t / 12 ≠ n - 1) (h0 : ∀ (h' : AH) (N' : Nat) (Qs' par' cb' dp' : Nat → Nat), rtC h' r N' Qs' par' cb' dp' (-1) → BI n ks B st N' Qs' par' cb' dp' → (∀ t, t < N' → dp' t ≤ 40) → i < N' → BN n ks B N' Qs' dp' (i + 1) 0 → BP N' par' i → (∀ t, t < N' → Qs' t / 12 ≠ n - 1) → fr h h' r (r + 5) → K none h') (h1 : ∀ (h' : AH) (N' : Nat) (Qs' par' cb' dp' : Nat → Nat), rtC h' r N' Qs' par' cb' dp' (nI (Qs' (N' - 1))) → BI n ks B st N' Qs' par' cb' dp' → (∀ t, t < N' → dp' t ≤ 40) → Qs' (N' - 1) / 12 = n - 1 → (∀ t, t < N' - 1 → Qs' t / 12 ≠ n - 1) → fr h h' r (r + 5) → K none h') : aX4_goOn 3 [.ref r, .ref a, .int (nI B), .int (nI (Qs i)), .int (nI (n - 1))] h K := by
  have hn12 := gg.2.2
  obtain ⟨hN144, hlt⟩ := BI_144 hB hn12 hI hs1 hs2
  obtain ⟨hui, hus⟩ := BI_in hB hI hs1 hs2 i hi
  have hra := hr.1
  refine AM.of [some (.ref r), some (.ref a), some (.int (nI B)), some (.int (nI (Qs i))), some (.int (nI (n - 1))), none, none, none, none] pn_X4_goOn rfl (Nat.le_of_ble_eq_true rfl) (fun X hX hE => ?_)
  generalize hu : Qs i = u at *
  have ended : ∀ (h' : AH) (x e : Int32) (c : Nat) (z : Option Value), h' r = some (.inl (3, [.ref (r + 1), .ref (r + 2), .ref (r + 3), .ref (r + 4), .int x, .int e])) → ¬ e = -1 → K none h' → AW X 0 0 26 [some (.ref r), some (.ref a), some (.int (nI B)), some (.int (nI u)), some (.int (nI (n - 1))), some (.int (nI (u / 12))), some (.int (nI (u % 12))), some (.int (nI c)), z] [] h' := by
    intro h' x e c z hrr hne hK
    refine AW_iload 28 hX dX4_goOn_26 rfl rfl ?_
    refine AW_iconst 29 hX dX4_goOn_28 rfl ic_3 ?_
    refine AW_icmp_gt 32 96 hX dX4_goOn_29 rfl (by decide) (fun c29 => ?_) (fun c29 => ?_)
    · refine AW_vret hX hE dX4_goOn_96 (Nat.le_refl _) (Nat.le_refl _) ?_
      exact hK
    · refine AW_iload 34 hX dX4_goOn_32 rfl rfl ?_
      refine AW_iload 36 hX dX4_goOn_34 rfl rfl ?_
      refine AW_iadd 37 hX dX4_goOn_36 rfl ?_
      refine AW_iload 39 hX dX4_goOn_37 rfl rfl ?_
      refine AW_icmp_gt 42 96 hX dX4_goOn_39 rfl (by decide) (fun c39 => ?_) (fun c39 => ?_)
      · refine AW_vret hX hE dX4_goOn_96 (Nat.le_refl _) (Nat.le_refl _) ?_
        exact hK
      · refine AW_aload_n 43 hX dX4_goOn_42 rfl rfl ?_
        refine AW_get 46 hX dX4_goOn_43 rfl fl_X4_28 (by first | assumption | exact hset_eq | exact (hset_ne (by omega)).trans (by first | assumption | exact hset_eq | exact (hset_ne (by omega)).trans (by first | assumption | exact hset_eq | exact (hset_ne (by omega)).trans (by first | assumption | exact hset_eq | exact (hset_ne (by omega)).trans (by first | assumption | exact hset_eq))))) rfl ?_
        refine AW_iconst 47 hX dX4_goOn_46 rfl ic_m1 ?_
        refine AW_icmp_ne 50 96 hX dX4_goOn_47 rfl (by decide) (fun c47 => ?_) (fun c47 => absurd c47 hne)
        refine AW_vret hX hE dX4_goOn_96 (Nat.le_refl _) (Nat.le_refl _) ?_
        exact hK
  have loop : ∀ d c, c + d = 4 → ∀ (h' : AH) (N' : Nat) (Qs' par' cb' dp' : Nat → Nat) (z : Option Value), rtC h' r N' Qs' par' cb' dp' (-1) → BI n ks B st N' Qs' par' cb' dp' → (∀ t, t < N' → dp' t ≤ 40) → i < N' → Qs' i = u → dp' i < 40 → BN n ks B N' Qs' dp' i c → BP N' par' i → (∀ t, t < N' → Qs' t / 12 ≠ n - 1) → fr h h' r (r + 5) → AW X 0 0 26 [some (.ref r), some (.ref a), some (.int (nI B)), some (.int (nI u)), some (.int (nI (n - 1))), some (.int (nI (u / 12))), some (.int (nI (u % 12))), some (.int (nI c)), z] [] h' := by
    intro d
    induction d with
    | zero =>
      intro c hc h' N' Qs' par' cb' dp' z hr' hI' hd' hi' hu' hdi' hN' hP' hL' hfr
      refine AW_iload 28 hX dX4_goOn_26 rfl rfl ?_
      refine AW_iconst 29 hX dX4_goOn_28 rfl ic_3 ?_
      refine AW_icmp_gt 32 96 hX dX4_goOn_29 rfl (by decide) (fun c29 => ?_) (fun c29 => absurd (nI_lt (a := 3) (b := c) (by omega) (by omega)) c29)
      refine AW_vret hX hE dX4_goOn_96 (Nat.le_refl _) (Nat.le_refl _) ?_
      exact h0 h' N' Qs' par' cb' dp' hr' hI' hd' hi' (BN_next hN' (fun _ c' hc' hm => by have := hm.1; omega)) hP' hL' hfr
    | succ d ih =>
      intro c hc h' N' Qs' par' cb' dp' z hr' hI' hd' hi' hu' hdi' hN' hP' hL' hfr
      have hra' := hr'.1
      have gg' := gr_fr gg hfr (by omega)
      have hga' := gg'.1
      obtain ⟨hN144', hlt'⟩ := BI_144 hB hn12 hI' hs1 hs2
      refine AW_iload 28 hX dX4_goOn_26 rfl rfl ?_
      refine AW_iconst 29 hX dX4_goOn_28 rfl ic_3 ?_
      refine AW_icmp_gt 32 96 hX dX4_goOn_29 rfl (by decide) (fun c29 => absurd c29 (nI_nlt (a := 3) (b := c) (by omega) (by omega))) (fun c29 => ?_)
      refine AW_iload 34 hX dX4_goOn_32 rfl rfl ?_
      refine AW_iload 36 hX dX4_goOn_34 rfl rfl ?_
      refine AW_iadd 37 hX dX4_goOn_36 rfl ?_
      refine AW_iload 39 hX dX4_goOn_37 rfl rfl ?_
      rw [nI_add]
      refine AW_icmp_gt 42 96 hX dX4_goOn_39 rfl (by decide) (fun c39 => ?_) (fun c39 => ?_)
      · refine AW_vret hX hE dX4_goOn_96 (Nat.le_refl _) (Nat.le_refl _) ?_
        have hpl := iLt c39
        exact h0 h' N' Qs' par' cb' dp' hr' hI' hd' hi' (BN_next hN' (fun _ c' hc' hm => by have := hm.2.1; rw [hu'] at this; omega)) hP' hL' hfr
      · refine AW_aload_n 43 hX dX4_goOn_42 rfl rfl ?_
        refine AW_get 46 hX dX4_goOn_43 rfl fl_X4_28 (by first | assumption | exact hset_eq | exact (hset_ne (by omega)).trans (by first | assumption | exact hset_eq | exact (hset_ne (by omega)).trans (by first | assumption | exact hset_eq | exact (hset_ne (by omega)).trans (by first | assumption | exact hset_eq | exact (hset_ne (by omega)).trans (by first | assumption | exact hset_eq))))) rfl ?_
        refine AW_iconst 47 hX dX4_goOn_46 rfl ic_m1 ?_
        refine AW_icmp_ne 50 96 hX dX4_goOn_47 rfl (by decide) (fun c47 => absurd rfl c47) (fun c47 => ?_)
        refine AW_aload_n 51 hX dX4_goOn_50 rfl rfl ?_
        refine AW_iload 53 hX dX4_goOn_51 rfl rfl ?_
        refine AW_iload 55 hX dX4_goOn_53 rfl rfl ?_
        refine AW_iadd 56 hX dX4_goOn_55 rfl ?_
        rw [nI_add]
        refine AW_cV (As := [_]) 59 hX dX4_goOn_56 rfl ml_X4_56 mw_X0_kindAt (by first | assumption | exact hset_eq | exact (hset_ne (by omega)).trans (by first | assumption | exact hset_eq | exact (hset_ne (by omega)).trans (by first | assumption | exact hset_eq | exact (hset_ne (by omega)).trans (by first | assumption | exact hset_eq | exact (hset_ne (by omega)).trans (by first | assumption | exact hset_eq))))) (by decide) rfl rfl rfl (Nat.le_of_ble_eq_true rfl) (by decide) ⟨(Nat.le_refl _), (Nat.le_refl _)⟩ (c_kindAt gg' (by have := iNlt c39; omega) ?_)
        rw [hks _ (by have := iNlt c39; omega)]
        refine AW_iload 61 hX dX4_goOn_59 rfl rfl ?_
        refine AW_iload 63 hX dX4_goOn_61 rfl rfl ?_
        refine AW_cS (As := [_, _, _]) 66 hX dX4_goOn_63 rfl ml_X4_59 mw_X2_swayAfter rfl rfl (Nat.le_of_ble_eq_true rfl) (by decide) ⟨(Nat.le_refl _), (Nat.le_refl _)⟩ (c_swayAfter _ (u % 12) c (hk4 _ (by have := iNlt c39; omega)) (by omega) (by omega) ?_)
        refine AW_istore 68 hX dX4_goOn_66 rfl (Nat.le_of_ble_eq_true rfl) rfl ?_
        refine AW_iload 70 hX dX4_goOn_68 rfl rfl ?_
        refine AW_iload_n 71 hX dX4_goOn_70 rfl rfl ?_
        have hpl : u / 12 + c ≤ n - 1 := iNlt c39
        have hsa := sa_le (k := ks (u / 12 + c)) (s := u % 12) (far := c) (by omega)
        have htve : (u / 12 + c) * 12 + sa (ks (u / 12 + c)) (u % 12) c = tv ks u c := by simp only [tv]; omega
        refine AW_icmp_gt 74 90 hX dX4_goOn_71 rfl (by decide) (fun c71 => ?_) (fun c71 => ?_)
        · refine AW_iinc 93 hX dX4_goOn_90 rfl rfl (iincp ic_1) (Nat.le_of_ble_eq_true rfl) rfl ?_
          refine AW_goto 26 hX dX4_goOn_93 (by decide) ?_
          rw [nI_1]
          have hgt := iLt c71
          exact ih (c + 1) (by omega) h' N' Qs' par' cb' dp' _ hr' hI' hd' hi' hu' hdi' (BN_old hN' (fun hm => by have := hm.2.2; rw [hu'] at this; omega)) hP' hL' hfr
        · refine AW_aload_n 75 hX dX4_goOn_74 rfl rfl ?_
          refine AW_iload 77 hX dX4_goOn_75 rfl rfl ?_
          refine AW_iload 79 hX dX4_goOn_77 rfl rfl ?_
          refine AW_iadd 80 hX dX4_goOn_79 rfl ?_
          rw [nI_add]
          refine AW_iload 82 hX dX4_goOn_80 rfl rfl ?_
          refine AW_iload_n 83 hX dX4_goOn_82 rfl rfl ?_
          refine AW_iload 85 hX dX4_goOn_83 rfl rfl ?_
          refine AW_iload 87 hX dX4_goOn_85 rfl rfl ?_
          refine AW_cV (As := [_, _, _, _, _]) 90 hX dX4_goOn_87 rfl ml_X4_37 mw_X4_reach (by first | assumption | exact hset_eq | exact (hset_ne (by omega)).trans (by first | assumption | exact hset_eq | exact (hset_ne (by omega)).trans (by first | assumption | exact hset_eq | exact (hset_ne (by omega)).trans (by first | assumption | exact hset_eq | exact (hset_ne (by omega)).trans (by first | assumption | exact hset_eq))))) (by decide) rfl rfl rfl (Nat.le_of_ble_eq_true rfl) (by decide) ⟨(Nat.le_refl _), (Nat.le_refl _)⟩ (c_reach hr' hI'.2.2.1 hlt' hd' (fun t h0 ht => by have := (hI'.2.1 t h0 ht).1; omega) (u / 12 + c) _ c (n - 1) i (dp' i + 1) _ (by omega) (by have := iNlt c71; omega) (by omega) (fun e => by omega) (fun _ => ⟨hi', by rw [hu'], rfl⟩) (fun t ht e => ?_) (fun h2 hnew hr2 hfr2 => ?_))
          · refine AW_iinc 93 hX dX4_goOn_90 rfl rfl (iincp ic_1) (Nat.le_of_ble_eq_true rfl) rfl ?_
            refine AW_goto 26 hX dX4_goOn_93 (by decide) ?_
            rw [nI_1]
            exact ih (c + 1) (by omega) h' N' Qs' par' cb' dp' _ hr' hI' hd' hi' hu' hdi' (BN_old hN' (fun hm => ⟨t, ht, by rw [hu', ← htve]; exact e⟩)) hP' hL' hfr
          · have hm : vm n ks B u c := ⟨by omega, by omega, iNlt c71⟩
            rw [htve] at hnew hr2
            have hI2 := BI_add (i := i) (c := c) hI' hi' hdi' (by rw [hu']; exact hm) (by rw [hu']; exact hnew) hN' hP'
            rw [hu'] at hI2
            have hd2 : ∀ t, t < N' + 1 → ap dp' N' (dp' i + 1) t ≤ 40 := fun t ht => by
              by_cases e : t = N'
              · subst e; rw [ap_eq]; omega
              · rw [ap_lt (by omega)]; exact hd' t (by omega)
            have htd := (tv_d (ks := ks) (u := u) (c := c) hB hm.2.2).1
            refine AW_iinc 93 hX dX4_goOn_90 rfl rfl (iincp ic_1) (Nat.le_of_ble_eq_true rfl) rfl ?_
            refine AW_goto 26 hX dX4_goOn_93 (by decide) ?_
            rw [nI_1]
            by_cases hpe : u / 12 + c = n - 1
            · rw [if_pos hpe] at hr2
              refine ended h2 _ _ (c + 1) _ hr2.1 (m1n _ (by have := hm.2.2; rw [← htve]; omega)) ?_
              refine h1 h2 (N' + 1) _ _ _ _ ?_ hI2 hd2 ?_ (fun t ht => ?_) (fr_tr hfr hfr2)
              · rw [show N' + 1 - 1 = N' by omega, ap_eq]
                exact hr2
              · rw [show N' + 1 - 1 = N' by omega, ap_eq, htd]
                exact hpe
              · rw [ap_lt (by omega)]
                exact hL' t (by omega)
            · rw [if_neg hpe] at hr2
              refine ih (c + 1) (by omega) h2 (N' + 1) _ _ _ _ _ hr2 hI2 hd2 (by omega) (by rw [ap_lt hi']; exact hu') (by rw [ap_lt hi']; exact hdi') (BN_add hN' hi' (by rw [hu'])) (fun t h3 h4 => ?_) (fun t ht => ?_) (fr_tr hfr hfr2)
              · by_cases e : t = N'
                · subst e; rw [ap_eq]; exact Nat.le_refl _
                · rw [ap_lt (by omega)]; exact hP' t h3 (by omega)
              · by_cases e : t = N'
                · subst e; rw [ap_eq, htd]; exact hpe
                · rw [ap_lt (by omega)]; exact hL' t (by omega)
  refine AW_aload_n 1 hX dX4_goOn_0 rfl rfl ?_
  refine AW_iload_n 2 hX dX4_goOn_1 rfl rfl ?_
  refine AW_cV (As := [_]) 5 hX dX4_goOn_2 rfl ml_X4_49 mw_X4_stepsOf (by first | assumption | exact hset_eq | exact (hset_ne (by omega)).trans (by first | assumption | exact hset_eq | exact (hset_ne (by omega)).trans (by first | assumption | exact hset_eq | exact (hset_ne (by omega)).trans (by first | assumption | exact hset_eq | exact (hset_ne (by omega)).trans (by first | assumption | exact hset_eq))))) (by decide) rfl rfl rfl (Nat.le_of_ble_eq_true rfl) (by decide) ⟨(Nat.le_refl _), (Nat.le_refl _)⟩ (hu ▸ c_stepsOfY hr i hi (hlt i hi) ?_)
  refine AW_bipush 7 hX dX4_goOn_5 rfl bp_40 ?_
  refine AW_icmp_lt 10 11 hX dX4_goOn_7 rfl (by decide) (fun c7 => ?_) (fun c7 => ?_)
  · refine AW_iload_n 12 hX dX4_goOn_11 rfl rfl ?_
    refine AW_bipush 14 hX dX4_goOn_12 rfl bp_12 ?_
    refine AW_idiv 15 hX dX4_goOn_14 rfl (by decide) ?_
    rw [show (12 : Int32) = nI 12 from rfl, pk_div (by have := hlt i hi; omega) (by decide) (by decide)]
    refine AW_istore 17 hX dX4_goOn_15 rfl (Nat.le_of_ble_eq_true rfl) rfl ?_
    refine AW_iload_n 18 hX dX4_goOn_17 rfl rfl ?_
    refine AW_bipush 20 hX dX4_goOn_18 rfl bp_12 ?_
    refine AW_irem 21 hX dX4_goOn_20 rfl (by decide) ?_
    rw [show (12 : Int32) = nI 12 from rfl, pk_rem (by have := hlt i hi; omega) (by decide) (by decide)]
    refine AW_istore 23 hX dX4_goOn_21 rfl (Nat.le_of_ble_eq_true rfl) rfl ?_
    refine AW_iconst 24 hX dX4_goOn_23 rfl ic_0 ?_
    refine AW_istore 26 hX dX4_goOn_24 rfl (Nat.le_of_ble_eq_true rfl) rfl ?_
    exact loop 4 0 (by omega) h N Qs par cb dp none hr hI hd40 hi hu (iLt (b := 40) c7 (by have := hd40 i hi; omega)) hN hP hL (fr_rf _ _ _)
  · refine AW_vret hX hE dX4_goOn_10 (Nat.le_refl _) (Nat.le_refl _) ?_
    have hge := iNlt (b := 40) c7 (by have := hd40 i hi; omega)
    exact h0 h N Qs par cb dp hr hI hd40 hi (BN_next hN (fun hlt2 => by omega)) hP hL (fr_rf _ _ _)
set_option maxRecDepth 100000 in
set_option maxHeartbeats 4000000 in
theorem c_fewest {h : AH} {K : Option Value → AH → Prop} {r : Nat} (hr : rtA h r) {a n : Nat} {f : Nat → Int32} {ks : Nat → Nat} (gg : gr h a n f) (hks : ∀ j, j < n → f j = nI (ks j)) (hk4 : ∀ j, j < n → ks j ≤ 4) (hab : a + 2 ≤ r ∨ r + 5 ≤ a) (hn : 0 < n) (ht p s : Nat) (hh1 : 1 ≤ ht) (hh9 : ht ≤ 12) (hp : p < n) (hs : s ≤ 12 - ht) (h1 : ∀ (h' : AH) (N : Nat) (Qs par cb dp : Nat → Nat), rtC h' r N Qs par cb dp (nI (Qs (N - 1))) → BI n ks (12 - ht) (12 * p + s) N Qs par cb dp → (∀ t, t < N → dp t ≤ 40) → (∀ t, t < N → Qs t < 144) → Qs (N - 1) / 12 = n - 1 → (∀ t, t < N - 1 → Qs t / 12 ≠ n - 1) → fr h h' r (r + 5) → K (some (.int (nI (dp (N - 1))))) h') (h0 : ∀ (h' : AH) (N : Nat) (Qs par cb dp : Nat → Nat), rtC h' r N Qs par cb dp (-1) → (∀ k, k ≤ 40 → ¬ can n ks (12 - ht) k (12 * p + s)) → fr h h' r (r + 5) → K (some (.int (-1))) h') : aX4_fewest 4 [.ref r, .ref a, .int (nI ht), .int (nI p), .int (nI s)] h K := by
  have hn12 := gg.2.2
  obtain ⟨x, y, q1, q2, q3, q4, ha, a1, a2, a3, a4⟩ := id hr
  have hga := gg.1
  have hB : 12 - ht ≤ 11 := by omega
  have hs1 : (12 * p + s) / 12 < n := by omega
  have hs2 : (12 * p + s) % 12 ≤ 12 - ht := by omega
  refine AM.of [some (.ref r), some (.ref a), some (.int (nI ht)), some (.int (nI p)), some (.int (nI s)), none, none] pn_X4_fewest rfl (Nat.le_of_ble_eq_true rfl) (fun X hX hE => ?_)
  -- found: from the loop's head
  have found : ∀ (h' : AH) (N : Nat) (Qs par cb dp : Nat → Nat) (i : Nat), rtC h' r N Qs par cb dp (nI (Qs (N - 1))) → BI n ks (12 - ht) (12 * p + s) N Qs par cb dp → (∀ t, t < N → dp t ≤ 40) → Qs (N - 1) / 12 = n - 1 → (∀ t, t < N - 1 → Qs t / 12 ≠ n - 1) → fr h h' r (r + 5) → AW X 0 0 57 [some (.ref r), some (.ref a), some (.int (nI ht)), some (.int (nI p)), some (.int (nI s)), some (.int (nI (n - 1))), some (.int (nI i))] [] h' := by
    intro h' N Qs par cb dp i hr' hI' hd' hE' hL' hfr
    obtain ⟨hN144', hlt'⟩ := BI_144 hB hn12 hI' hs1 hs2
    have hra' := hr'.1
    have hNp := hI'.1.1
    refine AW_iload 59 hX dX4_fewest_57 rfl rfl ?_
    refine AW_aload_n 60 hX dX4_fewest_59 rfl rfl ?_
    refine AW_get 63 hX dX4_fewest_60 rfl fl_X4_24 (by first | assumption | exact hset_eq | exact (hset_ne (by omega)).trans (by first | assumption | exact hset_eq | exact (hset_ne (by omega)).trans (by first | assumption | exact hset_eq | exact (hset_ne (by omega)).trans (by first | assumption | exact hset_eq | exact (hset_ne (by omega)).trans (by first | assumption | exact hset_eq))))) rfl ?_
    refine AW_icmp_ge 66 106 hX dX4_fewest_63 rfl (by decide) (fun c63 => ?_) (fun c63 => ?_)
    · refine AW_aload_n 107 hX dX4_fewest_106 rfl rfl ?_
      refine AW_aload_n 108 hX dX4_fewest_107 rfl rfl ?_
      refine AW_get 111 hX dX4_fewest_108 rfl fl_X4_28 (by first | assumption | exact hset_eq | exact (hset_ne (by omega)).trans (by first | assumption | exact hset_eq | exact (hset_ne (by omega)).trans (by first | assumption | exact hset_eq | exact (hset_ne (by omega)).trans (by first | assumption | exact hset_eq | exact (hset_ne (by omega)).trans (by first | assumption | exact hset_eq))))) rfl ?_
      refine AW_cV (As := [_]) 114 hX dX4_fewest_111 rfl ml_X4_49 mw_X4_stepsOf (by first | assumption | exact hset_eq | exact (hset_ne (by omega)).trans (by first | assumption | exact hset_eq | exact (hset_ne (by omega)).trans (by first | assumption | exact hset_eq | exact (hset_ne (by omega)).trans (by first | assumption | exact hset_eq | exact (hset_ne (by omega)).trans (by first | assumption | exact hset_eq))))) (by decide) rfl rfl rfl (Nat.le_of_ble_eq_true rfl) (by decide) ⟨(Nat.le_refl _), (Nat.le_refl _)⟩ (c_stepsOfY hr' (N - 1) (by omega) (hlt' _ (by omega)) ?_)
      refine AW_iret hX hE dX4_fewest_114 rfl (Nat.le_refl _) (Nat.le_refl _) ?_
      exact h1 h' N Qs par cb dp hr' hI' hd' hlt' hE' hL' hfr
    · refine AW_iload 68 hX dX4_fewest_66 rfl rfl ?_
      refine AW_sipush 71 hX dX4_fewest_68 rfl sp_144 ?_
      refine AW_icmp_ge 74 106 hX dX4_fewest_71 rfl (by decide) (fun c71 => ?_) (fun c71 => ?_)
      · refine AW_aload_n 107 hX dX4_fewest_106 rfl rfl ?_
        refine AW_aload_n 108 hX dX4_fewest_107 rfl rfl ?_
        refine AW_get 111 hX dX4_fewest_108 rfl fl_X4_28 (by first | assumption | exact hset_eq | exact (hset_ne (by omega)).trans (by first | assumption | exact hset_eq | exact (hset_ne (by omega)).trans (by first | assumption | exact hset_eq | exact (hset_ne (by omega)).trans (by first | assumption | exact hset_eq | exact (hset_ne (by omega)).trans (by first | assumption | exact hset_eq))))) rfl ?_
        refine AW_cV (As := [_]) 114 hX dX4_fewest_111 rfl ml_X4_49 mw_X4_stepsOf (by first | assumption | exact hset_eq | exact (hset_ne (by omega)).trans (by first | assumption | exact hset_eq | exact (hset_ne (by omega)).trans (by first | assumption | exact hset_eq | exact (hset_ne (by omega)).trans (by first | assumption | exact hset_eq | exact (hset_ne (by omega)).trans (by first | assumption | exact hset_eq))))) (by decide) rfl rfl rfl (Nat.le_of_ble_eq_true rfl) (by decide) ⟨(Nat.le_refl _), (Nat.le_refl _)⟩ (c_stepsOfY hr' (N - 1) (by omega) (hlt' _ (by omega)) ?_)
        refine AW_iret hX hE dX4_fewest_114 rfl (Nat.le_refl _) (Nat.le_refl _) ?_
        exact h1 h' N Qs par cb dp hr' hI' hd' hlt' hE' hL' hfr
      · refine AW_aload_n 75 hX dX4_fewest_74 rfl rfl ?_
        refine AW_get 78 hX dX4_fewest_75 rfl fl_X4_28 (by first | assumption | exact hset_eq | exact (hset_ne (by omega)).trans (by first | assumption | exact hset_eq | exact (hset_ne (by omega)).trans (by first | assumption | exact hset_eq | exact (hset_ne (by omega)).trans (by first | assumption | exact hset_eq | exact (hset_ne (by omega)).trans (by first | assumption | exact hset_eq))))) rfl ?_
        refine AW_iconst 79 hX dX4_fewest_78 rfl ic_m1 ?_
        refine AW_icmp_ne 82 106 hX dX4_fewest_79 rfl (by decide) (fun c79 => ?_) (fun c79 => absurd c79 (m1n _ (hlt' _ (by omega))))
        refine AW_aload_n 107 hX dX4_fewest_106 rfl rfl ?_
        refine AW_aload_n 108 hX dX4_fewest_107 rfl rfl ?_
        refine AW_get 111 hX dX4_fewest_108 rfl fl_X4_28 (by first | assumption | exact hset_eq | exact (hset_ne (by omega)).trans (by first | assumption | exact hset_eq | exact (hset_ne (by omega)).trans (by first | assumption | exact hset_eq | exact (hset_ne (by omega)).trans (by first | assumption | exact hset_eq | exact (hset_ne (by omega)).trans (by first | assumption | exact hset_eq))))) rfl ?_
        refine AW_cV (As := [_]) 114 hX dX4_fewest_111 rfl ml_X4_49 mw_X4_stepsOf (by first | assumption | exact hset_eq | exact (hset_ne (by omega)).trans (by first | assumption | exact hset_eq | exact (hset_ne (by omega)).trans (by first | assumption | exact hset_eq | exact (hset_ne (by omega)).trans (by first | assumption | exact hset_eq | exact (hset_ne (by omega)).trans (by first | assumption | exact hset_eq))))) (by decide) rfl rfl rfl (Nat.le_of_ble_eq_true rfl) (by decide) ⟨(Nat.le_refl _), (Nat.le_refl _)⟩ (c_stepsOfY hr' (N - 1) (by omega) (hlt' _ (by omega)) ?_)
        refine AW_iret hX hE dX4_fewest_114 rfl (Nat.le_refl _) (Nat.le_refl _) ?_
        exact h1 h' N Qs par cb dp hr' hI' hd' hlt' hE' hL' hfr
  have loop : ∀ d i, i + d = 144 → ∀ (h' : AH) (N : Nat) (Qs par cb dp : Nat → Nat), rtC h' r N Qs par cb dp (-1) → BI n ks (12 - ht) (12 * p + s) N Qs par cb dp → (∀ t, t < N → dp t ≤ 40) → i ≤ N → BN n ks (12 - ht) N Qs dp i 0 → BP N par i → (∀ t, t < N → Qs t / 12 ≠ n - 1) → fr h h' r (r + 5) → AW X 0 0 57 [some (.ref r), some (.ref a), some (.int (nI ht)), some (.int (nI p)), some (.int (nI s)), some (.int (nI (n - 1))), some (.int (nI i))] [] h' := by
    intro d
    induction d with
    | zero =>
      intro i hi h' N Qs par cb dp hr' hI' hd' hiN hN' hP' hL' hfr
      obtain ⟨hN144', hlt'⟩ := BI_144 hB hn12 hI' hs1 hs2
      have hra' := hr'.1
      refine AW_iload 59 hX dX4_fewest_57 rfl rfl ?_
      refine AW_aload_n 60 hX dX4_fewest_59 rfl rfl ?_
      refine AW_get 63 hX dX4_fewest_60 rfl fl_X4_24 (by first | assumption | exact hset_eq | exact (hset_ne (by omega)).trans (by first | assumption | exact hset_eq | exact (hset_ne (by omega)).trans (by first | assumption | exact hset_eq | exact (hset_ne (by omega)).trans (by first | assumption | exact hset_eq | exact (hset_ne (by omega)).trans (by first | assumption | exact hset_eq))))) rfl ?_
      refine AW_icmp_ge 66 106 hX dX4_fewest_63 rfl (by decide) (fun c63 => ?_) (fun c63 => absurd (nI_le (by omega) (by omega)) c63)
      refine AW_aload_n 107 hX dX4_fewest_106 rfl rfl ?_
      refine AW_aload_n 108 hX dX4_fewest_107 rfl rfl ?_
      refine AW_get 111 hX dX4_fewest_108 rfl fl_X4_28 (by first | assumption | exact hset_eq | exact (hset_ne (by omega)).trans (by first | assumption | exact hset_eq | exact (hset_ne (by omega)).trans (by first | assumption | exact hset_eq | exact (hset_ne (by omega)).trans (by first | assumption | exact hset_eq | exact (hset_ne (by omega)).trans (by first | assumption | exact hset_eq))))) rfl ?_
      refine AW_cV (As := [_]) 114 hX dX4_fewest_111 rfl ml_X4_49 mw_X4_stepsOf (by first | assumption | exact hset_eq | exact (hset_ne (by omega)).trans (by first | assumption | exact hset_eq | exact (hset_ne (by omega)).trans (by first | assumption | exact hset_eq | exact (hset_ne (by omega)).trans (by first | assumption | exact hset_eq | exact (hset_ne (by omega)).trans (by first | assumption | exact hset_eq))))) (by decide) rfl rfl rfl (Nat.le_of_ble_eq_true rfl) (by decide) ⟨(Nat.le_refl _), (Nat.le_refl _)⟩ (c_stepsOfN ?_)
      refine AW_iret hX hE dX4_fewest_114 rfl (Nat.le_refl _) (Nat.le_refl _) ?_
      have e : i = N := by omega
      subst e
      exact h0 h' i Qs par cb dp hr' (bfs_not hI' hN' hL') hfr
    | succ d ih =>
      intro i hi h' N Qs par cb dp hr' hI' hd' hiN hN' hP' hL' hfr
      obtain ⟨hN144', hlt'⟩ := BI_144 hB hn12 hI' hs1 hs2
      have hra' := hr'.1
      have gg' := gr_fr gg hfr (by omega)
      obtain ⟨-, k1, k2, k3, k4, b1, b2, b3, b4, hq', -⟩ := id hr'
      refine AW_iload 59 hX dX4_fewest_57 rfl rfl ?_
      refine AW_aload_n 60 hX dX4_fewest_59 rfl rfl ?_
      refine AW_get 63 hX dX4_fewest_60 rfl fl_X4_24 (by first | assumption | exact hset_eq | exact (hset_ne (by omega)).trans (by first | assumption | exact hset_eq | exact (hset_ne (by omega)).trans (by first | assumption | exact hset_eq | exact (hset_ne (by omega)).trans (by first | assumption | exact hset_eq | exact (hset_ne (by omega)).trans (by first | assumption | exact hset_eq))))) rfl ?_
      refine AW_icmp_ge 66 106 hX dX4_fewest_63 rfl (by decide) (fun c63 => ?_) (fun c63 => ?_)
      · refine AW_aload_n 107 hX dX4_fewest_106 rfl rfl ?_
        refine AW_aload_n 108 hX dX4_fewest_107 rfl rfl ?_
        refine AW_get 111 hX dX4_fewest_108 rfl fl_X4_28 (by first | assumption | exact hset_eq | exact (hset_ne (by omega)).trans (by first | assumption | exact hset_eq | exact (hset_ne (by omega)).trans (by first | assumption | exact hset_eq | exact (hset_ne (by omega)).trans (by first | assumption | exact hset_eq | exact (hset_ne (by omega)).trans (by first | assumption | exact hset_eq))))) rfl ?_
        refine AW_cV (As := [_]) 114 hX dX4_fewest_111 rfl ml_X4_49 mw_X4_stepsOf (by first | assumption | exact hset_eq | exact (hset_ne (by omega)).trans (by first | assumption | exact hset_eq | exact (hset_ne (by omega)).trans (by first | assumption | exact hset_eq | exact (hset_ne (by omega)).trans (by first | assumption | exact hset_eq | exact (hset_ne (by omega)).trans (by first | assumption | exact hset_eq))))) (by decide) rfl rfl rfl (Nat.le_of_ble_eq_true rfl) (by decide) ⟨(Nat.le_refl _), (Nat.le_refl _)⟩ (c_stepsOfN ?_)
        refine AW_iret hX hE dX4_fewest_114 rfl (Nat.le_refl _) (Nat.le_refl _) ?_
        have e : i = N := by have := iLe c63; omega
        subst e
        exact h0 h' i Qs par cb dp hr' (bfs_not hI' hN' hL') hfr
      · refine AW_iload 68 hX dX4_fewest_66 rfl rfl ?_
        refine AW_sipush 71 hX dX4_fewest_68 rfl sp_144 ?_
        refine AW_icmp_ge 74 106 hX dX4_fewest_71 rfl (by decide) (fun c71 => absurd c71 (nI_ge (a := i) (b := 144) (by omega) (by decide))) (fun c71 => ?_)
        refine AW_aload_n 75 hX dX4_fewest_74 rfl rfl ?_
        refine AW_get 78 hX dX4_fewest_75 rfl fl_X4_28 (by first | assumption | exact hset_eq | exact (hset_ne (by omega)).trans (by first | assumption | exact hset_eq | exact (hset_ne (by omega)).trans (by first | assumption | exact hset_eq | exact (hset_ne (by omega)).trans (by first | assumption | exact hset_eq | exact (hset_ne (by omega)).trans (by first | assumption | exact hset_eq))))) rfl ?_
        refine AW_iconst 79 hX dX4_fewest_78 rfl ic_m1 ?_
        refine AW_icmp_ne 82 106 hX dX4_fewest_79 rfl (by decide) (fun c79 => absurd rfl c79) (fun c79 => ?_)
        refine AW_aload_n 83 hX dX4_fewest_82 rfl rfl ?_
        refine AW_aload_n 84 hX dX4_fewest_83 rfl rfl ?_
        refine AW_iload_n 85 hX dX4_fewest_84 rfl rfl ?_
        refine AW_cSN (As := [_]) 88 hX dX4_fewest_85 rfl mn_X4_41 mw_X6_bearable rfl rfl (Nat.le_of_ble_eq_true rfl) (by decide) ⟨(Nat.le_refl _), (Nat.le_refl _)⟩ (c_bearable ht hh9 ?_)
        refine AW_aload_n 89 hX dX4_fewest_88 rfl rfl ?_
        refine AW_get 92 hX dX4_fewest_89 rfl fl_X4_11 (by first | assumption | exact hset_eq | exact (hset_ne (by omega)).trans (by first | assumption | exact hset_eq | exact (hset_ne (by omega)).trans (by first | assumption | exact hset_eq | exact (hset_ne (by omega)).trans (by first | assumption | exact hset_eq | exact (hset_ne (by omega)).trans (by first | assumption | exact hset_eq))))) rfl ?_
        refine AW_iload 94 hX dX4_fewest_92 rfl rfl ?_
        refine AW_iald 95 hX dX4_fewest_94 rfl (by first | assumption | exact hset_eq | exact (hset_ne (by omega)).trans (by first | assumption | exact hset_eq | exact (hset_ne (by omega)).trans (by first | assumption | exact hset_eq | exact (hset_ne (by omega)).trans (by first | assumption | exact hset_eq | exact (hset_ne (by omega)).trans (by first | assumption | exact hset_eq))))) (j := i) (by omega) rfl ?_
        have hiN2 := iNle c63
        rw [(hq' i hiN2).1]
        refine AW_iload 97 hX dX4_fewest_95 rfl rfl ?_
        refine AW_cV (As := [_, _, _, _]) 100 hX dX4_fewest_97 rfl ml_X4_45 mw_X4_goOn (by first | assumption | exact hset_eq | exact (hset_ne (by omega)).trans (by first | assumption | exact hset_eq | exact (hset_ne (by omega)).trans (by first | assumption | exact hset_eq | exact (hset_ne (by omega)).trans (by first | assumption | exact hset_eq | exact (hset_ne (by omega)).trans (by first | assumption | exact hset_eq))))) (by decide) rfl rfl rfl (Nat.le_of_ble_eq_true rfl) (by decide) ⟨(Nat.le_refl _), (Nat.le_refl _)⟩ (c_goOn hr' gg' hks hk4 hab hB hI' hs1 hs2 hd' i hiN2 hN' hP' hL' (fun h2 N2 Q2 p2 c2 d2 hr2 hI2 hd2 hi2 hN2 hP2 hL2 hfr2 => ?_) (fun h2 N2 Q2 p2 c2 d2 hr2 hI2 hd2 hE2 hL2 hfr2 => ?_))
        · refine AW_iinc 103 hX dX4_fewest_100 rfl rfl (iincp ic_1) (Nat.le_of_ble_eq_true rfl) rfl ?_
          refine AW_goto 57 hX dX4_fewest_103 (by decide) ?_
          rw [nI_1]
          exact ih (i + 1) (by omega) h2 N2 Q2 p2 c2 d2 hr2 hI2 hd2 hi2 hN2 (fun t a b => Nat.le_succ_of_le (hP2 t a b)) hL2 (fr_tr hfr hfr2)
        · refine AW_iinc 103 hX dX4_fewest_100 rfl rfl (iincp ic_1) (Nat.le_of_ble_eq_true rfl) rfl ?_
          refine AW_goto 57 hX dX4_fewest_103 (by decide) ?_
          rw [nI_1]
          exact found h2 N2 Q2 p2 c2 d2 (i + 1) hr2 hI2 hd2 hE2 hL2 (fr_tr hfr hfr2)
  -- behind the filling
  have start : ∀ (h' : AH) (z : Option Value), rtC h' r 0 (fun _ => 0) (fun _ => 0) (fun _ => 0) (fun _ => 0) (-1) → fr h h' r (r + 5) → AW X 0 0 35 [some (.ref r), some (.ref a), some (.int (nI ht)), some (.int (nI p)), some (.int (nI s)), z, none] [] h' := by
    intro h' z hr' hfr
    have hra' := hr'.1
    have gg' := gr_fr gg hfr (by omega)
    have hga' := gg'.1
    refine AW_aload_n 36 hX dX4_fewest_35 rfl rfl ?_
    refine AW_cV (As := []) 39 hX dX4_fewest_36 rfl ml_X4_31 mw_X0_places (by first | assumption | exact hset_eq | exact (hset_ne (by omega)).trans (by first | assumption | exact hset_eq | exact (hset_ne (by omega)).trans (by first | assumption | exact hset_eq | exact (hset_ne (by omega)).trans (by first | assumption | exact hset_eq | exact (hset_ne (by omega)).trans (by first | assumption | exact hset_eq))))) (by decide) rfl rfl rfl (Nat.le_of_ble_eq_true rfl) (by decide) ⟨(Nat.le_refl _), (Nat.le_refl _)⟩ (c_places hga' ?_)
    refine AW_iconst 40 hX dX4_fewest_39 rfl ic_1 ?_
    refine AW_isub 41 hX dX4_fewest_40 rfl ?_
    rw [show (1 : Int32) = nI 1 from rfl, pk_sub (by omega)]
    refine AW_istore 43 hX dX4_fewest_41 rfl (Nat.le_of_ble_eq_true rfl) rfl ?_
    refine AW_aload_n 44 hX dX4_fewest_43 rfl rfl ?_
    refine AW_iload_n 45 hX dX4_fewest_44 rfl rfl ?_
    refine AW_iload 47 hX dX4_fewest_45 rfl rfl ?_
    refine AW_iconst 48 hX dX4_fewest_47 rfl ic_m1 ?_
    refine AW_iconst 49 hX dX4_fewest_48 rfl ic_0 ?_
    refine AW_iload 51 hX dX4_fewest_49 rfl rfl ?_
    refine AW_cV (As := [_, _, _, _, _]) 54 hX dX4_fewest_51 rfl ml_X4_37 mw_X4_reach (by first | assumption | exact hset_eq | exact (hset_ne (by omega)).trans (by first | assumption | exact hset_eq | exact (hset_ne (by omega)).trans (by first | assumption | exact hset_eq | exact (hset_ne (by omega)).trans (by first | assumption | exact hset_eq | exact (hset_ne (by omega)).trans (by first | assumption | exact hset_eq))))) (by decide) rfl rfl rfl (Nat.le_of_ble_eq_true rfl) (by decide) ⟨(Nat.le_refl _), (Nat.le_refl _)⟩ (c_reach hr' (fun a b ha => by omega) (fun t ht => by omega) (fun t ht => by omega) (fun t _ ht => by omega) p s 0 (n - 1) 0 0 (-1) (by omega) (by omega) (by omega) (fun _ => ⟨rfl, rfl⟩) (fun e => by omega) (fun t ht => by omega) (fun h2 hnew hr2 hfr2 => ?_))
    rw [show p * 12 + s = 12 * p + s by omega] at hr2
    have hI2 : BI n ks (12 - ht) (12 * p + s) 1 (ap (fun _ => 0) 0 (12 * p + s)) (ap (fun _ => 0) 0 0) (ap (fun _ => 0) 0 0) (ap (fun _ => 0) 0 0) := BI_0 _ _ _ _ _ _ _ _ ap_eq ap_eq
    have hd2 : ∀ t, t < 1 → ap (fun _ : Nat => 0) 0 0 t ≤ 40 := fun t ht => by rw [show t = 0 by omega, ap_eq]; omega
    refine AW_iconst 55 hX dX4_fewest_54 rfl ic_0 ?_
    refine AW_istore 57 hX dX4_fewest_55 rfl (Nat.le_of_ble_eq_true rfl) rfl ?_
    by_cases hpe : p = n - 1
    · rw [if_pos hpe] at hr2
      refine found h2 1 _ _ _ _ 0 ?_ hI2 hd2 ?_ (fun t ht => by omega) (fr_tr hfr hfr2)
      · rw [show (1 : Nat) - 1 = 0 from rfl, ap_eq]
        exact hr2
      · rw [show (1 : Nat) - 1 = 0 from rfl, ap_eq]
        omega
    · rw [if_neg hpe] at hr2
      refine loop 144 0 (by omega) h2 1 _ _ _ _ hr2 hI2 hd2 (by omega) (fun j c' hj => by omega) (fun t h3 h4 => by omega) (fun t ht => ?_) (fr_tr hfr hfr2)
      rw [show t = 0 by omega, ap_eq]
      omega
  have fill : ∀ d i, i + d = 144 → ∀ (h' : AH) (k2 : Nat → Int32), h' r = some (.inl (3, [.ref (r + 1), .ref (r + 2), .ref (r + 3), .ref (r + 4), .int 0, .int (-1)])) → h' (r + 1) = some (.inr (0, 144, q1)) → h' (r + 2) = some (.inr (0, 144, k2)) → h' (r + 3) = some (.inr (0, 144, q3)) → h' (r + 4) = some (.inr (0, 144, q4)) → (∀ j, j < i → k2 j = -1) → fr h h' r (r + 5) → AW X 0 0 13 [some (.ref r), some (.ref a), some (.int (nI ht)), some (.int (nI p)), some (.int (nI s)), some (.int (nI i)), none] [] h' := by
    intro d
    induction d with
    | zero =>
      intro i hi h' k2 b0 b1 b2 b3 b4 hk hfr
      refine AW_iload 15 hX dX4_fewest_13 rfl rfl ?_
      refine AW_sipush 18 hX dX4_fewest_15 rfl sp_144 ?_
      refine AW_icmp_ge 21 35 hX dX4_fewest_18 rfl (by decide) (fun c18 => ?_) (fun c18 => absurd (nI_le (a := 144) (b := i) (by omega) (by omega)) c18)
      exact start h' _ ⟨b0, q1, k2, q3, q4, b1, b2, b3, b4, fun t ht => by omega, fun v hv _ => hk v (by omega)⟩ hfr
    | succ d ih =>
      intro i hi h' k2 b0 b1 b2 b3 b4 hk hfr
      refine AW_iload 15 hX dX4_fewest_13 rfl rfl ?_
      refine AW_sipush 18 hX dX4_fewest_15 rfl sp_144 ?_
      refine AW_icmp_ge 21 35 hX dX4_fewest_18 rfl (by decide) (fun c18 => absurd c18 (nI_ge (a := i) (b := 144) (by omega) (by decide))) (fun c18 => ?_)
      refine AW_aload_n 22 hX dX4_fewest_21 rfl rfl ?_
      refine AW_get 25 hX dX4_fewest_22 rfl fl_X4_15 (by first | assumption | exact hset_eq | exact (hset_ne (by omega)).trans (by first | assumption | exact hset_eq | exact (hset_ne (by omega)).trans (by first | assumption | exact hset_eq | exact (hset_ne (by omega)).trans (by first | assumption | exact hset_eq | exact (hset_ne (by omega)).trans (by first | assumption | exact hset_eq))))) rfl ?_
      refine AW_iload 27 hX dX4_fewest_25 rfl rfl ?_
      refine AW_iconst 28 hX dX4_fewest_27 rfl ic_m1 ?_
      refine AW_iast 29 hX dX4_fewest_28 rfl (by first | assumption | exact hset_eq | exact (hset_ne (by omega)).trans (by first | assumption | exact hset_eq | exact (hset_ne (by omega)).trans (by first | assumption | exact hset_eq | exact (hset_ne (by omega)).trans (by first | assumption | exact hset_eq | exact (hset_ne (by omega)).trans (by first | assumption | exact hset_eq))))) (j := i) (by omega) rfl ?_
      try rw [hset_hset]
      refine AW_iinc 32 hX dX4_fewest_29 rfl rfl (iincp ic_1) (Nat.le_of_ble_eq_true rfl) rfl ?_
      refine AW_goto 13 hX dX4_fewest_32 (by decide) ?_
      rw [nI_1]
      refine ih (i + 1) (by omega) _ (upd k2 i (-1)) ((hset_ne (by omega)).trans b0) ((hset_ne (by omega)).trans b1) hset_eq ((hset_ne (by omega)).trans b3) ((hset_ne (by omega)).trans b4) (fun j hj => ?_) (fr_tr hfr (fr_set (by omega) (by omega)))
      by_cases e : j = i
      · subst e; exact pk_us
      · rw [pk_un e]; exact hk j (by omega)
  refine AW_aload_n 1 hX dX4_fewest_0 rfl rfl ?_
  refine AW_iconst 2 hX dX4_fewest_1 rfl ic_0 ?_
  refine AW_put 5 hX dX4_fewest_2 rfl fl_X4_24 (by first | assumption | exact hset_eq | exact (hset_ne (by omega)).trans (by first | assumption | exact hset_eq | exact (hset_ne (by omega)).trans (by first | assumption | exact hset_eq | exact (hset_ne (by omega)).trans (by first | assumption | exact hset_eq | exact (hset_ne (by omega)).trans (by first | assumption | exact hset_eq))))) rfl (fun _ => rfl) (fun _ => rfl) (Nat.le_of_ble_eq_true rfl) ?_
  try rw [hset_hset]
  refine AW_aload_n 6 hX dX4_fewest_5 rfl rfl ?_
  refine AW_iconst 7 hX dX4_fewest_6 rfl ic_m1 ?_
  refine AW_put 10 hX dX4_fewest_7 rfl fl_X4_28 (by first | assumption | exact hset_eq | exact (hset_ne (by omega)).trans (by first | assumption | exact hset_eq | exact (hset_ne (by omega)).trans (by first | assumption | exact hset_eq | exact (hset_ne (by omega)).trans (by first | assumption | exact hset_eq | exact (hset_ne (by omega)).trans (by first | assumption | exact hset_eq))))) rfl (fun _ => rfl) (fun _ => rfl) (Nat.le_of_ble_eq_true rfl) ?_
  try rw [hset_hset]
  refine AW_iconst 11 hX dX4_fewest_10 rfl ic_0 ?_
  refine AW_istore 13 hX dX4_fewest_11 rfl (Nat.le_of_ble_eq_true rfl) rfl ?_
  exact fill 144 0 (by omega) _ q2 hset_eq ((hset_ne (by omega)).trans a1) ((hset_ne (by omega)).trans a2) ((hset_ne (by omega)).trans a3) ((hset_ne (by omega)).trans a4) (fun j hj => by omega) (fr_set (by omega) (by omega))
set_option maxRecDepth 100000 in
set_option maxHeartbeats 4000000 in
theorem c_farOfStep {h : AH} {K : Option Value → AH → Prop} {r N : Nat} {Qs par cb dp : Nat → Nat} (hr : rtC h r N Qs par cb dp (nI (Qs (N - 1)))) {n B st : Nat} {ks : Nat → Nat} (hI : BI n ks B st N Qs par cb dp) (hd40 : ∀ t, t < N → dp t ≤ 40) (hlt : ∀ t, t < N → Qs t < 144) (j : Nat) (hj1 : 1 ≤ j) (hj4 : j ≤ 4) (h1 : j ≤ dp (N - 1) → K (some (.int (nI (cb (chn par N (dp (N - 1) - j)))))) h) (h0 : dp (N - 1) < j → K (some (.int (-1))) h) : aX4_farOfStep 2 [.ref r, .int (nI j)] h K := by
  obtain ⟨ha, q1, q2, q3, q4, a1, a2, a3, a4, hq, hno⟩ := id hr
  have hNp := hI.1.1
  have hdN := hd40 (N - 1) (by omega)
  refine AM.of [some (.ref r), some (.int (nI j)), none, none] pn_X4_farOfStep rfl (Nat.le_of_ble_eq_true rfl) (fun X hX hE => ?_)
  -- at k steps back from the end
  have at39 : ∀ k, k ≤ dp (N - 1) → (j ≤ dp (N - 1) → dp (N - 1) - k = j) → (dp (N - 1) < j → k = 0) → AW X 0 0 39 [some (.ref r), some (.int (nI j)), some (.int (nI (Qs (chn par N k)))), some (.int (nI (dp (N - 1) - k)))] [] h := by
    intro k hk hk1 hk2
    obtain ⟨hc1, hc2⟩ := chn_dp hI k hk
    obtain ⟨g1, g2, g3⟩ := hq _ hc1
    refine AW_iload_n 40 hX dX4_farOfStep_39 rfl rfl ?_
    refine AW_iconst 41 hX dX4_farOfStep_40 rfl ic_1 ?_
    refine AW_icmp_lt 44 70 hX dX4_farOfStep_41 rfl (by decide) (fun c41 => absurd c41 (nI_nlt (a := j) (b := 1) hj1 (by omega))) (fun c41 => ?_)
    refine AW_iload_n 45 hX dX4_farOfStep_44 rfl rfl ?_
    refine AW_cS (As := [_]) 48 hX dX4_farOfStep_45 rfl ml_X4_52 mw_X4_isSpot rfl rfl (Nat.le_of_ble_eq_true rfl) (by decide) ⟨(Nat.le_refl _), (Nat.le_refl _)⟩ (c_isSpotY _ (hlt _ hc1) ?_)
    refine AW_if_eq 51 70 hX dX4_farOfStep_48 rfl (by decide) (fun c48 => absurd c48 (by decide)) (fun c48 => ?_)
    refine AW_aload_n 52 hX dX4_farOfStep_51 rfl rfl ?_
    refine AW_get 55 hX dX4_farOfStep_52 rfl fl_X4_15 (by first | assumption | exact hset_eq | exact (hset_ne (by omega)).trans (by first | assumption | exact hset_eq | exact (hset_ne (by omega)).trans (by first | assumption | exact hset_eq | exact (hset_ne (by omega)).trans (by first | assumption | exact hset_eq | exact (hset_ne (by omega)).trans (by first | assumption | exact hset_eq))))) rfl ?_
    refine AW_iload_n 56 hX dX4_farOfStep_55 rfl rfl ?_
    refine AW_iald 57 hX dX4_farOfStep_56 rfl (by first | assumption | exact hset_eq | exact (hset_ne (by omega)).trans (by first | assumption | exact hset_eq | exact (hset_ne (by omega)).trans (by first | assumption | exact hset_eq | exact (hset_ne (by omega)).trans (by first | assumption | exact hset_eq | exact (hset_ne (by omega)).trans (by first | assumption | exact hset_eq))))) (j := Qs (chn par N k)) (hlt _ hc1) rfl ?_
    rw [g2, hc2]
    refine AW_iload_n 58 hX dX4_farOfStep_57 rfl rfl ?_
    refine AW_icmp_ne 61 70 hX dX4_farOfStep_58 rfl (by decide) (fun c58 => ?_) (fun c58 => ?_)
    · refine AW_iconst 71 hX dX4_farOfStep_70 rfl ic_m1 ?_
      refine AW_iret hX hE dX4_farOfStep_71 rfl (Nat.le_refl _) (Nat.le_refl _) ?_
      refine h0 ?_
      rcases Nat.lt_or_ge (dp (N - 1)) j with q | q
      · exact q
      · exact absurd (by rw [hk1 q]) c58
    · refine AW_aload_n 62 hX dX4_farOfStep_61 rfl rfl ?_
      refine AW_get 65 hX dX4_farOfStep_62 rfl fl_X4_21 (by first | assumption | exact hset_eq | exact (hset_ne (by omega)).trans (by first | assumption | exact hset_eq | exact (hset_ne (by omega)).trans (by first | assumption | exact hset_eq | exact (hset_ne (by omega)).trans (by first | assumption | exact hset_eq | exact (hset_ne (by omega)).trans (by first | assumption | exact hset_eq))))) rfl ?_
      refine AW_iload_n 66 hX dX4_farOfStep_65 rfl rfl ?_
      refine AW_iald 67 hX dX4_farOfStep_66 rfl (by first | assumption | exact hset_eq | exact (hset_ne (by omega)).trans (by first | assumption | exact hset_eq | exact (hset_ne (by omega)).trans (by first | assumption | exact hset_eq | exact (hset_ne (by omega)).trans (by first | assumption | exact hset_eq | exact (hset_ne (by omega)).trans (by first | assumption | exact hset_eq))))) (j := Qs (chn par N k)) (hlt _ hc1) rfl ?_
      refine AW_goto 71 hX dX4_farOfStep_67 (by decide) ?_
      refine AW_iret hX hE dX4_farOfStep_71 rfl (Nat.le_refl _) (Nat.le_refl _) ?_
      have e := iEq c58
      have hjd : j ≤ dp (N - 1) := by omega
      rw [(g3 (chn_pos hI (by omega))).2]
      rw [show k = dp (N - 1) - j by omega]
      exact h1 hjd
  have loop : ∀ d k, k + d = dp (N - 1) → (j ≤ dp (N - 1) → j ≤ dp (N - 1) - k) → (dp (N - 1) < j → k = 0) → AW X 0 0 14 [some (.ref r), some (.int (nI j)), some (.int (nI (Qs (chn par N k)))), some (.int (nI (dp (N - 1) - k)))] [] h := by
    intro d
    induction d with
    | zero =>
      intro k hk hk1 hk2
      refine AW_iload_n 15 hX dX4_farOfStep_14 rfl rfl ?_
      refine AW_iload_n 16 hX dX4_farOfStep_15 rfl rfl ?_
      refine AW_icmp_le 19 39 hX dX4_farOfStep_16 rfl (by decide) (fun c16 => ?_) (fun c16 => absurd (nI_le (by omega) (by omega)) c16)
      exact at39 k (by omega) (fun q => by have := hk1 q; omega) hk2
    | succ d ih =>
      intro k hk hk1 hk2
      obtain ⟨hc1, hc2⟩ := chn_dp hI k (by omega)
      obtain ⟨g1, g2, g3⟩ := hq _ hc1
      refine AW_iload_n 15 hX dX4_farOfStep_14 rfl rfl ?_
      refine AW_iload_n 16 hX dX4_farOfStep_15 rfl rfl ?_
      refine AW_icmp_le 19 39 hX dX4_farOfStep_16 rfl (by decide) (fun c16 => ?_) (fun c16 => ?_)
      · have := iLe c16
        exact at39 k (by omega) (fun q => by have := hk1 q; omega) hk2
      · refine AW_iload_n 20 hX dX4_farOfStep_19 rfl rfl ?_
        refine AW_cS (As := [_]) 23 hX dX4_farOfStep_20 rfl ml_X4_52 mw_X4_isSpot rfl rfl (Nat.le_of_ble_eq_true rfl) (by decide) ⟨(Nat.le_refl _), (Nat.le_refl _)⟩ (c_isSpotY _ (hlt _ hc1) ?_)
        refine AW_if_eq 26 39 hX dX4_farOfStep_23 rfl (by decide) (fun c23 => absurd c23 (by decide)) (fun c23 => ?_)
        refine AW_aload_n 27 hX dX4_farOfStep_26 rfl rfl ?_
        refine AW_get 30 hX dX4_farOfStep_27 rfl fl_X4_18 (by first | assumption | exact hset_eq | exact (hset_ne (by omega)).trans (by first | assumption | exact hset_eq | exact (hset_ne (by omega)).trans (by first | assumption | exact hset_eq | exact (hset_ne (by omega)).trans (by first | assumption | exact hset_eq | exact (hset_ne (by omega)).trans (by first | assumption | exact hset_eq))))) rfl ?_
        refine AW_iload_n 31 hX dX4_farOfStep_30 rfl rfl ?_
        refine AW_iald 32 hX dX4_farOfStep_31 rfl (by first | assumption | exact hset_eq | exact (hset_ne (by omega)).trans (by first | assumption | exact hset_eq | exact (hset_ne (by omega)).trans (by first | assumption | exact hset_eq | exact (hset_ne (by omega)).trans (by first | assumption | exact hset_eq | exact (hset_ne (by omega)).trans (by first | assumption | exact hset_eq))))) (j := Qs (chn par N k)) (hlt _ hc1) rfl ?_
        refine AW_istore_n 33 hX dX4_farOfStep_32 rfl (Nat.le_of_ble_eq_true rfl) rfl ?_
        refine AW_iinc 36 hX dX4_farOfStep_33 rfl rfl (iincp ic_m1) (Nat.le_of_ble_eq_true rfl) rfl ?_
        refine AW_goto 14 hX dX4_farOfStep_36 (by decide) ?_
        have hgt := iNle c16
        rw [(g3 (chn_pos hI (by omega))).1]
        rw [show nI (dp (N - 1) - k) + -1 = nI (dp (N - 1) - (k + 1)) by rw [show dp (N - 1) - k = dp (N - 1) - (k + 1) + 1 by omega, pk_m1]]
        exact ih (k + 1) (by omega) (fun q => by omega) (fun q => by omega)
  refine AW_aload_n 1 hX dX4_farOfStep_0 rfl rfl ?_
  refine AW_get 4 hX dX4_farOfStep_1 rfl fl_X4_28 (by first | assumption | exact hset_eq | exact (hset_ne (by omega)).trans (by first | assumption | exact hset_eq | exact (hset_ne (by omega)).trans (by first | assumption | exact hset_eq | exact (hset_ne (by omega)).trans (by first | assumption | exact hset_eq | exact (hset_ne (by omega)).trans (by first | assumption | exact hset_eq))))) rfl ?_
  refine AW_istore_n 5 hX dX4_farOfStep_4 rfl (Nat.le_of_ble_eq_true rfl) rfl ?_
  refine AW_aload_n 6 hX dX4_farOfStep_5 rfl rfl ?_
  refine AW_aload_n 7 hX dX4_farOfStep_6 rfl rfl ?_
  refine AW_get 10 hX dX4_farOfStep_7 rfl fl_X4_28 (by first | assumption | exact hset_eq | exact (hset_ne (by omega)).trans (by first | assumption | exact hset_eq | exact (hset_ne (by omega)).trans (by first | assumption | exact hset_eq | exact (hset_ne (by omega)).trans (by first | assumption | exact hset_eq | exact (hset_ne (by omega)).trans (by first | assumption | exact hset_eq))))) rfl ?_
  refine AW_cV (As := [_]) 13 hX dX4_farOfStep_10 rfl ml_X4_49 mw_X4_stepsOf (by first | assumption | exact hset_eq | exact (hset_ne (by omega)).trans (by first | assumption | exact hset_eq | exact (hset_ne (by omega)).trans (by first | assumption | exact hset_eq | exact (hset_ne (by omega)).trans (by first | assumption | exact hset_eq | exact (hset_ne (by omega)).trans (by first | assumption | exact hset_eq))))) (by decide) rfl rfl rfl (Nat.le_of_ble_eq_true rfl) (by decide) ⟨(Nat.le_refl _), (Nat.le_refl _)⟩ (c_stepsOfY hr (N - 1) (by omega) (hlt _ (by omega)) ?_)
  refine AW_istore_n 14 hX dX4_farOfStep_13 rfl (Nat.le_of_ble_eq_true rfl) rfl ?_
  exact loop (dp (N - 1)) 0 (by omega) (fun q => by omega) (fun _ => rfl)
set_option maxRecDepth 100000 in
set_option maxHeartbeats 4000000 in
theorem c_farOfStepN {h : AH} {K : Option Value → AH → Prop} {r N : Nat} {Qs par cb dp : Nat → Nat} (hr : rtC h r N Qs par cb dp (-1)) (j : Nat) (hj1 : 1 ≤ j) (hj4 : j ≤ 4) (hK : K (some (.int (-1))) h) : aX4_farOfStep 2 [.ref r, .int (nI j)] h K := by
  have ha := hr.1
  refine AM.of [some (.ref r), some (.int (nI j)), none, none] pn_X4_farOfStep rfl (Nat.le_of_ble_eq_true rfl) (fun X hX hE => ?_)
  refine AW_aload_n 1 hX dX4_farOfStep_0 rfl rfl ?_
  refine AW_get 4 hX dX4_farOfStep_1 rfl fl_X4_28 (by first | assumption | exact hset_eq | exact (hset_ne (by omega)).trans (by first | assumption | exact hset_eq | exact (hset_ne (by omega)).trans (by first | assumption | exact hset_eq | exact (hset_ne (by omega)).trans (by first | assumption | exact hset_eq | exact (hset_ne (by omega)).trans (by first | assumption | exact hset_eq))))) rfl ?_
  refine AW_istore_n 5 hX dX4_farOfStep_4 rfl (Nat.le_of_ble_eq_true rfl) rfl ?_
  refine AW_aload_n 6 hX dX4_farOfStep_5 rfl rfl ?_
  refine AW_aload_n 7 hX dX4_farOfStep_6 rfl rfl ?_
  refine AW_get 10 hX dX4_farOfStep_7 rfl fl_X4_28 (by first | assumption | exact hset_eq | exact (hset_ne (by omega)).trans (by first | assumption | exact hset_eq | exact (hset_ne (by omega)).trans (by first | assumption | exact hset_eq | exact (hset_ne (by omega)).trans (by first | assumption | exact hset_eq | exact (hset_ne (by omega)).trans (by first | assumption | exact hset_eq))))) rfl ?_
  refine AW_cV (As := [_]) 13 hX dX4_farOfStep_10 rfl ml_X4_49 mw_X4_stepsOf (by first | assumption | exact hset_eq | exact (hset_ne (by omega)).trans (by first | assumption | exact hset_eq | exact (hset_ne (by omega)).trans (by first | assumption | exact hset_eq | exact (hset_ne (by omega)).trans (by first | assumption | exact hset_eq | exact (hset_ne (by omega)).trans (by first | assumption | exact hset_eq))))) (by decide) rfl rfl rfl (Nat.le_of_ble_eq_true rfl) (by decide) ⟨(Nat.le_refl _), (Nat.le_refl _)⟩ (c_stepsOfN ?_)
  refine AW_istore_n 14 hX dX4_farOfStep_13 rfl (Nat.le_of_ble_eq_true rfl) rfl ?_
  refine AW_iload_n 15 hX dX4_farOfStep_14 rfl rfl ?_
  refine AW_iload_n 16 hX dX4_farOfStep_15 rfl rfl ?_
  refine AW_icmp_le 19 39 hX dX4_farOfStep_16 rfl (by decide) (fun c16 => ?_) (fun c16 => absurd (Int32.le_iff_toInt_le.mpr (by rw [nI_toInt (by omega)]; show (-1 : Int) ≤ _; omega)) c16)
  refine AW_iload_n 40 hX dX4_farOfStep_39 rfl rfl ?_
  refine AW_iconst 41 hX dX4_farOfStep_40 rfl ic_1 ?_
  refine AW_icmp_lt 44 70 hX dX4_farOfStep_41 rfl (by decide) (fun c41 => absurd c41 (nI_nlt (a := j) (b := 1) hj1 (by omega))) (fun c41 => ?_)
  refine AW_iload_n 45 hX dX4_farOfStep_44 rfl rfl ?_
  refine AW_cS (As := [_]) 48 hX dX4_farOfStep_45 rfl ml_X4_52 mw_X4_isSpot rfl rfl (Nat.le_of_ble_eq_true rfl) (by decide) ⟨(Nat.le_refl _), (Nat.le_refl _)⟩ (c_isSpotN ?_)
  refine AW_if_eq 51 70 hX dX4_farOfStep_48 rfl (by decide) (fun c48 => ?_) (fun c48 => absurd rfl c48)
  refine AW_iconst 71 hX dX4_farOfStep_70 rfl ic_m1 ?_
  refine AW_iret hX hE dX4_farOfStep_71 rfl (Nat.le_refl _) (Nat.le_refl _) ?_
  exact hK
