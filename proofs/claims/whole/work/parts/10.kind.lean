set_option maxRecDepth 100000 in
set_option maxHeartbeats 4000000 in
theorem c_isKind {h : AH} {K : Option Value → AH → Prop} (x : Int32) (h1 : ∀ k : Nat, k ≤ 4 → x = nI k → K (some (.int 1)) h) (h0 : (∀ k : Nat, k ≤ 4 → x ≠ nI k) → K (some (.int 0)) h) : aX2_isKind 0 [.int x] h K := by
  refine AM.of [some (.int x)] pn_X2_isKind rfl (Nat.le_of_ble_eq_true rfl) (fun X hX hE => ?_)
  refine AW_iload_n 1 hX dX2_isKind_0 rfl rfl ?_
  refine AW_if_lt 4 13 hX dX2_isKind_1 rfl (by decide) (fun c1 => ?_) (fun c1 => ?_)
  · refine AW_iconst 14 hX dX2_isKind_13 rfl ic_0 ?_
    refine AW_iret hX hE dX2_isKind_14 rfl (Nat.le_refl _) (Nat.le_refl _) ?_
    exact h0 (fun k hk e => absurd c1 (by rw [e]; exact nI_pos (by omega)))
  · refine AW_iload_n 5 hX dX2_isKind_4 rfl rfl ?_
    refine AW_iconst 6 hX dX2_isKind_5 rfl ic_4 ?_
    refine AW_icmp_gt 9 13 hX dX2_isKind_6 rfl (by decide) (fun c6 => ?_) (fun c6 => ?_)
    · refine AW_iconst 14 hX dX2_isKind_13 rfl ic_0 ?_
      refine AW_iret hX hE dX2_isKind_14 rfl (Nat.le_refl _) (Nat.le_refl _) ?_
      exact h0 (fun k hk e => absurd c6 (by rw [e]; exact nI_nlt (a := 4) hk (by decide)))
    · refine AW_iconst 10 hX dX2_isKind_9 rfl ic_1 ?_
      refine AW_goto 14 hX dX2_isKind_10 (by decide) ?_
      refine AW_iret hX hE dX2_isKind_14 rfl (Nat.le_refl _) (Nat.le_refl _) ?_
      obtain ⟨k, hk, e⟩ := nI_of2 (M := 4) (n := 4) (by decide) c1 (Int32.not_lt.mp c6)
      exact h1 k hk e
set_option maxRecDepth 100000 in
set_option maxHeartbeats 4000000 in
theorem c_isA {h : AH} {K : Option Value → AH → Prop} (a b : Nat) (ha : a ≤ 4) (hb : b ≤ 4) (h1 : isA a b → K (some (.int 1)) h) (h0 : ¬ isA a b → K (some (.int 0)) h) : aX2_isA 0 [.int (nI a), .int (nI b)] h K := by
  refine AM.of [some (.int (nI a)), some (.int (nI b))] pn_X2_isA rfl (Nat.le_of_ble_eq_true rfl) (fun X hX hE => ?_)
  refine AW_iload_n 1 hX dX2_isA_0 rfl rfl ?_
  refine AW_if_eq 4 19 hX dX2_isA_1 rfl (by decide) (fun c1 => ?_) (fun c1 => ?_)
  · refine AW_iconst 20 hX dX2_isA_19 rfl ic_1 ?_
    refine AW_goto 24 hX dX2_isA_20 (by decide) ?_
    refine AW_iret hX hE dX2_isA_24 rfl (Nat.le_refl _) (Nat.le_refl _) ?_
    exact h1 (Or.inl ((nI_eq (by omega) (by decide)).mp c1))
  · refine AW_iload_n 5 hX dX2_isA_4 rfl rfl ?_
    refine AW_iload_n 6 hX dX2_isA_5 rfl rfl ?_
    refine AW_icmp_eq 9 19 hX dX2_isA_6 rfl (by decide) (fun c6 => ?_) (fun c6 => ?_)
    · refine AW_iconst 20 hX dX2_isA_19 rfl ic_1 ?_
      refine AW_goto 24 hX dX2_isA_20 (by decide) ?_
      refine AW_iret hX hE dX2_isA_24 rfl (Nat.le_refl _) (Nat.le_refl _) ?_
      exact h1 (Or.inr (Or.inl ((nI_eq (by omega) (by omega)).mp c6)))
    · refine AW_iload_n 10 hX dX2_isA_9 rfl rfl ?_
      refine AW_iconst 11 hX dX2_isA_10 rfl ic_1 ?_
      refine AW_icmp_ne 14 23 hX dX2_isA_11 rfl (by decide) (fun c11 => ?_) (fun c11 => ?_)
      · refine AW_iconst 24 hX dX2_isA_23 rfl ic_0 ?_
        refine AW_iret hX hE dX2_isA_24 rfl (Nat.le_refl _) (Nat.le_refl _) ?_
        refine h0 (fun q => ?_)
        rcases q with q | q | q
        · exact c1 (by rw [q]; rfl)
        · exact c6 (by rw [q])
        · exact c11 (by rw [q.1]; rfl)
      · refine AW_iload_n 15 hX dX2_isA_14 rfl rfl ?_
        refine AW_iconst 16 hX dX2_isA_15 rfl ic_4 ?_
        refine AW_icmp_ne 19 23 hX dX2_isA_16 rfl (by decide) (fun c16 => ?_) (fun c16 => ?_)
        · refine AW_iconst 24 hX dX2_isA_23 rfl ic_0 ?_
          refine AW_iret hX hE dX2_isA_24 rfl (Nat.le_refl _) (Nat.le_refl _) ?_
          refine h0 (fun q => ?_)
          rcases q with q | q | q
          · exact c1 (by rw [q]; rfl)
          · exact c6 (by rw [q])
          · exact c16 (by rw [q.2]; rfl)
        · refine AW_iconst 20 hX dX2_isA_19 rfl ic_1 ?_
          refine AW_goto 24 hX dX2_isA_20 (by decide) ?_
          refine AW_iret hX hE dX2_isA_24 rfl (Nat.le_refl _) (Nat.le_refl _) ?_
          exact h1 (Or.inr (Or.inr ⟨(nI_eq (by omega) (by decide)).mp c11, (nI_eq (by omega) (by decide)).mp c16⟩))
set_option maxRecDepth 100000 in
set_option maxHeartbeats 4000000 in
theorem c_growth {h : AH} {K : Option Value → AH → Prop} (k far : Nat) (hk : k ≤ 4) (hK : K (some (.int (nI (gw k far)))) h) : aX2_growth 0 [.int (nI k), .int (nI far)] h K := by
  refine AM.of [some (.int (nI k)), some (.int (nI far))] pn_X2_growth rfl (Nat.le_of_ble_eq_true rfl) (fun X hX hE => ?_)
  refine AW_iload_n 1 hX dX2_growth_0 rfl rfl ?_
  rcases k5 hk with rfl | rfl | rfl | rfl | rfl
  · refine AW_tabO 44 hX dX2_growth_1 (by decide) (by decide) ?_
    refine AW_iload_n 45 hX dX2_growth_44 rfl rfl ?_
    refine AW_iret hX hE dX2_growth_45 rfl (Nat.le_refl _) (Nat.le_refl _) ?_
    exact hK
  · refine AW_tab (off := 31) 32 hX dX2_growth_1 (by decide) (by decide) (by decide) (by decide) ?_
    refine AW_iload_n 33 hX dX2_growth_32 rfl rfl ?_
    refine AW_iconst 34 hX dX2_growth_33 rfl ic_1 ?_
    refine AW_iadd 35 hX dX2_growth_34 rfl ?_
    refine AW_iret hX hE dX2_growth_35 rfl (Nat.le_refl _) (Nat.le_refl _) ?_
    rw [nI_1]; exact hK
  · refine AW_tab (off := 35) 36 hX dX2_growth_1 (by decide) (by decide) (by decide) (by decide) ?_
    refine AW_iload_n 37 hX dX2_growth_36 rfl rfl ?_
    refine AW_iconst 38 hX dX2_growth_37 rfl ic_2 ?_
    refine AW_iadd 39 hX dX2_growth_38 rfl ?_
    refine AW_iret hX hE dX2_growth_39 rfl (Nat.le_refl _) (Nat.le_refl _) ?_
    rw [show (2 : Int32) = nI 2 from rfl, nI_add]; exact hK
  · refine AW_tab (off := 39) 40 hX dX2_growth_1 (by decide) (by decide) (by decide) (by decide) ?_
    refine AW_iload_n 41 hX dX2_growth_40 rfl rfl ?_
    refine AW_iload_n 42 hX dX2_growth_41 rfl rfl ?_
    refine AW_iadd 43 hX dX2_growth_42 rfl ?_
    refine AW_iret hX hE dX2_growth_43 rfl (Nat.le_refl _) (Nat.le_refl _) ?_
    rw [nI_add]; exact hK
  · refine AW_tab (off := 35) 36 hX dX2_growth_1 (by decide) (by decide) (by decide) (by decide) ?_
    refine AW_iload_n 37 hX dX2_growth_36 rfl rfl ?_
    refine AW_iconst 38 hX dX2_growth_37 rfl ic_2 ?_
    refine AW_iadd 39 hX dX2_growth_38 rfl ?_
    refine AW_iret hX hE dX2_growth_39 rfl (Nat.le_refl _) (Nat.le_refl _) ?_
    rw [show (2 : Int32) = nI 2 from rfl, nI_add]; exact hK
set_option maxRecDepth 100000 in
set_option maxHeartbeats 4000000 in
theorem c_onSpot {h : AH} {K : Option Value → AH → Prop} (k : Nat) (hk : k ≤ 4) (hK : K (some (.int (onS k))) h) : aX2_onSpot 0 [.int (nI k)] h K := by
  refine AM.of [some (.int (nI k))] pn_X2_onSpot rfl (Nat.le_of_ble_eq_true rfl) (fun X hX hE => ?_)
  refine AW_iload_n 1 hX dX2_onSpot_0 rfl rfl ?_
  rcases k5 hk with rfl | rfl | rfl | rfl | rfl
  · refine AW_tabO 38 hX dX2_onSpot_1 (by decide) (by decide) ?_
    refine AW_bipush 40 hX dX2_onSpot_38 rfl bp_m2 ?_
    refine AW_iret hX hE dX2_onSpot_40 rfl (Nat.le_refl _) (Nat.le_refl _) ?_
    exact hK
  · refine AW_tab (off := 31) 32 hX dX2_onSpot_1 (by decide) (by decide) (by decide) (by decide) ?_
    refine AW_iconst 33 hX dX2_onSpot_32 rfl ic_m1 ?_
    refine AW_iret hX hE dX2_onSpot_33 rfl (Nat.le_refl _) (Nat.le_refl _) ?_
    exact hK
  · refine AW_tab (off := 37) 38 hX dX2_onSpot_1 (by decide) (by decide) (by decide) (by decide) ?_
    refine AW_bipush 40 hX dX2_onSpot_38 rfl bp_m2 ?_
    refine AW_iret hX hE dX2_onSpot_40 rfl (Nat.le_refl _) (Nat.le_refl _) ?_
    exact hK
  · refine AW_tab (off := 33) 34 hX dX2_onSpot_1 (by decide) (by decide) (by decide) (by decide) ?_
    refine AW_iconst 35 hX dX2_onSpot_34 rfl ic_1 ?_
    refine AW_iret hX hE dX2_onSpot_35 rfl (Nat.le_refl _) (Nat.le_refl _) ?_
    exact hK
  · refine AW_tab (off := 35) 36 hX dX2_onSpot_1 (by decide) (by decide) (by decide) (by decide) ?_
    refine AW_iconst 37 hX dX2_onSpot_36 rfl ic_0 ?_
    refine AW_iret hX hE dX2_onSpot_37 rfl (Nat.le_refl _) (Nat.le_refl _) ?_
    exact hK
theorem sa0 : ∀ s, s < 64 → ∀ k, k < 5 → (if 0 < nI s + onS k then nI s + onS k else 0) = nI (sa k s 0) := by decide +kernel
set_option maxRecDepth 100000 in
set_option maxHeartbeats 4000000 in
theorem c_swayAfter {h : AH} {K : Option Value → AH → Prop} (k s far : Nat) (hk : k ≤ 4) (hs : s < 64) (hf : far ≤ 3) (hK : K (some (.int (nI (sa k s far)))) h) : aX2_swayAfter 1 [.int (nI k), .int (nI s), .int (nI far)] h K := by
  refine AM.of [some (.int (nI k)), some (.int (nI s)), some (.int (nI far))] pn_X2_swayAfter rfl (Nat.le_of_ble_eq_true rfl) (fun X hX hE => ?_)
  refine AW_iload_n 1 hX dX2_swayAfter_0 rfl rfl ?_
  refine AW_if_ne 4 17 hX dX2_swayAfter_1 rfl (by decide) (fun c1 => ?_) (fun c1 => ?_)
  · refine AW_iload_n 18 hX dX2_swayAfter_17 rfl rfl ?_
    refine AW_iload_n 19 hX dX2_swayAfter_18 rfl rfl ?_
    refine AW_iload_n 20 hX dX2_swayAfter_19 rfl rfl ?_
    refine AW_cS (As := [_, _]) 23 hX dX2_swayAfter_20 rfl ml_X2_26 mw_X2_growth rfl rfl (Nat.le_of_ble_eq_true rfl) (by decide) ⟨(Nat.le_refl _), (Nat.le_refl _)⟩ (c_growth k far hk ?_)
    refine AW_iadd 24 hX dX2_swayAfter_23 rfl ?_
    refine AW_iret hX hE dX2_swayAfter_24 rfl (Nat.le_refl _) (Nat.le_refl _) ?_
    have e : ¬ far = 0 := fun e => c1 (by rw [e]; rfl)
    rw [nI_add]
    rw [show sa k s far = s + gw k far by simp only [sa, if_neg e]] at hK
    exact hK
  · refine AW_iconst 5 hX dX2_swayAfter_4 rfl ic_0 ?_
    refine AW_iload_n 6 hX dX2_swayAfter_5 rfl rfl ?_
    refine AW_iload_n 7 hX dX2_swayAfter_6 rfl rfl ?_
    refine AW_cS (As := [_]) 10 hX dX2_swayAfter_7 rfl ml_X2_17 mw_X2_onSpot rfl rfl (Nat.le_of_ble_eq_true rfl) (by decide) ⟨(Nat.le_refl _), (Nat.le_refl _)⟩ (c_onSpot k hk ?_)
    refine AW_iadd 11 hX dX2_swayAfter_10 rfl ?_
    refine AW_max 14 hX dX2_swayAfter_11 rfl mk_X2_20 (Nat.le_of_ble_eq_true rfl) (by decide) ⟨(Nat.le_refl _), (Nat.le_refl _)⟩ ?_
    refine AW_goto 24 hX dX2_swayAfter_14 (by decide) ?_
    refine AW_iret hX hE dX2_swayAfter_24 rfl (Nat.le_refl _) (Nat.le_refl _) ?_
    have e : far = 0 := (nI_eq (by omega) (by decide)).mp c1
    subst e
    rw [sa0 s hs k (by omega)]
    exact hK
