/-! numbers of the draws (the first four rows began as rows of the kit's laws) -/
theorem pf_lI {a : Nat} (h : a < 2 ^ 63) : (lN a).toInt = (a : Int) := pk_lT h
theorem pf_shr {a d : Nat} {D : Int64} (hD : (D.toBitVec.smod 64).toNat = d) (h : a < 2 ^ 62) : lN a >>> D = lN (a / 2 ^ d) := by
  have hd : a / 2 ^ d ≤ a := Nat.div_le_self _ _
  apply Int64.toInt_inj.mp
  have e : (lN a >>> D).toInt = (lN a).toInt >>> d := by
    rw [← hD]
    exact BitVec.toInt_sshiftRight ..
  rw [e, Int.shiftRight_eq_div_pow, pf_lI (by omega), pf_lI (by omega)]
  rfl
theorem fb_andL (a b : Nat) : lN a &&& lN b = lN (a &&& b) := by
  apply Int64.toBitVec_inj.1
  show BitVec.ofNat 64 a &&& BitVec.ofNat 64 b = BitVec.ofNat 64 (a &&& b)
  apply BitVec.eq_of_getLsbD_eq
  intro i hi
  simp [hi]
theorem fb_maskL (n k : Nat) : lN n &&& lN (2 ^ k - 1) = lN (n % 2 ^ k) := by rw [fb_andL, Nat.and_two_pow_sub_one_eq_mod]
/-- the next seed, the draw that it tells -/
def nxD (d : Nat) : Nat := (1103515245 * d + 12345) % 2147483648
theorem nxD_lt (d : Nat) : nxD d < 2147483648 := Nat.mod_lt _ (by decide)
theorem nx_L (d : Nat) : ((1103515245 : Int64) * lN d + 12345) &&& 2147483647 = lN (nxD d) := by
  rw [show (1103515245 : Int64) = lN 1103515245 from rfl, show (12345 : Int64) = lN 12345 from rfl, lN_mul, lN_add]
  exact fb_maskL _ 31
theorem fr_L {d : Nat} (h : d < 2147483648) : ((lN d >>> ((16 : Int32).toInt64 &&& 63)) &&& 3).toInt32 = nI (d / 65536 % 4) := by
  rw [pf_shr (d := 16) (by decide) (by omega)]
  rw [show (3 : Int64) = lN (2 ^ 2 - 1) from rfl, fb_maskL, lN_i]
/-! a scene: (places, kinds, height, place, sway, steps, falls, how much is heard, what is heard) -/
abbrev SV : Type := Nat × (Nat → Nat) × Nat × Nat × Nat × Int32 × Int32 × Nat × HD
def sc (h : AH) (b : Nat) (v : SV) : Prop := match v with
  | (n, ks, ht, p, s, stp, fl, m, hd) => h b = some (.inl (4, [.ref (b + 1), .ref (b + 3), .int (nI ht), .int (nI p), .int (nI s), .int stp, .int fl])) ∧ (∃ f, gr h (b + 1) n f ∧ ∀ j, j < n → f j = nI (ks j)) ∧ heC h (b + 3) m hd
theorem sc_fr {h h' : AH} {b lo hi : Nat} {v : SV} (g : sc h b v) (e : fr h h' lo hi) (ho : b + 8 ≤ lo ∨ hi ≤ b) : sc h' b v := by
  obtain ⟨n, ks, ht, p, s, stp, fl, m, hd⟩ := v
  obtain ⟨h1, ⟨f, h2, h3⟩, h4⟩ := g
  exact ⟨(e b (by omega)).trans h1, ⟨f, gr_fr h2 e (by omega), h3⟩, heC_fr h4 e (by omega)⟩
/-- the scene's own cell alone changes -/
theorem sc_set {h : AH} {b n ht p s : Nat} {ks : Nat → Nat} {stp fl : Int32} {m : Nat} {hd : HD} (ht' p' s' : Nat) (stp' fl' : Int32) (g : sc h b (n, ks, ht, p, s, stp, fl, m, hd)) : sc (hset h b (.inl (4, [.ref (b + 1), .ref (b + 3), .int (nI ht'), .int (nI p'), .int (nI s'), .int stp', .int fl']))) b (n, ks, ht', p', s', stp', fl', m, hd) := by
  obtain ⟨h1, ⟨f, h2, h3⟩, h4⟩ := g
  have e : fr h (hset h b (.inl (4, [.ref (b + 1), .ref (b + 3), .int (nI ht'), .int (nI p'), .int (nI s'), .int stp', .int fl']))) b (b + 1) := fr_set (by omega) (by omega)
  exact ⟨hset_eq, ⟨f, gr_fr h2 e (by omega), h3⟩, heC_fr h4 e (by omega)⟩
def svok (v : SV) : Prop := match v with
  | (n, ks, ht, p, s, _, _, m, hd) => n ≤ 12 ∧ (∀ j, j < n → ks j ≤ 4) ∧ ht ≤ 9 ∧ s ≤ 12 - ht ∧ hdok hd m n ∧ m ≤ 6 ∧ (0 < n → p < n ∧ 1 ≤ ht) ∧ (n = 0 → ht = 0 ∧ p = 0 ∧ s = 0 ∧ m = 0)
theorem sa_le {k s far : Nat} (hf : far ≤ 3) : sa k s far ≤ s + 6 := by
  have := gw_le (k := k) hf
  simp only [sa]
  split
  · split
    · omega
    · split
      · omega
      · split <;> omega
  · omega
set_option maxRecDepth 100000 in
set_option maxHeartbeats 4000000 in
theorem c_back {h : AH} {K : Option Value → AH → Prop} {b : Nat} {r1 r2 v2 v3 v4 v5 v6 : Value} (ha : h b = some (.inl (4, [r1, r2, v2, v3, v4, v5, v6]))) (hK : K none (hset h b (.inl (4, [r1, r2, v2, .int 0, .int 0, v5, v6])))) : aX5_backToStart 0 [.ref b] h K := by
  refine AM.of [some (.ref b)] pn_X5_backToStart rfl (Nat.le_of_ble_eq_true rfl) (fun X hX hE => ?_)
  refine AW_aload_n 1 hX dX5_backToStart_0 rfl rfl ?_
  refine AW_iconst 2 hX dX5_backToStart_1 rfl ic_0 ?_
  refine AW_put 5 hX dX5_backToStart_2 rfl fl_X5_27 (by first | assumption | exact hset_eq | exact (hset_ne (by omega)).trans (by first | assumption | exact hset_eq | exact (hset_ne (by omega)).trans (by first | assumption | exact hset_eq | exact (hset_ne (by omega)).trans (by first | assumption | exact hset_eq | exact (hset_ne (by omega)).trans (by first | assumption | exact hset_eq))))) rfl (fun _ => rfl) (fun _ => rfl) (Nat.le_of_ble_eq_true rfl) ?_
  try rw [hset_hset]
  refine AW_aload_n 6 hX dX5_backToStart_5 rfl rfl ?_
  refine AW_iconst 7 hX dX5_backToStart_6 rfl ic_0 ?_
  refine AW_put 10 hX dX5_backToStart_7 rfl fl_X5_30 (by first | assumption | exact hset_eq | exact (hset_ne (by omega)).trans (by first | assumption | exact hset_eq | exact (hset_ne (by omega)).trans (by first | assumption | exact hset_eq | exact (hset_ne (by omega)).trans (by first | assumption | exact hset_eq | exact (hset_ne (by omega)).trans (by first | assumption | exact hset_eq))))) rfl (fun _ => rfl) (fun _ => rfl) (Nat.le_of_ble_eq_true rfl) ?_
  try rw [hset_hset]
  refine AW_vret hX hE dX5_backToStart_10 (Nat.le_refl _) (Nat.le_refl _) ?_
  exact hK
set_option maxRecDepth 100000 in
set_option maxHeartbeats 4000000 in
theorem c_changeHeight {h : AH} {K : Option Value → AH → Prop} {b n ht p s : Nat} {ks : Nat → Nat} {stp fl : Int32} {m : Nat} {hd : HD} (g : sc h b (n, ks, ht, p, s, stp, fl, m, hd)) (H : Nat) (hK : ∀ h' : AH, sc h' b (n, ks, H, 0, 0, stp, fl, m, hd) → fr h h' b (b + 1) → K (some (.int (nI ht))) h') : aX5_changeHeight 1 [.ref b, .int (nI H)] h K := by
  have ha := g.1
  refine AM.of [some (.ref b), some (.int (nI H)), none] pn_X5_changeHeight rfl (Nat.le_of_ble_eq_true rfl) (fun X hX hE => ?_)
  refine AW_aload_n 1 hX dX5_changeHeight_0 rfl rfl ?_
  refine AW_get 4 hX dX5_changeHeight_1 rfl fl_X5_23 (by first | assumption | exact hset_eq | exact (hset_ne (by omega)).trans (by first | assumption | exact hset_eq | exact (hset_ne (by omega)).trans (by first | assumption | exact hset_eq | exact (hset_ne (by omega)).trans (by first | assumption | exact hset_eq | exact (hset_ne (by omega)).trans (by first | assumption | exact hset_eq))))) rfl ?_
  refine AW_istore_n 5 hX dX5_changeHeight_4 rfl (Nat.le_of_ble_eq_true rfl) rfl ?_
  refine AW_aload_n 6 hX dX5_changeHeight_5 rfl rfl ?_
  refine AW_iload_n 7 hX dX5_changeHeight_6 rfl rfl ?_
  refine AW_put 10 hX dX5_changeHeight_7 rfl fl_X5_23 (by first | assumption | exact hset_eq | exact (hset_ne (by omega)).trans (by first | assumption | exact hset_eq | exact (hset_ne (by omega)).trans (by first | assumption | exact hset_eq | exact (hset_ne (by omega)).trans (by first | assumption | exact hset_eq | exact (hset_ne (by omega)).trans (by first | assumption | exact hset_eq))))) rfl (fun _ => rfl) (fun _ => rfl) (Nat.le_of_ble_eq_true rfl) ?_
  try rw [hset_hset]
  refine AW_aload_n 11 hX dX5_changeHeight_10 rfl rfl ?_
  refine AW_cV (As := []) 14 hX dX5_changeHeight_11 rfl ml_X5_51 mw_X5_backToStart (by first | assumption | exact hset_eq | exact (hset_ne (by omega)).trans (by first | assumption | exact hset_eq | exact (hset_ne (by omega)).trans (by first | assumption | exact hset_eq | exact (hset_ne (by omega)).trans (by first | assumption | exact hset_eq | exact (hset_ne (by omega)).trans (by first | assumption | exact hset_eq))))) (by decide) rfl rfl rfl (Nat.le_of_ble_eq_true rfl) (by decide) ⟨(Nat.le_refl _), (Nat.le_refl _)⟩ (c_back hset_eq ?_)
  refine AW_iload_n 15 hX dX5_changeHeight_14 rfl rfl ?_
  refine AW_iret hX hE dX5_changeHeight_15 rfl (Nat.le_refl _) (Nat.le_refl _) ?_
  rw [hset_hset]
  exact hK _ (sc_set H 0 0 stp fl g) (fr_set (by omega) (by omega))
set_option maxRecDepth 100000 in
set_option maxHeartbeats 4000000 in
theorem c_sswayBy {h : AH} {K : Option Value → AH → Prop} {b n ht p s : Nat} {ks : Nat → Nat} {stp fl : Int32} {m : Nat} {hd : HD} (g : sc h b (n, ks, ht, p, s, stp, fl, m, hd)) (hk4 : ∀ j, j < n → ks j ≤ 4) (hs : s < 64) (far : Nat) (hf : far ≤ 3) (hp : p + far < n) (hK : K (some (.int (nI (sa (ks (p + far)) s far)))) h) : aX5_swayBy 2 [.ref b, .int (nI far)] h K := by
  obtain ⟨ha, ⟨f, hgr, hks⟩, hhe⟩ := id g
  have hga := hgr.1
  refine AM.of [some (.ref b), some (.int (nI far))] pn_X5_swayBy rfl (Nat.le_of_ble_eq_true rfl) (fun X hX hE => ?_)
  refine AW_aload_n 1 hX dX5_swayBy_0 rfl rfl ?_
  refine AW_get 4 hX dX5_swayBy_1 rfl fl_X5_10 (by first | assumption | exact hset_eq | exact (hset_ne (by omega)).trans (by first | assumption | exact hset_eq | exact (hset_ne (by omega)).trans (by first | assumption | exact hset_eq | exact (hset_ne (by omega)).trans (by first | assumption | exact hset_eq | exact (hset_ne (by omega)).trans (by first | assumption | exact hset_eq))))) rfl ?_
  refine AW_aload_n 5 hX dX5_swayBy_4 rfl rfl ?_
  refine AW_get 8 hX dX5_swayBy_5 rfl fl_X5_27 (by first | assumption | exact hset_eq | exact (hset_ne (by omega)).trans (by first | assumption | exact hset_eq | exact (hset_ne (by omega)).trans (by first | assumption | exact hset_eq | exact (hset_ne (by omega)).trans (by first | assumption | exact hset_eq | exact (hset_ne (by omega)).trans (by first | assumption | exact hset_eq))))) rfl ?_
  refine AW_iload_n 9 hX dX5_swayBy_8 rfl rfl ?_
  refine AW_iadd 10 hX dX5_swayBy_9 rfl ?_
  rw [nI_add]
  refine AW_cV (As := [_]) 13 hX dX5_swayBy_10 rfl ml_X5_61 mw_X0_kindAt (by first | assumption | exact hset_eq | exact (hset_ne (by omega)).trans (by first | assumption | exact hset_eq | exact (hset_ne (by omega)).trans (by first | assumption | exact hset_eq | exact (hset_ne (by omega)).trans (by first | assumption | exact hset_eq | exact (hset_ne (by omega)).trans (by first | assumption | exact hset_eq))))) (by decide) rfl rfl rfl (Nat.le_of_ble_eq_true rfl) (by decide) ⟨(Nat.le_refl _), (Nat.le_refl _)⟩ (c_kindAt hgr hp ?_)
  rw [hks _ hp]
  refine AW_aload_n 14 hX dX5_swayBy_13 rfl rfl ?_
  refine AW_get 17 hX dX5_swayBy_14 rfl fl_X5_30 (by first | assumption | exact hset_eq | exact (hset_ne (by omega)).trans (by first | assumption | exact hset_eq | exact (hset_ne (by omega)).trans (by first | assumption | exact hset_eq | exact (hset_ne (by omega)).trans (by first | assumption | exact hset_eq | exact (hset_ne (by omega)).trans (by first | assumption | exact hset_eq))))) rfl ?_
  refine AW_iload_n 18 hX dX5_swayBy_17 rfl rfl ?_
  refine AW_cS (As := [_, _, _]) 21 hX dX5_swayBy_18 rfl ml_X5_65 mw_X2_swayAfter rfl rfl (Nat.le_of_ble_eq_true rfl) (by decide) ⟨(Nat.le_refl _), (Nat.le_refl _)⟩ (c_swayAfter _ s far (hk4 _ hp) hs hf ?_)
  refine AW_iret hX hE dX5_swayBy_21 rfl (Nat.le_refl _) (Nat.le_refl _) ?_
  exact hK
set_option maxRecDepth 100000 in
set_option maxHeartbeats 4000000 in
theorem c_go {h : AH} {K : Option Value → AH → Prop} {b n ht p s : Nat} {ks : Nat → Nat} {stp fl : Int32} {m : Nat} {hd : HD} (g : sc h b (n, ks, ht, p, s, stp, fl, m, hd)) (hk4 : ∀ j, j < n → ks j ≤ 4) (hs : s < 58) (hht : ht ≤ 12) (hp12 : n ≤ 12) (far : Nat) (hf : far ≤ 3) (hp : p + far < n) (h0 : ∀ h' : AH, 12 - ht < sa (ks (p + far)) s far → sc h' b (n, ks, ht, 0, 0, stp + 1, fl + 1, m, hd) → fr h h' b (b + 1) → K (some (.int 0)) h') (h1 : ∀ h' : AH, ¬ 12 - ht < sa (ks (p + far)) s far → sc h' b (n, ks, ht, p + far, sa (ks (p + far)) s far, stp + 1, fl, m, hd) → fr h h' b (b + 1) → K (some (.int 1)) h') : aX5_go 3 [.ref b, .int (nI far)] h K := by
  have ha := g.1
  have hsa := sa_le (k := ks (p + far)) (s := s) hf
  refine AM.of [some (.ref b), some (.int (nI far)), none] pn_X5_go rfl (Nat.le_of_ble_eq_true rfl) (fun X hX hE => ?_)
  refine AW_aload_n 1 hX dX5_go_0 rfl rfl ?_
  refine AW_iload_n 2 hX dX5_go_1 rfl rfl ?_
  refine AW_cV (As := [_]) 5 hX dX5_go_2 rfl ml_X5_71 mw_X5_swayBy (by first | assumption | exact hset_eq | exact (hset_ne (by omega)).trans (by first | assumption | exact hset_eq | exact (hset_ne (by omega)).trans (by first | assumption | exact hset_eq | exact (hset_ne (by omega)).trans (by first | assumption | exact hset_eq | exact (hset_ne (by omega)).trans (by first | assumption | exact hset_eq))))) (by decide) rfl rfl rfl (Nat.le_of_ble_eq_true rfl) (by decide) ⟨(Nat.le_refl _), (Nat.le_refl _)⟩ (c_sswayBy g hk4 (by omega) far hf hp ?_)
  refine AW_istore_n 6 hX dX5_go_5 rfl (Nat.le_of_ble_eq_true rfl) rfl ?_
  refine AW_aload_n 7 hX dX5_go_6 rfl rfl ?_
  refine AW_dup 8 hX dX5_go_7 rfl rfl ?_
  refine AW_get 11 hX dX5_go_8 rfl fl_X5_33 (by first | assumption | exact hset_eq | exact (hset_ne (by omega)).trans (by first | assumption | exact hset_eq | exact (hset_ne (by omega)).trans (by first | assumption | exact hset_eq | exact (hset_ne (by omega)).trans (by first | assumption | exact hset_eq | exact (hset_ne (by omega)).trans (by first | assumption | exact hset_eq))))) rfl ?_
  refine AW_iconst 12 hX dX5_go_11 rfl ic_1 ?_
  refine AW_iadd 13 hX dX5_go_12 rfl ?_
  refine AW_put 16 hX dX5_go_13 rfl fl_X5_33 (by first | assumption | exact hset_eq | exact (hset_ne (by omega)).trans (by first | assumption | exact hset_eq | exact (hset_ne (by omega)).trans (by first | assumption | exact hset_eq | exact (hset_ne (by omega)).trans (by first | assumption | exact hset_eq | exact (hset_ne (by omega)).trans (by first | assumption | exact hset_eq))))) rfl (fun _ => rfl) (fun _ => rfl) (Nat.le_of_ble_eq_true rfl) ?_
  try rw [hset_hset]
  refine AW_iload_n 17 hX dX5_go_16 rfl rfl ?_
  refine AW_aload_n 18 hX dX5_go_17 rfl rfl ?_
  refine AW_get 21 hX dX5_go_18 rfl fl_X5_23 (by first | assumption | exact hset_eq | exact (hset_ne (by omega)).trans (by first | assumption | exact hset_eq | exact (hset_ne (by omega)).trans (by first | assumption | exact hset_eq | exact (hset_ne (by omega)).trans (by first | assumption | exact hset_eq | exact (hset_ne (by omega)).trans (by first | assumption | exact hset_eq))))) rfl ?_
  refine AW_cSN (As := [_]) 24 hX dX5_go_21 rfl mn_X5_74 mw_X6_bearable rfl rfl (Nat.le_of_ble_eq_true rfl) (by decide) ⟨(Nat.le_refl _), (Nat.le_refl _)⟩ (c_bearable ht hht ?_)
  refine AW_icmp_le 27 43 hX dX5_go_24 rfl (by decide) (fun c24 => ?_) (fun c24 => ?_)
  · refine AW_aload_n 44 hX dX5_go_43 rfl rfl ?_
    refine AW_dup 45 hX dX5_go_44 rfl rfl ?_
    refine AW_get 48 hX dX5_go_45 rfl fl_X5_27 (by first | assumption | exact hset_eq | exact (hset_ne (by omega)).trans (by first | assumption | exact hset_eq | exact (hset_ne (by omega)).trans (by first | assumption | exact hset_eq | exact (hset_ne (by omega)).trans (by first | assumption | exact hset_eq | exact (hset_ne (by omega)).trans (by first | assumption | exact hset_eq))))) rfl ?_
    refine AW_iload_n 49 hX dX5_go_48 rfl rfl ?_
    refine AW_iadd 50 hX dX5_go_49 rfl ?_
    rw [nI_add]
    refine AW_put 53 hX dX5_go_50 rfl fl_X5_27 (by first | assumption | exact hset_eq | exact (hset_ne (by omega)).trans (by first | assumption | exact hset_eq | exact (hset_ne (by omega)).trans (by first | assumption | exact hset_eq | exact (hset_ne (by omega)).trans (by first | assumption | exact hset_eq | exact (hset_ne (by omega)).trans (by first | assumption | exact hset_eq))))) rfl (fun _ => rfl) (fun _ => rfl) (Nat.le_of_ble_eq_true rfl) ?_
    try rw [hset_hset]
    refine AW_aload_n 54 hX dX5_go_53 rfl rfl ?_
    refine AW_iload_n 55 hX dX5_go_54 rfl rfl ?_
    refine AW_put 58 hX dX5_go_55 rfl fl_X5_30 (by first | assumption | exact hset_eq | exact (hset_ne (by omega)).trans (by first | assumption | exact hset_eq | exact (hset_ne (by omega)).trans (by first | assumption | exact hset_eq | exact (hset_ne (by omega)).trans (by first | assumption | exact hset_eq | exact (hset_ne (by omega)).trans (by first | assumption | exact hset_eq))))) rfl (fun _ => rfl) (fun _ => rfl) (Nat.le_of_ble_eq_true rfl) ?_
    try rw [hset_hset]
    refine AW_iconst 59 hX dX5_go_58 rfl ic_1 ?_
    refine AW_iret hX hE dX5_go_59 rfl (Nat.le_refl _) (Nat.le_refl _) ?_
    exact h1 _ (by have := iLe c24; omega) (sc_set ht _ _ _ fl g) (fr_set (by omega) (by omega))
  · refine AW_aload_n 28 hX dX5_go_27 rfl rfl ?_
    refine AW_dup 29 hX dX5_go_28 rfl rfl ?_
    refine AW_get 32 hX dX5_go_29 rfl fl_X5_36 (by first | assumption | exact hset_eq | exact (hset_ne (by omega)).trans (by first | assumption | exact hset_eq | exact (hset_ne (by omega)).trans (by first | assumption | exact hset_eq | exact (hset_ne (by omega)).trans (by first | assumption | exact hset_eq | exact (hset_ne (by omega)).trans (by first | assumption | exact hset_eq))))) rfl ?_
    refine AW_iconst 33 hX dX5_go_32 rfl ic_1 ?_
    refine AW_iadd 34 hX dX5_go_33 rfl ?_
    refine AW_put 37 hX dX5_go_34 rfl fl_X5_36 (by first | assumption | exact hset_eq | exact (hset_ne (by omega)).trans (by first | assumption | exact hset_eq | exact (hset_ne (by omega)).trans (by first | assumption | exact hset_eq | exact (hset_ne (by omega)).trans (by first | assumption | exact hset_eq | exact (hset_ne (by omega)).trans (by first | assumption | exact hset_eq))))) rfl (fun _ => rfl) (fun _ => rfl) (Nat.le_of_ble_eq_true rfl) ?_
    try rw [hset_hset]
    refine AW_aload_n 38 hX dX5_go_37 rfl rfl ?_
    refine AW_cV (As := []) 41 hX dX5_go_38 rfl ml_X5_51 mw_X5_backToStart (by first | assumption | exact hset_eq | exact (hset_ne (by omega)).trans (by first | assumption | exact hset_eq | exact (hset_ne (by omega)).trans (by first | assumption | exact hset_eq | exact (hset_ne (by omega)).trans (by first | assumption | exact hset_eq | exact (hset_ne (by omega)).trans (by first | assumption | exact hset_eq))))) (by decide) rfl rfl rfl (Nat.le_of_ble_eq_true rfl) (by decide) ⟨(Nat.le_refl _), (Nat.le_refl _)⟩ (c_back hset_eq ?_)
    refine AW_iconst 42 hX dX5_go_41 rfl ic_0 ?_
    refine AW_iret hX hE dX5_go_42 rfl (Nat.le_refl _) (Nat.le_refl _) ?_
    rw [hset_hset]
    exact h0 _ (iNle c24) (sc_set ht 0 0 _ _ g) (fr_set (by omega) (by omega))
/-- one step of a race: (place, sway, seed, how often he fell) -/
abbrev RS : Type := Nat × Nat × Nat × Nat
def rfar (n : Nat) (x : RS) : Nat := if n - 1 - x.1 < nxD x.2.2.1 / 65536 % 4 then n - 1 - x.1 else nxD x.2.2.1 / 65536 % 4
def rstep (n : Nat) (ks : Nat → Nat) (ht : Nat) (x : RS) : RS := if 12 - ht < sa (ks (x.1 + rfar n x)) x.2.1 (rfar n x) then (0, 0, nxD x.2.2.1, x.2.2.2 + 1) else (x.1 + rfar n x, sa (ks (x.1 + rfar n x)) x.2.1 (rfar n x), nxD x.2.2.1, x.2.2.2)
def rI (n : Nat) (ks : Nat → Nat) (ht : Nat) (x : RS) : Nat → RS
  | 0 => x
  | i + 1 => rstep n ks ht (rI n ks ht x i)
theorem rI_ok {n : Nat} {ks : Nat → Nat} {ht : Nat} {x : RS} (hn : 0 < n) (h1 : x.1 < n) (h2 : x.2.1 ≤ 12 - ht) (h3 : x.2.2.1 < 2147483648) : ∀ i, (rI n ks ht x i).1 < n ∧ (rI n ks ht x i).2.1 ≤ 12 - ht ∧ (rI n ks ht x i).2.2.1 < 2147483648 ∧ (rI n ks ht x i).2.2.2 ≤ x.2.2.2 + i
  | 0 => ⟨h1, h2, h3, Nat.le_refl _⟩
  | i + 1 => by
    obtain ⟨q1, q2, q3, q4⟩ := rI_ok (ks := ks) hn h1 h2 h3 i
    have hf : (rI n ks ht x i).1 + rfar n (rI n ks ht x i) < n := by
      simp only [rfar]
      split <;> omega
    simp only [rI, rstep]
    split
    · exact ⟨hn, Nat.zero_le _, nxD_lt _, by show (rI n ks ht x i).2.2.2 + 1 ≤ x.2.2.2 + (i + 1); omega⟩
    · exact ⟨hf, by show sa _ _ _ ≤ _; omega, nxD_lt _, by show (rI n ks ht x i).2.2.2 ≤ x.2.2.2 + (i + 1); omega⟩
set_option maxRecDepth 100000 in
set_option maxHeartbeats 4000000 in
theorem c_race {h : AH} {K : Option Value → AH → Prop} {b n ht p s : Nat} {ks : Nat → Nat} {stp fl : Int32} {m : Nat} {hd : HD} (g : sc h b (n, ks, ht, p, s, stp, fl, m, hd)) (hk4 : ∀ j, j < n → ks j ≤ 4) (hht : ht ≤ 12) (hn : 0 < n) (hp12 : n ≤ 12) (hp : p < n) (hs : s ≤ 12 - ht) (c sd : Nat) (hc : c ≤ 60) (hsd : sd < 2147483648) (hK : ∀ (h' : AH) (stp' : Int32), sc h' b (n, ks, ht, (rI n ks ht (p, s, sd, 0) c).1, (rI n ks ht (p, s, sd, 0) c).2.1, stp', fl + nI (rI n ks ht (p, s, sd, 0) c).2.2.2, m, hd) → fr h h' b (b + 1) → K (some (.int (nI (rI n ks ht (p, s, sd, 0) c).2.2.1))) h') : aX5_race 4 [.ref b, .int (nI c), .int (nI sd)] h K := by
  have hok := rI_ok (ks := ks) (ht := ht) (x := (p, s, sd, 0)) hn hp hs hsd
  refine AM.of [some (.ref b), some (.int (nI c)), some (.int (nI sd)), none, none, none, none] pn_X5_race rfl (Nat.le_of_ble_eq_true rfl) (fun X hX hE => ?_)
  have loop : ∀ d i, i + d = c → ∀ (h' : AH) (stp' : Int32), sc h' b (n, ks, ht, (rI n ks ht (p, s, sd, 0) i).1, (rI n ks ht (p, s, sd, 0) i).2.1, stp', fl + nI (rI n ks ht (p, s, sd, 0) i).2.2.2, m, hd) → fr h h' b (b + 1) → ∀ z, AW X 0 0 6 [some (.ref b), some (.int (nI c)), some (.int (nI sd)), some (.long (lN (rI n ks ht (p, s, sd, 0) i).2.2.1)), none, some (.int (nI i)), z] [] h' := by
    intro d
    induction d with
    | zero =>
      intro i hi h' stp' g' hfr z
      have e : i = c := by omega
      subst e
      refine AW_iload 8 hX dX5_race_6 rfl rfl ?_
      refine AW_iload_n 9 hX dX5_race_8 rfl rfl ?_
      refine AW_icmp_ge 12 67 hX dX5_race_9 rfl (by decide) (fun c9 => ?_) (fun c9 => absurd (nI_le (by omega) (by omega)) c9)
      refine AW_lload_n 68 hX dX5_race_67 rfl rfl ?_
      refine AW_l2i 69 hX dX5_race_68 rfl ?_
      refine AW_iret hX hE dX5_race_69 rfl (Nat.le_refl _) (Nat.le_refl _) ?_
      rw [lN_i]
      exact hK h' stp' g' hfr
    | succ d ih =>
      intro i hi h' stp' g' hfr z
      obtain ⟨ha', ⟨f', hgr', hks'⟩, hhe'⟩ := id g'
      obtain ⟨q1, q2, q3, q4⟩ := hok i
      have hga' := hgr'.1
      have hfar : (rI n ks ht (p, s, sd, 0) i).1 + rfar n (rI n ks ht (p, s, sd, 0) i) < n ∧ rfar n (rI n ks ht (p, s, sd, 0) i) ≤ 3 := by
        have h4 : nxD (rI n ks ht (p, s, sd, 0) i).2.2.1 / 65536 % 4 < 4 := Nat.mod_lt _ (by decide)
        simp only [rfar]
        split <;> omega
      have hmin : (if nI n - 1 - nI (rI n ks ht (p, s, sd, 0) i).1 < nI (nxD (rI n ks ht (p, s, sd, 0) i).2.2.1 / 65536 % 4) then nI n - 1 - nI (rI n ks ht (p, s, sd, 0) i).1 else nI (nxD (rI n ks ht (p, s, sd, 0) i).2.2.1 / 65536 % 4)) = nI (rfar n (rI n ks ht (p, s, sd, 0) i)) := by
        have h4 : nxD (rI n ks ht (p, s, sd, 0) i).2.2.1 / 65536 % 4 < 4 := Nat.mod_lt _ (by decide)
        rw [show (1 : Int32) = nI 1 from rfl, pk_sub (by omega), pk_sub (by omega)]
        simp only [rfar]
        by_cases hlt : n - 1 - (rI n ks ht (p, s, sd, 0) i).1 < nxD (rI n ks ht (p, s, sd, 0) i).2.2.1 / 65536 % 4
        · rw [if_pos (nI_lt hlt (by omega)), if_pos hlt]
        · rw [if_neg (nI_nlt (by omega) (by omega)), if_neg hlt]
      refine AW_iload 8 hX dX5_race_6 rfl rfl ?_
      refine AW_iload_n 9 hX dX5_race_8 rfl rfl ?_
      refine AW_icmp_ge 12 67 hX dX5_race_9 rfl (by decide) (fun c9 => absurd c9 (nI_ge (by omega) (by omega))) (fun c9 => ?_)
      refine AW_ldc2 15 hX dX5_race_12 rfl kc_X5_79 ?_
      refine AW_lload_n 16 hX dX5_race_15 rfl rfl ?_
      refine AW_lmul 17 hX dX5_race_16 rfl ?_
      refine AW_ldc2 20 hX dX5_race_17 rfl kc_X5_81 ?_
      refine AW_ladd 21 hX dX5_race_20 rfl ?_
      refine AW_ldc2 24 hX dX5_race_21 rfl kc_X5_83 ?_
      refine AW_land 25 hX dX5_race_24 rfl ?_
      rw [nx_L]
      refine AW_lstore_n 26 hX dX5_race_25 rfl (Nat.le_of_ble_eq_true rfl) rfl ?_
      refine AW_lload_n 27 hX dX5_race_26 rfl rfl ?_
      refine AW_bipush 29 hX dX5_race_27 rfl bp_16 ?_
      refine AW_lshr 30 hX dX5_race_29 rfl ?_
      refine AW_ldc2 33 hX dX5_race_30 rfl kc_X5_85 ?_
      refine AW_land 34 hX dX5_race_33 rfl ?_
      refine AW_l2i 35 hX dX5_race_34 rfl ?_
      rw [fr_L (nxD_lt _)]
      refine AW_istore 37 hX dX5_race_35 rfl (Nat.le_of_ble_eq_true rfl) rfl ?_
      refine AW_aload_n 38 hX dX5_race_37 rfl rfl ?_
      refine AW_iload 40 hX dX5_race_38 rfl rfl ?_
      refine AW_aload_n 41 hX dX5_race_40 rfl rfl ?_
      refine AW_get 44 hX dX5_race_41 rfl fl_X5_10 (by first | assumption | exact hset_eq | exact (hset_ne (by omega)).trans (by first | assumption | exact hset_eq | exact (hset_ne (by omega)).trans (by first | assumption | exact hset_eq | exact (hset_ne (by omega)).trans (by first | assumption | exact hset_eq | exact (hset_ne (by omega)).trans (by first | assumption | exact hset_eq))))) rfl ?_
      refine AW_cV (As := []) 47 hX dX5_race_44 rfl ml_X5_87 mw_X0_places (by first | assumption | exact hset_eq | exact (hset_ne (by omega)).trans (by first | assumption | exact hset_eq | exact (hset_ne (by omega)).trans (by first | assumption | exact hset_eq | exact (hset_ne (by omega)).trans (by first | assumption | exact hset_eq | exact (hset_ne (by omega)).trans (by first | assumption | exact hset_eq))))) (by decide) rfl rfl rfl (Nat.le_of_ble_eq_true rfl) (by decide) ⟨(Nat.le_refl _), (Nat.le_refl _)⟩ (c_places hga' ?_)
      refine AW_iconst 48 hX dX5_race_47 rfl ic_1 ?_
      refine AW_isub 49 hX dX5_race_48 rfl ?_
      refine AW_aload_n 50 hX dX5_race_49 rfl rfl ?_
      refine AW_get 53 hX dX5_race_50 rfl fl_X5_27 (by first | assumption | exact hset_eq | exact (hset_ne (by omega)).trans (by first | assumption | exact hset_eq | exact (hset_ne (by omega)).trans (by first | assumption | exact hset_eq | exact (hset_ne (by omega)).trans (by first | assumption | exact hset_eq | exact (hset_ne (by omega)).trans (by first | assumption | exact hset_eq))))) rfl ?_
      refine AW_isub 54 hX dX5_race_53 rfl ?_
      refine AW_min 57 hX dX5_race_54 rfl mk_X5_90 (Nat.le_of_ble_eq_true rfl) (by decide) ⟨(Nat.le_refl _), (Nat.le_refl _)⟩ ?_
      rw [hmin]
      refine AW_cV (As := [_]) 60 hX dX5_race_57 rfl ml_X5_96 mw_X5_go (by first | assumption | exact hset_eq | exact (hset_ne (by omega)).trans (by first | assumption | exact hset_eq | exact (hset_ne (by omega)).trans (by first | assumption | exact hset_eq | exact (hset_ne (by omega)).trans (by first | assumption | exact hset_eq | exact (hset_ne (by omega)).trans (by first | assumption | exact hset_eq))))) (by decide) rfl rfl rfl (Nat.le_of_ble_eq_true rfl) (by decide) ⟨(Nat.le_refl _), (Nat.le_refl _)⟩ (c_go g' hk4 (by omega) hht hp12 _ hfar.2 hfar.1 (fun h2 hfell g2 hfr2 => ?_) (fun h2 hfell g2 hfr2 => ?_))
      · refine AW_pop 61 hX dX5_race_60 rfl rfl ?_
        refine AW_iinc 64 hX dX5_race_61 rfl rfl (iincp ic_1) (Nat.le_of_ble_eq_true rfl) rfl ?_
        refine AW_goto 6 hX dX5_race_64 (by decide) ?_
        rw [nI_1]
        have e1 : rI n ks ht (p, s, sd, 0) (i + 1) = (0, 0, nxD (rI n ks ht (p, s, sd, 0) i).2.2.1, (rI n ks ht (p, s, sd, 0) i).2.2.2 + 1) := by
          simp only [rI, rstep, if_pos hfell]
        have := ih (i + 1) (by omega) h2 (stp' + 1)
        simp only [e1] at this
        refine this ?_ (fr_tr hfr hfr2) _
        rw [show nI ((rI n ks ht (p, s, sd, 0) i).2.2.2 + 1) = nI (rI n ks ht (p, s, sd, 0) i).2.2.2 + 1 from (nI_1 _).symm, ← Int32.add_assoc]
        exact g2
      · refine AW_pop 61 hX dX5_race_60 rfl rfl ?_
        refine AW_iinc 64 hX dX5_race_61 rfl rfl (iincp ic_1) (Nat.le_of_ble_eq_true rfl) rfl ?_
        refine AW_goto 6 hX dX5_race_64 (by decide) ?_
        rw [nI_1]
        have e1 : rI n ks ht (p, s, sd, 0) (i + 1) = ((rI n ks ht (p, s, sd, 0) i).1 + rfar n (rI n ks ht (p, s, sd, 0) i), sa (ks ((rI n ks ht (p, s, sd, 0) i).1 + rfar n (rI n ks ht (p, s, sd, 0) i))) (rI n ks ht (p, s, sd, 0) i).2.1 (rfar n (rI n ks ht (p, s, sd, 0) i)), nxD (rI n ks ht (p, s, sd, 0) i).2.2.1, (rI n ks ht (p, s, sd, 0) i).2.2.2) := by
          simp only [rI, rstep, if_neg hfell]
        have := ih (i + 1) (by omega) h2 (stp' + 1)
        simp only [e1] at this
        exact this g2 (fr_tr hfr hfr2) _
  refine AW_iload_n 1 hX dX5_race_0 rfl rfl ?_
  refine AW_i2l 2 hX dX5_race_1 rfl ?_
  rw [nI_l (by omega)]
  refine AW_lstore_n 3 hX dX5_race_2 rfl (Nat.le_of_ble_eq_true rfl) rfl ?_
  refine AW_iconst 4 hX dX5_race_3 rfl ic_0 ?_
  refine AW_istore 6 hX dX5_race_4 rfl (Nat.le_of_ble_eq_true rfl) rfl ?_
  exact loop c 0 (by omega) h stp (by show sc h b (n, ks, ht, p, s, stp, fl + 0, m, hd); rw [Int32.add_zero]; exact g) (fr_rf _ _ _) none
set_option maxRecDepth 100000 in
set_option maxHeartbeats 4000000 in
theorem c_scopy {h : AH} {K : Option Value → AH → Prop} {b b2 n ht p s n2 ht2 p2 s2 : Nat} {ks ks2 : Nat → Nat} {stp fl stp2 fl2 : Int32} {m m2 : Nat} {hd hd2 : HD} (g : sc h b (n, ks, ht, p, s, stp, fl, m, hd)) (g2 : sc h b2 (n2, ks2, ht2, p2, s2, stp2, fl2, m2, hd2)) (hab : b + 8 ≤ b2 ∨ b2 + 8 ≤ b) (hK : ∀ h' : AH, sc h' b (n2, ks2, ht2, p2, s2, stp2, fl2, m2, hd2) → fr h h' b (b + 8) → K none h') : aX5_copyFrom 3 [.ref b, .ref b2] h K := by
  obtain ⟨ha, ⟨f, hgr, hks⟩, hhe⟩ := id g
  obtain ⟨ha2, ⟨f2, hgr2, hks2⟩, hhe2⟩ := id g2
  have hga := hgr.1
  have hha := hhe.1
  refine AM.of [some (.ref b), some (.ref b2)] pn_X5_copyFrom rfl (Nat.le_of_ble_eq_true rfl) (fun X hX hE => ?_)
  refine AW_aload_n 1 hX dX5_copyFrom_0 rfl rfl ?_
  refine AW_get 4 hX dX5_copyFrom_1 rfl fl_X5_10 (by first | assumption | exact hset_eq | exact (hset_ne (by omega)).trans (by first | assumption | exact hset_eq | exact (hset_ne (by omega)).trans (by first | assumption | exact hset_eq | exact (hset_ne (by omega)).trans (by first | assumption | exact hset_eq | exact (hset_ne (by omega)).trans (by first | assumption | exact hset_eq))))) rfl ?_
  refine AW_aload_n 5 hX dX5_copyFrom_4 rfl rfl ?_
  refine AW_get 8 hX dX5_copyFrom_5 rfl fl_X5_10 (by first | assumption | exact hset_eq | exact (hset_ne (by omega)).trans (by first | assumption | exact hset_eq | exact (hset_ne (by omega)).trans (by first | assumption | exact hset_eq | exact (hset_ne (by omega)).trans (by first | assumption | exact hset_eq | exact (hset_ne (by omega)).trans (by first | assumption | exact hset_eq))))) rfl ?_
  refine AW_cV (As := [_]) 11 hX dX5_copyFrom_8 rfl ml_X5_54 mw_X0_copyFrom (by first | assumption | exact hset_eq | exact (hset_ne (by omega)).trans (by first | assumption | exact hset_eq | exact (hset_ne (by omega)).trans (by first | assumption | exact hset_eq | exact (hset_ne (by omega)).trans (by first | assumption | exact hset_eq | exact (hset_ne (by omega)).trans (by first | assumption | exact hset_eq))))) (by decide) rfl rfl rfl (Nat.le_of_ble_eq_true rfl) (by decide) ⟨(Nat.le_refl _), (Nat.le_refl _)⟩ (c_gcopy hgr hgr2 (by omega) (fun h3 f3 hgr3 hf3 hfr3 => ?_))
  have ha3 := (hfr3 b (by omega)).trans ha
  have ha23 := (hfr3 b2 (by omega)).trans ha2
  have hhe3 := heC_fr hhe hfr3 (by omega)
  have hhe23 := heC_fr hhe2 hfr3 (by omega)
  have hha3 := hhe3.1
  refine AW_aload_n 12 hX dX5_copyFrom_11 rfl rfl ?_
  refine AW_get 15 hX dX5_copyFrom_12 rfl fl_X5_19 (by first | assumption | exact hset_eq | exact (hset_ne (by omega)).trans (by first | assumption | exact hset_eq | exact (hset_ne (by omega)).trans (by first | assumption | exact hset_eq | exact (hset_ne (by omega)).trans (by first | assumption | exact hset_eq | exact (hset_ne (by omega)).trans (by first | assumption | exact hset_eq))))) rfl ?_
  refine AW_aload_n 16 hX dX5_copyFrom_15 rfl rfl ?_
  refine AW_get 19 hX dX5_copyFrom_16 rfl fl_X5_19 (by first | assumption | exact hset_eq | exact (hset_ne (by omega)).trans (by first | assumption | exact hset_eq | exact (hset_ne (by omega)).trans (by first | assumption | exact hset_eq | exact (hset_ne (by omega)).trans (by first | assumption | exact hset_eq | exact (hset_ne (by omega)).trans (by first | assumption | exact hset_eq))))) rfl ?_
  refine AW_cV (As := [_]) 22 hX dX5_copyFrom_19 rfl ml_X5_58 mw_X1_copyFrom (by first | assumption | exact hset_eq | exact (hset_ne (by omega)).trans (by first | assumption | exact hset_eq | exact (hset_ne (by omega)).trans (by first | assumption | exact hset_eq | exact (hset_ne (by omega)).trans (by first | assumption | exact hset_eq | exact (hset_ne (by omega)).trans (by first | assumption | exact hset_eq))))) (by decide) rfl rfl rfl (Nat.le_of_ble_eq_true rfl) (by decide) ⟨(Nat.le_refl _), (Nat.le_refl _)⟩ (c_hcopy hhe3 hhe23 (by omega) (fun h4 hhe4 hfr4 => ?_))
  have ha4 := (hfr4 b (by omega)).trans ha3
  have ha24 := (hfr4 b2 (by omega)).trans ha23
  have hgr4 := gr_fr hgr3 hfr4 (by omega)
  refine AW_aload_n 23 hX dX5_copyFrom_22 rfl rfl ?_
  refine AW_aload_n 24 hX dX5_copyFrom_23 rfl rfl ?_
  refine AW_get 27 hX dX5_copyFrom_24 rfl fl_X5_23 (by first | assumption | exact hset_eq | exact (hset_ne (by omega)).trans (by first | assumption | exact hset_eq | exact (hset_ne (by omega)).trans (by first | assumption | exact hset_eq | exact (hset_ne (by omega)).trans (by first | assumption | exact hset_eq | exact (hset_ne (by omega)).trans (by first | assumption | exact hset_eq))))) rfl ?_
  refine AW_put 30 hX dX5_copyFrom_27 rfl fl_X5_23 (by first | assumption | exact hset_eq | exact (hset_ne (by omega)).trans (by first | assumption | exact hset_eq | exact (hset_ne (by omega)).trans (by first | assumption | exact hset_eq | exact (hset_ne (by omega)).trans (by first | assumption | exact hset_eq | exact (hset_ne (by omega)).trans (by first | assumption | exact hset_eq))))) rfl (fun _ => rfl) (fun _ => rfl) (Nat.le_of_ble_eq_true rfl) ?_
  try rw [hset_hset]
  refine AW_aload_n 31 hX dX5_copyFrom_30 rfl rfl ?_
  refine AW_aload_n 32 hX dX5_copyFrom_31 rfl rfl ?_
  refine AW_get 35 hX dX5_copyFrom_32 rfl fl_X5_27 (by first | assumption | exact hset_eq | exact (hset_ne (by omega)).trans (by first | assumption | exact hset_eq | exact (hset_ne (by omega)).trans (by first | assumption | exact hset_eq | exact (hset_ne (by omega)).trans (by first | assumption | exact hset_eq | exact (hset_ne (by omega)).trans (by first | assumption | exact hset_eq))))) rfl ?_
  refine AW_put 38 hX dX5_copyFrom_35 rfl fl_X5_27 (by first | assumption | exact hset_eq | exact (hset_ne (by omega)).trans (by first | assumption | exact hset_eq | exact (hset_ne (by omega)).trans (by first | assumption | exact hset_eq | exact (hset_ne (by omega)).trans (by first | assumption | exact hset_eq | exact (hset_ne (by omega)).trans (by first | assumption | exact hset_eq))))) rfl (fun _ => rfl) (fun _ => rfl) (Nat.le_of_ble_eq_true rfl) ?_
  try rw [hset_hset]
  refine AW_aload_n 39 hX dX5_copyFrom_38 rfl rfl ?_
  refine AW_aload_n 40 hX dX5_copyFrom_39 rfl rfl ?_
  refine AW_get 43 hX dX5_copyFrom_40 rfl fl_X5_30 (by first | assumption | exact hset_eq | exact (hset_ne (by omega)).trans (by first | assumption | exact hset_eq | exact (hset_ne (by omega)).trans (by first | assumption | exact hset_eq | exact (hset_ne (by omega)).trans (by first | assumption | exact hset_eq | exact (hset_ne (by omega)).trans (by first | assumption | exact hset_eq))))) rfl ?_
  refine AW_put 46 hX dX5_copyFrom_43 rfl fl_X5_30 (by first | assumption | exact hset_eq | exact (hset_ne (by omega)).trans (by first | assumption | exact hset_eq | exact (hset_ne (by omega)).trans (by first | assumption | exact hset_eq | exact (hset_ne (by omega)).trans (by first | assumption | exact hset_eq | exact (hset_ne (by omega)).trans (by first | assumption | exact hset_eq))))) rfl (fun _ => rfl) (fun _ => rfl) (Nat.le_of_ble_eq_true rfl) ?_
  try rw [hset_hset]
  refine AW_aload_n 47 hX dX5_copyFrom_46 rfl rfl ?_
  refine AW_aload_n 48 hX dX5_copyFrom_47 rfl rfl ?_
  refine AW_get 51 hX dX5_copyFrom_48 rfl fl_X5_33 (by first | assumption | exact hset_eq | exact (hset_ne (by omega)).trans (by first | assumption | exact hset_eq | exact (hset_ne (by omega)).trans (by first | assumption | exact hset_eq | exact (hset_ne (by omega)).trans (by first | assumption | exact hset_eq | exact (hset_ne (by omega)).trans (by first | assumption | exact hset_eq))))) rfl ?_
  refine AW_put 54 hX dX5_copyFrom_51 rfl fl_X5_33 (by first | assumption | exact hset_eq | exact (hset_ne (by omega)).trans (by first | assumption | exact hset_eq | exact (hset_ne (by omega)).trans (by first | assumption | exact hset_eq | exact (hset_ne (by omega)).trans (by first | assumption | exact hset_eq | exact (hset_ne (by omega)).trans (by first | assumption | exact hset_eq))))) rfl (fun _ => rfl) (fun _ => rfl) (Nat.le_of_ble_eq_true rfl) ?_
  try rw [hset_hset]
  refine AW_aload_n 55 hX dX5_copyFrom_54 rfl rfl ?_
  refine AW_aload_n 56 hX dX5_copyFrom_55 rfl rfl ?_
  refine AW_get 59 hX dX5_copyFrom_56 rfl fl_X5_36 (by first | assumption | exact hset_eq | exact (hset_ne (by omega)).trans (by first | assumption | exact hset_eq | exact (hset_ne (by omega)).trans (by first | assumption | exact hset_eq | exact (hset_ne (by omega)).trans (by first | assumption | exact hset_eq | exact (hset_ne (by omega)).trans (by first | assumption | exact hset_eq))))) rfl ?_
  refine AW_put 62 hX dX5_copyFrom_59 rfl fl_X5_36 (by first | assumption | exact hset_eq | exact (hset_ne (by omega)).trans (by first | assumption | exact hset_eq | exact (hset_ne (by omega)).trans (by first | assumption | exact hset_eq | exact (hset_ne (by omega)).trans (by first | assumption | exact hset_eq | exact (hset_ne (by omega)).trans (by first | assumption | exact hset_eq))))) rfl (fun _ => rfl) (fun _ => rfl) (Nat.le_of_ble_eq_true rfl) ?_
  try rw [hset_hset]
  refine AW_vret hX hE dX5_copyFrom_62 (Nat.le_refl _) (Nat.le_refl _) ?_
  refine hK _ ⟨hset_eq, ⟨f3, gr_fr hgr4 (fr_set (lo := b) (hi := b + 1) (by omega) (by omega)) (by omega), fun j hj => (hf3 j hj).trans (hks2 j hj)⟩, heC_fr hhe4 (fr_set (lo := b) (hi := b + 1) (by omega) (by omega)) (by omega)⟩ ?_
  exact fr_tr (fr_tr (fr_wide hfr3 (by omega) (by omega)) (fr_wide hfr4 (by omega) (by omega))) (fr_set (by omega) (by omega))
set_option maxRecDepth 100000 in
set_option maxHeartbeats 4000000 in
theorem c_begin {h : AH} {K : Option Value → AH → Prop} {b n ht p s : Nat} {ks : Nat → Nat} {stp fl : Int32} {m : Nat} {hd : HD} (g : sc h b (n, ks, ht, p, s, stp, fl, m, hd)) {a pm : Nat} {pg : Nat → Nat} (hp : pgC h a pm pg) (hw : pwh pm pg) (hab : b + 8 ≤ a ∨ a + 2 ≤ b) (hK : ∀ h' : AH, sc h' b (plc pm pg, fun j => kn (pAt pm pg j), pAt pm pg (pm - 1) - 48, 0, 0, 0, 0, 0, hd) → fr h h' b (b + 8) → K none h') : aX5_begin 7 [.ref b, .ref a] h K := by
  obtain ⟨ha, ⟨f, hgr, hks⟩, hhe⟩ := id g
  have hga := hgr.1
  have hha := hhe.1
  refine AM.of [some (.ref b), some (.ref a)] pn_X5_begin rfl (Nat.le_of_ble_eq_true rfl) (fun X hX hE => ?_)
  refine AW_aload_n 1 hX dX5_begin_0 rfl rfl ?_
  refine AW_get 4 hX dX5_begin_1 rfl fl_X5_10 (by first | assumption | exact hset_eq | exact (hset_ne (by omega)).trans (by first | assumption | exact hset_eq | exact (hset_ne (by omega)).trans (by first | assumption | exact hset_eq | exact (hset_ne (by omega)).trans (by first | assumption | exact hset_eq | exact (hset_ne (by omega)).trans (by first | assumption | exact hset_eq))))) rfl ?_
  refine AW_aload_n 5 hX dX5_begin_4 rfl rfl ?_
  refine AW_cV (As := [_]) 8 hX dX5_begin_5 rfl ml_X5_39 mw_X0_read (by first | assumption | exact hset_eq | exact (hset_ne (by omega)).trans (by first | assumption | exact hset_eq | exact (hset_ne (by omega)).trans (by first | assumption | exact hset_eq | exact (hset_ne (by omega)).trans (by first | assumption | exact hset_eq | exact (hset_ne (by omega)).trans (by first | assumption | exact hset_eq))))) (by decide) rfl rfl rfl (Nat.le_of_ble_eq_true rfl) (by decide) ⟨(Nat.le_refl _), (Nat.le_refl _)⟩ (c_gread hgr hp (by omega) (fun h3 f3 hgr3 hf3 hfr3 => ?_))
  have ha3 := (hfr3 b (by omega)).trans ha
  have hhe3 := heC_fr hhe hfr3 (by omega)
  have hp3 := pgC_fr hp hfr3 (by omega)
  have hha3 := hhe3.1
  refine AW_aload_n 9 hX dX5_begin_8 rfl rfl ?_
  refine AW_get 12 hX dX5_begin_9 rfl fl_X5_19 (by first | assumption | exact hset_eq | exact (hset_ne (by omega)).trans (by first | assumption | exact hset_eq | exact (hset_ne (by omega)).trans (by first | assumption | exact hset_eq | exact (hset_ne (by omega)).trans (by first | assumption | exact hset_eq | exact (hset_ne (by omega)).trans (by first | assumption | exact hset_eq))))) rfl ?_
  refine AW_cV (As := []) 15 hX dX5_begin_12 rfl ml_X5_43 mw_X1_clear (by first | assumption | exact hset_eq | exact (hset_ne (by omega)).trans (by first | assumption | exact hset_eq | exact (hset_ne (by omega)).trans (by first | assumption | exact hset_eq | exact (hset_ne (by omega)).trans (by first | assumption | exact hset_eq | exact (hset_ne (by omega)).trans (by first | assumption | exact hset_eq))))) (by decide) rfl rfl rfl (Nat.le_of_ble_eq_true rfl) (by decide) ⟨(Nat.le_refl _), (Nat.le_refl _)⟩ (c_hclear hhe3 (fun h4 hhe4 hfr4 => ?_))
  have ha4 := (hfr4 b (by omega)).trans ha3
  have hgr4 := gr_fr hgr3 hfr4 (by omega)
  have hp4 := pgC_fr hp3 hfr4 (by omega)
  have hpa4 := hp4.1
  refine AW_pop 16 hX dX5_begin_15 rfl rfl ?_
  refine AW_aload_n 17 hX dX5_begin_16 rfl rfl ?_
  refine AW_aload_n 18 hX dX5_begin_17 rfl rfl ?_
  refine AW_cV (As := []) 21 hX dX5_begin_18 rfl ml_X5_47 mw_X3_height (by first | assumption | exact hset_eq | exact (hset_ne (by omega)).trans (by first | assumption | exact hset_eq | exact (hset_ne (by omega)).trans (by first | assumption | exact hset_eq | exact (hset_ne (by omega)).trans (by first | assumption | exact hset_eq | exact (hset_ne (by omega)).trans (by first | assumption | exact hset_eq))))) (by decide) rfl rfl rfl (Nat.le_of_ble_eq_true rfl) (by decide) ⟨(Nat.le_refl _), (Nat.le_refl _)⟩ (c_pheight hp4 hw ?_)
  refine AW_put 24 hX dX5_begin_21 rfl fl_X5_23 (by first | assumption | exact hset_eq | exact (hset_ne (by omega)).trans (by first | assumption | exact hset_eq | exact (hset_ne (by omega)).trans (by first | assumption | exact hset_eq | exact (hset_ne (by omega)).trans (by first | assumption | exact hset_eq | exact (hset_ne (by omega)).trans (by first | assumption | exact hset_eq))))) rfl (fun _ => rfl) (fun _ => rfl) (Nat.le_of_ble_eq_true rfl) ?_
  try rw [hset_hset]
  refine AW_aload_n 25 hX dX5_begin_24 rfl rfl ?_
  refine AW_iconst 26 hX dX5_begin_25 rfl ic_0 ?_
  refine AW_put 29 hX dX5_begin_26 rfl fl_X5_33 (by first | assumption | exact hset_eq | exact (hset_ne (by omega)).trans (by first | assumption | exact hset_eq | exact (hset_ne (by omega)).trans (by first | assumption | exact hset_eq | exact (hset_ne (by omega)).trans (by first | assumption | exact hset_eq | exact (hset_ne (by omega)).trans (by first | assumption | exact hset_eq))))) rfl (fun _ => rfl) (fun _ => rfl) (Nat.le_of_ble_eq_true rfl) ?_
  try rw [hset_hset]
  refine AW_aload_n 30 hX dX5_begin_29 rfl rfl ?_
  refine AW_iconst 31 hX dX5_begin_30 rfl ic_0 ?_
  refine AW_put 34 hX dX5_begin_31 rfl fl_X5_36 (by first | assumption | exact hset_eq | exact (hset_ne (by omega)).trans (by first | assumption | exact hset_eq | exact (hset_ne (by omega)).trans (by first | assumption | exact hset_eq | exact (hset_ne (by omega)).trans (by first | assumption | exact hset_eq | exact (hset_ne (by omega)).trans (by first | assumption | exact hset_eq))))) rfl (fun _ => rfl) (fun _ => rfl) (Nat.le_of_ble_eq_true rfl) ?_
  try rw [hset_hset]
  refine AW_aload_n 35 hX dX5_begin_34 rfl rfl ?_
  refine AW_cV (As := []) 38 hX dX5_begin_35 rfl ml_X5_51 mw_X5_backToStart (by first | assumption | exact hset_eq | exact (hset_ne (by omega)).trans (by first | assumption | exact hset_eq | exact (hset_ne (by omega)).trans (by first | assumption | exact hset_eq | exact (hset_ne (by omega)).trans (by first | assumption | exact hset_eq | exact (hset_ne (by omega)).trans (by first | assumption | exact hset_eq))))) (by decide) rfl rfl rfl (Nat.le_of_ble_eq_true rfl) (by decide) ⟨(Nat.le_refl _), (Nat.le_refl _)⟩ (c_back hset_eq ?_)
  refine AW_vret hX hE dX5_begin_38 (Nat.le_refl _) (Nat.le_refl _) ?_
  rw [hset_hset]
  refine hK _ ⟨hset_eq, ⟨f3, gr_fr hgr4 (fr_set (lo := b) (hi := b + 1) (by omega) (by omega)) (by omega), hf3⟩, heC_fr hhe4 (fr_set (lo := b) (hi := b + 1) (by omega) (by omega)) (by omega)⟩ ?_
  exact fr_tr (fr_tr (fr_wide hfr3 (by omega) (by omega)) (fr_wide hfr4 (by omega) (by omega))) (fr_set (by omega) (by omega))
