/-! the page: pg j is letter j of m -/
def pAt (m : Nat) (pg : Nat → Nat) (i : Nat) : Nat := if i < m then pg i else 0
def plA (m : Nat) (pg : Nat → Nat) : Nat → Nat → Nat
  | 0, i => i
  | d + 1, i => if kn (pAt m pg i) < 5 then plA m pg d (i + 1) else i
/-- how many kinds the page begins with -/
def plc (m : Nat) (pg : Nat → Nat) : Nat := plA m pg 12 0
/-- the first wrong letter -/
def fw (m : Nat) (pg : Nat → Nat) : Nat := if plc m pg < 4 ∨ pAt m pg (plc m pg) ≠ 59 then plc m pg else if 49 ≤ pAt m pg (plc m pg + 1) ∧ pAt m pg (plc m pg + 1) ≤ 57 then plc m pg + 2 else plc m pg + 1
/-- the page is a yard -/
def pwh (m : Nat) (pg : Nat → Nat) : Prop := 4 ≤ plc m pg ∧ pAt m pg (plc m pg) = 59 ∧ 49 ≤ pAt m pg (plc m pg + 1) ∧ pAt m pg (plc m pg + 1) ≤ 57 ∧ m = plc m pg + 2
theorem kn0 : ¬ kn 0 < 5 := by decide
theorem plA_le (m : Nat) (pg : Nat → Nat) : ∀ d i, i ≤ m → i ≤ plA m pg d i ∧ plA m pg d i ≤ i + d ∧ plA m pg d i ≤ m
  | 0, i, hi => by simp only [plA]; omega
  | d + 1, i, hi => by
    simp only [plA]
    split
    next hk =>
      have him : i < m := by
        rcases Nat.lt_or_ge i m with q | q
        · exact q
        · simp only [pAt, if_neg (Nat.not_lt.mpr q)] at hk
          exact absurd hk kn0
      have := plA_le m pg d (i + 1) him
      omega
    next => omega
theorem plc_le (m : Nat) (pg : Nat → Nat) : plc m pg ≤ 12 ∧ plc m pg ≤ m := by
  have := plA_le m pg 12 0 (Nat.zero_le _)
  simp only [plc]
  omega
theorem plA_kn (m : Nat) (pg : Nat → Nat) : ∀ d i j, i ≤ j → j < plA m pg d i → kn (pAt m pg j) < 5
  | 0, i, j, h1, h2 => by simp only [plA] at h2; omega
  | d + 1, i, j, h1, h2 => by
    simp only [plA] at h2
    split at h2
    next hk =>
      by_cases e : j = i
      · subst e; exact hk
      · exact plA_kn m pg d (i + 1) j (by omega) h2
    next => omega
theorem plc_kn {m : Nat} {pg : Nat → Nat} {j : Nat} (h : j < plc m pg) : kn (pAt m pg j) < 5 := plA_kn m pg 12 0 j (Nat.zero_le _) h
/-- a Page at a -/
def pgC (h : AH) (a m : Nat) (pg : Nat → Nat) : Prop := h a = some (.inl (2, [.ref (a + 1), .int (nI m)])) ∧ m ≤ 16 ∧ (∀ j, j < m → pg j < 128) ∧ ∃ f, h (a + 1) = some (.inr (0, 16, f)) ∧ ∀ j, j < m → f j = nI (pg j)
theorem pgC_fr {h h' : AH} {a m lo hi : Nat} {pg : Nat → Nat} (g : pgC h a m pg) (q : fr h h' lo hi) (ho : a + 2 ≤ lo ∨ hi ≤ a) : pgC h' a m pg := by
  obtain ⟨h1, h2, h3, f, h4, h5⟩ := g
  exact ⟨(q a (by omega)).trans h1, h2, h3, f, (q (a + 1) (by omega)).trans h4, h5⟩
theorem pAt_lt {h : AH} {a m : Nat} {pg : Nat → Nat} (g : pgC h a m pg) (i : Nat) : pAt m pg i < 128 := by
  simp only [pAt]
  split
  next hi => exact g.2.2.1 i hi
  next => omega
theorem krn {c : Nat} (hc : kn c < 5) : ¬ kr c = -1 := by
  simp only [kr, if_pos hc]
  have : ∀ k, k < 5 → ¬ nI k = -1 := by decide
  exact this _ hc
theorem kry {c : Nat} (hc : ¬ kn c < 5) : kr c = -1 := by simp only [kr, if_neg hc]
set_option maxRecDepth 100000 in
set_option maxHeartbeats 4000000 in
theorem c_psize {h : AH} {K : Option Value → AH → Prop} {a m : Nat} {pg : Nat → Nat} (hg : pgC h a m pg) (hK : K (some (.int (nI m))) h) : aX3_size 0 [.ref a] h K := by
  have ha := hg.1
  refine AM.of [some (.ref a)] pn_X3_size rfl (Nat.le_of_ble_eq_true rfl) (fun X hX hE => ?_)
  refine AW_aload_n 1 hX dX3_size_0 rfl rfl ?_
  refine AW_get 4 hX dX3_size_1 rfl fl_X3_15 (by first | assumption | exact hset_eq | exact (hset_ne (by omega)).trans (by first | assumption | exact hset_eq | exact (hset_ne (by omega)).trans (by first | assumption | exact hset_eq | exact (hset_ne (by omega)).trans (by first | assumption | exact hset_eq | exact (hset_ne (by omega)).trans (by first | assumption | exact hset_eq))))) rfl ?_
  refine AW_iret hX hE dX3_size_4 rfl (Nat.le_refl _) (Nat.le_refl _) ?_
  exact hK
set_option maxRecDepth 100000 in
set_option maxHeartbeats 4000000 in
theorem c_codeAt {h : AH} {K : Option Value → AH → Prop} {a m : Nat} {pg : Nat → Nat} (hg : pgC h a m pg) (i : Nat) (hi : i < 1000) (hK : K (some (.int (nI (pAt m pg i)))) h) : aX3_codeAt 0 [.ref a, .int (nI i)] h K := by
  obtain ⟨ha, hm, hc, f, hb, hf⟩ := id hg
  refine AM.of [some (.ref a), some (.int (nI i))] pn_X3_codeAt rfl (Nat.le_of_ble_eq_true rfl) (fun X hX hE => ?_)
  refine AW_iload_n 1 hX dX3_codeAt_0 rfl rfl ?_
  refine AW_if_lt 4 27 hX dX3_codeAt_1 rfl (by decide) (fun c1 => absurd c1 (nI_pos (by omega))) (fun c1 => ?_)
  refine AW_iload_n 5 hX dX3_codeAt_4 rfl rfl ?_
  refine AW_aload_n 6 hX dX3_codeAt_5 rfl rfl ?_
  refine AW_get 9 hX dX3_codeAt_6 rfl fl_X3_15 (by first | assumption | exact hset_eq | exact (hset_ne (by omega)).trans (by first | assumption | exact hset_eq | exact (hset_ne (by omega)).trans (by first | assumption | exact hset_eq | exact (hset_ne (by omega)).trans (by first | assumption | exact hset_eq | exact (hset_ne (by omega)).trans (by first | assumption | exact hset_eq))))) rfl ?_
  refine AW_icmp_ge 12 27 hX dX3_codeAt_9 rfl (by decide) (fun c9 => ?_) (fun c9 => ?_)
  · refine AW_iconst 28 hX dX3_codeAt_27 rfl ic_0 ?_
    refine AW_iret hX hE dX3_codeAt_28 rfl (Nat.le_refl _) (Nat.le_refl _) ?_
    have := iLe c9
    simp only [pAt, if_neg (Nat.not_lt.mpr this)] at hK
    exact hK
  · refine AW_iload_n 13 hX dX3_codeAt_12 rfl rfl ?_
    refine AW_bipush 15 hX dX3_codeAt_13 rfl bp_16 ?_
    refine AW_icmp_ge 18 27 hX dX3_codeAt_15 rfl (by decide) (fun c15 => absurd c15 (by have := iNle c9; exact nI_ge (a := i) (b := 16) (by omega) (by decide))) (fun c15 => ?_)
    refine AW_aload_n 19 hX dX3_codeAt_18 rfl rfl ?_
    refine AW_get 22 hX dX3_codeAt_19 rfl fl_X3_11 (by first | assumption | exact hset_eq | exact (hset_ne (by omega)).trans (by first | assumption | exact hset_eq | exact (hset_ne (by omega)).trans (by first | assumption | exact hset_eq | exact (hset_ne (by omega)).trans (by first | assumption | exact hset_eq | exact (hset_ne (by omega)).trans (by first | assumption | exact hset_eq))))) rfl ?_
    refine AW_iload_n 23 hX dX3_codeAt_22 rfl rfl ?_
    refine AW_iald 24 hX dX3_codeAt_23 rfl (by first | assumption | exact hset_eq | exact (hset_ne (by omega)).trans (by first | assumption | exact hset_eq | exact (hset_ne (by omega)).trans (by first | assumption | exact hset_eq | exact (hset_ne (by omega)).trans (by first | assumption | exact hset_eq | exact (hset_ne (by omega)).trans (by first | assumption | exact hset_eq))))) (j := i) (by have := iNle c9; omega) rfl ?_
    refine AW_goto 28 hX dX3_codeAt_24 (by decide) ?_
    refine AW_iret hX hE dX3_codeAt_28 rfl (Nat.le_refl _) (Nat.le_refl _) ?_
    have := iNle c9
    simp only [pAt, if_pos this] at hK
    rw [hf i this]
    exact hK
set_option maxRecDepth 100000 in
set_option maxHeartbeats 4000000 in
theorem c_pappend {h : AH} {K : Option Value → AH → Prop} {a m : Nat} {pg : Nat → Nat} (hg : pgC h a m pg) (c : Nat) (hc : c < 128) (h0 : m = 16 → K (some (.int 0)) h) (h1 : ∀ h' : AH, m < 16 → pgC h' a (m + 1) (fun j => if j = m then c else pg j) → fr h h' a (a + 2) → K (some (.int 1)) h') : aX3_append 0 [.ref a, .int (nI c)] h K := by
  obtain ⟨ha, hm, hcc, f, hb, hf⟩ := id hg
  refine AM.of [some (.ref a), some (.int (nI c))] pn_X3_append rfl (Nat.le_of_ble_eq_true rfl) (fun X hX hE => ?_)
  refine AW_aload_n 1 hX dX3_append_0 rfl rfl ?_
  refine AW_get 4 hX dX3_append_1 rfl fl_X3_15 (by first | assumption | exact hset_eq | exact (hset_ne (by omega)).trans (by first | assumption | exact hset_eq | exact (hset_ne (by omega)).trans (by first | assumption | exact hset_eq | exact (hset_ne (by omega)).trans (by first | assumption | exact hset_eq | exact (hset_ne (by omega)).trans (by first | assumption | exact hset_eq))))) rfl ?_
  refine AW_if_lt 7 16 hX dX3_append_4 rfl (by decide) (fun c4 => absurd c4 (nI_pos (by omega))) (fun c4 => ?_)
  refine AW_aload_n 8 hX dX3_append_7 rfl rfl ?_
  refine AW_get 11 hX dX3_append_8 rfl fl_X3_15 (by first | assumption | exact hset_eq | exact (hset_ne (by omega)).trans (by first | assumption | exact hset_eq | exact (hset_ne (by omega)).trans (by first | assumption | exact hset_eq | exact (hset_ne (by omega)).trans (by first | assumption | exact hset_eq | exact (hset_ne (by omega)).trans (by first | assumption | exact hset_eq))))) rfl ?_
  refine AW_bipush 13 hX dX3_append_11 rfl bp_16 ?_
  refine AW_icmp_lt 16 18 hX dX3_append_13 rfl (by decide) (fun c13 => ?_) (fun c13 => ?_)
  · refine AW_aload_n 19 hX dX3_append_18 rfl rfl ?_
    refine AW_get 22 hX dX3_append_19 rfl fl_X3_11 (by first | assumption | exact hset_eq | exact (hset_ne (by omega)).trans (by first | assumption | exact hset_eq | exact (hset_ne (by omega)).trans (by first | assumption | exact hset_eq | exact (hset_ne (by omega)).trans (by first | assumption | exact hset_eq | exact (hset_ne (by omega)).trans (by first | assumption | exact hset_eq))))) rfl ?_
    refine AW_aload_n 23 hX dX3_append_22 rfl rfl ?_
    refine AW_get 26 hX dX3_append_23 rfl fl_X3_15 (by first | assumption | exact hset_eq | exact (hset_ne (by omega)).trans (by first | assumption | exact hset_eq | exact (hset_ne (by omega)).trans (by first | assumption | exact hset_eq | exact (hset_ne (by omega)).trans (by first | assumption | exact hset_eq | exact (hset_ne (by omega)).trans (by first | assumption | exact hset_eq))))) rfl ?_
    refine AW_iload_n 27 hX dX3_append_26 rfl rfl ?_
    refine AW_iast 28 hX dX3_append_27 rfl (by first | assumption | exact hset_eq | exact (hset_ne (by omega)).trans (by first | assumption | exact hset_eq | exact (hset_ne (by omega)).trans (by first | assumption | exact hset_eq | exact (hset_ne (by omega)).trans (by first | assumption | exact hset_eq | exact (hset_ne (by omega)).trans (by first | assumption | exact hset_eq))))) (j := m) (by have := iLt (b := 16) c13; omega) rfl ?_
    try rw [hset_hset]
    refine AW_aload_n 29 hX dX3_append_28 rfl rfl ?_
    refine AW_dup 30 hX dX3_append_29 rfl rfl ?_
    refine AW_get 33 hX dX3_append_30 rfl fl_X3_15 (by first | assumption | exact hset_eq | exact (hset_ne (by omega)).trans (by first | assumption | exact hset_eq | exact (hset_ne (by omega)).trans (by first | assumption | exact hset_eq | exact (hset_ne (by omega)).trans (by first | assumption | exact hset_eq | exact (hset_ne (by omega)).trans (by first | assumption | exact hset_eq))))) rfl ?_
    refine AW_iconst 34 hX dX3_append_33 rfl ic_1 ?_
    refine AW_iadd 35 hX dX3_append_34 rfl ?_
    refine AW_put 38 hX dX3_append_35 rfl fl_X3_15 (by first | assumption | exact hset_eq | exact (hset_ne (by omega)).trans (by first | assumption | exact hset_eq | exact (hset_ne (by omega)).trans (by first | assumption | exact hset_eq | exact (hset_ne (by omega)).trans (by first | assumption | exact hset_eq | exact (hset_ne (by omega)).trans (by first | assumption | exact hset_eq))))) rfl (fun _ => rfl) (fun _ => rfl) (Nat.le_of_ble_eq_true rfl) ?_
    try rw [hset_hset]
    refine AW_iconst 39 hX dX3_append_38 rfl ic_1 ?_
    refine AW_iret hX hE dX3_append_39 rfl (Nat.le_refl _) (Nat.le_refl _) ?_
    have hm16 := iLt (b := 16) c13
    refine h1 _ hm16 ⟨?_, by omega, fun j hj => ?_, upd f m (nI c), (hset_ne (by omega)).trans hset_eq, fun j hj => ?_⟩ (fr_tr (fr_set (by omega) (by omega)) (fr_set (by omega) (by omega)))
    · rw [hset_eq, nI_1]
      rfl
    · show (if j = m then c else pg j) < 128
      split
      · exact hc
      · exact hcc j (by omega)
    · simp only [upd]
      split
      · rfl
      · exact hf j (by omega)
  · refine AW_iconst 17 hX dX3_append_16 rfl ic_0 ?_
    refine AW_iret hX hE dX3_append_17 rfl (Nat.le_refl _) (Nat.le_refl _) ?_
    have := iNlt (b := 16) c13
    exact h0 (by omega)
set_option maxRecDepth 100000 in
set_option maxHeartbeats 4000000 in
theorem c_pclear {h : AH} {K : Option Value → AH → Prop} {a m : Nat} {pg : Nat → Nat} (hg : pgC h a m pg) (h1 : ∀ h' : AH, pgC h' a 0 pg → fr h h' a (a + 2) → K (some (.int (nI m))) h') : aX3_clear 0 [.ref a] h K := by
  obtain ⟨ha, hm, hcc, f, hb, hf⟩ := id hg
  refine AM.of [some (.ref a), none] pn_X3_clear rfl (Nat.le_of_ble_eq_true rfl) (fun X hX hE => ?_)
  refine AW_aload_n 1 hX dX3_clear_0 rfl rfl ?_
  refine AW_get 4 hX dX3_clear_1 rfl fl_X3_15 (by first | assumption | exact hset_eq | exact (hset_ne (by omega)).trans (by first | assumption | exact hset_eq | exact (hset_ne (by omega)).trans (by first | assumption | exact hset_eq | exact (hset_ne (by omega)).trans (by first | assumption | exact hset_eq | exact (hset_ne (by omega)).trans (by first | assumption | exact hset_eq))))) rfl ?_
  refine AW_istore_n 5 hX dX3_clear_4 rfl (Nat.le_of_ble_eq_true rfl) rfl ?_
  refine AW_aload_n 6 hX dX3_clear_5 rfl rfl ?_
  refine AW_iconst 7 hX dX3_clear_6 rfl ic_0 ?_
  refine AW_put 10 hX dX3_clear_7 rfl fl_X3_15 (by first | assumption | exact hset_eq | exact (hset_ne (by omega)).trans (by first | assumption | exact hset_eq | exact (hset_ne (by omega)).trans (by first | assumption | exact hset_eq | exact (hset_ne (by omega)).trans (by first | assumption | exact hset_eq | exact (hset_ne (by omega)).trans (by first | assumption | exact hset_eq))))) rfl (fun _ => rfl) (fun _ => rfl) (Nat.le_of_ble_eq_true rfl) ?_
  try rw [hset_hset]
  refine AW_iload_n 11 hX dX3_clear_10 rfl rfl ?_
  refine AW_iret hX hE dX3_clear_11 rfl (Nat.le_refl _) (Nat.le_refl _) ?_
  exact h1 _ ⟨hset_eq, by omega, fun j hj => by omega, f, (hset_ne (by omega)).trans hb, fun j hj => by omega⟩ (fr_set (by omega) (by omega))
set_option maxRecDepth 100000 in
set_option maxHeartbeats 4000000 in
theorem c_placesAhead {h : AH} {K : Option Value → AH → Prop} {a m : Nat} {pg : Nat → Nat} (hg : pgC h a m pg) (hK : K (some (.int (nI (plc m pg)))) h) : aX3_placesAhead 5 [.ref a] h K := by
  obtain ⟨ha, hm, hcc, f, hb, hf⟩ := id hg
  refine AM.of [some (.ref a), none] pn_X3_placesAhead rfl (Nat.le_of_ble_eq_true rfl) (fun X hX hE => ?_)
  have loop : ∀ d i, i + d = 12 → i ≤ m → plA m pg d i = plc m pg → AW X 0 0 2 [some (.ref a), some (.int (nI i))] [] h := by
    intro d
    induction d with
    | zero =>
      intro i hi him e
      simp only [plA] at e
      refine AW_iload_n 3 hX dX3_placesAhead_2 rfl rfl ?_
      refine AW_aload_n 4 hX dX3_placesAhead_3 rfl rfl ?_
      refine AW_get 7 hX dX3_placesAhead_4 rfl fl_X3_15 (by first | assumption | exact hset_eq | exact (hset_ne (by omega)).trans (by first | assumption | exact hset_eq | exact (hset_ne (by omega)).trans (by first | assumption | exact hset_eq | exact (hset_ne (by omega)).trans (by first | assumption | exact hset_eq | exact (hset_ne (by omega)).trans (by first | assumption | exact hset_eq))))) rfl ?_
      refine AW_icmp_ge 10 34 hX dX3_placesAhead_7 rfl (by decide) (fun c7 => ?_) (fun c7 => ?_)
      · refine AW_iload_n 35 hX dX3_placesAhead_34 rfl rfl ?_
        refine AW_iret hX hE dX3_placesAhead_35 rfl (Nat.le_refl _) (Nat.le_refl _) ?_
        rw [← e] at hK; exact hK
      · refine AW_iload_n 11 hX dX3_placesAhead_10 rfl rfl ?_
        refine AW_bipush 13 hX dX3_placesAhead_11 rfl bp_12 ?_
        refine AW_icmp_ge 16 34 hX dX3_placesAhead_13 rfl (by decide) (fun c13 => ?_) (fun c13 => absurd (nI_le (a := 12) (b := i) (by omega) (by omega)) c13)
        refine AW_iload_n 35 hX dX3_placesAhead_34 rfl rfl ?_
        refine AW_iret hX hE dX3_placesAhead_35 rfl (Nat.le_refl _) (Nat.le_refl _) ?_
        rw [← e] at hK; exact hK
    | succ d ih =>
      intro i hi him e
      simp only [plA] at e
      refine AW_iload_n 3 hX dX3_placesAhead_2 rfl rfl ?_
      refine AW_aload_n 4 hX dX3_placesAhead_3 rfl rfl ?_
      refine AW_get 7 hX dX3_placesAhead_4 rfl fl_X3_15 (by first | assumption | exact hset_eq | exact (hset_ne (by omega)).trans (by first | assumption | exact hset_eq | exact (hset_ne (by omega)).trans (by first | assumption | exact hset_eq | exact (hset_ne (by omega)).trans (by first | assumption | exact hset_eq | exact (hset_ne (by omega)).trans (by first | assumption | exact hset_eq))))) rfl ?_
      refine AW_icmp_ge 10 34 hX dX3_placesAhead_7 rfl (by decide) (fun c7 => ?_) (fun c7 => ?_)
      · refine AW_iload_n 35 hX dX3_placesAhead_34 rfl rfl ?_
        refine AW_iret hX hE dX3_placesAhead_35 rfl (Nat.le_refl _) (Nat.le_refl _) ?_
        have := iLe c7
        rw [if_neg (by simp only [pAt, if_neg (Nat.not_lt.mpr this)]; exact kn0)] at e
        rw [← e] at hK
        exact hK
      · refine AW_iload_n 11 hX dX3_placesAhead_10 rfl rfl ?_
        refine AW_bipush 13 hX dX3_placesAhead_11 rfl bp_12 ?_
        refine AW_icmp_ge 16 34 hX dX3_placesAhead_13 rfl (by decide) (fun c13 => absurd c13 (nI_ge (a := i) (b := 12) (by omega) (by decide))) (fun c13 => ?_)
        refine AW_aload_n 17 hX dX3_placesAhead_16 rfl rfl ?_
        refine AW_iload_n 18 hX dX3_placesAhead_17 rfl rfl ?_
        refine AW_cV (As := [_]) 21 hX dX3_placesAhead_18 rfl ml_X3_19 mw_X3_codeAt (by first | assumption | exact hset_eq | exact (hset_ne (by omega)).trans (by first | assumption | exact hset_eq | exact (hset_ne (by omega)).trans (by first | assumption | exact hset_eq | exact (hset_ne (by omega)).trans (by first | assumption | exact hset_eq | exact (hset_ne (by omega)).trans (by first | assumption | exact hset_eq))))) (by decide) rfl rfl rfl (Nat.le_of_ble_eq_true rfl) (by decide) ⟨(Nat.le_refl _), (Nat.le_refl _)⟩ (c_codeAt hg i (by omega) ?_)
        refine AW_cS (As := [_]) 24 hX dX3_placesAhead_21 rfl ml_X3_23 mw_X2_ofLetter rfl rfl (Nat.le_of_ble_eq_true rfl) (by decide) ⟨(Nat.le_refl _), (Nat.le_refl _)⟩ (c_ofLetter _ (pAt_lt hg i) ?_)
        refine AW_iconst 25 hX dX3_placesAhead_24 rfl ic_m1 ?_
        refine AW_icmp_eq 28 34 hX dX3_placesAhead_25 rfl (by decide) (fun c25 => ?_) (fun c25 => ?_)
        · refine AW_iload_n 35 hX dX3_placesAhead_34 rfl rfl ?_
          refine AW_iret hX hE dX3_placesAhead_35 rfl (Nat.le_refl _) (Nat.le_refl _) ?_
          rw [if_neg (fun q => krn q c25)] at e
          rw [← e] at hK
          exact hK
        · refine AW_iinc 31 hX dX3_placesAhead_28 rfl rfl (iincp ic_1) (Nat.le_of_ble_eq_true rfl) rfl ?_
          refine AW_goto 2 hX dX3_placesAhead_31 (by decide) ?_
          have hk : kn (pAt m pg i) < 5 := Classical.byContradiction fun q => c25 (kry q)
          rw [if_pos hk] at e
          rw [nI_1]
          have := iNle c7
          exact ih (i + 1) (by omega) (by omega) e
  refine AW_iconst 1 hX dX3_placesAhead_0 rfl ic_0 ?_
  refine AW_istore_n 2 hX dX3_placesAhead_1 rfl (Nat.le_of_ble_eq_true rfl) rfl ?_
  exact loop 12 0 (by omega) (Nat.zero_le _) rfl
set_option maxRecDepth 100000 in
set_option maxHeartbeats 4000000 in
theorem c_firstWrong {h : AH} {K : Option Value → AH → Prop} {a m : Nat} {pg : Nat → Nat} (hg : pgC h a m pg) (hK : K (some (.int (nI (fw m pg)))) h) : aX3_firstWrong 6 [.ref a] h K := by
  obtain ⟨ha, hm, hcc, f, hb, hf⟩ := id hg
  have hpl := plc_le m pg
  have hp0 : ∀ i, m ≤ i → pAt m pg i = 0 := fun i hi => by simp only [pAt, if_neg (Nat.not_lt.mpr hi)]
  have hp1 : ∀ i, pAt m pg i < 128 := fun i => pAt_lt hg i
  refine AM.of [some (.ref a), none, none] pn_X3_firstWrong rfl (Nat.le_of_ble_eq_true rfl) (fun X hX hE => ?_)
  refine AW_aload_n 1 hX dX3_firstWrong_0 rfl rfl ?_
  refine AW_cV (As := []) 4 hX dX3_firstWrong_1 rfl ml_X3_28 mw_X3_placesAhead (by first | assumption | exact hset_eq | exact (hset_ne (by omega)).trans (by first | assumption | exact hset_eq | exact (hset_ne (by omega)).trans (by first | assumption | exact hset_eq | exact (hset_ne (by omega)).trans (by first | assumption | exact hset_eq | exact (hset_ne (by omega)).trans (by first | assumption | exact hset_eq))))) (by decide) rfl rfl rfl (Nat.le_of_ble_eq_true rfl) (by decide) ⟨(Nat.le_refl _), (Nat.le_refl _)⟩ (c_placesAhead hg ?_)
  refine AW_istore_n 5 hX dX3_firstWrong_4 rfl (Nat.le_of_ble_eq_true rfl) rfl ?_
  refine AW_iload_n 6 hX dX3_firstWrong_5 rfl rfl ?_
  refine AW_aload_n 7 hX dX3_firstWrong_6 rfl rfl ?_
  refine AW_get 10 hX dX3_firstWrong_7 rfl fl_X3_15 (by first | assumption | exact hset_eq | exact (hset_ne (by omega)).trans (by first | assumption | exact hset_eq | exact (hset_ne (by omega)).trans (by first | assumption | exact hset_eq | exact (hset_ne (by omega)).trans (by first | assumption | exact hset_eq | exact (hset_ne (by omega)).trans (by first | assumption | exact hset_eq))))) rfl ?_
  refine AW_icmp_ge 13 28 hX dX3_firstWrong_10 rfl (by decide) (fun c10 => ?_) (fun c10 => ?_)
  · refine AW_iload_n 29 hX dX3_firstWrong_28 rfl rfl ?_
    refine AW_iret hX hE dX3_firstWrong_29 rfl (Nat.le_refl _) (Nat.le_refl _) ?_
    have := iLe c10
    have h0 := hp0 _ this
    have fwk : fw m pg = plc m pg := by simp only [fw]; rw [if_pos (by omega)]
    rw [fwk] at hK
    exact hK
  · refine AW_iload_n 14 hX dX3_firstWrong_13 rfl rfl ?_
    refine AW_iconst 15 hX dX3_firstWrong_14 rfl ic_4 ?_
    refine AW_icmp_lt 18 28 hX dX3_firstWrong_15 rfl (by decide) (fun c15 => ?_) (fun c15 => ?_)
    · refine AW_iload_n 29 hX dX3_firstWrong_28 rfl rfl ?_
      refine AW_iret hX hE dX3_firstWrong_29 rfl (Nat.le_refl _) (Nat.le_refl _) ?_
      have := iLt (b := 4) c15
      have fwk : fw m pg = plc m pg := by simp only [fw]; rw [if_pos (by omega)]
      rw [fwk] at hK
      exact hK
    · refine AW_aload_n 19 hX dX3_firstWrong_18 rfl rfl ?_
      refine AW_iload_n 20 hX dX3_firstWrong_19 rfl rfl ?_
      refine AW_cV (As := [_]) 23 hX dX3_firstWrong_20 rfl ml_X3_19 mw_X3_codeAt (by first | assumption | exact hset_eq | exact (hset_ne (by omega)).trans (by first | assumption | exact hset_eq | exact (hset_ne (by omega)).trans (by first | assumption | exact hset_eq | exact (hset_ne (by omega)).trans (by first | assumption | exact hset_eq | exact (hset_ne (by omega)).trans (by first | assumption | exact hset_eq))))) (by decide) rfl rfl rfl (Nat.le_of_ble_eq_true rfl) (by decide) ⟨(Nat.le_refl _), (Nat.le_refl _)⟩ (c_codeAt hg _ (by omega) ?_)
      refine AW_bipush 25 hX dX3_firstWrong_23 rfl bp_59 ?_
      refine AW_icmp_eq 28 30 hX dX3_firstWrong_25 rfl (by decide) (fun c25 => ?_) (fun c25 => ?_)
      · refine AW_iload_n 31 hX dX3_firstWrong_30 rfl rfl ?_
        refine AW_iconst 32 hX dX3_firstWrong_31 rfl ic_1 ?_
        refine AW_iadd 33 hX dX3_firstWrong_32 rfl ?_
        rw [nI_1]
        refine AW_istore_n 34 hX dX3_firstWrong_33 rfl (Nat.le_of_ble_eq_true rfl) rfl ?_
        refine AW_iload_n 35 hX dX3_firstWrong_34 rfl rfl ?_
        refine AW_aload_n 36 hX dX3_firstWrong_35 rfl rfl ?_
        refine AW_get 39 hX dX3_firstWrong_36 rfl fl_X3_15 (by first | assumption | exact hset_eq | exact (hset_ne (by omega)).trans (by first | assumption | exact hset_eq | exact (hset_ne (by omega)).trans (by first | assumption | exact hset_eq | exact (hset_ne (by omega)).trans (by first | assumption | exact hset_eq | exact (hset_ne (by omega)).trans (by first | assumption | exact hset_eq))))) rfl ?_
        refine AW_icmp_ge 42 62 hX dX3_firstWrong_39 rfl (by decide) (fun c39 => ?_) (fun c39 => ?_)
        · refine AW_iload_n 63 hX dX3_firstWrong_62 rfl rfl ?_
          refine AW_iret hX hE dX3_firstWrong_63 rfl (Nat.le_refl _) (Nat.le_refl _) ?_
          have h59 := iEq (a := pAt m pg (plc m pg)) (b := 59) c25 (by have := hp1 (plc m pg); omega)
          have h4 := iNlt (a := plc m pg) (b := 4) c15
          have hd := iLe c39
          have h0 := hp0 _ hd
          have fwk : fw m pg = plc m pg + 1 := by simp only [fw]; rw [if_neg (by omega), if_neg (by omega)]
          rw [fwk] at hK
          exact hK
        · refine AW_aload_n 43 hX dX3_firstWrong_42 rfl rfl ?_
          refine AW_iload_n 44 hX dX3_firstWrong_43 rfl rfl ?_
          refine AW_cV (As := [_]) 47 hX dX3_firstWrong_44 rfl ml_X3_19 mw_X3_codeAt (by first | assumption | exact hset_eq | exact (hset_ne (by omega)).trans (by first | assumption | exact hset_eq | exact (hset_ne (by omega)).trans (by first | assumption | exact hset_eq | exact (hset_ne (by omega)).trans (by first | assumption | exact hset_eq | exact (hset_ne (by omega)).trans (by first | assumption | exact hset_eq))))) (by decide) rfl rfl rfl (Nat.le_of_ble_eq_true rfl) (by decide) ⟨(Nat.le_refl _), (Nat.le_refl _)⟩ (c_codeAt hg _ (by omega) ?_)
          refine AW_bipush 49 hX dX3_firstWrong_47 rfl bp_49 ?_
          refine AW_icmp_lt 52 62 hX dX3_firstWrong_49 rfl (by decide) (fun c49 => ?_) (fun c49 => ?_)
          · refine AW_iload_n 63 hX dX3_firstWrong_62 rfl rfl ?_
            refine AW_iret hX hE dX3_firstWrong_63 rfl (Nat.le_refl _) (Nat.le_refl _) ?_
            have h59 := iEq (a := pAt m pg (plc m pg)) (b := 59) c25 (by have := hp1 (plc m pg); omega)
            have h4 := iNlt (a := plc m pg) (b := 4) c15
            have h49 := iLt (a := pAt m pg (plc m pg + 1)) (b := 49) c49 (by have := hp1 (plc m pg + 1); omega)
            have fwk : fw m pg = plc m pg + 1 := by simp only [fw]; rw [if_neg (by omega), if_neg (by omega)]
            rw [fwk] at hK
            exact hK
          · refine AW_aload_n 53 hX dX3_firstWrong_52 rfl rfl ?_
            refine AW_iload_n 54 hX dX3_firstWrong_53 rfl rfl ?_
            refine AW_cV (As := [_]) 57 hX dX3_firstWrong_54 rfl ml_X3_19 mw_X3_codeAt (by first | assumption | exact hset_eq | exact (hset_ne (by omega)).trans (by first | assumption | exact hset_eq | exact (hset_ne (by omega)).trans (by first | assumption | exact hset_eq | exact (hset_ne (by omega)).trans (by first | assumption | exact hset_eq | exact (hset_ne (by omega)).trans (by first | assumption | exact hset_eq))))) (by decide) rfl rfl rfl (Nat.le_of_ble_eq_true rfl) (by decide) ⟨(Nat.le_refl _), (Nat.le_refl _)⟩ (c_codeAt hg _ (by omega) ?_)
            refine AW_bipush 59 hX dX3_firstWrong_57 rfl bp_57 ?_
            refine AW_icmp_le 62 64 hX dX3_firstWrong_59 rfl (by decide) (fun c59 => ?_) (fun c59 => ?_)
            · refine AW_iload_n 65 hX dX3_firstWrong_64 rfl rfl ?_
              refine AW_iconst 66 hX dX3_firstWrong_65 rfl ic_1 ?_
              refine AW_iadd 67 hX dX3_firstWrong_66 rfl ?_
              refine AW_iret hX hE dX3_firstWrong_67 rfl (Nat.le_refl _) (Nat.le_refl _) ?_
              have h59 := iEq (a := pAt m pg (plc m pg)) (b := 59) c25 (by have := hp1 (plc m pg); omega)
              have h4 := iNlt (a := plc m pg) (b := 4) c15
              have h49 := iNlt (a := pAt m pg (plc m pg + 1)) (b := 49) c49 (by have := hp1 (plc m pg + 1); omega)
              have h57 := iLe (a := pAt m pg (plc m pg + 1)) (b := 57) c59 (by have := hp1 (plc m pg + 1); omega)
              have fwk : fw m pg = plc m pg + 2 := by simp only [fw]; rw [if_neg (by omega), if_pos (by omega)]
              rw [nI_1]
              rw [fwk] at hK
              exact hK
            · refine AW_iload_n 63 hX dX3_firstWrong_62 rfl rfl ?_
              refine AW_iret hX hE dX3_firstWrong_63 rfl (Nat.le_refl _) (Nat.le_refl _) ?_
              have h59 := iEq (a := pAt m pg (plc m pg)) (b := 59) c25 (by have := hp1 (plc m pg); omega)
              have h4 := iNlt (a := plc m pg) (b := 4) c15
              have h57 := iNle (a := pAt m pg (plc m pg + 1)) (b := 57) c59 (by have := hp1 (plc m pg + 1); omega)
              have fwk : fw m pg = plc m pg + 1 := by simp only [fw]; rw [if_neg (by omega), if_neg (by omega)]
              rw [fwk] at hK
              exact hK
      · refine AW_iload_n 29 hX dX3_firstWrong_28 rfl rfl ?_
        refine AW_iret hX hE dX3_firstWrong_29 rfl (Nat.le_refl _) (Nat.le_refl _) ?_
        have h59 : ¬ pAt m pg (plc m pg) = 59 := fun e => c25 (by rw [e]; rfl)
        have fwk : fw m pg = plc m pg := by simp only [fw]; rw [if_pos (by omega)]
        rw [fwk] at hK
        exact hK
set_option maxRecDepth 100000 in
set_option maxHeartbeats 4000000 in
theorem c_isWhole {h : AH} {K : Option Value → AH → Prop} {a m : Nat} {pg : Nat → Nat} (hg : pgC h a m pg) (h1 : pwh m pg → K (some (.int 1)) h) (h0 : ¬ pwh m pg → K (some (.int 0)) h) : aX3_isWhole 7 [.ref a] h K := by
  obtain ⟨ha, hm, hcc, f, hb, hf⟩ := id hg
  have hpl := plc_le m pg
  have hfw : fw m pg ≤ plc m pg + 2 := by simp only [fw]; split; omega; split <;> omega
  refine AM.of [some (.ref a), none] pn_X3_isWhole rfl (Nat.le_of_ble_eq_true rfl) (fun X hX hE => ?_)
  refine AW_aload_n 1 hX dX3_isWhole_0 rfl rfl ?_
  refine AW_cV (As := []) 4 hX dX3_isWhole_1 rfl ml_X3_28 mw_X3_placesAhead (by first | assumption | exact hset_eq | exact (hset_ne (by omega)).trans (by first | assumption | exact hset_eq | exact (hset_ne (by omega)).trans (by first | assumption | exact hset_eq | exact (hset_ne (by omega)).trans (by first | assumption | exact hset_eq | exact (hset_ne (by omega)).trans (by first | assumption | exact hset_eq))))) (by decide) rfl rfl rfl (Nat.le_of_ble_eq_true rfl) (by decide) ⟨(Nat.le_refl _), (Nat.le_refl _)⟩ (c_placesAhead hg ?_)
  refine AW_istore_n 5 hX dX3_isWhole_4 rfl (Nat.le_of_ble_eq_true rfl) rfl ?_
  refine AW_aload_n 6 hX dX3_isWhole_5 rfl rfl ?_
  refine AW_get 9 hX dX3_isWhole_6 rfl fl_X3_15 (by first | assumption | exact hset_eq | exact (hset_ne (by omega)).trans (by first | assumption | exact hset_eq | exact (hset_ne (by omega)).trans (by first | assumption | exact hset_eq | exact (hset_ne (by omega)).trans (by first | assumption | exact hset_eq | exact (hset_ne (by omega)).trans (by first | assumption | exact hset_eq))))) rfl ?_
  refine AW_iload_n 10 hX dX3_isWhole_9 rfl rfl ?_
  refine AW_iconst 11 hX dX3_isWhole_10 rfl ic_2 ?_
  refine AW_iadd 12 hX dX3_isWhole_11 rfl ?_
  rw [show (2 : Int32) = nI 2 from rfl, nI_add]
  refine AW_icmp_ne 15 30 hX dX3_isWhole_12 rfl (by decide) (fun c12 => ?_) (fun c12 => ?_)
  · refine AW_iconst 31 hX dX3_isWhole_30 rfl ic_0 ?_
    refine AW_iret hX hE dX3_isWhole_31 rfl (Nat.le_refl _) (Nat.le_refl _) ?_
    refine h0 (fun q => c12 ?_)
    rw [← q.2.2.2.2]
  · refine AW_aload_n 16 hX dX3_isWhole_15 rfl rfl ?_
    refine AW_cV (As := []) 19 hX dX3_isWhole_16 rfl ml_X3_32 mw_X3_firstWrong (by first | assumption | exact hset_eq | exact (hset_ne (by omega)).trans (by first | assumption | exact hset_eq | exact (hset_ne (by omega)).trans (by first | assumption | exact hset_eq | exact (hset_ne (by omega)).trans (by first | assumption | exact hset_eq | exact (hset_ne (by omega)).trans (by first | assumption | exact hset_eq))))) (by decide) rfl rfl rfl (Nat.le_of_ble_eq_true rfl) (by decide) ⟨(Nat.le_refl _), (Nat.le_refl _)⟩ (c_firstWrong hg ?_)
    refine AW_aload_n 20 hX dX3_isWhole_19 rfl rfl ?_
    refine AW_get 23 hX dX3_isWhole_20 rfl fl_X3_15 (by first | assumption | exact hset_eq | exact (hset_ne (by omega)).trans (by first | assumption | exact hset_eq | exact (hset_ne (by omega)).trans (by first | assumption | exact hset_eq | exact (hset_ne (by omega)).trans (by first | assumption | exact hset_eq | exact (hset_ne (by omega)).trans (by first | assumption | exact hset_eq))))) rfl ?_
    refine AW_icmp_ne 26 30 hX dX3_isWhole_23 rfl (by decide) (fun c23 => ?_) (fun c23 => ?_)
    · refine AW_iconst 31 hX dX3_isWhole_30 rfl ic_0 ?_
      refine AW_iret hX hE dX3_isWhole_31 rfl (Nat.le_refl _) (Nat.le_refl _) ?_
      refine h0 (fun q => c23 ?_)
      have e : fw m pg = m := by
        obtain ⟨q1, q2, q3, q4, q5⟩ := q
        simp only [fw]
        rw [if_neg (by omega), if_pos (by omega)]
        omega
      rw [e]
    · refine AW_iconst 27 hX dX3_isWhole_26 rfl ic_1 ?_
      refine AW_goto 31 hX dX3_isWhole_27 (by decide) ?_
      refine AW_iret hX hE dX3_isWhole_31 rfl (Nat.le_refl _) (Nat.le_refl _) ?_
      have e1 := iEq c12
      have e2 := iEq c23
      refine h1 ?_
      simp only [fw] at e2
      split at e2
      · omega
      · split at e2
        next h5 h6 => exact ⟨by omega, by omega, h6.1, h6.2, e1⟩
        next => omega
set_option maxRecDepth 100000 in
set_option maxHeartbeats 4000000 in
theorem c_pheight {h : AH} {K : Option Value → AH → Prop} {a m : Nat} {pg : Nat → Nat} (hg : pgC h a m pg) (hw : pwh m pg) (hK : K (some (.int (nI (pAt m pg (m - 1) - 48)))) h) : aX3_height 1 [.ref a] h K := by
  obtain ⟨ha, hm, hcc, f, hb, hf⟩ := id hg
  obtain ⟨q1, q2, q3, q4, q5⟩ := hw
  have hm1 : m - 1 = plc m pg + 1 := by omega
  refine AM.of [some (.ref a)] pn_X3_height rfl (Nat.le_of_ble_eq_true rfl) (fun X hX hE => ?_)
  refine AW_aload_n 1 hX dX3_height_0 rfl rfl ?_
  refine AW_aload_n 2 hX dX3_height_1 rfl rfl ?_
  refine AW_get 5 hX dX3_height_2 rfl fl_X3_15 (by first | assumption | exact hset_eq | exact (hset_ne (by omega)).trans (by first | assumption | exact hset_eq | exact (hset_ne (by omega)).trans (by first | assumption | exact hset_eq | exact (hset_ne (by omega)).trans (by first | assumption | exact hset_eq | exact (hset_ne (by omega)).trans (by first | assumption | exact hset_eq))))) rfl ?_
  refine AW_iconst 6 hX dX3_height_5 rfl ic_1 ?_
  refine AW_isub 7 hX dX3_height_6 rfl ?_
  rw [show (1 : Int32) = nI 1 from rfl, pk_sub (by omega)]
  refine AW_cV (As := [_]) 10 hX dX3_height_7 rfl ml_X3_19 mw_X3_codeAt (by first | assumption | exact hset_eq | exact (hset_ne (by omega)).trans (by first | assumption | exact hset_eq | exact (hset_ne (by omega)).trans (by first | assumption | exact hset_eq | exact (hset_ne (by omega)).trans (by first | assumption | exact hset_eq | exact (hset_ne (by omega)).trans (by first | assumption | exact hset_eq))))) (by decide) rfl rfl rfl (Nat.le_of_ble_eq_true rfl) (by decide) ⟨(Nat.le_refl _), (Nat.le_refl _)⟩ (c_codeAt hg _ (by omega) ?_)
  refine AW_bipush 12 hX dX3_height_10 rfl bp_48 ?_
  refine AW_isub 13 hX dX3_height_12 rfl ?_
  refine AW_iret hX hE dX3_height_13 rfl (Nat.le_refl _) (Nat.le_refl _) ?_
  rw [show (48 : Int32) = nI 48 from rfl, pk_sub (by rw [hm1]; omega)]
  exact hK
set_option maxRecDepth 100000 in
set_option maxHeartbeats 4000000 in
theorem c_gread {h : AH} {K : Option Value → AH → Prop} {a n b m : Nat} {f : Nat → Int32} {pg : Nat → Nat} (hg : gr h a n f) (hp : pgC h b m pg) (hab : a + 2 ≤ b ∨ b + 2 ≤ a) (hK : ∀ (h' : AH) (f' : Nat → Int32), gr h' a (plc m pg) f' → (∀ j, j < plc m pg → f' j = nI (kn (pAt m pg j))) → fr h h' a (a + 2) → K none h') : aX0_read 6 [.ref a, .ref b] h K := by
  obtain ⟨ha, hb, hm⟩ := id hg
  have hpl := plc_le m pg
  have hpa := hp.1
  refine AM.of [some (.ref a), some (.ref b), none] pn_X0_read rfl (Nat.le_of_ble_eq_true rfl) (fun X hX hE => ?_)
  have loop : ∀ d i, i + d = plc m pg → ∀ (h' : AH) (f' : Nat → Int32), gr h' a (plc m pg) f' → (∀ j, j < i → f' j = nI (kn (pAt m pg j))) → fr h h' a (a + 2) → AW X 0 0 10 [some (.ref a), some (.ref b), some (.int (nI i))] [] h' := by
    intro d
    induction d with
    | zero =>
      intro i hi h' f' hg' hf' hfr
      obtain ⟨ha', hb', hm'⟩ := id hg'
      refine AW_iload_n 11 hX dX0_read_10 rfl rfl ?_
      refine AW_aload_n 12 hX dX0_read_11 rfl rfl ?_
      refine AW_get 15 hX dX0_read_12 rfl fl_X0_15 (by first | assumption | exact hset_eq | exact (hset_ne (by omega)).trans (by first | assumption | exact hset_eq | exact (hset_ne (by omega)).trans (by first | assumption | exact hset_eq | exact (hset_ne (by omega)).trans (by first | assumption | exact hset_eq | exact (hset_ne (by omega)).trans (by first | assumption | exact hset_eq))))) rfl ?_
      refine AW_icmp_ge 18 38 hX dX0_read_15 rfl (by decide) (fun c15 => ?_) (fun c15 => absurd (nI_le (by omega) (by omega)) c15)
      refine AW_vret hX hE dX0_read_38 (Nat.le_refl _) (Nat.le_refl _) ?_
      exact hK h' f' hg' (fun j hj => hf' j (by omega)) hfr
    | succ d ih =>
      intro i hi h' f' hg' hf' hfr
      obtain ⟨ha', hb', hm'⟩ := id hg'
      have hp' := pgC_fr hp hfr (by omega)
      have hpa' := hp'.1
      have hkn : kn (pAt m pg i) < 5 := plc_kn (by omega)
      refine AW_iload_n 11 hX dX0_read_10 rfl rfl ?_
      refine AW_aload_n 12 hX dX0_read_11 rfl rfl ?_
      refine AW_get 15 hX dX0_read_12 rfl fl_X0_15 (by first | assumption | exact hset_eq | exact (hset_ne (by omega)).trans (by first | assumption | exact hset_eq | exact (hset_ne (by omega)).trans (by first | assumption | exact hset_eq | exact (hset_ne (by omega)).trans (by first | assumption | exact hset_eq | exact (hset_ne (by omega)).trans (by first | assumption | exact hset_eq))))) rfl ?_
      refine AW_icmp_ge 18 38 hX dX0_read_15 rfl (by decide) (fun c15 => absurd c15 (nI_ge (by omega) (by omega))) (fun c15 => ?_)
      refine AW_aload_n 19 hX dX0_read_18 rfl rfl ?_
      refine AW_iload_n 20 hX dX0_read_19 rfl rfl ?_
      refine AW_aload_n 21 hX dX0_read_20 rfl rfl ?_
      refine AW_iload_n 22 hX dX0_read_21 rfl rfl ?_
      refine AW_cV (As := [_]) 25 hX dX0_read_22 rfl ml_X0_35 mw_X3_codeAt (by first | assumption | exact hset_eq | exact (hset_ne (by omega)).trans (by first | assumption | exact hset_eq | exact (hset_ne (by omega)).trans (by first | assumption | exact hset_eq | exact (hset_ne (by omega)).trans (by first | assumption | exact hset_eq | exact (hset_ne (by omega)).trans (by first | assumption | exact hset_eq))))) (by decide) rfl rfl rfl (Nat.le_of_ble_eq_true rfl) (by decide) ⟨(Nat.le_refl _), (Nat.le_refl _)⟩ (c_codeAt hp' i (by omega) ?_)
      refine AW_cS (As := [_]) 28 hX dX0_read_25 rfl ml_X0_38 mw_X2_ofLetter rfl rfl (Nat.le_of_ble_eq_true rfl) (by decide) ⟨(Nat.le_refl _), (Nat.le_refl _)⟩ (c_ofLetter _ (pAt_lt hp' i) ?_)
      refine AW_cV (As := [_, _]) 31 hX dX0_read_28 rfl ml_X0_41 mw_X0_put (by first | assumption | exact hset_eq | exact (hset_ne (by omega)).trans (by first | assumption | exact hset_eq | exact (hset_ne (by omega)).trans (by first | assumption | exact hset_eq | exact (hset_ne (by omega)).trans (by first | assumption | exact hset_eq | exact (hset_ne (by omega)).trans (by first | assumption | exact hset_eq))))) (by decide) rfl rfl rfl (Nat.le_of_ble_eq_true rfl) (by decide) ⟨(Nat.le_refl _), (Nat.le_refl _)⟩ (c_put hg' (by omega) ?_)
      refine AW_pop 32 hX dX0_read_31 rfl rfl ?_
      refine AW_iinc 35 hX dX0_read_32 rfl rfl (iincp ic_1) (Nat.le_of_ble_eq_true rfl) rfl ?_
      refine AW_goto 10 hX dX0_read_35 (by decide) ?_
      rw [nI_1]
      refine ih (i + 1) (by omega) _ (upd f' i (kr (pAt m pg i))) ⟨(hset_ne (by omega)).trans ha', hset_eq, hm'⟩ (fun j hj => ?_) (fr_tr hfr (fr_set (by omega) (by omega)))
      by_cases e : j = i
      · subst e; rw [pk_us]; simp only [kr, if_pos hkn]
      · rw [pk_un e]; exact hf' j (by omega)
  refine AW_aload_n 1 hX dX0_read_0 rfl rfl ?_
  refine AW_aload_n 2 hX dX0_read_1 rfl rfl ?_
  refine AW_cV (As := []) 5 hX dX0_read_2 rfl ml_X0_29 mw_X3_placesAhead (by first | assumption | exact hset_eq | exact (hset_ne (by omega)).trans (by first | assumption | exact hset_eq | exact (hset_ne (by omega)).trans (by first | assumption | exact hset_eq | exact (hset_ne (by omega)).trans (by first | assumption | exact hset_eq | exact (hset_ne (by omega)).trans (by first | assumption | exact hset_eq))))) (by decide) rfl rfl rfl (Nat.le_of_ble_eq_true rfl) (by decide) ⟨(Nat.le_refl _), (Nat.le_refl _)⟩ (c_placesAhead hp ?_)
  refine AW_put 8 hX dX0_read_5 rfl fl_X0_15 (by first | assumption | exact hset_eq | exact (hset_ne (by omega)).trans (by first | assumption | exact hset_eq | exact (hset_ne (by omega)).trans (by first | assumption | exact hset_eq | exact (hset_ne (by omega)).trans (by first | assumption | exact hset_eq | exact (hset_ne (by omega)).trans (by first | assumption | exact hset_eq))))) rfl (fun _ => rfl) (fun _ => rfl) (Nat.le_of_ble_eq_true rfl) ?_
  try rw [hset_hset]
  refine AW_iconst 9 hX dX0_read_8 rfl ic_0 ?_
  refine AW_istore_n 10 hX dX0_read_9 rfl (Nat.le_of_ble_eq_true rfl) rfl ?_
  exact loop (plc m pg) 0 (by omega) _ f ⟨hset_eq, (hset_ne (by omega)).trans hb, hpl.1⟩ (fun j hj => by omega) (fr_set (by omega) (by omega))
