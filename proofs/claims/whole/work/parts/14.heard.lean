/-! what is heard: hd j = (place, far, sway, fell) -/
abbrev HD : Type := Nat → Nat × Nat × Nat × Nat
def hdok (hd : HD) (m n : Nat) : Prop := ∀ j, j < m → (hd j).1 < n ∧ 1 ≤ (hd j).2.1 ∧ (hd j).2.1 ≤ 3 ∧ (hd j).2.2.1 ≤ 11 ∧ (hd j).2.2.2 ≤ 1
def wj (ks : Nat → Nat) (hd : HD) (j : Nat) : Nat := (hd j).2.2.1 + gw (ks (hd j).1) (hd j).2.1
abbrev okH (ks : Nat → Nat) (hd : HD) (m H : Nat) : Prop := ∀ j, j < m → (12 - H < wj ks hd j ↔ (hd j).2.2.2 = 1)
/-- the heights as bits -/
def hbt (ks : Nat → Nat) (hd : HD) (m : Nat) : Nat → Int32
  | 0 => 0
  | H + 1 => hbt ks hd m H ||| (if okH ks hd m (H + 1) then (1 : Int32) <<< ((nI (H + 1) - 1) &&& 31) else 0)
def hB (ks : Nat → Nat) (hd : HD) (m : Nat) : Int32 := hbt ks hd m 9
/-- is height H among the bits -/
abbrev bH (b : Int32) (H : Nat) : Prop := ¬ (b >>> ((nI H - 1) &&& 31)) &&& 1 = 0
def cF (b : Int32) (w : Nat) : Nat → Nat
  | 0 => 0
  | H + 1 => cF b w H + if bH b (H + 1) ∧ 12 - (H + 1) < w then 1 else 0
def cU (b : Int32) (w : Nat) : Nat → Nat
  | 0 => 0
  | H + 1 => cU b w H + if bH b (H + 1) ∧ ¬ 12 - (H + 1) < w then 1 else 0
def LW (b : Int32) (w : Nat) : Nat := if cF b w 9 < cU b w 9 then cU b w 9 else cF b w 9
theorem cFU_le (b : Int32) (w : Nat) : ∀ H, cF b w H + cU b w H ≤ H
  | 0 => Nat.le_refl 0
  | H + 1 => by
    have := cFU_le b w H
    simp only [cF, cU]
    by_cases h1 : bH b (H + 1)
    · by_cases h2 : 12 - (H + 1) < w
      · rw [if_pos ⟨h1, h2⟩, if_neg (fun q => q.2 h2)]; omega
      · rw [if_neg (fun q => h2 q.2), if_pos ⟨h1, h2⟩]; omega
    · rw [if_neg (fun q => h1 q.1), if_neg (fun q => h1 q.1)]; omega
theorem LW_le (b : Int32) (w : Nat) : LW b w ≤ 9 := by
  have := cFU_le b w 9
  simp only [LW]
  split <;> omega
/-- the least sway with which fewest are left -/
def bst (L : Nat → Nat) : Nat → Nat × Nat
  | 0 => (0, 10)
  | i + 1 => if L i < (bst L i).2 then (i, L i) else bst L i
theorem bst_le (L : Nat → Nat) (hL : ∀ i, L i ≤ 9) : ∀ i, (bst L i).1 ≤ i ∧ (bst L i).2 ≤ 10
  | 0 => ⟨Nat.le_refl 0, Nat.le_refl 10⟩
  | i + 1 => by
    have := bst_le L hL i
    have := hL i
    simp only [bst]
    split
    · exact ⟨Nat.le_succ i, by show L i ≤ 10; omega⟩
    · omega
def tryC (ks : Nat → Nat) (hd : HD) (m p : Nat) : Int32 := if hB ks hd m = 0 then -1 else nI (bst (fun s => LW (hB ks hd m) (s + gw (ks p) 1)) 12).1
theorem gw_le {k far : Nat} (hf : far ≤ 3) : gw k far ≤ 6 := by
  simp only [gw]
  split
  · omega
  · split
    · omega
    · split <;> omega
/-- a Heard at q -/
def heC (h : AH) (q m : Nat) (hd : HD) : Prop := h q = some (.inl (1, [.ref (q + 1), .ref (q + 2), .ref (q + 3), .ref (q + 4), .int (nI m)])) ∧ m ≤ 6 ∧ ∃ f1 f2 f3 f4, h (q + 1) = some (.inr (0, 6, f1)) ∧ h (q + 2) = some (.inr (0, 6, f2)) ∧ h (q + 3) = some (.inr (0, 6, f3)) ∧ h (q + 4) = some (.inr (2, 6, f4)) ∧ ∀ j, j < m → f1 j = nI (hd j).1 ∧ f2 j = nI (hd j).2.1 ∧ f3 j = nI (hd j).2.2.1 ∧ f4 j = nI (hd j).2.2.2 ∧ (hd j).2.2.2 ≤ 1
theorem heC_fr {h h' : AH} {q m lo hi : Nat} {hd : HD} (g : heC h q m hd) (e : fr h h' lo hi) (ho : q + 5 ≤ lo ∨ hi ≤ q) : heC h' q m hd := by
  obtain ⟨h1, h2, f1, f2, f3, f4, a1, a2, a3, a4, h3⟩ := g
  exact ⟨(e q (by omega)).trans h1, h2, f1, f2, f3, f4, (e _ (by omega)).trans a1, (e _ (by omega)).trans a2, (e _ (by omega)).trans a3, (e _ (by omega)).trans a4, h3⟩
theorem heC_to {h : AH} {q m : Nat} {hd hd' : HD} (g : heC h q m hd) (e : ∀ j, j < m → hd' j = hd j) : heC h q m hd' := by
  obtain ⟨h1, h2, f1, f2, f3, f4, a1, a2, a3, a4, h3⟩ := g
  exact ⟨h1, h2, f1, f2, f3, f4, a1, a2, a3, a4, fun j hj => by rw [e j hj]; exact h3 j hj⟩
theorem nzB : ∀ b, b ≤ 1 → vp_nar .boolean (nI b) = nI b := by decide
theorem bear : ∀ H, H ≤ 12 → (12 : Int32) - nI H = nI (12 - H) := by decide
theorem H1m : ∀ H, H ≤ 12 → nI (H + 1) - 1 = nI H := by decide
set_option maxRecDepth 100000 in
set_option maxHeartbeats 4000000 in
theorem c_bearable {h : AH} {K : Option Value → AH → Prop} (H : Nat) (hH : H ≤ 12) (hK : K (some (.int (nI (12 - H)))) h) : aX6_bearable 0 [.int (nI H)] h K := by
  refine AM.of [some (.int (nI H))] pn_X6_bearable rfl (Nat.le_of_ble_eq_true rfl) (fun X hX hE => ?_)
  refine AW_bipush 2 hX dX6_bearable_0 rfl bp_12 ?_
  refine AW_iload_n 3 hX dX6_bearable_2 rfl rfl ?_
  refine AW_isub 4 hX dX6_bearable_3 rfl ?_
  refine AW_iret hX hE dX6_bearable_4 rfl (Nat.le_refl _) (Nat.le_refl _) ?_
  rw [bear H hH]
  exact hK
set_option maxRecDepth 100000 in
set_option maxHeartbeats 4000000 in
theorem c_hsize {h : AH} {K : Option Value → AH → Prop} {q m : Nat} {hd : HD} (hg : heC h q m hd) (hK : K (some (.int (nI m))) h) : aX1_size 0 [.ref q] h K := by
  have ha := hg.1
  refine AM.of [some (.ref q)] pn_X1_size rfl (Nat.le_of_ble_eq_true rfl) (fun X hX hE => ?_)
  refine AW_aload_n 1 hX dX1_size_0 rfl rfl ?_
  refine AW_get 4 hX dX1_size_1 rfl fl_X1_25 (by first | assumption | exact hset_eq | exact (hset_ne (by omega)).trans (by first | assumption | exact hset_eq | exact (hset_ne (by omega)).trans (by first | assumption | exact hset_eq | exact (hset_ne (by omega)).trans (by first | assumption | exact hset_eq | exact (hset_ne (by omega)).trans (by first | assumption | exact hset_eq))))) rfl ?_
  refine AW_iret hX hE dX1_size_4 rfl (Nat.le_refl _) (Nat.le_refl _) ?_
  exact hK
set_option maxRecDepth 100000 in
set_option maxHeartbeats 4000000 in
theorem c_happend {h : AH} {K : Option Value → AH → Prop} {q m : Nat} {hd : HD} (hg : heC h q m hd) (p far s b : Nat) (hb1 : b ≤ 1) (h0 : m = 6 → K (some (.int 0)) h) (h1 : ∀ h' : AH, m < 6 → heC h' q (m + 1) (fun j => if j = m then (p, far, s, b) else hd j) → fr h h' q (q + 5) → K (some (.int 1)) h') : aX1_append 0 [.ref q, .int (nI p), .int (nI far), .int (nI s), .int (nI b)] h K := by
  obtain ⟨ha, hm, f1, f2, f3, f4, a1, a2, a3, a4, hf⟩ := id hg
  refine AM.of [some (.ref q), some (.int (nI p)), some (.int (nI far)), some (.int (nI s)), some (.int (nI b))] pn_X1_append rfl (Nat.le_of_ble_eq_true rfl) (fun X hX hE => ?_)
  refine AW_aload_n 1 hX dX1_append_0 rfl rfl ?_
  refine AW_get 4 hX dX1_append_1 rfl fl_X1_25 (by first | assumption | exact hset_eq | exact (hset_ne (by omega)).trans (by first | assumption | exact hset_eq | exact (hset_ne (by omega)).trans (by first | assumption | exact hset_eq | exact (hset_ne (by omega)).trans (by first | assumption | exact hset_eq | exact (hset_ne (by omega)).trans (by first | assumption | exact hset_eq))))) rfl ?_
  refine AW_if_lt 7 16 hX dX1_append_4 rfl (by decide) (fun c4 => absurd c4 (nI_pos (by omega))) (fun c4 => ?_)
  refine AW_aload_n 8 hX dX1_append_7 rfl rfl ?_
  refine AW_get 11 hX dX1_append_8 rfl fl_X1_25 (by first | assumption | exact hset_eq | exact (hset_ne (by omega)).trans (by first | assumption | exact hset_eq | exact (hset_ne (by omega)).trans (by first | assumption | exact hset_eq | exact (hset_ne (by omega)).trans (by first | assumption | exact hset_eq | exact (hset_ne (by omega)).trans (by first | assumption | exact hset_eq))))) rfl ?_
  refine AW_bipush 13 hX dX1_append_11 rfl bp_6 ?_
  refine AW_icmp_lt 16 18 hX dX1_append_13 rfl (by decide) (fun c13 => ?_) (fun c13 => ?_)
  · refine AW_aload_n 19 hX dX1_append_18 rfl rfl ?_
    refine AW_get 22 hX dX1_append_19 rfl fl_X1_11 (by first | assumption | exact hset_eq | exact (hset_ne (by omega)).trans (by first | assumption | exact hset_eq | exact (hset_ne (by omega)).trans (by first | assumption | exact hset_eq | exact (hset_ne (by omega)).trans (by first | assumption | exact hset_eq | exact (hset_ne (by omega)).trans (by first | assumption | exact hset_eq))))) rfl ?_
    refine AW_aload_n 23 hX dX1_append_22 rfl rfl ?_
    refine AW_get 26 hX dX1_append_23 rfl fl_X1_25 (by first | assumption | exact hset_eq | exact (hset_ne (by omega)).trans (by first | assumption | exact hset_eq | exact (hset_ne (by omega)).trans (by first | assumption | exact hset_eq | exact (hset_ne (by omega)).trans (by first | assumption | exact hset_eq | exact (hset_ne (by omega)).trans (by first | assumption | exact hset_eq))))) rfl ?_
    refine AW_iload_n 27 hX dX1_append_26 rfl rfl ?_
    refine AW_iast 28 hX dX1_append_27 rfl (by first | assumption | exact hset_eq | exact (hset_ne (by omega)).trans (by first | assumption | exact hset_eq | exact (hset_ne (by omega)).trans (by first | assumption | exact hset_eq | exact (hset_ne (by omega)).trans (by first | assumption | exact hset_eq | exact (hset_ne (by omega)).trans (by first | assumption | exact hset_eq))))) (j := m) (by have := iLt (b := 6) c13; omega) rfl ?_
    try rw [hset_hset]
    refine AW_aload_n 29 hX dX1_append_28 rfl rfl ?_
    refine AW_get 32 hX dX1_append_29 rfl fl_X1_15 (by first | assumption | exact hset_eq | exact (hset_ne (by omega)).trans (by first | assumption | exact hset_eq | exact (hset_ne (by omega)).trans (by first | assumption | exact hset_eq | exact (hset_ne (by omega)).trans (by first | assumption | exact hset_eq | exact (hset_ne (by omega)).trans (by first | assumption | exact hset_eq))))) rfl ?_
    refine AW_aload_n 33 hX dX1_append_32 rfl rfl ?_
    refine AW_get 36 hX dX1_append_33 rfl fl_X1_25 (by first | assumption | exact hset_eq | exact (hset_ne (by omega)).trans (by first | assumption | exact hset_eq | exact (hset_ne (by omega)).trans (by first | assumption | exact hset_eq | exact (hset_ne (by omega)).trans (by first | assumption | exact hset_eq | exact (hset_ne (by omega)).trans (by first | assumption | exact hset_eq))))) rfl ?_
    refine AW_iload_n 37 hX dX1_append_36 rfl rfl ?_
    refine AW_iast 38 hX dX1_append_37 rfl (by first | assumption | exact hset_eq | exact (hset_ne (by omega)).trans (by first | assumption | exact hset_eq | exact (hset_ne (by omega)).trans (by first | assumption | exact hset_eq | exact (hset_ne (by omega)).trans (by first | assumption | exact hset_eq | exact (hset_ne (by omega)).trans (by first | assumption | exact hset_eq))))) (j := m) (by have := iLt (b := 6) c13; omega) rfl ?_
    try rw [hset_hset]
    refine AW_aload_n 39 hX dX1_append_38 rfl rfl ?_
    refine AW_get 42 hX dX1_append_39 rfl fl_X1_18 (by first | assumption | exact hset_eq | exact (hset_ne (by omega)).trans (by first | assumption | exact hset_eq | exact (hset_ne (by omega)).trans (by first | assumption | exact hset_eq | exact (hset_ne (by omega)).trans (by first | assumption | exact hset_eq | exact (hset_ne (by omega)).trans (by first | assumption | exact hset_eq))))) rfl ?_
    refine AW_aload_n 43 hX dX1_append_42 rfl rfl ?_
    refine AW_get 46 hX dX1_append_43 rfl fl_X1_25 (by first | assumption | exact hset_eq | exact (hset_ne (by omega)).trans (by first | assumption | exact hset_eq | exact (hset_ne (by omega)).trans (by first | assumption | exact hset_eq | exact (hset_ne (by omega)).trans (by first | assumption | exact hset_eq | exact (hset_ne (by omega)).trans (by first | assumption | exact hset_eq))))) rfl ?_
    refine AW_iload_n 47 hX dX1_append_46 rfl rfl ?_
    refine AW_iast 48 hX dX1_append_47 rfl (by first | assumption | exact hset_eq | exact (hset_ne (by omega)).trans (by first | assumption | exact hset_eq | exact (hset_ne (by omega)).trans (by first | assumption | exact hset_eq | exact (hset_ne (by omega)).trans (by first | assumption | exact hset_eq | exact (hset_ne (by omega)).trans (by first | assumption | exact hset_eq))))) (j := m) (by have := iLt (b := 6) c13; omega) rfl ?_
    try rw [hset_hset]
    refine AW_aload_n 49 hX dX1_append_48 rfl rfl ?_
    refine AW_get 52 hX dX1_append_49 rfl fl_X1_21 (by first | assumption | exact hset_eq | exact (hset_ne (by omega)).trans (by first | assumption | exact hset_eq | exact (hset_ne (by omega)).trans (by first | assumption | exact hset_eq | exact (hset_ne (by omega)).trans (by first | assumption | exact hset_eq | exact (hset_ne (by omega)).trans (by first | assumption | exact hset_eq))))) rfl ?_
    refine AW_aload_n 53 hX dX1_append_52 rfl rfl ?_
    refine AW_get 56 hX dX1_append_53 rfl fl_X1_25 (by first | assumption | exact hset_eq | exact (hset_ne (by omega)).trans (by first | assumption | exact hset_eq | exact (hset_ne (by omega)).trans (by first | assumption | exact hset_eq | exact (hset_ne (by omega)).trans (by first | assumption | exact hset_eq | exact (hset_ne (by omega)).trans (by first | assumption | exact hset_eq))))) rfl ?_
    refine AW_iload 58 hX dX1_append_56 rfl rfl ?_
    refine AW_zast 59 hX dX1_append_58 rfl (by first | assumption | exact hset_eq | exact (hset_ne (by omega)).trans (by first | assumption | exact hset_eq | exact (hset_ne (by omega)).trans (by first | assumption | exact hset_eq | exact (hset_ne (by omega)).trans (by first | assumption | exact hset_eq | exact (hset_ne (by omega)).trans (by first | assumption | exact hset_eq))))) (j := m) (by have := iLt (b := 6) c13; omega) rfl ?_
    try rw [hset_hset]
    refine AW_aload_n 60 hX dX1_append_59 rfl rfl ?_
    refine AW_dup 61 hX dX1_append_60 rfl rfl ?_
    refine AW_get 64 hX dX1_append_61 rfl fl_X1_25 (by first | assumption | exact hset_eq | exact (hset_ne (by omega)).trans (by first | assumption | exact hset_eq | exact (hset_ne (by omega)).trans (by first | assumption | exact hset_eq | exact (hset_ne (by omega)).trans (by first | assumption | exact hset_eq | exact (hset_ne (by omega)).trans (by first | assumption | exact hset_eq))))) rfl ?_
    refine AW_iconst 65 hX dX1_append_64 rfl ic_1 ?_
    refine AW_iadd 66 hX dX1_append_65 rfl ?_
    refine AW_put 69 hX dX1_append_66 rfl fl_X1_25 (by first | assumption | exact hset_eq | exact (hset_ne (by omega)).trans (by first | assumption | exact hset_eq | exact (hset_ne (by omega)).trans (by first | assumption | exact hset_eq | exact (hset_ne (by omega)).trans (by first | assumption | exact hset_eq | exact (hset_ne (by omega)).trans (by first | assumption | exact hset_eq))))) rfl (fun _ => rfl) (fun _ => rfl) (Nat.le_of_ble_eq_true rfl) ?_
    try rw [hset_hset]
    refine AW_iconst 70 hX dX1_append_69 rfl ic_1 ?_
    refine AW_iret hX hE dX1_append_70 rfl (Nat.le_refl _) (Nat.le_refl _) ?_
    have hm6 := iLt (b := 6) c13
    refine h1 _ hm6 ⟨?_, by omega, upd f1 m (nI p), upd f2 m (nI far), upd f3 m (nI s), upd f4 m (vp_nar .boolean (nI b)), ?_, ?_, ?_, ?_, fun j hj => ?_⟩ ?_
    · rw [hset_eq, nI_1]
      rfl
    · rw [hset_ne (by omega), hset_ne (by omega), hset_ne (by omega), hset_ne (by omega)]; exact hset_eq
    · rw [hset_ne (by omega), hset_ne (by omega), hset_ne (by omega)]; exact hset_eq
    · rw [hset_ne (by omega), hset_ne (by omega)]; exact hset_eq
    · rw [hset_ne (by omega)]; exact hset_eq
    · by_cases e : j = m
      · subst e
        dsimp only
        rw [if_pos rfl, pk_us, pk_us, pk_us, pk_us]
        exact ⟨rfl, rfl, rfl, nzB b hb1, hb1⟩
      · simp only [pk_un e, if_neg e]
        exact hf j (by omega)
    · exact fr_tr (fr_tr (fr_tr (fr_tr (fr_set (by omega) (by omega)) (fr_set (by omega) (by omega))) (fr_set (by omega) (by omega))) (fr_set (by omega) (by omega))) (fr_set (by omega) (by omega))
  · refine AW_iconst 17 hX dX1_append_16 rfl ic_0 ?_
    refine AW_iret hX hE dX1_append_17 rfl (Nat.le_refl _) (Nat.le_refl _) ?_
    have := iNlt (b := 6) c13
    exact h0 (by omega)
set_option maxRecDepth 100000 in
set_option maxHeartbeats 4000000 in
theorem c_hclear {h : AH} {K : Option Value → AH → Prop} {q m : Nat} {hd : HD} (hg : heC h q m hd) (h1 : ∀ h' : AH, heC h' q 0 hd → fr h h' q (q + 5) → K (some (.int (nI m))) h') : aX1_clear 0 [.ref q] h K := by
  obtain ⟨ha, hm, f1, f2, f3, f4, a1, a2, a3, a4, hf⟩ := id hg
  refine AM.of [some (.ref q), none] pn_X1_clear rfl (Nat.le_of_ble_eq_true rfl) (fun X hX hE => ?_)
  refine AW_aload_n 1 hX dX1_clear_0 rfl rfl ?_
  refine AW_get 4 hX dX1_clear_1 rfl fl_X1_25 (by first | assumption | exact hset_eq | exact (hset_ne (by omega)).trans (by first | assumption | exact hset_eq | exact (hset_ne (by omega)).trans (by first | assumption | exact hset_eq | exact (hset_ne (by omega)).trans (by first | assumption | exact hset_eq | exact (hset_ne (by omega)).trans (by first | assumption | exact hset_eq))))) rfl ?_
  refine AW_istore_n 5 hX dX1_clear_4 rfl (Nat.le_of_ble_eq_true rfl) rfl ?_
  refine AW_aload_n 6 hX dX1_clear_5 rfl rfl ?_
  refine AW_iconst 7 hX dX1_clear_6 rfl ic_0 ?_
  refine AW_put 10 hX dX1_clear_7 rfl fl_X1_25 (by first | assumption | exact hset_eq | exact (hset_ne (by omega)).trans (by first | assumption | exact hset_eq | exact (hset_ne (by omega)).trans (by first | assumption | exact hset_eq | exact (hset_ne (by omega)).trans (by first | assumption | exact hset_eq | exact (hset_ne (by omega)).trans (by first | assumption | exact hset_eq))))) rfl (fun _ => rfl) (fun _ => rfl) (Nat.le_of_ble_eq_true rfl) ?_
  try rw [hset_hset]
  refine AW_iload_n 11 hX dX1_clear_10 rfl rfl ?_
  refine AW_iret hX hE dX1_clear_11 rfl (Nat.le_refl _) (Nat.le_refl _) ?_
  exact h1 _ ⟨hset_eq, by omega, f1, f2, f3, f4, (hset_ne (by omega)).trans a1, (hset_ne (by omega)).trans a2, (hset_ne (by omega)).trans a3, (hset_ne (by omega)).trans a4, fun j hj => by omega⟩ (fr_set (by omega) (by omega))
set_option maxRecDepth 100000 in
set_option maxHeartbeats 4000000 in
theorem c_hcopy {h : AH} {K : Option Value → AH → Prop} {q r m m2 : Nat} {hd hd2 : HD} (hg : heC h q m hd) (ho : heC h r m2 hd2) (hab : q + 5 ≤ r ∨ r + 5 ≤ q) (hK : ∀ h' : AH, heC h' q m2 hd2 → fr h h' q (q + 5) → K none h') : aX1_copyFrom 1 [.ref q, .ref r] h K := by
  obtain ⟨ha, hm, f1, f2, f3, f4, a1, a2, a3, a4, hf⟩ := id hg
  refine AM.of [some (.ref q), some (.ref r), none] pn_X1_copyFrom rfl (Nat.le_of_ble_eq_true rfl) (fun X hX hE => ?_)
  have loop : ∀ d i, i + d = m2 → ∀ (h' : AH) (hd3 : HD), heC h' q i hd3 → (∀ j, j < i → hd3 j = hd2 j) → fr h h' q (q + 5) → AW X 0 0 7 [some (.ref q), some (.ref r), some (.int (nI i))] [] h' := by
    intro d
    induction d with
    | zero =>
      intro i hi h' hd3 hg' hf' hfr
      have ho' := heC_fr ho hfr (by omega)
      obtain ⟨ha2, hm2, g1, g2, g3, g4, b1, b2, b3, b4, hf2⟩ := id ho'
      refine AW_iload_n 8 hX dX1_copyFrom_7 rfl rfl ?_
      refine AW_aload_n 9 hX dX1_copyFrom_8 rfl rfl ?_
      refine AW_get 12 hX dX1_copyFrom_9 rfl fl_X1_25 (by first | assumption | exact hset_eq | exact (hset_ne (by omega)).trans (by first | assumption | exact hset_eq | exact (hset_ne (by omega)).trans (by first | assumption | exact hset_eq | exact (hset_ne (by omega)).trans (by first | assumption | exact hset_eq | exact (hset_ne (by omega)).trans (by first | assumption | exact hset_eq))))) rfl ?_
      refine AW_icmp_ge 15 56 hX dX1_copyFrom_12 rfl (by decide) (fun c12 => ?_) (fun c12 => absurd (nI_le (by omega) (by omega)) c12)
      refine AW_vret hX hE dX1_copyFrom_56 (Nat.le_refl _) (Nat.le_refl _) ?_
      exact hK h' (heC_to (by rw [show m2 = i by omega]; exact hg') (fun j hj => (hf' j (by omega)).symm)) hfr
    | succ d ih =>
      intro i hi h' hd3 hg' hf' hfr
      have ho' := heC_fr ho hfr (by omega)
      obtain ⟨ha2, hm2, g1, g2, g3, g4, b1, b2, b3, b4, hf2⟩ := id ho'
      obtain ⟨e1, e2, e3, e4, e5⟩ := hf2 i (by omega)
      have hha := hg'.1
      refine AW_iload_n 8 hX dX1_copyFrom_7 rfl rfl ?_
      refine AW_aload_n 9 hX dX1_copyFrom_8 rfl rfl ?_
      refine AW_get 12 hX dX1_copyFrom_9 rfl fl_X1_25 (by first | assumption | exact hset_eq | exact (hset_ne (by omega)).trans (by first | assumption | exact hset_eq | exact (hset_ne (by omega)).trans (by first | assumption | exact hset_eq | exact (hset_ne (by omega)).trans (by first | assumption | exact hset_eq | exact (hset_ne (by omega)).trans (by first | assumption | exact hset_eq))))) rfl ?_
      refine AW_icmp_ge 15 56 hX dX1_copyFrom_12 rfl (by decide) (fun c12 => absurd c12 (nI_ge (by omega) (by omega))) (fun c12 => ?_)
      refine AW_iload_n 16 hX dX1_copyFrom_15 rfl rfl ?_
      refine AW_bipush 18 hX dX1_copyFrom_16 rfl bp_6 ?_
      refine AW_icmp_ge 21 56 hX dX1_copyFrom_18 rfl (by decide) (fun c18 => absurd c18 (nI_ge (a := i) (b := 6) (by omega) (by decide))) (fun c18 => ?_)
      refine AW_aload_n 22 hX dX1_copyFrom_21 rfl rfl ?_
      refine AW_aload_n 23 hX dX1_copyFrom_22 rfl rfl ?_
      refine AW_get 26 hX dX1_copyFrom_23 rfl fl_X1_11 (by first | assumption | exact hset_eq | exact (hset_ne (by omega)).trans (by first | assumption | exact hset_eq | exact (hset_ne (by omega)).trans (by first | assumption | exact hset_eq | exact (hset_ne (by omega)).trans (by first | assumption | exact hset_eq | exact (hset_ne (by omega)).trans (by first | assumption | exact hset_eq))))) rfl ?_
      refine AW_iload_n 27 hX dX1_copyFrom_26 rfl rfl ?_
      refine AW_iald 28 hX dX1_copyFrom_27 rfl (by first | assumption | exact hset_eq | exact (hset_ne (by omega)).trans (by first | assumption | exact hset_eq | exact (hset_ne (by omega)).trans (by first | assumption | exact hset_eq | exact (hset_ne (by omega)).trans (by first | assumption | exact hset_eq | exact (hset_ne (by omega)).trans (by first | assumption | exact hset_eq))))) (j := i) (by omega) rfl ?_
      refine AW_aload_n 29 hX dX1_copyFrom_28 rfl rfl ?_
      refine AW_get 32 hX dX1_copyFrom_29 rfl fl_X1_15 (by first | assumption | exact hset_eq | exact (hset_ne (by omega)).trans (by first | assumption | exact hset_eq | exact (hset_ne (by omega)).trans (by first | assumption | exact hset_eq | exact (hset_ne (by omega)).trans (by first | assumption | exact hset_eq | exact (hset_ne (by omega)).trans (by first | assumption | exact hset_eq))))) rfl ?_
      refine AW_iload_n 33 hX dX1_copyFrom_32 rfl rfl ?_
      refine AW_iald 34 hX dX1_copyFrom_33 rfl (by first | assumption | exact hset_eq | exact (hset_ne (by omega)).trans (by first | assumption | exact hset_eq | exact (hset_ne (by omega)).trans (by first | assumption | exact hset_eq | exact (hset_ne (by omega)).trans (by first | assumption | exact hset_eq | exact (hset_ne (by omega)).trans (by first | assumption | exact hset_eq))))) (j := i) (by omega) rfl ?_
      refine AW_aload_n 35 hX dX1_copyFrom_34 rfl rfl ?_
      refine AW_get 38 hX dX1_copyFrom_35 rfl fl_X1_18 (by first | assumption | exact hset_eq | exact (hset_ne (by omega)).trans (by first | assumption | exact hset_eq | exact (hset_ne (by omega)).trans (by first | assumption | exact hset_eq | exact (hset_ne (by omega)).trans (by first | assumption | exact hset_eq | exact (hset_ne (by omega)).trans (by first | assumption | exact hset_eq))))) rfl ?_
      refine AW_iload_n 39 hX dX1_copyFrom_38 rfl rfl ?_
      refine AW_iald 40 hX dX1_copyFrom_39 rfl (by first | assumption | exact hset_eq | exact (hset_ne (by omega)).trans (by first | assumption | exact hset_eq | exact (hset_ne (by omega)).trans (by first | assumption | exact hset_eq | exact (hset_ne (by omega)).trans (by first | assumption | exact hset_eq | exact (hset_ne (by omega)).trans (by first | assumption | exact hset_eq))))) (j := i) (by omega) rfl ?_
      refine AW_aload_n 41 hX dX1_copyFrom_40 rfl rfl ?_
      refine AW_get 44 hX dX1_copyFrom_41 rfl fl_X1_21 (by first | assumption | exact hset_eq | exact (hset_ne (by omega)).trans (by first | assumption | exact hset_eq | exact (hset_ne (by omega)).trans (by first | assumption | exact hset_eq | exact (hset_ne (by omega)).trans (by first | assumption | exact hset_eq | exact (hset_ne (by omega)).trans (by first | assumption | exact hset_eq))))) rfl ?_
      refine AW_iload_n 45 hX dX1_copyFrom_44 rfl rfl ?_
      refine AW_zald 46 hX dX1_copyFrom_45 rfl (by first | assumption | exact hset_eq | exact (hset_ne (by omega)).trans (by first | assumption | exact hset_eq | exact (hset_ne (by omega)).trans (by first | assumption | exact hset_eq | exact (hset_ne (by omega)).trans (by first | assumption | exact hset_eq | exact (hset_ne (by omega)).trans (by first | assumption | exact hset_eq))))) (j := i) (by omega) rfl ?_
      rw [e1, e2, e3, e4]
      refine AW_cV (As := [_, _, _, _]) 49 hX dX1_copyFrom_46 rfl ml_X1_29 mw_X1_append (by first | assumption | exact hset_eq | exact (hset_ne (by omega)).trans (by first | assumption | exact hset_eq | exact (hset_ne (by omega)).trans (by first | assumption | exact hset_eq | exact (hset_ne (by omega)).trans (by first | assumption | exact hset_eq | exact (hset_ne (by omega)).trans (by first | assumption | exact hset_eq))))) (by decide) rfl rfl rfl (Nat.le_of_ble_eq_true rfl) (by decide) ⟨(Nat.le_refl _), (Nat.le_refl _)⟩ (c_happend hg' _ _ _ _ e5 (fun e => by omega) (fun h2 hlt hg2 hfr2 => ?_))
      refine AW_pop 50 hX dX1_copyFrom_49 rfl rfl ?_
      refine AW_iinc 53 hX dX1_copyFrom_50 rfl rfl (iincp ic_1) (Nat.le_of_ble_eq_true rfl) rfl ?_
      refine AW_goto 7 hX dX1_copyFrom_53 (by decide) ?_
      rw [nI_1]
      refine ih (i + 1) (by omega) h2 _ hg2 (fun j hj => ?_) (fr_tr hfr hfr2)
      by_cases e : j = i
      · subst e; simp only [if_pos]
      · simp only [if_neg e]; exact hf' j (by omega)
  refine AW_aload_n 1 hX dX1_copyFrom_0 rfl rfl ?_
  refine AW_iconst 2 hX dX1_copyFrom_1 rfl ic_0 ?_
  refine AW_put 5 hX dX1_copyFrom_2 rfl fl_X1_25 (by first | assumption | exact hset_eq | exact (hset_ne (by omega)).trans (by first | assumption | exact hset_eq | exact (hset_ne (by omega)).trans (by first | assumption | exact hset_eq | exact (hset_ne (by omega)).trans (by first | assumption | exact hset_eq | exact (hset_ne (by omega)).trans (by first | assumption | exact hset_eq))))) rfl (fun _ => rfl) (fun _ => rfl) (Nat.le_of_ble_eq_true rfl) ?_
  try rw [hset_hset]
  refine AW_iconst 6 hX dX1_copyFrom_5 rfl ic_0 ?_
  refine AW_istore_n 7 hX dX1_copyFrom_6 rfl (Nat.le_of_ble_eq_true rfl) rfl ?_
  exact loop m2 0 (by omega) _ hd ⟨hset_eq, by omega, f1, f2, f3, f4, (hset_ne (by omega)).trans a1, (hset_ne (by omega)).trans a2, (hset_ne (by omega)).trans a3, (hset_ne (by omega)).trans a4, fun j hj => by omega⟩ (fun j hj => by omega) (fr_set (by omega) (by omega))
set_option maxRecDepth 100000 in
set_option maxHeartbeats 4000000 in
theorem c_allows {h : AH} {K : Option Value → AH → Prop} {a n : Nat} {f : Nat → Int32} {ks : Nat → Nat} (gg : gr h a n f) (hks : ∀ j, j < n → f j = nI (ks j)) (hk4 : ∀ j, j < n → ks j ≤ 4) {q m : Nat} {hd : HD} (hg : heC h q m hd) (hok : hdok hd m n) (H : Nat) (hH : H ≤ 12) (h1 : okH ks hd m H → K (some (.int 1)) h) (h0 : ¬ okH ks hd m H → K (some (.int 0)) h) : aX1_allows 2 [.ref q, .ref a, .int (nI H)] h K := by
  obtain ⟨ha, hm, f1, f2, f3, f4, a1, a2, a3, a4, hf⟩ := id hg
  have hga := gg.1
  refine AM.of [some (.ref q), some (.ref a), some (.int (nI H)), none, none] pn_X1_allows rfl (Nat.le_of_ble_eq_true rfl) (fun X hX hE => ?_)
  have loop : ∀ d i, i + d = m → (∀ j, j < i → (12 - H < wj ks hd j ↔ (hd j).2.2.2 = 1)) → ∀ z, AW X 0 0 2 [some (.ref q), some (.ref a), some (.int (nI H)), some (.int (nI i)), z] [] h := by
    intro d
    induction d with
    | zero =>
      intro i hi hdone z
      refine AW_iload_n 3 hX dX1_allows_2 rfl rfl ?_
      refine AW_aload_n 4 hX dX1_allows_3 rfl rfl ?_
      refine AW_get 7 hX dX1_allows_4 rfl fl_X1_25 (by first | assumption | exact hset_eq | exact (hset_ne (by omega)).trans (by first | assumption | exact hset_eq | exact (hset_ne (by omega)).trans (by first | assumption | exact hset_eq | exact (hset_ne (by omega)).trans (by first | assumption | exact hset_eq | exact (hset_ne (by omega)).trans (by first | assumption | exact hset_eq))))) rfl ?_
      refine AW_icmp_ge 10 75 hX dX1_allows_7 rfl (by decide) (fun c7 => ?_) (fun c7 => absurd (nI_le (by omega) (by omega)) c7)
      refine AW_iconst 76 hX dX1_allows_75 rfl ic_1 ?_
      refine AW_iret hX hE dX1_allows_76 rfl (Nat.le_refl _) (Nat.le_refl _) ?_
      exact h1 (fun j hj => hdone j (by omega))
    | succ d ih =>
      intro i hi hdone z
      obtain ⟨e1, e2, e3, e4, e5⟩ := hf i (by omega)
      obtain ⟨o1, o2, o3, o4, o5⟩ := hok i (by omega)
      have hgw := gw_le (k := ks (hd i).1) o3
      have hstep : (12 - H < wj ks hd i ↔ (hd i).2.2.2 = 1) → AW X 0 0 2 [some (.ref q), some (.ref a), some (.int (nI H)), some (.int (nI (i + 1))), some (.int (nI (wj ks hd i)))] [] h := fun hs => ih (i + 1) (by omega) (fun j hj => by
        by_cases e : j = i
        · subst e; exact hs
        · exact hdone j (by omega)) _
      refine AW_iload_n 3 hX dX1_allows_2 rfl rfl ?_
      refine AW_aload_n 4 hX dX1_allows_3 rfl rfl ?_
      refine AW_get 7 hX dX1_allows_4 rfl fl_X1_25 (by first | assumption | exact hset_eq | exact (hset_ne (by omega)).trans (by first | assumption | exact hset_eq | exact (hset_ne (by omega)).trans (by first | assumption | exact hset_eq | exact (hset_ne (by omega)).trans (by first | assumption | exact hset_eq | exact (hset_ne (by omega)).trans (by first | assumption | exact hset_eq))))) rfl ?_
      refine AW_icmp_ge 10 75 hX dX1_allows_7 rfl (by decide) (fun c7 => absurd c7 (nI_ge (by omega) (by omega))) (fun c7 => ?_)
      refine AW_iload_n 11 hX dX1_allows_10 rfl rfl ?_
      refine AW_bipush 13 hX dX1_allows_11 rfl bp_6 ?_
      refine AW_icmp_ge 16 75 hX dX1_allows_13 rfl (by decide) (fun c13 => absurd c13 (nI_ge (a := i) (b := 6) (by omega) (by decide))) (fun c13 => ?_)
      refine AW_aload_n 17 hX dX1_allows_16 rfl rfl ?_
      refine AW_get 20 hX dX1_allows_17 rfl fl_X1_18 (by first | assumption | exact hset_eq | exact (hset_ne (by omega)).trans (by first | assumption | exact hset_eq | exact (hset_ne (by omega)).trans (by first | assumption | exact hset_eq | exact (hset_ne (by omega)).trans (by first | assumption | exact hset_eq | exact (hset_ne (by omega)).trans (by first | assumption | exact hset_eq))))) rfl ?_
      refine AW_iload_n 21 hX dX1_allows_20 rfl rfl ?_
      refine AW_iald 22 hX dX1_allows_21 rfl (by first | assumption | exact hset_eq | exact (hset_ne (by omega)).trans (by first | assumption | exact hset_eq | exact (hset_ne (by omega)).trans (by first | assumption | exact hset_eq | exact (hset_ne (by omega)).trans (by first | assumption | exact hset_eq | exact (hset_ne (by omega)).trans (by first | assumption | exact hset_eq))))) (j := i) (by omega) rfl ?_
      refine AW_aload_n 23 hX dX1_allows_22 rfl rfl ?_
      refine AW_aload_n 24 hX dX1_allows_23 rfl rfl ?_
      refine AW_get 27 hX dX1_allows_24 rfl fl_X1_11 (by first | assumption | exact hset_eq | exact (hset_ne (by omega)).trans (by first | assumption | exact hset_eq | exact (hset_ne (by omega)).trans (by first | assumption | exact hset_eq | exact (hset_ne (by omega)).trans (by first | assumption | exact hset_eq | exact (hset_ne (by omega)).trans (by first | assumption | exact hset_eq))))) rfl ?_
      refine AW_iload_n 28 hX dX1_allows_27 rfl rfl ?_
      refine AW_iald 29 hX dX1_allows_28 rfl (by first | assumption | exact hset_eq | exact (hset_ne (by omega)).trans (by first | assumption | exact hset_eq | exact (hset_ne (by omega)).trans (by first | assumption | exact hset_eq | exact (hset_ne (by omega)).trans (by first | assumption | exact hset_eq | exact (hset_ne (by omega)).trans (by first | assumption | exact hset_eq))))) (j := i) (by omega) rfl ?_
      rw [e1]
      refine AW_cV (As := [_]) 32 hX dX1_allows_29 rfl ml_X1_37 mw_X0_kindAt (by first | assumption | exact hset_eq | exact (hset_ne (by omega)).trans (by first | assumption | exact hset_eq | exact (hset_ne (by omega)).trans (by first | assumption | exact hset_eq | exact (hset_ne (by omega)).trans (by first | assumption | exact hset_eq | exact (hset_ne (by omega)).trans (by first | assumption | exact hset_eq))))) (by decide) rfl rfl rfl (Nat.le_of_ble_eq_true rfl) (by decide) ⟨(Nat.le_refl _), (Nat.le_refl _)⟩ (c_kindAt gg o1 ?_)
      rw [hks _ o1]
      refine AW_aload_n 33 hX dX1_allows_32 rfl rfl ?_
      refine AW_get 36 hX dX1_allows_33 rfl fl_X1_15 (by first | assumption | exact hset_eq | exact (hset_ne (by omega)).trans (by first | assumption | exact hset_eq | exact (hset_ne (by omega)).trans (by first | assumption | exact hset_eq | exact (hset_ne (by omega)).trans (by first | assumption | exact hset_eq | exact (hset_ne (by omega)).trans (by first | assumption | exact hset_eq))))) rfl ?_
      refine AW_iload_n 37 hX dX1_allows_36 rfl rfl ?_
      refine AW_iald 38 hX dX1_allows_37 rfl (by first | assumption | exact hset_eq | exact (hset_ne (by omega)).trans (by first | assumption | exact hset_eq | exact (hset_ne (by omega)).trans (by first | assumption | exact hset_eq | exact (hset_ne (by omega)).trans (by first | assumption | exact hset_eq | exact (hset_ne (by omega)).trans (by first | assumption | exact hset_eq))))) (j := i) (by omega) rfl ?_
      rw [e2]
      refine AW_cS (As := [_, _]) 41 hX dX1_allows_38 rfl ml_X1_43 mw_X2_growth rfl rfl (Nat.le_of_ble_eq_true rfl) (by decide) ⟨(Nat.le_refl _), (Nat.le_refl _)⟩ (c_growth _ _ (hk4 _ o1) ?_)
      rw [e3]
      refine AW_iadd 42 hX dX1_allows_41 rfl ?_
      rw [nI_add]
      refine AW_istore 44 hX dX1_allows_42 rfl (Nat.le_of_ble_eq_true rfl) rfl ?_
      refine AW_aload_n 45 hX dX1_allows_44 rfl rfl ?_
      refine AW_get 48 hX dX1_allows_45 rfl fl_X1_21 (by first | assumption | exact hset_eq | exact (hset_ne (by omega)).trans (by first | assumption | exact hset_eq | exact (hset_ne (by omega)).trans (by first | assumption | exact hset_eq | exact (hset_ne (by omega)).trans (by first | assumption | exact hset_eq | exact (hset_ne (by omega)).trans (by first | assumption | exact hset_eq))))) rfl ?_
      refine AW_iload_n 49 hX dX1_allows_48 rfl rfl ?_
      refine AW_zald 50 hX dX1_allows_49 rfl (by first | assumption | exact hset_eq | exact (hset_ne (by omega)).trans (by first | assumption | exact hset_eq | exact (hset_ne (by omega)).trans (by first | assumption | exact hset_eq | exact (hset_ne (by omega)).trans (by first | assumption | exact hset_eq | exact (hset_ne (by omega)).trans (by first | assumption | exact hset_eq))))) (j := i) (by omega) rfl ?_
      rw [e4]
      refine AW_iload 52 hX dX1_allows_50 rfl rfl ?_
      refine AW_iload_n 53 hX dX1_allows_52 rfl rfl ?_
      refine AW_cSN (As := [_]) 56 hX dX1_allows_53 rfl mn_X1_49 mw_X6_bearable rfl rfl (Nat.le_of_ble_eq_true rfl) (by decide) ⟨(Nat.le_refl _), (Nat.le_refl _)⟩ (c_bearable H hH ?_)
      refine AW_icmp_le 59 63 hX dX1_allows_56 rfl (by decide) (fun c56 => ?_) (fun c56 => ?_)
      · refine AW_iconst 64 hX dX1_allows_63 rfl ic_0 ?_
        refine AW_icmp_eq 67 69 hX dX1_allows_64 rfl (by decide) (fun c64 => ?_) (fun c64 => ?_)
        · refine AW_iinc 72 hX dX1_allows_69 rfl rfl (iincp ic_1) (Nat.le_of_ble_eq_true rfl) rfl ?_
          refine AW_goto 2 hX dX1_allows_72 (by decide) ?_
          rw [nI_1]
          refine hstep ?_
          have hle := iLe c56 (by omega) (by omega)
          have hz := iEq (b := 0) c64
          show 12 - H < (hd i).2.2.1 + gw (ks (hd i).1) (hd i).2.1 ↔ _
          omega
        · refine AW_iconst 68 hX dX1_allows_67 rfl ic_0 ?_
          refine AW_iret hX hE dX1_allows_68 rfl (Nat.le_refl _) (Nat.le_refl _) ?_
          refine h0 (fun hall => ?_)
          have hle := iLe c56 (by omega) (by omega)
          have hz := iNe (b := 0) c64
          have := hall i (by omega)
          rw [show wj ks hd i = (hd i).2.2.1 + gw (ks (hd i).1) (hd i).2.1 from rfl] at this
          omega
      · refine AW_iconst 60 hX dX1_allows_59 rfl ic_1 ?_
        refine AW_goto 64 hX dX1_allows_60 (by decide) ?_
        refine AW_icmp_eq 67 69 hX dX1_allows_64 rfl (by decide) (fun c64 => ?_) (fun c64 => ?_)
        · refine AW_iinc 72 hX dX1_allows_69 rfl rfl (iincp ic_1) (Nat.le_of_ble_eq_true rfl) rfl ?_
          refine AW_goto 2 hX dX1_allows_72 (by decide) ?_
          rw [nI_1]
          refine hstep ?_
          have hle := iNle c56 (by omega) (by omega)
          have hz := iEq (b := 1) c64
          show 12 - H < (hd i).2.2.1 + gw (ks (hd i).1) (hd i).2.1 ↔ _
          omega
        · refine AW_iconst 68 hX dX1_allows_67 rfl ic_0 ?_
          refine AW_iret hX hE dX1_allows_68 rfl (Nat.le_refl _) (Nat.le_refl _) ?_
          refine h0 (fun hall => ?_)
          have hle := iNle c56 (by omega) (by omega)
          have hz := iNe (b := 1) c64
          have := hall i (by omega)
          rw [show wj ks hd i = (hd i).2.2.1 + gw (ks (hd i).1) (hd i).2.1 from rfl] at this
          omega
  refine AW_iconst 1 hX dX1_allows_0 rfl ic_0 ?_
  refine AW_istore_n 2 hX dX1_allows_1 rfl (Nat.le_of_ble_eq_true rfl) rfl ?_
  exact loop m 0 (by omega) (fun j hj => by omega) none
set_option maxRecDepth 100000 in
set_option maxHeartbeats 4000000 in
theorem c_heightBits {h : AH} {K : Option Value → AH → Prop} {a n : Nat} {f : Nat → Int32} {ks : Nat → Nat} (gg : gr h a n f) (hks : ∀ j, j < n → f j = nI (ks j)) (hk4 : ∀ j, j < n → ks j ≤ 4) {q m : Nat} {hd : HD} (hg : heC h q m hd) (hok : hdok hd m n) (hK : K (some (.int (hB ks hd m))) h) : aX1_heightBits 3 [.ref q, .ref a] h K := by
  have hqa := hg.1
  have hga := gg.1
  refine AM.of [some (.ref q), some (.ref a), none, none] pn_X1_heightBits rfl (Nat.le_of_ble_eq_true rfl) (fun X hX hE => ?_)
  have loop : ∀ d i, i + d = 9 → AW X 0 0 4 [some (.ref q), some (.ref a), some (.int (hbt ks hd m i)), some (.int (nI (i + 1)))] [] h := by
    intro d
    induction d with
    | zero =>
      intro i hi
      refine AW_iload_n 5 hX dX1_heightBits_4 rfl rfl ?_
      refine AW_bipush 7 hX dX1_heightBits_5 rfl bp_9 ?_
      refine AW_icmp_gt 10 33 hX dX1_heightBits_7 rfl (by decide) (fun c7 => ?_) (fun c7 => absurd (nI_lt (a := 9) (b := i + 1) (by omega) (by omega)) c7)
      refine AW_iload_n 34 hX dX1_heightBits_33 rfl rfl ?_
      refine AW_iret hX hE dX1_heightBits_34 rfl (Nat.le_refl _) (Nat.le_refl _) ?_
      rw [show i = 9 by omega]; exact hK
    | succ d ih =>
      intro i hi
      have := ih (i + 1) (by omega)
      simp only [hbt] at this
      refine AW_iload_n 5 hX dX1_heightBits_4 rfl rfl ?_
      refine AW_bipush 7 hX dX1_heightBits_5 rfl bp_9 ?_
      refine AW_icmp_gt 10 33 hX dX1_heightBits_7 rfl (by decide) (fun c7 => absurd c7 (nI_nlt (a := 9) (b := i + 1) (by omega) (by omega))) (fun c7 => ?_)
      refine AW_aload_n 11 hX dX1_heightBits_10 rfl rfl ?_
      refine AW_aload_n 12 hX dX1_heightBits_11 rfl rfl ?_
      refine AW_iload_n 13 hX dX1_heightBits_12 rfl rfl ?_
      refine AW_cV (As := [_, _]) 16 hX dX1_heightBits_13 rfl ml_X1_33 mw_X1_allows (by first | assumption | exact hset_eq | exact (hset_ne (by omega)).trans (by first | assumption | exact hset_eq | exact (hset_ne (by omega)).trans (by first | assumption | exact hset_eq | exact (hset_ne (by omega)).trans (by first | assumption | exact hset_eq | exact (hset_ne (by omega)).trans (by first | assumption | exact hset_eq))))) (by decide) rfl rfl rfl (Nat.le_of_ble_eq_true rfl) (by decide) ⟨(Nat.le_refl _), (Nat.le_refl _)⟩ (c_allows gg hks hk4 hg hok (i + 1) (by omega) (fun ok => ?_) (fun ok => ?_))
      · refine AW_if_eq 19 27 hX dX1_heightBits_16 rfl (by decide) (fun c16 => absurd c16 (by decide)) (fun c16 => ?_)
        refine AW_iload_n 20 hX dX1_heightBits_19 rfl rfl ?_
        refine AW_iconst 21 hX dX1_heightBits_20 rfl ic_1 ?_
        refine AW_iload_n 22 hX dX1_heightBits_21 rfl rfl ?_
        refine AW_iconst 23 hX dX1_heightBits_22 rfl ic_1 ?_
        refine AW_isub 24 hX dX1_heightBits_23 rfl ?_
        refine AW_ishl 25 hX dX1_heightBits_24 rfl ?_
        refine AW_ior 26 hX dX1_heightBits_25 rfl ?_
        refine AW_istore_n 27 hX dX1_heightBits_26 rfl (Nat.le_of_ble_eq_true rfl) rfl ?_
        refine AW_iinc 30 hX dX1_heightBits_27 rfl rfl (iincp ic_1) (Nat.le_of_ble_eq_true rfl) rfl ?_
        refine AW_goto 4 hX dX1_heightBits_30 (by decide) ?_
        rw [nI_1]
        rw [if_pos ok] at this
        exact this
      · refine AW_if_eq 19 27 hX dX1_heightBits_16 rfl (by decide) (fun c16 => ?_) (fun c16 => absurd rfl c16)
        refine AW_iinc 30 hX dX1_heightBits_27 rfl rfl (iincp ic_1) (Nat.le_of_ble_eq_true rfl) rfl ?_
        refine AW_goto 4 hX dX1_heightBits_30 (by decide) ?_
        rw [nI_1]
        rw [if_neg ok, Int32.or_zero] at this
        exact this
  refine AW_iconst 1 hX dX1_heightBits_0 rfl ic_0 ?_
  refine AW_istore_n 2 hX dX1_heightBits_1 rfl (Nat.le_of_ble_eq_true rfl) rfl ?_
  refine AW_iconst 3 hX dX1_heightBits_2 rfl ic_1 ?_
  refine AW_istore_n 4 hX dX1_heightBits_3 rfl (Nat.le_of_ble_eq_true rfl) rfl ?_
  exact loop 9 0 (by omega)
set_option maxRecDepth 100000 in
set_option maxHeartbeats 4000000 in
theorem c_leftAtWorst {h : AH} {K : Option Value → AH → Prop} (b : Int32) (w : Nat) (hw : w < 100) (hK : K (some (.int (nI (LW b w)))) h) : aX1_leftAtWorst 1 [.int b, .int (nI w)] h K := by
  refine AM.of [some (.int b), some (.int (nI w)), none, none, none] pn_X1_leftAtWorst rfl (Nat.le_of_ble_eq_true rfl) (fun X hX hE => ?_)
  have loop : ∀ d i, i + d = 9 → AW X 0 0 7 [some (.int b), some (.int (nI w)), some (.int (nI (cF b w i))), some (.int (nI (cU b w i))), some (.int (nI (i + 1)))] [] h := by
    intro d
    induction d with
    | zero =>
      intro i hi
      have hc := cFU_le b w 9
      refine AW_iload 9 hX dX1_leftAtWorst_7 rfl rfl ?_
      refine AW_bipush 11 hX dX1_leftAtWorst_9 rfl bp_9 ?_
      refine AW_icmp_gt 14 52 hX dX1_leftAtWorst_11 rfl (by decide) (fun c11 => ?_) (fun c11 => absurd (nI_lt (a := 9) (b := i + 1) (by omega) (by omega)) c11)
      refine AW_iload_n 53 hX dX1_leftAtWorst_52 rfl rfl ?_
      refine AW_iload_n 54 hX dX1_leftAtWorst_53 rfl rfl ?_
      refine AW_max 57 hX dX1_leftAtWorst_54 rfl mk_X1_59 (Nat.le_of_ble_eq_true rfl) (by decide) ⟨(Nat.le_refl _), (Nat.le_refl _)⟩ ?_
      refine AW_iret hX hE dX1_leftAtWorst_57 rfl (Nat.le_refl _) (Nat.le_refl _) ?_
      have e : i = 9 := by omega
      subst e
      simp only [LW] at hK
      by_cases q : cF b w 9 < cU b w 9
      · rw [if_pos q] at hK
        rw [if_pos (nI_lt q (by omega))]
        exact hK
      · rw [if_neg q] at hK
        rw [if_neg (nI_nlt (by omega) (by omega))]
        exact hK
    | succ d ih =>
      intro i hi
      have := ih (i + 1) (by omega)
      simp only [cF, cU] at this
      refine AW_iload 9 hX dX1_leftAtWorst_7 rfl rfl ?_
      refine AW_bipush 11 hX dX1_leftAtWorst_9 rfl bp_9 ?_
      refine AW_icmp_gt 14 52 hX dX1_leftAtWorst_11 rfl (by decide) (fun c11 => absurd c11 (nI_nlt (a := 9) (b := i + 1) (by omega) (by omega))) (fun c11 => ?_)
      refine AW_iload_n 15 hX dX1_leftAtWorst_14 rfl rfl ?_
      refine AW_iload 17 hX dX1_leftAtWorst_15 rfl rfl ?_
      refine AW_iconst 18 hX dX1_leftAtWorst_17 rfl ic_1 ?_
      refine AW_isub 19 hX dX1_leftAtWorst_18 rfl ?_
      refine AW_ishr 20 hX dX1_leftAtWorst_19 rfl ?_
      refine AW_iconst 21 hX dX1_leftAtWorst_20 rfl ic_1 ?_
      refine AW_iand 22 hX dX1_leftAtWorst_21 rfl ?_
      refine AW_if_ne 25 28 hX dX1_leftAtWorst_22 rfl (by decide) (fun c22 => ?_) (fun c22 => ?_)
      · refine AW_iload_n 29 hX dX1_leftAtWorst_28 rfl rfl ?_
        refine AW_iload 31 hX dX1_leftAtWorst_29 rfl rfl ?_
        refine AW_cSN (As := [_]) 34 hX dX1_leftAtWorst_31 rfl mn_X1_49 mw_X6_bearable rfl rfl (Nat.le_of_ble_eq_true rfl) (by decide) ⟨(Nat.le_refl _), (Nat.le_refl _)⟩ (c_bearable (i + 1) (by omega) ?_)
        refine AW_icmp_le 37 43 hX dX1_leftAtWorst_34 rfl (by decide) (fun c34 => ?_) (fun c34 => ?_)
        · refine AW_iinc 46 hX dX1_leftAtWorst_43 rfl rfl (iincp ic_1) (Nat.le_of_ble_eq_true rfl) rfl ?_
          refine AW_iinc 49 hX dX1_leftAtWorst_46 rfl rfl (iincp ic_1) (Nat.le_of_ble_eq_true rfl) rfl ?_
          refine AW_goto 7 hX dX1_leftAtWorst_49 (by decide) ?_
          have hle := iLe c34
          have hb : bH b (i + 1) := c22
          have hn : ¬ 12 - (i + 1) < w := by omega
          rw [if_neg (fun q => hn q.2), if_pos ⟨hb, hn⟩, Nat.add_zero] at this
          rw [nI_1, nI_1]
          exact this
        · refine AW_iinc 40 hX dX1_leftAtWorst_37 rfl rfl (iincp ic_1) (Nat.le_of_ble_eq_true rfl) rfl ?_
          refine AW_goto 46 hX dX1_leftAtWorst_40 (by decide) ?_
          refine AW_iinc 49 hX dX1_leftAtWorst_46 rfl rfl (iincp ic_1) (Nat.le_of_ble_eq_true rfl) rfl ?_
          refine AW_goto 7 hX dX1_leftAtWorst_49 (by decide) ?_
          have hle := iNle c34
          have hb : bH b (i + 1) := c22
          have hn : 12 - (i + 1) < w := by omega
          rw [if_pos ⟨hb, hn⟩, if_neg (fun q => q.2 hn), Nat.add_zero] at this
          rw [nI_1, nI_1]
          exact this
      · refine AW_goto 46 hX dX1_leftAtWorst_25 (by decide) ?_
        refine AW_iinc 49 hX dX1_leftAtWorst_46 rfl rfl (iincp ic_1) (Nat.le_of_ble_eq_true rfl) rfl ?_
        refine AW_goto 7 hX dX1_leftAtWorst_49 (by decide) ?_
        have hb : ¬ bH b (i + 1) := fun q => q c22
        rw [if_neg (fun q => hb q.1), if_neg (fun q => hb q.1), Nat.add_zero, Nat.add_zero] at this
        rw [nI_1]
        exact this
  refine AW_iconst 1 hX dX1_leftAtWorst_0 rfl ic_0 ?_
  refine AW_istore_n 2 hX dX1_leftAtWorst_1 rfl (Nat.le_of_ble_eq_true rfl) rfl ?_
  refine AW_iconst 3 hX dX1_leftAtWorst_2 rfl ic_0 ?_
  refine AW_istore_n 4 hX dX1_leftAtWorst_3 rfl (Nat.le_of_ble_eq_true rfl) rfl ?_
  refine AW_iconst 5 hX dX1_leftAtWorst_4 rfl ic_1 ?_
  refine AW_istore 7 hX dX1_leftAtWorst_5 rfl (Nat.le_of_ble_eq_true rfl) rfl ?_
  exact loop 9 0 (by omega)
set_option maxRecDepth 100000 in
set_option maxHeartbeats 4000000 in
theorem c_bestTry {h : AH} {K : Option Value → AH → Prop} {a n : Nat} {f : Nat → Int32} {ks : Nat → Nat} (gg : gr h a n f) (hks : ∀ j, j < n → f j = nI (ks j)) (hk4 : ∀ j, j < n → ks j ≤ 4) {q m : Nat} {hd : HD} (hg : heC h q m hd) (hok : hdok hd m n) (p : Nat) (hp : p < n) (hK : K (some (.int (tryC ks hd m p))) h) : aX1_bestTry 4 [.ref q, .ref a, .int (nI p)] h K := by
  have hqa := hg.1
  have hga := gg.1
  have hgw := gw_le (k := ks p) (far := 1) (by omega)
  refine AM.of [some (.ref q), some (.ref a), some (.int (nI p)), none, none, none, none, none, none] pn_X1_bestTry rfl (Nat.le_of_ble_eq_true rfl) (fun X hX hE => ?_)
  have loop : ¬ hB ks hd m = 0 → ∀ d i, i + d = 12 → ∀ z, AW X 0 0 33 [some (.ref q), some (.ref a), some (.int (nI p)), some (.int (hB ks hd m)), some (.int (nI (gw (ks p) 1))), some (.int (nI (bst (fun s => LW (hB ks hd m) (s + gw (ks p) 1)) i).1)), some (.int (nI (bst (fun s => LW (hB ks hd m) (s + gw (ks p) 1)) i).2)), some (.int (nI i)), z] [] h := by
    intro hnz d
    induction d with
    | zero =>
      intro i hi z
      refine AW_iload 35 hX dX1_bestTry_33 rfl rfl ?_
      refine AW_bipush 37 hX dX1_bestTry_35 rfl bp_12 ?_
      refine AW_icmp_ge 40 72 hX dX1_bestTry_37 rfl (by decide) (fun c37 => ?_) (fun c37 => absurd (nI_le (a := 12) (b := i) (by omega) (by omega)) c37)
      refine AW_iload 74 hX dX1_bestTry_72 rfl rfl ?_
      refine AW_iret hX hE dX1_bestTry_74 rfl (Nat.le_refl _) (Nat.le_refl _) ?_
      rw [show i = 12 by omega]
      simp only [tryC, if_neg hnz] at hK
      exact hK
    | succ d ih =>
      intro i hi z
      have hb := bst_le (fun s => LW (hB ks hd m) (s + gw (ks p) 1)) (fun s => LW_le _ _) i
      have hl := LW_le (hB ks hd m) (i + gw (ks p) 1)
      refine AW_iload 35 hX dX1_bestTry_33 rfl rfl ?_
      refine AW_bipush 37 hX dX1_bestTry_35 rfl bp_12 ?_
      refine AW_icmp_ge 40 72 hX dX1_bestTry_37 rfl (by decide) (fun c37 => absurd c37 (nI_ge (a := i) (b := 12) (by omega) (by decide))) (fun c37 => ?_)
      refine AW_iload_n 41 hX dX1_bestTry_40 rfl rfl ?_
      refine AW_iload 43 hX dX1_bestTry_41 rfl rfl ?_
      refine AW_iload 45 hX dX1_bestTry_43 rfl rfl ?_
      refine AW_iadd 46 hX dX1_bestTry_45 rfl ?_
      rw [nI_add]
      refine AW_cS (As := [_, _]) 49 hX dX1_bestTry_46 rfl ml_X1_56 mw_X1_leftAtWorst rfl rfl (Nat.le_of_ble_eq_true rfl) (by decide) ⟨(Nat.le_refl _), (Nat.le_refl _)⟩ (c_leftAtWorst _ _ (by omega) ?_)
      refine AW_istore 51 hX dX1_bestTry_49 rfl (Nat.le_of_ble_eq_true rfl) rfl ?_
      refine AW_iload 53 hX dX1_bestTry_51 rfl rfl ?_
      refine AW_iload 55 hX dX1_bestTry_53 rfl rfl ?_
      refine AW_icmp_ge 58 66 hX dX1_bestTry_55 rfl (by decide) (fun c55 => ?_) (fun c55 => ?_)
      · refine AW_iinc 69 hX dX1_bestTry_66 rfl rfl (iincp ic_1) (Nat.le_of_ble_eq_true rfl) rfl ?_
        refine AW_goto 33 hX dX1_bestTry_69 (by decide) ?_
        have := ih (i + 1) (by omega) (some (.int (nI (LW (hB ks hd m) (i + gw (ks p) 1)))))
        simp only [bst, if_neg (Nat.not_lt.mpr (iLe c55))] at this
        rw [nI_1]
        exact this
      · refine AW_iload 60 hX dX1_bestTry_58 rfl rfl ?_
        refine AW_istore 62 hX dX1_bestTry_60 rfl (Nat.le_of_ble_eq_true rfl) rfl ?_
        refine AW_iload 64 hX dX1_bestTry_62 rfl rfl ?_
        refine AW_istore 66 hX dX1_bestTry_64 rfl (Nat.le_of_ble_eq_true rfl) rfl ?_
        refine AW_iinc 69 hX dX1_bestTry_66 rfl rfl (iincp ic_1) (Nat.le_of_ble_eq_true rfl) rfl ?_
        refine AW_goto 33 hX dX1_bestTry_69 (by decide) ?_
        have := ih (i + 1) (by omega) (some (.int (nI (LW (hB ks hd m) (i + gw (ks p) 1)))))
        simp only [bst, if_pos (iNle c55)] at this
        rw [nI_1]
        exact this
  refine AW_aload_n 1 hX dX1_bestTry_0 rfl rfl ?_
  refine AW_aload_n 2 hX dX1_bestTry_1 rfl rfl ?_
  refine AW_cV (As := [_]) 5 hX dX1_bestTry_2 rfl ml_X1_52 mw_X1_heightBits (by first | assumption | exact hset_eq | exact (hset_ne (by omega)).trans (by first | assumption | exact hset_eq | exact (hset_ne (by omega)).trans (by first | assumption | exact hset_eq | exact (hset_ne (by omega)).trans (by first | assumption | exact hset_eq | exact (hset_ne (by omega)).trans (by first | assumption | exact hset_eq))))) (by decide) rfl rfl rfl (Nat.le_of_ble_eq_true rfl) (by decide) ⟨(Nat.le_refl _), (Nat.le_refl _)⟩ (c_heightBits gg hks hk4 hg hok ?_)
  refine AW_istore_n 6 hX dX1_bestTry_5 rfl (Nat.le_of_ble_eq_true rfl) rfl ?_
  refine AW_iload_n 7 hX dX1_bestTry_6 rfl rfl ?_
  refine AW_if_ne 10 12 hX dX1_bestTry_7 rfl (by decide) (fun c7 => ?_) (fun c7 => ?_)
  · refine AW_aload_n 13 hX dX1_bestTry_12 rfl rfl ?_
    refine AW_iload_n 14 hX dX1_bestTry_13 rfl rfl ?_
    refine AW_cV (As := [_]) 17 hX dX1_bestTry_14 rfl ml_X1_37 mw_X0_kindAt (by first | assumption | exact hset_eq | exact (hset_ne (by omega)).trans (by first | assumption | exact hset_eq | exact (hset_ne (by omega)).trans (by first | assumption | exact hset_eq | exact (hset_ne (by omega)).trans (by first | assumption | exact hset_eq | exact (hset_ne (by omega)).trans (by first | assumption | exact hset_eq))))) (by decide) rfl rfl rfl (Nat.le_of_ble_eq_true rfl) (by decide) ⟨(Nat.le_refl _), (Nat.le_refl _)⟩ (c_kindAt gg hp ?_)
    rw [hks _ hp]
    refine AW_iconst 18 hX dX1_bestTry_17 rfl ic_1 ?_
    refine AW_cS (As := [_, _]) 21 hX dX1_bestTry_18 rfl ml_X1_43 mw_X2_growth rfl rfl (Nat.le_of_ble_eq_true rfl) (by decide) ⟨(Nat.le_refl _), (Nat.le_refl _)⟩ (c_growth (ks p) 1 (hk4 _ hp) ?_)
    refine AW_istore 23 hX dX1_bestTry_21 rfl (Nat.le_of_ble_eq_true rfl) rfl ?_
    refine AW_iconst 24 hX dX1_bestTry_23 rfl ic_0 ?_
    refine AW_istore 26 hX dX1_bestTry_24 rfl (Nat.le_of_ble_eq_true rfl) rfl ?_
    refine AW_bipush 28 hX dX1_bestTry_26 rfl bp_10 ?_
    refine AW_istore 30 hX dX1_bestTry_28 rfl (Nat.le_of_ble_eq_true rfl) rfl ?_
    refine AW_iconst 31 hX dX1_bestTry_30 rfl ic_0 ?_
    refine AW_istore 33 hX dX1_bestTry_31 rfl (Nat.le_of_ble_eq_true rfl) rfl ?_
    exact loop c7 12 0 (by omega) none
  · refine AW_iconst 11 hX dX1_bestTry_10 rfl ic_m1 ?_
    refine AW_iret hX hE dX1_bestTry_11 rfl (Nat.le_refl _) (Nat.le_refl _) ?_
    simp only [tryC, if_pos c7] at hK
    exact hK
