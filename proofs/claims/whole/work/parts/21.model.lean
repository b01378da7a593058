/-! THE MODEL: its cells are 34 to 46 -/
def mo (I : Nat → Int32) (sd hh : Int64) : List Value := [.int (I 0), .int (I 1), .ref 35, .int (I 3), .int (I 4), .int (I 5), .int (I 6), .int (I 7), .int (I 8), .ref 36, .ref 37, .ref 38, .ref 39, .int (I 13), .int (I 14), .ref 40, .int (I 16), .int (I 17), .ref 41, .long sd, .int (I 20), .int (I 21), .int (I 22), .int (I 23), .int (I 24), .int (I 25), .int (I 26), .int (I 27), .ref 42, .ref 43, .ref 44, .ref 45, .ref 46, .long hh]
theorem mo_set0 {I : Nat → Int32} {sd hh : Int64} {z : Int32} : (mo I sd hh).set 0 (.int z) = mo (upd I 0 z) sd hh := rfl
theorem mo_set1 {I : Nat → Int32} {sd hh : Int64} {z : Int32} : (mo I sd hh).set 1 (.int z) = mo (upd I 1 z) sd hh := rfl
theorem mo_set3 {I : Nat → Int32} {sd hh : Int64} {z : Int32} : (mo I sd hh).set 3 (.int z) = mo (upd I 3 z) sd hh := rfl
theorem mo_set4 {I : Nat → Int32} {sd hh : Int64} {z : Int32} : (mo I sd hh).set 4 (.int z) = mo (upd I 4 z) sd hh := rfl
theorem mo_set5 {I : Nat → Int32} {sd hh : Int64} {z : Int32} : (mo I sd hh).set 5 (.int z) = mo (upd I 5 z) sd hh := rfl
theorem mo_set6 {I : Nat → Int32} {sd hh : Int64} {z : Int32} : (mo I sd hh).set 6 (.int z) = mo (upd I 6 z) sd hh := rfl
theorem mo_set7 {I : Nat → Int32} {sd hh : Int64} {z : Int32} : (mo I sd hh).set 7 (.int z) = mo (upd I 7 z) sd hh := rfl
theorem mo_set8 {I : Nat → Int32} {sd hh : Int64} {z : Int32} : (mo I sd hh).set 8 (.int z) = mo (upd I 8 z) sd hh := rfl
theorem mo_set13 {I : Nat → Int32} {sd hh : Int64} {z : Int32} : (mo I sd hh).set 13 (.int z) = mo (upd I 13 z) sd hh := rfl
theorem mo_set14 {I : Nat → Int32} {sd hh : Int64} {z : Int32} : (mo I sd hh).set 14 (.int z) = mo (upd I 14 z) sd hh := rfl
theorem mo_set16 {I : Nat → Int32} {sd hh : Int64} {z : Int32} : (mo I sd hh).set 16 (.int z) = mo (upd I 16 z) sd hh := rfl
theorem mo_set17 {I : Nat → Int32} {sd hh : Int64} {z : Int32} : (mo I sd hh).set 17 (.int z) = mo (upd I 17 z) sd hh := rfl
theorem mo_set19 {I : Nat → Int32} {sd hh z : Int64} : (mo I sd hh).set 19 (.long z) = mo I z hh := rfl
theorem mo_set20 {I : Nat → Int32} {sd hh : Int64} {z : Int32} : (mo I sd hh).set 20 (.int z) = mo (upd I 20 z) sd hh := rfl
theorem mo_set21 {I : Nat → Int32} {sd hh : Int64} {z : Int32} : (mo I sd hh).set 21 (.int z) = mo (upd I 21 z) sd hh := rfl
theorem mo_set22 {I : Nat → Int32} {sd hh : Int64} {z : Int32} : (mo I sd hh).set 22 (.int z) = mo (upd I 22 z) sd hh := rfl
theorem mo_set23 {I : Nat → Int32} {sd hh : Int64} {z : Int32} : (mo I sd hh).set 23 (.int z) = mo (upd I 23 z) sd hh := rfl
theorem mo_set24 {I : Nat → Int32} {sd hh : Int64} {z : Int32} : (mo I sd hh).set 24 (.int z) = mo (upd I 24 z) sd hh := rfl
theorem mo_set25 {I : Nat → Int32} {sd hh : Int64} {z : Int32} : (mo I sd hh).set 25 (.int z) = mo (upd I 25 z) sd hh := rfl
theorem mo_set26 {I : Nat → Int32} {sd hh : Int64} {z : Int32} : (mo I sd hh).set 26 (.int z) = mo (upd I 26 z) sd hh := rfl
theorem mo_set27 {I : Nat → Int32} {sd hh : Int64} {z : Int32} : (mo I sd hh).set 27 (.int z) = mo (upd I 27 z) sd hh := rfl
theorem mo_set33 {I : Nat → Int32} {sd hh z : Int64} : (mo I sd hh).set 33 (.long z) = mo I sd z := rfl
abbrev AF : Type := Nat → Nat → Int32
def upF (F : AF) (k : Nat) (g : Nat → Int32) : AF := fun j => if j = k then g else F j
def MH (h : AH) (I : Nat → Int32) (sd hh : Int64) (F : AF) : Prop := h 34 = some (.inl (6, mo I sd hh)) ∧ h 35 = some (.inr (0, 12, F 0)) ∧ h 36 = some (.inr (0, 6, F 1)) ∧ h 37 = some (.inr (0, 6, F 2)) ∧ h 38 = some (.inr (0, 6, F 3)) ∧ h 39 = some (.inr (0, 6, F 4)) ∧ h 40 = some (.inr (1, 16, F 5)) ∧ h 41 = some (.inr (0, 144, F 6)) ∧ h 42 = some (.inr (0, 12, F 7)) ∧ h 43 = some (.inr (0, 6, F 8)) ∧ h 44 = some (.inr (0, 6, F 9)) ∧ h 45 = some (.inr (0, 6, F 10)) ∧ h 46 = some (.inr (0, 6, F 11))
theorem MH_obj {h : AH} {I I' : Nat → Int32} {sd hh sd' hh' : Int64} {F : AF} (g : MH h I sd hh F) : MH (hset h 34 (.inl (6, mo I' sd' hh'))) I' sd' hh' F := by
  obtain ⟨g0, a0, a1, a2, a3, a4, a5, a6, a7, a8, a9, a10, a11⟩ := g
  exact ⟨hset_eq, (hset_ne (by decide)).trans a0, (hset_ne (by decide)).trans a1, (hset_ne (by decide)).trans a2, (hset_ne (by decide)).trans a3, (hset_ne (by decide)).trans a4, (hset_ne (by decide)).trans a5, (hset_ne (by decide)).trans a6, (hset_ne (by decide)).trans a7, (hset_ne (by decide)).trans a8, (hset_ne (by decide)).trans a9, (hset_ne (by decide)).trans a10, (hset_ne (by decide)).trans a11⟩
theorem MH_arr0 {h : AH} {I : Nat → Int32} {sd hh : Int64} {F : AF} {f : Nat → Int32} (g : MH h I sd hh F) : MH (hset h 35 (.inr (0, 12, f))) I sd hh (upF F 0 f) := by
  obtain ⟨g0, a0, a1, a2, a3, a4, a5, a6, a7, a8, a9, a10, a11⟩ := g
  exact ⟨(hset_ne (by decide)).trans g0, hset_eq, (hset_ne (by decide)).trans a1, (hset_ne (by decide)).trans a2, (hset_ne (by decide)).trans a3, (hset_ne (by decide)).trans a4, (hset_ne (by decide)).trans a5, (hset_ne (by decide)).trans a6, (hset_ne (by decide)).trans a7, (hset_ne (by decide)).trans a8, (hset_ne (by decide)).trans a9, (hset_ne (by decide)).trans a10, (hset_ne (by decide)).trans a11⟩
theorem MH_arr1 {h : AH} {I : Nat → Int32} {sd hh : Int64} {F : AF} {f : Nat → Int32} (g : MH h I sd hh F) : MH (hset h 36 (.inr (0, 6, f))) I sd hh (upF F 1 f) := by
  obtain ⟨g0, a0, a1, a2, a3, a4, a5, a6, a7, a8, a9, a10, a11⟩ := g
  exact ⟨(hset_ne (by decide)).trans g0, (hset_ne (by decide)).trans a0, hset_eq, (hset_ne (by decide)).trans a2, (hset_ne (by decide)).trans a3, (hset_ne (by decide)).trans a4, (hset_ne (by decide)).trans a5, (hset_ne (by decide)).trans a6, (hset_ne (by decide)).trans a7, (hset_ne (by decide)).trans a8, (hset_ne (by decide)).trans a9, (hset_ne (by decide)).trans a10, (hset_ne (by decide)).trans a11⟩
theorem MH_arr2 {h : AH} {I : Nat → Int32} {sd hh : Int64} {F : AF} {f : Nat → Int32} (g : MH h I sd hh F) : MH (hset h 37 (.inr (0, 6, f))) I sd hh (upF F 2 f) := by
  obtain ⟨g0, a0, a1, a2, a3, a4, a5, a6, a7, a8, a9, a10, a11⟩ := g
  exact ⟨(hset_ne (by decide)).trans g0, (hset_ne (by decide)).trans a0, (hset_ne (by decide)).trans a1, hset_eq, (hset_ne (by decide)).trans a3, (hset_ne (by decide)).trans a4, (hset_ne (by decide)).trans a5, (hset_ne (by decide)).trans a6, (hset_ne (by decide)).trans a7, (hset_ne (by decide)).trans a8, (hset_ne (by decide)).trans a9, (hset_ne (by decide)).trans a10, (hset_ne (by decide)).trans a11⟩
theorem MH_arr3 {h : AH} {I : Nat → Int32} {sd hh : Int64} {F : AF} {f : Nat → Int32} (g : MH h I sd hh F) : MH (hset h 38 (.inr (0, 6, f))) I sd hh (upF F 3 f) := by
  obtain ⟨g0, a0, a1, a2, a3, a4, a5, a6, a7, a8, a9, a10, a11⟩ := g
  exact ⟨(hset_ne (by decide)).trans g0, (hset_ne (by decide)).trans a0, (hset_ne (by decide)).trans a1, (hset_ne (by decide)).trans a2, hset_eq, (hset_ne (by decide)).trans a4, (hset_ne (by decide)).trans a5, (hset_ne (by decide)).trans a6, (hset_ne (by decide)).trans a7, (hset_ne (by decide)).trans a8, (hset_ne (by decide)).trans a9, (hset_ne (by decide)).trans a10, (hset_ne (by decide)).trans a11⟩
theorem MH_arr4 {h : AH} {I : Nat → Int32} {sd hh : Int64} {F : AF} {f : Nat → Int32} (g : MH h I sd hh F) : MH (hset h 39 (.inr (0, 6, f))) I sd hh (upF F 4 f) := by
  obtain ⟨g0, a0, a1, a2, a3, a4, a5, a6, a7, a8, a9, a10, a11⟩ := g
  exact ⟨(hset_ne (by decide)).trans g0, (hset_ne (by decide)).trans a0, (hset_ne (by decide)).trans a1, (hset_ne (by decide)).trans a2, (hset_ne (by decide)).trans a3, hset_eq, (hset_ne (by decide)).trans a5, (hset_ne (by decide)).trans a6, (hset_ne (by decide)).trans a7, (hset_ne (by decide)).trans a8, (hset_ne (by decide)).trans a9, (hset_ne (by decide)).trans a10, (hset_ne (by decide)).trans a11⟩
theorem MH_arr5 {h : AH} {I : Nat → Int32} {sd hh : Int64} {F : AF} {f : Nat → Int32} (g : MH h I sd hh F) : MH (hset h 40 (.inr (1, 16, f))) I sd hh (upF F 5 f) := by
  obtain ⟨g0, a0, a1, a2, a3, a4, a5, a6, a7, a8, a9, a10, a11⟩ := g
  exact ⟨(hset_ne (by decide)).trans g0, (hset_ne (by decide)).trans a0, (hset_ne (by decide)).trans a1, (hset_ne (by decide)).trans a2, (hset_ne (by decide)).trans a3, (hset_ne (by decide)).trans a4, hset_eq, (hset_ne (by decide)).trans a6, (hset_ne (by decide)).trans a7, (hset_ne (by decide)).trans a8, (hset_ne (by decide)).trans a9, (hset_ne (by decide)).trans a10, (hset_ne (by decide)).trans a11⟩
theorem MH_arr6 {h : AH} {I : Nat → Int32} {sd hh : Int64} {F : AF} {f : Nat → Int32} (g : MH h I sd hh F) : MH (hset h 41 (.inr (0, 144, f))) I sd hh (upF F 6 f) := by
  obtain ⟨g0, a0, a1, a2, a3, a4, a5, a6, a7, a8, a9, a10, a11⟩ := g
  exact ⟨(hset_ne (by decide)).trans g0, (hset_ne (by decide)).trans a0, (hset_ne (by decide)).trans a1, (hset_ne (by decide)).trans a2, (hset_ne (by decide)).trans a3, (hset_ne (by decide)).trans a4, (hset_ne (by decide)).trans a5, hset_eq, (hset_ne (by decide)).trans a7, (hset_ne (by decide)).trans a8, (hset_ne (by decide)).trans a9, (hset_ne (by decide)).trans a10, (hset_ne (by decide)).trans a11⟩
theorem MH_arr7 {h : AH} {I : Nat → Int32} {sd hh : Int64} {F : AF} {f : Nat → Int32} (g : MH h I sd hh F) : MH (hset h 42 (.inr (0, 12, f))) I sd hh (upF F 7 f) := by
  obtain ⟨g0, a0, a1, a2, a3, a4, a5, a6, a7, a8, a9, a10, a11⟩ := g
  exact ⟨(hset_ne (by decide)).trans g0, (hset_ne (by decide)).trans a0, (hset_ne (by decide)).trans a1, (hset_ne (by decide)).trans a2, (hset_ne (by decide)).trans a3, (hset_ne (by decide)).trans a4, (hset_ne (by decide)).trans a5, (hset_ne (by decide)).trans a6, hset_eq, (hset_ne (by decide)).trans a8, (hset_ne (by decide)).trans a9, (hset_ne (by decide)).trans a10, (hset_ne (by decide)).trans a11⟩
theorem MH_arr8 {h : AH} {I : Nat → Int32} {sd hh : Int64} {F : AF} {f : Nat → Int32} (g : MH h I sd hh F) : MH (hset h 43 (.inr (0, 6, f))) I sd hh (upF F 8 f) := by
  obtain ⟨g0, a0, a1, a2, a3, a4, a5, a6, a7, a8, a9, a10, a11⟩ := g
  exact ⟨(hset_ne (by decide)).trans g0, (hset_ne (by decide)).trans a0, (hset_ne (by decide)).trans a1, (hset_ne (by decide)).trans a2, (hset_ne (by decide)).trans a3, (hset_ne (by decide)).trans a4, (hset_ne (by decide)).trans a5, (hset_ne (by decide)).trans a6, (hset_ne (by decide)).trans a7, hset_eq, (hset_ne (by decide)).trans a9, (hset_ne (by decide)).trans a10, (hset_ne (by decide)).trans a11⟩
theorem MH_arr9 {h : AH} {I : Nat → Int32} {sd hh : Int64} {F : AF} {f : Nat → Int32} (g : MH h I sd hh F) : MH (hset h 44 (.inr (0, 6, f))) I sd hh (upF F 9 f) := by
  obtain ⟨g0, a0, a1, a2, a3, a4, a5, a6, a7, a8, a9, a10, a11⟩ := g
  exact ⟨(hset_ne (by decide)).trans g0, (hset_ne (by decide)).trans a0, (hset_ne (by decide)).trans a1, (hset_ne (by decide)).trans a2, (hset_ne (by decide)).trans a3, (hset_ne (by decide)).trans a4, (hset_ne (by decide)).trans a5, (hset_ne (by decide)).trans a6, (hset_ne (by decide)).trans a7, (hset_ne (by decide)).trans a8, hset_eq, (hset_ne (by decide)).trans a10, (hset_ne (by decide)).trans a11⟩
theorem MH_arr10 {h : AH} {I : Nat → Int32} {sd hh : Int64} {F : AF} {f : Nat → Int32} (g : MH h I sd hh F) : MH (hset h 45 (.inr (0, 6, f))) I sd hh (upF F 10 f) := by
  obtain ⟨g0, a0, a1, a2, a3, a4, a5, a6, a7, a8, a9, a10, a11⟩ := g
  exact ⟨(hset_ne (by decide)).trans g0, (hset_ne (by decide)).trans a0, (hset_ne (by decide)).trans a1, (hset_ne (by decide)).trans a2, (hset_ne (by decide)).trans a3, (hset_ne (by decide)).trans a4, (hset_ne (by decide)).trans a5, (hset_ne (by decide)).trans a6, (hset_ne (by decide)).trans a7, (hset_ne (by decide)).trans a8, (hset_ne (by decide)).trans a9, hset_eq, (hset_ne (by decide)).trans a11⟩
theorem MH_arr11 {h : AH} {I : Nat → Int32} {sd hh : Int64} {F : AF} {f : Nat → Int32} (g : MH h I sd hh F) : MH (hset h 46 (.inr (0, 6, f))) I sd hh (upF F 11 f) := by
  obtain ⟨g0, a0, a1, a2, a3, a4, a5, a6, a7, a8, a9, a10, a11⟩ := g
  exact ⟨(hset_ne (by decide)).trans g0, (hset_ne (by decide)).trans a0, (hset_ne (by decide)).trans a1, (hset_ne (by decide)).trans a2, (hset_ne (by decide)).trans a3, (hset_ne (by decide)).trans a4, (hset_ne (by decide)).trans a5, (hset_ne (by decide)).trans a6, (hset_ne (by decide)).trans a7, (hset_ne (by decide)).trans a8, (hset_ne (by decide)).trans a9, (hset_ne (by decide)).trans a10, hset_eq⟩
theorem MH_fr {h h' : AH} {I : Nat → Int32} {sd hh : Int64} {F : AF} (g : MH h I sd hh F) (e : fr h h' 0 34) : MH h' I sd hh F := by
  obtain ⟨g0, a0, a1, a2, a3, a4, a5, a6, a7, a8, a9, a10, a11⟩ := g
  exact ⟨(e _ (by omega)).trans g0, (e _ (by omega)).trans a0, (e _ (by omega)).trans a1, (e _ (by omega)).trans a2, (e _ (by omega)).trans a3, (e _ (by omega)).trans a4, (e _ (by omega)).trans a5, (e _ (by omega)).trans a6, (e _ (by omega)).trans a7, (e _ (by omega)).trans a8, (e _ (by omega)).trans a9, (e _ (by omega)).trans a10, (e _ (by omega)).trans a11⟩
def MK (w : SV) (yd : Nat) (I : Nat → Int32) (F : AF) : Prop := match w with
  | (n, ks, ht, p, s, stp, fl, m, hd) => (I 20 = 1 ∧ I 21 = nI yd ∧ I 22 = nI ht ∧ I 23 = nI p ∧ I 24 = nI s ∧ I 25 = stp ∧ I 26 = fl ∧ I 27 = nI m) ∧ (∀ j, j < n → F 7 j = nI (ks j)) ∧ (∀ j, j < m → F 8 j = nI (hd j).1 ∧ F 9 j = nI (hd j).2.1 ∧ F 10 j = nI (hd j).2.2.1 ∧ F 11 j = nI (hd j).2.2.2)
def MR (S : ST) (I : Nat → Int32) (F : AF) : Prop := match S with
  | (kp, yd, qk, pm, pg, (n, ks, ht, p, s, stp, fl, m, hd), w) => (I 0 = nI yd ∧ I 1 = nI n ∧ I 3 = nI ht ∧ I 4 = nI p ∧ I 5 = nI s ∧ I 6 = stp ∧ I 7 = fl ∧ I 8 = nI m ∧ I 13 = nI qk ∧ I 14 = nI pm) ∧ (∀ j, j < n → F 0 j = nI (ks j)) ∧ (∀ j, j < m → F 1 j = nI (hd j).1 ∧ F 2 j = nI (hd j).2.1 ∧ F 3 j = nI (hd j).2.2.1 ∧ F 4 j = nI (hd j).2.2.2) ∧ (∀ j, j < pm → F 5 j = nI (pg j)) ∧ (kp = 1 → MK w yd I F) ∧ (kp = 0 → I 20 = 0 ∨ ∃ ky, ky < yd ∧ I 21 = nI ky)
def MJ (h : AH) (S : ST) : Prop := ∃ I sd hh F, MH h I sd hh F ∧ MR S I F
theorem MJ_fr {h h' : AH} {S : ST} (g : MJ h S) (e : fr h h' 0 34) : MJ h' S := by
  obtain ⟨I, sd, hh, F, g1, g2⟩ := g
  exact ⟨I, sd, hh, F, MH_fr g1 e, g2⟩
/-- the model's other cells don't matter -/
theorem MR_I {S : ST} {I I' : Nat → Int32} {F : AF} (g : MR S I F) (e : ∀ k, k ≠ 16 → k ≠ 17 → I' k = I k) : MR S I' F := by
  obtain ⟨kp, yd, qk, pm, pg, ⟨n, ks, ht, p, s, stp, fl, m, hd⟩, ⟨n1, ks1, ht1, p1, s1, stp1, fl1, m1, hd1⟩⟩ := S
  obtain ⟨g1, g2, g3, g4, g5, g6⟩ := g
  refine ⟨?_, g2, g3, g4, fun q => ?_, fun q => ?_⟩
  · rw [e 0 (by decide) (by decide), e 1 (by decide) (by decide), e 3 (by decide) (by decide), e 4 (by decide) (by decide), e 5 (by decide) (by decide), e 6 (by decide) (by decide), e 7 (by decide) (by decide), e 8 (by decide) (by decide), e 13 (by decide) (by decide), e 14 (by decide) (by decide)]
    exact g1
  · obtain ⟨k1, k2, k3⟩ := g5 q
    refine ⟨?_, k2, k3⟩
    rw [e 20 (by decide) (by decide), e 21 (by decide) (by decide), e 22 (by decide) (by decide), e 23 (by decide) (by decide), e 24 (by decide) (by decide), e 25 (by decide) (by decide), e 26 (by decide) (by decide), e 27 (by decide) (by decide)]
    exact k1
  · rw [e 20 (by decide) (by decide), e 21 (by decide) (by decide)]
    exact g6 q
theorem MR_F6 {S : ST} {I : Nat → Int32} {F : AF} {f : Nat → Int32} (g : MR S I F) : MR S I (upF F 6 f) := by
  obtain ⟨kp, yd, qk, pm, pg, ⟨n, ks, ht, p, s, stp, fl, m, hd⟩, ⟨n1, ks1, ht1, p1, s1, stp1, fl1, m1, hd1⟩⟩ := S
  exact g
set_option maxRecDepth 100000 in
set_option maxHeartbeats 4000000 in
theorem M_within {h : AH} {K : Option Value → AH → Prop} (x lo hi : Int32) (h1 : ¬ x < lo → ¬ hi < x → K (some (.int 1)) h) (h0 : (x < lo ∨ hi < x) → K (some (.int 0)) h) : aX7_within 0 [.int x, .int lo, .int hi] h K := by
  refine AM.of [some (.int x), some (.int lo), some (.int hi)] pn_X7_within rfl (Nat.le_of_ble_eq_true rfl) (fun X hX hE => ?_)
  refine AW_iload_n 1 hX dX7_within_0 rfl rfl ?_
  refine AW_iload_n 2 hX dX7_within_1 rfl rfl ?_
  refine AW_icmp_lt 5 14 hX dX7_within_2 rfl (by decide) (fun c2 => ?_) (fun c2 => ?_)
  · refine AW_iconst 15 hX dX7_within_14 rfl ic_0 ?_
    refine AW_iret hX hE dX7_within_15 rfl (Nat.le_refl _) (Nat.le_refl _) ?_
    exact h0 (Or.inl c2)
  · refine AW_iload_n 6 hX dX7_within_5 rfl rfl ?_
    refine AW_iload_n 7 hX dX7_within_6 rfl rfl ?_
    refine AW_icmp_gt 10 14 hX dX7_within_7 rfl (by decide) (fun c7 => ?_) (fun c7 => ?_)
    · refine AW_iconst 15 hX dX7_within_14 rfl ic_0 ?_
      refine AW_iret hX hE dX7_within_15 rfl (Nat.le_refl _) (Nat.le_refl _) ?_
      exact h0 (Or.inr c7)
    · refine AW_iconst 11 hX dX7_within_10 rfl ic_1 ?_
      refine AW_goto 15 hX dX7_within_11 (by decide) ?_
      refine AW_iret hX hE dX7_within_15 rfl (Nat.le_refl _) (Nat.le_refl _) ?_
      exact h1 c2 c7
theorem bit01 (x : Int32) : x &&& 1 = 0 ∨ x &&& 1 = 1 := by
  obtain ⟨j, hj, e⟩ := pk_andE x (m := 1) 1 (by decide)
  rw [e]
  rcases (show j = 0 ∨ j = 1 by omega) with rfl | rfl
  · exact Or.inl rfl
  · exact Or.inr rfl
set_option maxRecDepth 100000 in
set_option maxHeartbeats 4000000 in
theorem M_isIn {h : AH} {K : Option Value → AH → Prop} (b k : Int32) (h1 : ¬ (b >>> (k &&& 31)) &&& 1 = 0 → K (some (.int 1)) h) (h0 : (b >>> (k &&& 31)) &&& 1 = 0 → K (some (.int 0)) h) : aX7_isIn 0 [.int b, .int k] h K := by
  refine AM.of [some (.int b), some (.int k)] pn_X7_isIn rfl (Nat.le_of_ble_eq_true rfl) (fun X hX hE => ?_)
  refine AW_iload_n 1 hX dX7_isIn_0 rfl rfl ?_
  refine AW_iload_n 2 hX dX7_isIn_1 rfl rfl ?_
  refine AW_ishr 3 hX dX7_isIn_2 rfl ?_
  refine AW_iconst 4 hX dX7_isIn_3 rfl ic_1 ?_
  refine AW_iand 5 hX dX7_isIn_4 rfl ?_
  refine AW_iconst 6 hX dX7_isIn_5 rfl ic_1 ?_
  refine AW_icmp_ne 9 13 hX dX7_isIn_6 rfl (by decide) (fun c6 => ?_) (fun c6 => ?_)
  · refine AW_iconst 14 hX dX7_isIn_13 rfl ic_0 ?_
    refine AW_iret hX hE dX7_isIn_14 rfl (Nat.le_refl _) (Nat.le_refl _) ?_
    exact h0 ((bit01 _).resolve_right c6)
  · refine AW_iconst 10 hX dX7_isIn_9 rfl ic_1 ?_
    refine AW_goto 14 hX dX7_isIn_10 (by decide) ?_
    refine AW_iret hX hE dX7_isIn_14 rfl (Nat.le_refl _) (Nat.le_refl _) ?_
    exact h1 (fun q => by rw [q] at c6; exact absurd c6 (by decide))
set_option maxRecDepth 100000 in
set_option maxHeartbeats 4000000 in
theorem M_bears {h : AH} {K : Option Value → AH → Prop} (H : Nat) (hH : H ≤ 12) (hK : K (some (.int (nI (12 - H)))) h) : aX7_bears 0 [.int (nI H)] h K := by
  refine AM.of [some (.int (nI H))] pn_X7_bears rfl (Nat.le_of_ble_eq_true rfl) (fun X hX hE => ?_)
  refine AW_bipush 2 hX dX7_bears_0 rfl bp_12 ?_
  refine AW_iload_n 3 hX dX7_bears_2 rfl rfl ?_
  refine AW_isub 4 hX dX7_bears_3 rfl ?_
  refine AW_iret hX hE dX7_bears_4 rfl (Nat.le_refl _) (Nat.le_refl _) ?_
  rw [bear H hH]
  exact hK
theorem kb_out : ∀ c, c < 128 → (c < 98 ∨ 112 < c) → kr c = -1 := by decide +kernel
set_option maxRecDepth 100000 in
set_option maxHeartbeats 4000000 in
theorem M_kindBy {h : AH} {K : Option Value → AH → Prop} (c : Nat) (hc : c < 128) (hK : K (some (.int (kr c))) h) : aX7_kindBy 0 [.int (nI c)] h K := by
  refine AM.of [some (.int (nI c))] pn_X7_kindBy rfl (Nat.le_of_ble_eq_true rfl) (fun X hX hE => ?_)
  by_cases hr : 98 ≤ c ∧ c ≤ 112
  · refine AW_iload_n 1 hX dX7_kindBy_0 rfl rfl ?_
    rcases (show c = 98 ∨ c = 99 ∨ c = 100 ∨ c = 101 ∨ c = 102 ∨ c = 103 ∨ c = 104 ∨ c = 105 ∨ c = 106 ∨ c = 107 ∨ c = 108 ∨ c = 109 ∨ c = 110 ∨ c = 111 ∨ c = 112 by omega) with rfl | rfl | rfl | rfl | rfl | rfl | rfl | rfl | rfl | rfl | rfl | rfl | rfl | rfl | rfl
    · refine AW_tab (off := 81) 82 hX dX7_kindBy_1 (by decide) (by decide) (by decide) (by decide) ?_
      refine AW_iconst 83 hX dX7_kindBy_82 rfl ic_3 ?_
      refine AW_iret hX hE dX7_kindBy_83 rfl (Nat.le_refl _) (Nat.le_refl _) ?_
      exact hK
    · refine AW_tab (off := 85) 86 hX dX7_kindBy_1 (by decide) (by decide) (by decide) (by decide) ?_
      refine AW_iconst 87 hX dX7_kindBy_86 rfl ic_m1 ?_
      refine AW_iret hX hE dX7_kindBy_87 rfl (Nat.le_refl _) (Nat.le_refl _) ?_
      exact hK
    · refine AW_tab (off := 85) 86 hX dX7_kindBy_1 (by decide) (by decide) (by decide) (by decide) ?_
      refine AW_iconst 87 hX dX7_kindBy_86 rfl ic_m1 ?_
      refine AW_iret hX hE dX7_kindBy_87 rfl (Nat.le_refl _) (Nat.le_refl _) ?_
      exact hK
    · refine AW_tab (off := 85) 86 hX dX7_kindBy_1 (by decide) (by decide) (by decide) (by decide) ?_
      refine AW_iconst 87 hX dX7_kindBy_86 rfl ic_m1 ?_
      refine AW_iret hX hE dX7_kindBy_87 rfl (Nat.le_refl _) (Nat.le_refl _) ?_
      exact hK
    · refine AW_tab (off := 85) 86 hX dX7_kindBy_1 (by decide) (by decide) (by decide) (by decide) ?_
      refine AW_iconst 87 hX dX7_kindBy_86 rfl ic_m1 ?_
      refine AW_iret hX hE dX7_kindBy_87 rfl (Nat.le_refl _) (Nat.le_refl _) ?_
      exact hK
    · refine AW_tab (off := 79) 80 hX dX7_kindBy_1 (by decide) (by decide) (by decide) (by decide) ?_
      refine AW_iconst 81 hX dX7_kindBy_80 rfl ic_2 ?_
      refine AW_iret hX hE dX7_kindBy_81 rfl (Nat.le_refl _) (Nat.le_refl _) ?_
      exact hK
    · refine AW_tab (off := 85) 86 hX dX7_kindBy_1 (by decide) (by decide) (by decide) (by decide) ?_
      refine AW_iconst 87 hX dX7_kindBy_86 rfl ic_m1 ?_
      refine AW_iret hX hE dX7_kindBy_87 rfl (Nat.le_refl _) (Nat.le_refl _) ?_
      exact hK
    · refine AW_tab (off := 85) 86 hX dX7_kindBy_1 (by decide) (by decide) (by decide) (by decide) ?_
      refine AW_iconst 87 hX dX7_kindBy_86 rfl ic_m1 ?_
      refine AW_iret hX hE dX7_kindBy_87 rfl (Nat.le_refl _) (Nat.le_refl _) ?_
      exact hK
    · refine AW_tab (off := 85) 86 hX dX7_kindBy_1 (by decide) (by decide) (by decide) (by decide) ?_
      refine AW_iconst 87 hX dX7_kindBy_86 rfl ic_m1 ?_
      refine AW_iret hX hE dX7_kindBy_87 rfl (Nat.le_refl _) (Nat.le_refl _) ?_
      exact hK
    · refine AW_tab (off := 85) 86 hX dX7_kindBy_1 (by decide) (by decide) (by decide) (by decide) ?_
      refine AW_iconst 87 hX dX7_kindBy_86 rfl ic_m1 ?_
      refine AW_iret hX hE dX7_kindBy_87 rfl (Nat.le_refl _) (Nat.le_refl _) ?_
      exact hK
    · refine AW_tab (off := 77) 78 hX dX7_kindBy_1 (by decide) (by decide) (by decide) (by decide) ?_
      refine AW_iconst 79 hX dX7_kindBy_78 rfl ic_1 ?_
      refine AW_iret hX hE dX7_kindBy_79 rfl (Nat.le_refl _) (Nat.le_refl _) ?_
      exact hK
    · refine AW_tab (off := 85) 86 hX dX7_kindBy_1 (by decide) (by decide) (by decide) (by decide) ?_
      refine AW_iconst 87 hX dX7_kindBy_86 rfl ic_m1 ?_
      refine AW_iret hX hE dX7_kindBy_87 rfl (Nat.le_refl _) (Nat.le_refl _) ?_
      exact hK
    · refine AW_tab (off := 85) 86 hX dX7_kindBy_1 (by decide) (by decide) (by decide) (by decide) ?_
      refine AW_iconst 87 hX dX7_kindBy_86 rfl ic_m1 ?_
      refine AW_iret hX hE dX7_kindBy_87 rfl (Nat.le_refl _) (Nat.le_refl _) ?_
      exact hK
    · refine AW_tab (off := 83) 84 hX dX7_kindBy_1 (by decide) (by decide) (by decide) (by decide) ?_
      refine AW_iconst 85 hX dX7_kindBy_84 rfl ic_4 ?_
      refine AW_iret hX hE dX7_kindBy_85 rfl (Nat.le_refl _) (Nat.le_refl _) ?_
      exact hK
    · refine AW_tab (off := 75) 76 hX dX7_kindBy_1 (by decide) (by decide) (by decide) (by decide) ?_
      refine AW_iconst 77 hX dX7_kindBy_76 rfl ic_0 ?_
      refine AW_iret hX hE dX7_kindBy_77 rfl (Nat.le_refl _) (Nat.le_refl _) ?_
      exact hK
  · refine AW_iload_n 1 hX dX7_kindBy_0 rfl rfl ?_
    refine AW_tabO 86 hX dX7_kindBy_1 (by rw [nI_toInt (by omega)]; omega) (by decide) ?_
    rw [kb_out c hc (by omega)] at hK
    refine AW_iconst 87 hX dX7_kindBy_86 rfl ic_m1 ?_
    refine AW_iret hX hE dX7_kindBy_87 rfl (Nat.le_refl _) (Nat.le_refl _) ?_
    exact hK
set_option maxRecDepth 100000 in
set_option maxHeartbeats 4000000 in
theorem M_at {h : AH} {K : Option Value → AH → Prop} {I : Nat → Int32} {sd hh : Int64} {F : AF} (g : MH h I sd hh F) {pm : Nat} {pg : Nat → Nat} (h14 : I 14 = nI pm) (hpm : pm ≤ 16) (hp : ∀ j, j < pm → F 5 j = nI (pg j)) (i : Nat) (hi : i < 1000) (hK : K (some (.int (nI (pAt pm pg i)))) h) : aX7_at 0 [.ref 34, .int (nI i)] h K := by
  obtain ⟨g0, a0, a1, a2, a3, a4, a5, a6, a7, a8, a9, a10, a11⟩ := id g
  refine AM.of [some (.ref 34), some (.int (nI i))] pn_X7_at rfl (Nat.le_of_ble_eq_true rfl) (fun X hX hE => ?_)
  refine AW_iload_n 1 hX dX7_at_0 rfl rfl ?_
  refine AW_aload_n 2 hX dX7_at_1 rfl rfl ?_
  refine AW_get 5 hX dX7_at_2 rfl fl_X7_51 (by first | assumption | exact hset_eq | exact (hset_ne (by omega)).trans (by first | assumption | exact hset_eq | exact (hset_ne (by omega)).trans (by first | assumption | exact hset_eq | exact (hset_ne (by omega)).trans (by first | assumption | exact hset_eq | exact (hset_ne (by omega)).trans (by first | assumption | exact hset_eq))))) rfl ?_
  rw [h14]
  refine AW_icmp_ge 8 17 hX dX7_at_5 rfl (by decide) (fun c5 => ?_) (fun c5 => ?_)
  · refine AW_iconst 18 hX dX7_at_17 rfl ic_0 ?_
    refine AW_iret hX hE dX7_at_18 rfl (Nat.le_refl _) (Nat.le_refl _) ?_
    have := iLe c5
    rw [show pAt pm pg i = 0 from if_neg (by omega)] at hK
    exact hK
  · refine AW_aload_n 9 hX dX7_at_8 rfl rfl ?_
    refine AW_get 12 hX dX7_at_9 rfl fl_X7_25 (by first | assumption | exact hset_eq | exact (hset_ne (by omega)).trans (by first | assumption | exact hset_eq | exact (hset_ne (by omega)).trans (by first | assumption | exact hset_eq | exact (hset_ne (by omega)).trans (by first | assumption | exact hset_eq | exact (hset_ne (by omega)).trans (by first | assumption | exact hset_eq))))) rfl ?_
    refine AW_iload_n 13 hX dX7_at_12 rfl rfl ?_
    refine AW_bald 14 hX dX7_at_13 rfl (by first | assumption | exact hset_eq | exact (hset_ne (by omega)).trans (by first | assumption | exact hset_eq | exact (hset_ne (by omega)).trans (by first | assumption | exact hset_eq | exact (hset_ne (by omega)).trans (by first | assumption | exact hset_eq | exact (hset_ne (by omega)).trans (by first | assumption | exact hset_eq))))) (j := i) (by have := iNle c5; omega) rfl ?_
    refine AW_goto 18 hX dX7_at_14 (by decide) ?_
    refine AW_iret hX hE dX7_at_18 rfl (Nat.le_refl _) (Nat.le_refl _) ?_
    have := iNle c5
    rw [show pAt pm pg i = pg i from if_pos this] at hK
    rw [hp i this]
    exact hK
theorem digit_y {x : Nat} (hx : x < 128) (h1 : ¬ nI x - 48 < 1) (h2 : ¬ 9 < nI x - 48) : 49 ≤ x ∧ x ≤ 57 := by
  have key : ∀ x, x < 128 → ¬ nI x - 48 < 1 → ¬ 9 < nI x - 48 → 49 ≤ x ∧ x ≤ 57 := by decide +kernel
  exact key x hx h1 h2
theorem digit_n {x : Nat} (hx : x < 128) (h1 : nI x - 48 < 1 ∨ 9 < nI x - 48) : ¬ (49 ≤ x ∧ x ≤ 57) := by
  have key : ∀ x, x < 128 → (nI x - 48 < 1 ∨ 9 < nI x - 48) → ¬ (49 ≤ x ∧ x ≤ 57) := by decide +kernel
  exact key x hx h1
set_option maxRecDepth 100000 in
set_option maxHeartbeats 4000000 in
theorem M_read {h : AH} {K : Option Value → AH → Prop} {I : Nat → Int32} {sd hh : Int64} {F : AF} (g : MH h I sd hh F) {pm : Nat} {pg : Nat → Nat} (h14 : I 14 = nI pm) (hpm : pm ≤ 16) (hp : ∀ j, j < pm → F 5 j = nI (pg j)) (hpg : ∀ j, j < pm → pg j < 128) (hK : ∀ (h' : AH) (I' : Nat → Int32), MH h' I' sd hh F → (∀ k, k ≠ 16 → k ≠ 17 → I' k = I k) → (pwh pm pg → I' 16 = 1) → (¬ pwh pm pg → I' 16 = 0) → I' 17 = nI (plc pm pg) → fr h h' 34 35 → K (some (.int (nI (fw pm pg)))) h') : aX7_read 1 [.ref 34] h K := by
  have hpl := plc_le pm pg
  have hp0 : ∀ i, pm ≤ i → pAt pm pg i = 0 := fun i hi => by simp only [pAt, if_neg (Nat.not_lt.mpr hi)]
  have hp1 : ∀ i, pAt pm pg i < 128 := fun i => by
    simp only [pAt]
    split
    next hi => exact hpg i hi
    next => omega
  obtain ⟨g0, a0, a1, a2, a3, a4, a5, a6, a7, a8, a9, a10, a11⟩ := id g
  refine AM.of [some (.ref 34), none, none] pn_X7_read rfl (Nat.le_of_ble_eq_true rfl) (fun X hX hE => ?_)
  have eI : ∀ (x y : Int32) k, k ≠ 16 → k ≠ 17 → upd (upd (upd I 16 0) 17 x) 16 y k = I k := fun x y k e1 e2 => by rw [pk_un e1, pk_un e2, pk_un e1]
  have eI0 : ∀ (x : Int32) k, k ≠ 16 → k ≠ 17 → upd (upd I 16 0) 17 x k = I k := fun x k e1 e2 => by rw [pk_un e2, pk_un e1]
  have f3 : ∀ c1 c2 : AC, fr h (hset h 34 c1) 34 35 := fun c1 c2 => fr_set (by omega) (by omega)
  have gA : ∀ I2 : Nat → Int32, MH (hset h 34 (.inl (6, mo I2 sd hh))) I2 sd hh F := fun I2 => MH_obj g
  have at31 : AW X 0 0 31 [some (.ref 34), some (.int (nI (plc pm pg))), none] [] (hset h 34 (.inl (6, mo (upd I 16 0) sd hh))) := by
    refine AW_aload_n 32 hX dX7_read_31 rfl rfl ?_
    refine AW_iload_n 33 hX dX7_read_32 rfl rfl ?_
    refine AW_put 36 hX dX7_read_33 rfl fl_X7_66 (by first | assumption | exact hset_eq | exact (hset_ne (by omega)).trans (by first | assumption | exact hset_eq | exact (hset_ne (by omega)).trans (by first | assumption | exact hset_eq | exact (hset_ne (by omega)).trans (by first | assumption | exact hset_eq | exact (hset_ne (by omega)).trans (by first | assumption | exact hset_eq))))) rfl (fun _ => rfl) (fun _ => rfl) (Nat.le_of_ble_eq_true rfl) ?_
    rw [mo_set17]
    try rw [hset_hset]
    refine AW_iload_n 37 hX dX7_read_36 rfl rfl ?_
    refine AW_iconst 38 hX dX7_read_37 rfl ic_4 ?_
    refine AW_icmp_lt 41 51 hX dX7_read_38 rfl (by decide) (fun c38 => ?_) (fun c38 => ?_)
    · refine AW_iload_n 52 hX dX7_read_51 rfl rfl ?_
      refine AW_iret hX hE dX7_read_52 rfl (Nat.le_refl _) (Nat.le_refl _) ?_
      have h4 := iLt (b := 4) c38
      have e : fw pm pg = plc pm pg := by simp only [fw]; rw [if_pos (by omega)]
      rw [e] at hK
      exact hK _ _ (gA _) (eI0 _) (fun q => by have := q.1; omega) (fun _ => by rw [pk_un (by decide), pk_us]) pk_us (f3 _ (.inl (0, [])))
    · refine AW_aload_n 42 hX dX7_read_41 rfl rfl ?_
      refine AW_iload_n 43 hX dX7_read_42 rfl rfl ?_
      refine AW_cV (As := [_]) 46 hX dX7_read_43 rfl ml_X7_59 mw_X7_at (by first | assumption | exact hset_eq | exact (hset_ne (by omega)).trans (by first | assumption | exact hset_eq | exact (hset_ne (by omega)).trans (by first | assumption | exact hset_eq | exact (hset_ne (by omega)).trans (by first | assumption | exact hset_eq | exact (hset_ne (by omega)).trans (by first | assumption | exact hset_eq))))) (by decide) rfl rfl rfl (Nat.le_of_ble_eq_true rfl) (by decide) ⟨(Nat.le_refl _), (Nat.le_refl _)⟩ (M_at (gA _) (show upd (upd I 16 0) 17 _ 14 = nI pm by rw [pk_un (by decide), pk_un (by decide)]; exact h14) hpm hp _ (by omega) ?_)
      refine AW_bipush 48 hX dX7_read_46 rfl bp_59 ?_
      refine AW_icmp_eq 51 53 hX dX7_read_48 rfl (by decide) (fun c48 => ?_) (fun c48 => ?_)
      · refine AW_aload_n 54 hX dX7_read_53 rfl rfl ?_
        refine AW_iload_n 55 hX dX7_read_54 rfl rfl ?_
        refine AW_iconst 56 hX dX7_read_55 rfl ic_1 ?_
        refine AW_iadd 57 hX dX7_read_56 rfl ?_
        rw [nI_1]
        refine AW_cV (As := [_]) 60 hX dX7_read_57 rfl ml_X7_59 mw_X7_at (by first | assumption | exact hset_eq | exact (hset_ne (by omega)).trans (by first | assumption | exact hset_eq | exact (hset_ne (by omega)).trans (by first | assumption | exact hset_eq | exact (hset_ne (by omega)).trans (by first | assumption | exact hset_eq | exact (hset_ne (by omega)).trans (by first | assumption | exact hset_eq))))) (by decide) rfl rfl rfl (Nat.le_of_ble_eq_true rfl) (by decide) ⟨(Nat.le_refl _), (Nat.le_refl _)⟩ (M_at (gA _) (show upd (upd I 16 0) 17 _ 14 = nI pm by rw [pk_un (by decide), pk_un (by decide)]; exact h14) hpm hp _ (by omega) ?_)
        refine AW_bipush 62 hX dX7_read_60 rfl bp_48 ?_
        refine AW_isub 63 hX dX7_read_62 rfl ?_
        refine AW_iconst 64 hX dX7_read_63 rfl ic_1 ?_
        refine AW_bipush 66 hX dX7_read_64 rfl bp_9 ?_
        refine AW_cS (As := [_, _, _]) 69 hX dX7_read_66 rfl ml_X7_47 mw_X7_within rfl rfl (Nat.le_of_ble_eq_true rfl) (by decide) ⟨(Nat.le_refl _), (Nat.le_refl _)⟩ (M_within _ _ _ (fun w1 w2 => ?_) (fun w1 => ?_))
        · have d49 : 49 ≤ pAt pm pg (plc pm pg + 1) ∧ pAt pm pg (plc pm pg + 1) ≤ 57 := digit_y (hp1 _) w1 w2
          refine AW_istore_n 70 hX dX7_read_69 rfl (Nat.le_of_ble_eq_true rfl) rfl ?_
          refine AW_aload_n 71 hX dX7_read_70 rfl rfl ?_
          refine AW_iload_n 72 hX dX7_read_71 rfl rfl ?_
          refine AW_if_eq 75 89 hX dX7_read_72 rfl (by decide) (fun c72 => absurd c72 (by decide)) (fun c72 => ?_)
          refine AW_iload_n 76 hX dX7_read_75 rfl rfl ?_
          refine AW_iconst 77 hX dX7_read_76 rfl ic_2 ?_
          refine AW_iadd 78 hX dX7_read_77 rfl ?_
          refine AW_aload_n 79 hX dX7_read_78 rfl rfl ?_
          refine AW_get 82 hX dX7_read_79 rfl fl_X7_51 (by first | assumption | exact hset_eq | exact (hset_ne (by omega)).trans (by first | assumption | exact hset_eq | exact (hset_ne (by omega)).trans (by first | assumption | exact hset_eq | exact (hset_ne (by omega)).trans (by first | assumption | exact hset_eq | exact (hset_ne (by omega)).trans (by first | assumption | exact hset_eq))))) rfl ?_
          rw [show (2 : Int32) = nI 2 from rfl, nI_add, show upd (upd I 16 0) 17 (nI (plc pm pg)) 14 = nI pm by rw [pk_un (by decide), pk_un (by decide)]; exact h14]
          refine AW_icmp_ne 85 89 hX dX7_read_82 rfl (by decide) (fun c82 => ?_) (fun c82 => ?_)
          · refine AW_iconst 90 hX dX7_read_89 rfl ic_0 ?_
            refine AW_put 93 hX dX7_read_90 rfl fl_X7_55 (by first | assumption | exact hset_eq | exact (hset_ne (by omega)).trans (by first | assumption | exact hset_eq | exact (hset_ne (by omega)).trans (by first | assumption | exact hset_eq | exact (hset_ne (by omega)).trans (by first | assumption | exact hset_eq | exact (hset_ne (by omega)).trans (by first | assumption | exact hset_eq))))) rfl (fun _ => rfl) (fun _ => rfl) (Nat.le_of_ble_eq_true rfl) ?_
            rw [mo_set16]
            try rw [hset_hset]
            refine AW_iload_n 94 hX dX7_read_93 rfl rfl ?_
            refine AW_if_eq 97 103 hX dX7_read_94 rfl (by decide) (fun c94 => absurd c94 (by decide)) (fun c94 => ?_)
            refine AW_iload_n 98 hX dX7_read_97 rfl rfl ?_
            refine AW_iconst 99 hX dX7_read_98 rfl ic_2 ?_
            refine AW_iadd 100 hX dX7_read_99 rfl ?_
            refine AW_goto 106 hX dX7_read_100 (by decide) ?_
            refine AW_iret hX hE dX7_read_106 rfl (Nat.le_refl _) (Nat.le_refl _) ?_
            have h59 := iEq (b := 59) c48 (by have := hp1 (plc pm pg); omega)
            have h4 := iNlt (b := 4) c38
            have e : fw pm pg = plc pm pg + 2 := by simp only [fw]; rw [if_neg (by omega), if_pos d49]
            rw [show (2 : Int32) = nI 2 from rfl, nI_add]
            rw [e] at hK
            exact hK _ _ (gA _) (eI _ _) (fun q => absurd (congrArg nI q.2.2.2.2.symm) c82) (fun _ => pk_us) (by rw [pk_un (by decide), pk_us]) (f3 _ (.inl (0, [])))
          · refine AW_iconst 86 hX dX7_read_85 rfl ic_1 ?_
            refine AW_goto 90 hX dX7_read_86 (by decide) ?_
            refine AW_put 93 hX dX7_read_90 rfl fl_X7_55 (by first | assumption | exact hset_eq | exact (hset_ne (by omega)).trans (by first | assumption | exact hset_eq | exact (hset_ne (by omega)).trans (by first | assumption | exact hset_eq | exact (hset_ne (by omega)).trans (by first | assumption | exact hset_eq | exact (hset_ne (by omega)).trans (by first | assumption | exact hset_eq))))) rfl (fun _ => rfl) (fun _ => rfl) (Nat.le_of_ble_eq_true rfl) ?_
            rw [mo_set16]
            try rw [hset_hset]
            refine AW_iload_n 94 hX dX7_read_93 rfl rfl ?_
            refine AW_if_eq 97 103 hX dX7_read_94 rfl (by decide) (fun c94 => absurd c94 (by decide)) (fun c94 => ?_)
            refine AW_iload_n 98 hX dX7_read_97 rfl rfl ?_
            refine AW_iconst 99 hX dX7_read_98 rfl ic_2 ?_
            refine AW_iadd 100 hX dX7_read_99 rfl ?_
            refine AW_goto 106 hX dX7_read_100 (by decide) ?_
            refine AW_iret hX hE dX7_read_106 rfl (Nat.le_refl _) (Nat.le_refl _) ?_
            have h59 := iEq (b := 59) c48 (by have := hp1 (plc pm pg); omega)
            have h4 := iNlt (b := 4) c38
            have hm := iEq c82
            have e : fw pm pg = plc pm pg + 2 := by simp only [fw]; rw [if_neg (by omega), if_pos d49]
            rw [show (2 : Int32) = nI 2 from rfl, nI_add]
            rw [e] at hK
            exact hK _ _ (gA _) (eI _ _) (fun _ => pk_us) (fun q => absurd ⟨h4, h59, d49.1, d49.2, hm.symm⟩ q) (by rw [pk_un (by decide), pk_us]) (f3 _ (.inl (0, [])))
        · have d49 : ¬ (49 ≤ pAt pm pg (plc pm pg + 1) ∧ pAt pm pg (plc pm pg + 1) ≤ 57) := digit_n (hp1 _) w1
          refine AW_istore_n 70 hX dX7_read_69 rfl (Nat.le_of_ble_eq_true rfl) rfl ?_
          refine AW_aload_n 71 hX dX7_read_70 rfl rfl ?_
          refine AW_iload_n 72 hX dX7_read_71 rfl rfl ?_
          refine AW_if_eq 75 89 hX dX7_read_72 rfl (by decide) (fun c72 => ?_) (fun c72 => absurd rfl c72)
          refine AW_iconst 90 hX dX7_read_89 rfl ic_0 ?_
          refine AW_put 93 hX dX7_read_90 rfl fl_X7_55 (by first | assumption | exact hset_eq | exact (hset_ne (by omega)).trans (by first | assumption | exact hset_eq | exact (hset_ne (by omega)).trans (by first | assumption | exact hset_eq | exact (hset_ne (by omega)).trans (by first | assumption | exact hset_eq | exact (hset_ne (by omega)).trans (by first | assumption | exact hset_eq))))) rfl (fun _ => rfl) (fun _ => rfl) (Nat.le_of_ble_eq_true rfl) ?_
          rw [mo_set16]
          try rw [hset_hset]
          refine AW_iload_n 94 hX dX7_read_93 rfl rfl ?_
          refine AW_if_eq 97 103 hX dX7_read_94 rfl (by decide) (fun c94 => ?_) (fun c94 => absurd rfl c94)
          refine AW_iload_n 104 hX dX7_read_103 rfl rfl ?_
          refine AW_iconst 105 hX dX7_read_104 rfl ic_1 ?_
          refine AW_iadd 106 hX dX7_read_105 rfl ?_
          refine AW_iret hX hE dX7_read_106 rfl (Nat.le_refl _) (Nat.le_refl _) ?_
          have h59 := iEq (b := 59) c48 (by have := hp1 (plc pm pg); omega)
          have h4 := iNlt (b := 4) c38
          have e : fw pm pg = plc pm pg + 1 := by simp only [fw]; rw [if_neg (by omega), if_neg d49]
          rw [nI_1]
          rw [e] at hK
          exact hK _ _ (gA _) (eI _ _) (fun q => absurd ⟨q.2.2.1, q.2.2.2.1⟩ d49) (fun _ => pk_us) (by rw [pk_un (by decide), pk_us]) (f3 _ (.inl (0, [])))
      · refine AW_iload_n 52 hX dX7_read_51 rfl rfl ?_
        refine AW_iret hX hE dX7_read_52 rfl (Nat.le_refl _) (Nat.le_refl _) ?_
        have h59 : ¬ pAt pm pg (plc pm pg) = 59 := fun e => c48 (by rw [e]; rfl)
        have e : fw pm pg = plc pm pg := by simp only [fw]; rw [if_pos (by omega)]
        rw [e] at hK
        exact hK _ _ (gA _) (eI0 _) (fun q => absurd q.2.1 h59) (fun _ => by rw [pk_un (by decide), pk_us]) pk_us (f3 _ (.inl (0, [])))
  have loop : ∀ d i, i + d = 12 → plA pm pg d i = plc pm pg → AW X 0 0 7 [some (.ref 34), some (.int (nI i)), none] [] (hset h 34 (.inl (6, mo (upd I 16 0) sd hh))) := by
    intro d
    induction d with
    | zero =>
      intro i hi e
      simp only [plA] at e
      refine AW_iload_n 8 hX dX7_read_7 rfl rfl ?_
      refine AW_bipush 10 hX dX7_read_8 rfl bp_12 ?_
      refine AW_icmp_ge 13 31 hX dX7_read_10 rfl (by decide) (fun c10 => ?_) (fun c10 => absurd (nI_le (a := 12) (b := i) (by omega) (by omega)) c10)
      rw [e]
      exact at31
    | succ d ih =>
      intro i hi e
      simp only [plA] at e
      refine AW_iload_n 8 hX dX7_read_7 rfl rfl ?_
      refine AW_bipush 10 hX dX7_read_8 rfl bp_12 ?_
      refine AW_icmp_ge 13 31 hX dX7_read_10 rfl (by decide) (fun c10 => absurd c10 (nI_ge (a := i) (b := 12) (by omega) (by decide))) (fun c10 => ?_)
      refine AW_aload_n 14 hX dX7_read_13 rfl rfl ?_
      refine AW_iload_n 15 hX dX7_read_14 rfl rfl ?_
      refine AW_cV (As := [_]) 18 hX dX7_read_15 rfl ml_X7_59 mw_X7_at (by first | assumption | exact hset_eq | exact (hset_ne (by omega)).trans (by first | assumption | exact hset_eq | exact (hset_ne (by omega)).trans (by first | assumption | exact hset_eq | exact (hset_ne (by omega)).trans (by first | assumption | exact hset_eq | exact (hset_ne (by omega)).trans (by first | assumption | exact hset_eq))))) (by decide) rfl rfl rfl (Nat.le_of_ble_eq_true rfl) (by decide) ⟨(Nat.le_refl _), (Nat.le_refl _)⟩ (M_at (gA _) (show upd I 16 0 14 = nI pm by rw [pk_un (by decide)]; exact h14) hpm hp i (by omega) ?_)
      refine AW_cS (As := [_]) 21 hX dX7_read_18 rfl ml_X7_63 mw_X7_kindBy rfl rfl (Nat.le_of_ble_eq_true rfl) (by decide) ⟨(Nat.le_refl _), (Nat.le_refl _)⟩ (M_kindBy _ (hp1 i) ?_)
      refine AW_iconst 22 hX dX7_read_21 rfl ic_m1 ?_
      refine AW_icmp_eq 25 31 hX dX7_read_22 rfl (by decide) (fun c22 => ?_) (fun c22 => ?_)
      · rw [if_neg (fun q => krn q c22)] at e
        rw [e]
        exact at31
      · refine AW_iinc 28 hX dX7_read_25 rfl rfl (iincp ic_1) (Nat.le_of_ble_eq_true rfl) rfl ?_
        refine AW_goto 7 hX dX7_read_28 (by decide) ?_
        have hk : kn (pAt pm pg i) < 5 := Classical.byContradiction fun q => c22 (kry q)
        rw [if_pos hk] at e
        rw [nI_1]
        exact ih (i + 1) (by omega) e
  refine AW_aload_n 1 hX dX7_read_0 rfl rfl ?_
  refine AW_iconst 2 hX dX7_read_1 rfl ic_0 ?_
  refine AW_put 5 hX dX7_read_2 rfl fl_X7_55 (by first | assumption | exact hset_eq | exact (hset_ne (by omega)).trans (by first | assumption | exact hset_eq | exact (hset_ne (by omega)).trans (by first | assumption | exact hset_eq | exact (hset_ne (by omega)).trans (by first | assumption | exact hset_eq | exact (hset_ne (by omega)).trans (by first | assumption | exact hset_eq))))) rfl (fun _ => rfl) (fun _ => rfl) (Nat.le_of_ble_eq_true rfl) ?_
  rw [mo_set16]
  try rw [hset_hset]
  refine AW_iconst 6 hX dX7_read_5 rfl ic_0 ?_
  refine AW_istore_n 7 hX dX7_read_6 rfl (Nat.le_of_ble_eq_true rfl) rfl ?_
  exact loop 12 0 (by omega) rfl
set_option maxRecDepth 100000 in
set_option maxHeartbeats 4000000 in
theorem M_isPlace {h : AH} {K : Option Value → AH → Prop} {I : Nat → Int32} {sd hh : Int64} {F : AF} (g : MH h I sd hh F) {n : Nat} (hn : I 1 = nI n) (hn12 : n ≤ 12) (x : Int32) (h1 : ∀ q, q < n → x = nI q → K (some (.int 1)) h) (h0 : (∀ q, q < n → x ≠ nI q) → K (some (.int 0)) h) : aX7_isPlace 1 [.ref 34, .int x] h K := by
  obtain ⟨g0, a0, a1, a2, a3, a4, a5, a6, a7, a8, a9, a10, a11⟩ := id g
  refine AM.of [some (.ref 34), some (.int x)] pn_X7_isPlace rfl (Nat.le_of_ble_eq_true rfl) (fun X hX hE => ?_)
  refine AW_iload_n 1 hX dX7_isPlace_0 rfl rfl ?_
  refine AW_iconst 2 hX dX7_isPlace_1 rfl ic_0 ?_
  refine AW_aload_n 3 hX dX7_isPlace_2 rfl rfl ?_
  refine AW_get 6 hX dX7_isPlace_3 rfl fl_X7_73 (by first | assumption | exact hset_eq | exact (hset_ne (by omega)).trans (by first | assumption | exact hset_eq | exact (hset_ne (by omega)).trans (by first | assumption | exact hset_eq | exact (hset_ne (by omega)).trans (by first | assumption | exact hset_eq | exact (hset_ne (by omega)).trans (by first | assumption | exact hset_eq))))) rfl ?_
  rw [hn]
  refine AW_iconst 7 hX dX7_isPlace_6 rfl ic_1 ?_
  refine AW_isub 8 hX dX7_isPlace_7 rfl ?_
  refine AW_cS (As := [_, _, _]) 11 hX dX7_isPlace_8 rfl ml_X7_47 mw_X7_within rfl rfl (Nat.le_of_ble_eq_true rfl) (by decide) ⟨(Nat.le_refl _), (Nat.le_refl _)⟩ (M_within _ _ _ (fun w1 w2 => ?_) (fun w1 => ?_))
  · refine AW_iret hX hE dX7_isPlace_11 rfl (Nat.le_refl _) (Nat.le_refl _) ?_
    have hnp : 0 < n := by
      rcases Nat.eq_zero_or_pos n with e | e
      · subst e
        exfalso
        have e1 := Int32.le_iff_toInt_le.mp (Int32.not_lt.mp w1)
        have e2 := Int32.le_iff_toInt_le.mp (Int32.not_lt.mp w2)
        rw [show (nI 0 - 1 : Int32).toInt = -1 from by decide] at e2
        rw [show (0 : Int32).toInt = 0 from rfl] at e1
        omega
      · exact e
    rw [show (1 : Int32) = nI 1 from rfl, pk_sub (by omega)] at w2
    obtain ⟨q, -, hq, e⟩ := rg (x := x) 0 (n - 1) (by omega) (by decide) w1 w2
    exact h1 q (by omega) e
  · refine AW_iret hX hE dX7_isPlace_11 rfl (Nat.le_refl _) (Nat.le_refl _) ?_
    refine h0 (fun q hq e => ?_)
    subst e
    rw [show (1 : Int32) = nI 1 from rfl, pk_sub (by omega)] at w1
    exact rgI (lo := 0) (hi := n - 1) (by omega) rfl (Nat.zero_le _) (by omega) w1
theorem saG : ∀ s, s < 64 → ∀ k, k < 5 → 0 ≤ nI s + onS k → nI s + onS k = nI (sa k s 0) := by decide +kernel
theorem saL : ∀ s, s < 64 → ∀ k, k < 5 → ¬ 0 ≤ nI s + onS k → sa k s 0 = 0 := by decide +kernel
set_option maxRecDepth 100000 in
set_option maxHeartbeats 4000000 in
theorem M_swayBy {h : AH} {K : Option Value → AH → Prop} {I : Nat → Int32} {sd hh : Int64} {F : AF} (g : MH h I sd hh F) {p k : Nat} (hp : p < 12) (hk : F 0 p = nI k) (hk4 : k ≤ 4) (far s : Nat) (hf : far ≤ 12) (hs : s < 64) (hK : K (some (.int (nI (sa k s far)))) h) : aX7_swayBy 0 [.ref 34, .int (nI p), .int (nI far), .int (nI s)] h K := by
  obtain ⟨g0, a0, a1, a2, a3, a4, a5, a6, a7, a8, a9, a10, a11⟩ := id g
  refine AM.of [some (.ref 34), some (.int (nI p)), some (.int (nI far)), some (.int (nI s)), none, none] pn_X7_swayBy rfl (Nat.le_of_ble_eq_true rfl) (fun X hX hE => ?_)
  by_cases hf0 : far = 0
  · rcases k5 hk4 with rfl | rfl | rfl | rfl | rfl
    · refine AW_aload_n 1 hX dX7_swayBy_0 rfl rfl ?_
      refine AW_get 4 hX dX7_swayBy_1 rfl fl_X7_7 (by first | assumption | exact hset_eq | exact (hset_ne (by omega)).trans (by first | assumption | exact hset_eq | exact (hset_ne (by omega)).trans (by first | assumption | exact hset_eq | exact (hset_ne (by omega)).trans (by first | assumption | exact hset_eq | exact (hset_ne (by omega)).trans (by first | assumption | exact hset_eq))))) rfl ?_
      refine AW_iload_n 5 hX dX7_swayBy_4 rfl rfl ?_
      refine AW_iald 6 hX dX7_swayBy_5 rfl (by first | assumption | exact hset_eq | exact (hset_ne (by omega)).trans (by first | assumption | exact hset_eq | exact (hset_ne (by omega)).trans (by first | assumption | exact hset_eq | exact (hset_ne (by omega)).trans (by first | assumption | exact hset_eq | exact (hset_ne (by omega)).trans (by first | assumption | exact hset_eq))))) (j := p) hp rfl ?_
      rw [hk]
      refine AW_istore 8 hX dX7_swayBy_6 rfl (Nat.le_of_ble_eq_true rfl) rfl ?_
      refine AW_iload_n 9 hX dX7_swayBy_8 rfl rfl ?_
      refine AW_if_le 12 54 hX dX7_swayBy_9 rfl (by decide) (fun c9 => ?_) (fun c9 => absurd (nI_le (a := far) (b := 0) (by omega) (by decide)) c9)
      refine AW_iload 56 hX dX7_swayBy_54 rfl rfl ?_
      refine AW_iconst 57 hX dX7_swayBy_56 rfl ic_1 ?_
      refine AW_icmp_ne 60 64 hX dX7_swayBy_57 rfl (by decide) (fun c57 => ?_) (fun c57 => absurd c57 (by decide))
      refine AW_iload 66 hX dX7_swayBy_64 rfl rfl ?_
      refine AW_iconst 67 hX dX7_swayBy_66 rfl ic_4 ?_
      refine AW_icmp_ne 70 74 hX dX7_swayBy_67 rfl (by decide) (fun c67 => ?_) (fun c67 => absurd c67 (by decide))
      refine AW_iload 76 hX dX7_swayBy_74 rfl rfl ?_
      refine AW_iconst 77 hX dX7_swayBy_76 rfl ic_3 ?_
      refine AW_icmp_ne 80 84 hX dX7_swayBy_77 rfl (by decide) (fun c77 => ?_) (fun c77 => absurd c77 (by decide))
      refine AW_bipush 86 hX dX7_swayBy_84 rfl bp_m2 ?_
      refine AW_istore 88 hX dX7_swayBy_86 rfl (Nat.le_of_ble_eq_true rfl) rfl ?_
      refine AW_iload_n 89 hX dX7_swayBy_88 rfl rfl ?_
      refine AW_iload 91 hX dX7_swayBy_89 rfl rfl ?_
      refine AW_iadd 92 hX dX7_swayBy_91 rfl ?_
      refine AW_if_ge 95 99 hX dX7_swayBy_92 rfl (by decide) (fun c92 => ?_) (fun c92 => ?_)
      · refine AW_iload_n 100 hX dX7_swayBy_99 rfl rfl ?_
        refine AW_iload 102 hX dX7_swayBy_100 rfl rfl ?_
        refine AW_iadd 103 hX dX7_swayBy_102 rfl ?_
        refine AW_iret hX hE dX7_swayBy_103 rfl (Nat.le_refl _) (Nat.le_refl _) ?_
        rw [show nI s + (-2) = nI (sa 0 s 0) from saG s hs 0 (by decide) c92]
        subst hf0
        exact hK
      · refine AW_iconst 96 hX dX7_swayBy_95 rfl ic_0 ?_
        refine AW_goto 103 hX dX7_swayBy_96 (by decide) ?_
        refine AW_iret hX hE dX7_swayBy_103 rfl (Nat.le_refl _) (Nat.le_refl _) ?_
        subst hf0
        rw [show sa 0 s 0 = 0 from saL s hs 0 (by decide) c92] at hK
        exact hK
    · refine AW_aload_n 1 hX dX7_swayBy_0 rfl rfl ?_
      refine AW_get 4 hX dX7_swayBy_1 rfl fl_X7_7 (by first | assumption | exact hset_eq | exact (hset_ne (by omega)).trans (by first | assumption | exact hset_eq | exact (hset_ne (by omega)).trans (by first | assumption | exact hset_eq | exact (hset_ne (by omega)).trans (by first | assumption | exact hset_eq | exact (hset_ne (by omega)).trans (by first | assumption | exact hset_eq))))) rfl ?_
      refine AW_iload_n 5 hX dX7_swayBy_4 rfl rfl ?_
      refine AW_iald 6 hX dX7_swayBy_5 rfl (by first | assumption | exact hset_eq | exact (hset_ne (by omega)).trans (by first | assumption | exact hset_eq | exact (hset_ne (by omega)).trans (by first | assumption | exact hset_eq | exact (hset_ne (by omega)).trans (by first | assumption | exact hset_eq | exact (hset_ne (by omega)).trans (by first | assumption | exact hset_eq))))) (j := p) hp rfl ?_
      rw [hk]
      refine AW_istore 8 hX dX7_swayBy_6 rfl (Nat.le_of_ble_eq_true rfl) rfl ?_
      refine AW_iload_n 9 hX dX7_swayBy_8 rfl rfl ?_
      refine AW_if_le 12 54 hX dX7_swayBy_9 rfl (by decide) (fun c9 => ?_) (fun c9 => absurd (nI_le (a := far) (b := 0) (by omega) (by decide)) c9)
      refine AW_iload 56 hX dX7_swayBy_54 rfl rfl ?_
      refine AW_iconst 57 hX dX7_swayBy_56 rfl ic_1 ?_
      refine AW_icmp_ne 60 64 hX dX7_swayBy_57 rfl (by decide) (fun c57 => absurd rfl c57) (fun c57 => ?_)
      refine AW_iconst 61 hX dX7_swayBy_60 rfl ic_m1 ?_
      refine AW_goto 86 hX dX7_swayBy_61 (by decide) ?_
      refine AW_istore 88 hX dX7_swayBy_86 rfl (Nat.le_of_ble_eq_true rfl) rfl ?_
      refine AW_iload_n 89 hX dX7_swayBy_88 rfl rfl ?_
      refine AW_iload 91 hX dX7_swayBy_89 rfl rfl ?_
      refine AW_iadd 92 hX dX7_swayBy_91 rfl ?_
      refine AW_if_ge 95 99 hX dX7_swayBy_92 rfl (by decide) (fun c92 => ?_) (fun c92 => ?_)
      · refine AW_iload_n 100 hX dX7_swayBy_99 rfl rfl ?_
        refine AW_iload 102 hX dX7_swayBy_100 rfl rfl ?_
        refine AW_iadd 103 hX dX7_swayBy_102 rfl ?_
        refine AW_iret hX hE dX7_swayBy_103 rfl (Nat.le_refl _) (Nat.le_refl _) ?_
        rw [show nI s + (-1) = nI (sa 1 s 0) from saG s hs 1 (by decide) c92]
        subst hf0
        exact hK
      · refine AW_iconst 96 hX dX7_swayBy_95 rfl ic_0 ?_
        refine AW_goto 103 hX dX7_swayBy_96 (by decide) ?_
        refine AW_iret hX hE dX7_swayBy_103 rfl (Nat.le_refl _) (Nat.le_refl _) ?_
        subst hf0
        rw [show sa 1 s 0 = 0 from saL s hs 1 (by decide) c92] at hK
        exact hK
    · refine AW_aload_n 1 hX dX7_swayBy_0 rfl rfl ?_
      refine AW_get 4 hX dX7_swayBy_1 rfl fl_X7_7 (by first | assumption | exact hset_eq | exact (hset_ne (by omega)).trans (by first | assumption | exact hset_eq | exact (hset_ne (by omega)).trans (by first | assumption | exact hset_eq | exact (hset_ne (by omega)).trans (by first | assumption | exact hset_eq | exact (hset_ne (by omega)).trans (by first | assumption | exact hset_eq))))) rfl ?_
      refine AW_iload_n 5 hX dX7_swayBy_4 rfl rfl ?_
      refine AW_iald 6 hX dX7_swayBy_5 rfl (by first | assumption | exact hset_eq | exact (hset_ne (by omega)).trans (by first | assumption | exact hset_eq | exact (hset_ne (by omega)).trans (by first | assumption | exact hset_eq | exact (hset_ne (by omega)).trans (by first | assumption | exact hset_eq | exact (hset_ne (by omega)).trans (by first | assumption | exact hset_eq))))) (j := p) hp rfl ?_
      rw [hk]
      refine AW_istore 8 hX dX7_swayBy_6 rfl (Nat.le_of_ble_eq_true rfl) rfl ?_
      refine AW_iload_n 9 hX dX7_swayBy_8 rfl rfl ?_
      refine AW_if_le 12 54 hX dX7_swayBy_9 rfl (by decide) (fun c9 => ?_) (fun c9 => absurd (nI_le (a := far) (b := 0) (by omega) (by decide)) c9)
      refine AW_iload 56 hX dX7_swayBy_54 rfl rfl ?_
      refine AW_iconst 57 hX dX7_swayBy_56 rfl ic_1 ?_
      refine AW_icmp_ne 60 64 hX dX7_swayBy_57 rfl (by decide) (fun c57 => ?_) (fun c57 => absurd c57 (by decide))
      refine AW_iload 66 hX dX7_swayBy_64 rfl rfl ?_
      refine AW_iconst 67 hX dX7_swayBy_66 rfl ic_4 ?_
      refine AW_icmp_ne 70 74 hX dX7_swayBy_67 rfl (by decide) (fun c67 => ?_) (fun c67 => absurd c67 (by decide))
      refine AW_iload 76 hX dX7_swayBy_74 rfl rfl ?_
      refine AW_iconst 77 hX dX7_swayBy_76 rfl ic_3 ?_
      refine AW_icmp_ne 80 84 hX dX7_swayBy_77 rfl (by decide) (fun c77 => ?_) (fun c77 => absurd c77 (by decide))
      refine AW_bipush 86 hX dX7_swayBy_84 rfl bp_m2 ?_
      refine AW_istore 88 hX dX7_swayBy_86 rfl (Nat.le_of_ble_eq_true rfl) rfl ?_
      refine AW_iload_n 89 hX dX7_swayBy_88 rfl rfl ?_
      refine AW_iload 91 hX dX7_swayBy_89 rfl rfl ?_
      refine AW_iadd 92 hX dX7_swayBy_91 rfl ?_
      refine AW_if_ge 95 99 hX dX7_swayBy_92 rfl (by decide) (fun c92 => ?_) (fun c92 => ?_)
      · refine AW_iload_n 100 hX dX7_swayBy_99 rfl rfl ?_
        refine AW_iload 102 hX dX7_swayBy_100 rfl rfl ?_
        refine AW_iadd 103 hX dX7_swayBy_102 rfl ?_
        refine AW_iret hX hE dX7_swayBy_103 rfl (Nat.le_refl _) (Nat.le_refl _) ?_
        rw [show nI s + (-2) = nI (sa 2 s 0) from saG s hs 2 (by decide) c92]
        subst hf0
        exact hK
      · refine AW_iconst 96 hX dX7_swayBy_95 rfl ic_0 ?_
        refine AW_goto 103 hX dX7_swayBy_96 (by decide) ?_
        refine AW_iret hX hE dX7_swayBy_103 rfl (Nat.le_refl _) (Nat.le_refl _) ?_
        subst hf0
        rw [show sa 2 s 0 = 0 from saL s hs 2 (by decide) c92] at hK
        exact hK
    · refine AW_aload_n 1 hX dX7_swayBy_0 rfl rfl ?_
      refine AW_get 4 hX dX7_swayBy_1 rfl fl_X7_7 (by first | assumption | exact hset_eq | exact (hset_ne (by omega)).trans (by first | assumption | exact hset_eq | exact (hset_ne (by omega)).trans (by first | assumption | exact hset_eq | exact (hset_ne (by omega)).trans (by first | assumption | exact hset_eq | exact (hset_ne (by omega)).trans (by first | assumption | exact hset_eq))))) rfl ?_
      refine AW_iload_n 5 hX dX7_swayBy_4 rfl rfl ?_
      refine AW_iald 6 hX dX7_swayBy_5 rfl (by first | assumption | exact hset_eq | exact (hset_ne (by omega)).trans (by first | assumption | exact hset_eq | exact (hset_ne (by omega)).trans (by first | assumption | exact hset_eq | exact (hset_ne (by omega)).trans (by first | assumption | exact hset_eq | exact (hset_ne (by omega)).trans (by first | assumption | exact hset_eq))))) (j := p) hp rfl ?_
      rw [hk]
      refine AW_istore 8 hX dX7_swayBy_6 rfl (Nat.le_of_ble_eq_true rfl) rfl ?_
      refine AW_iload_n 9 hX dX7_swayBy_8 rfl rfl ?_
      refine AW_if_le 12 54 hX dX7_swayBy_9 rfl (by decide) (fun c9 => ?_) (fun c9 => absurd (nI_le (a := far) (b := 0) (by omega) (by decide)) c9)
      refine AW_iload 56 hX dX7_swayBy_54 rfl rfl ?_
      refine AW_iconst 57 hX dX7_swayBy_56 rfl ic_1 ?_
      refine AW_icmp_ne 60 64 hX dX7_swayBy_57 rfl (by decide) (fun c57 => ?_) (fun c57 => absurd c57 (by decide))
      refine AW_iload 66 hX dX7_swayBy_64 rfl rfl ?_
      refine AW_iconst 67 hX dX7_swayBy_66 rfl ic_4 ?_
      refine AW_icmp_ne 70 74 hX dX7_swayBy_67 rfl (by decide) (fun c67 => ?_) (fun c67 => absurd c67 (by decide))
      refine AW_iload 76 hX dX7_swayBy_74 rfl rfl ?_
      refine AW_iconst 77 hX dX7_swayBy_76 rfl ic_3 ?_
      refine AW_icmp_ne 80 84 hX dX7_swayBy_77 rfl (by decide) (fun c77 => absurd rfl c77) (fun c77 => ?_)
      refine AW_iconst 81 hX dX7_swayBy_80 rfl ic_1 ?_
      refine AW_goto 86 hX dX7_swayBy_81 (by decide) ?_
      refine AW_istore 88 hX dX7_swayBy_86 rfl (Nat.le_of_ble_eq_true rfl) rfl ?_
      refine AW_iload_n 89 hX dX7_swayBy_88 rfl rfl ?_
      refine AW_iload 91 hX dX7_swayBy_89 rfl rfl ?_
      refine AW_iadd 92 hX dX7_swayBy_91 rfl ?_
      refine AW_if_ge 95 99 hX dX7_swayBy_92 rfl (by decide) (fun c92 => ?_) (fun c92 => ?_)
      · refine AW_iload_n 100 hX dX7_swayBy_99 rfl rfl ?_
        refine AW_iload 102 hX dX7_swayBy_100 rfl rfl ?_
        refine AW_iadd 103 hX dX7_swayBy_102 rfl ?_
        refine AW_iret hX hE dX7_swayBy_103 rfl (Nat.le_refl _) (Nat.le_refl _) ?_
        rw [show nI s + 1 = nI (sa 3 s 0) from saG s hs 3 (by decide) c92]
        subst hf0
        exact hK
      · refine AW_iconst 96 hX dX7_swayBy_95 rfl ic_0 ?_
        refine AW_goto 103 hX dX7_swayBy_96 (by decide) ?_
        refine AW_iret hX hE dX7_swayBy_103 rfl (Nat.le_refl _) (Nat.le_refl _) ?_
        subst hf0
        rw [show sa 3 s 0 = 0 from saL s hs 3 (by decide) c92] at hK
        exact hK
    · refine AW_aload_n 1 hX dX7_swayBy_0 rfl rfl ?_
      refine AW_get 4 hX dX7_swayBy_1 rfl fl_X7_7 (by first | assumption | exact hset_eq | exact (hset_ne (by omega)).trans (by first | assumption | exact hset_eq | exact (hset_ne (by omega)).trans (by first | assumption | exact hset_eq | exact (hset_ne (by omega)).trans (by first | assumption | exact hset_eq | exact (hset_ne (by omega)).trans (by first | assumption | exact hset_eq))))) rfl ?_
      refine AW_iload_n 5 hX dX7_swayBy_4 rfl rfl ?_
      refine AW_iald 6 hX dX7_swayBy_5 rfl (by first | assumption | exact hset_eq | exact (hset_ne (by omega)).trans (by first | assumption | exact hset_eq | exact (hset_ne (by omega)).trans (by first | assumption | exact hset_eq | exact (hset_ne (by omega)).trans (by first | assumption | exact hset_eq | exact (hset_ne (by omega)).trans (by first | assumption | exact hset_eq))))) (j := p) hp rfl ?_
      rw [hk]
      refine AW_istore 8 hX dX7_swayBy_6 rfl (Nat.le_of_ble_eq_true rfl) rfl ?_
      refine AW_iload_n 9 hX dX7_swayBy_8 rfl rfl ?_
      refine AW_if_le 12 54 hX dX7_swayBy_9 rfl (by decide) (fun c9 => ?_) (fun c9 => absurd (nI_le (a := far) (b := 0) (by omega) (by decide)) c9)
      refine AW_iload 56 hX dX7_swayBy_54 rfl rfl ?_
      refine AW_iconst 57 hX dX7_swayBy_56 rfl ic_1 ?_
      refine AW_icmp_ne 60 64 hX dX7_swayBy_57 rfl (by decide) (fun c57 => ?_) (fun c57 => absurd c57 (by decide))
      refine AW_iload 66 hX dX7_swayBy_64 rfl rfl ?_
      refine AW_iconst 67 hX dX7_swayBy_66 rfl ic_4 ?_
      refine AW_icmp_ne 70 74 hX dX7_swayBy_67 rfl (by decide) (fun c67 => absurd rfl c67) (fun c67 => ?_)
      refine AW_iconst 71 hX dX7_swayBy_70 rfl ic_0 ?_
      refine AW_goto 86 hX dX7_swayBy_71 (by decide) ?_
      refine AW_istore 88 hX dX7_swayBy_86 rfl (Nat.le_of_ble_eq_true rfl) rfl ?_
      refine AW_iload_n 89 hX dX7_swayBy_88 rfl rfl ?_
      refine AW_iload 91 hX dX7_swayBy_89 rfl rfl ?_
      refine AW_iadd 92 hX dX7_swayBy_91 rfl ?_
      refine AW_if_ge 95 99 hX dX7_swayBy_92 rfl (by decide) (fun c92 => ?_) (fun c92 => ?_)
      · refine AW_iload_n 100 hX dX7_swayBy_99 rfl rfl ?_
        refine AW_iload 102 hX dX7_swayBy_100 rfl rfl ?_
        refine AW_iadd 103 hX dX7_swayBy_102 rfl ?_
        refine AW_iret hX hE dX7_swayBy_103 rfl (Nat.le_refl _) (Nat.le_refl _) ?_
        rw [show nI s + 0 = nI (sa 4 s 0) from saG s hs 4 (by decide) c92]
        subst hf0
        exact hK
      · refine AW_iconst 96 hX dX7_swayBy_95 rfl ic_0 ?_
        refine AW_goto 103 hX dX7_swayBy_96 (by decide) ?_
        refine AW_iret hX hE dX7_swayBy_103 rfl (Nat.le_refl _) (Nat.le_refl _) ?_
        subst hf0
        rw [show sa 4 s 0 = 0 from saL s hs 4 (by decide) c92] at hK
        exact hK
  · rcases k5 hk4 with rfl | rfl | rfl | rfl | rfl
    · refine AW_aload_n 1 hX dX7_swayBy_0 rfl rfl ?_
      refine AW_get 4 hX dX7_swayBy_1 rfl fl_X7_7 (by first | assumption | exact hset_eq | exact (hset_ne (by omega)).trans (by first | assumption | exact hset_eq | exact (hset_ne (by omega)).trans (by first | assumption | exact hset_eq | exact (hset_ne (by omega)).trans (by first | assumption | exact hset_eq | exact (hset_ne (by omega)).trans (by first | assumption | exact hset_eq))))) rfl ?_
      refine AW_iload_n 5 hX dX7_swayBy_4 rfl rfl ?_
      refine AW_iald 6 hX dX7_swayBy_5 rfl (by first | assumption | exact hset_eq | exact (hset_ne (by omega)).trans (by first | assumption | exact hset_eq | exact (hset_ne (by omega)).trans (by first | assumption | exact hset_eq | exact (hset_ne (by omega)).trans (by first | assumption | exact hset_eq | exact (hset_ne (by omega)).trans (by first | assumption | exact hset_eq))))) (j := p) hp rfl ?_
      rw [hk]
      refine AW_istore 8 hX dX7_swayBy_6 rfl (Nat.le_of_ble_eq_true rfl) rfl ?_
      refine AW_iload_n 9 hX dX7_swayBy_8 rfl rfl ?_
      refine AW_if_le 12 54 hX dX7_swayBy_9 rfl (by decide) (fun c9 => absurd c9 (fun q => by have := iLe (b := 0) q; omega)) (fun c9 => ?_)
      refine AW_iload_n 13 hX dX7_swayBy_12 rfl rfl ?_
      refine AW_iload_n 14 hX dX7_swayBy_13 rfl rfl ?_
      refine AW_iadd 15 hX dX7_swayBy_14 rfl ?_
      refine AW_iload 17 hX dX7_swayBy_15 rfl rfl ?_
      refine AW_iconst 18 hX dX7_swayBy_17 rfl ic_1 ?_
      refine AW_icmp_ne 21 25 hX dX7_swayBy_18 rfl (by decide) (fun c18 => ?_) (fun c18 => absurd c18 (by decide))
      refine AW_iload 27 hX dX7_swayBy_25 rfl rfl ?_
      refine AW_iconst 28 hX dX7_swayBy_27 rfl ic_2 ?_
      refine AW_icmp_eq 31 37 hX dX7_swayBy_28 rfl (by decide) (fun c28 => absurd c28 (by decide)) (fun c28 => ?_)
      refine AW_iload 33 hX dX7_swayBy_31 rfl rfl ?_
      refine AW_iconst 34 hX dX7_swayBy_33 rfl ic_4 ?_
      refine AW_icmp_ne 37 41 hX dX7_swayBy_34 rfl (by decide) (fun c34 => ?_) (fun c34 => absurd c34 (by decide))
      refine AW_iload 43 hX dX7_swayBy_41 rfl rfl ?_
      refine AW_iconst 44 hX dX7_swayBy_43 rfl ic_3 ?_
      refine AW_icmp_ne 47 51 hX dX7_swayBy_44 rfl (by decide) (fun c44 => ?_) (fun c44 => absurd c44 (by decide))
      refine AW_iconst 52 hX dX7_swayBy_51 rfl ic_0 ?_
      refine AW_iadd 53 hX dX7_swayBy_52 rfl ?_
      refine AW_iret hX hE dX7_swayBy_53 rfl (Nat.le_refl _) (Nat.le_refl _) ?_
      rw [Int32.add_zero, nI_add]
      rw [show sa 0 s far = s + (far) from if_neg hf0] at hK
      rw [show s + (far) = s + far by omega] at hK
      exact hK
    · refine AW_aload_n 1 hX dX7_swayBy_0 rfl rfl ?_
      refine AW_get 4 hX dX7_swayBy_1 rfl fl_X7_7 (by first | assumption | exact hset_eq | exact (hset_ne (by omega)).trans (by first | assumption | exact hset_eq | exact (hset_ne (by omega)).trans (by first | assumption | exact hset_eq | exact (hset_ne (by omega)).trans (by first | assumption | exact hset_eq | exact (hset_ne (by omega)).trans (by first | assumption | exact hset_eq))))) rfl ?_
      refine AW_iload_n 5 hX dX7_swayBy_4 rfl rfl ?_
      refine AW_iald 6 hX dX7_swayBy_5 rfl (by first | assumption | exact hset_eq | exact (hset_ne (by omega)).trans (by first | assumption | exact hset_eq | exact (hset_ne (by omega)).trans (by first | assumption | exact hset_eq | exact (hset_ne (by omega)).trans (by first | assumption | exact hset_eq | exact (hset_ne (by omega)).trans (by first | assumption | exact hset_eq))))) (j := p) hp rfl ?_
      rw [hk]
      refine AW_istore 8 hX dX7_swayBy_6 rfl (Nat.le_of_ble_eq_true rfl) rfl ?_
      refine AW_iload_n 9 hX dX7_swayBy_8 rfl rfl ?_
      refine AW_if_le 12 54 hX dX7_swayBy_9 rfl (by decide) (fun c9 => absurd c9 (fun q => by have := iLe (b := 0) q; omega)) (fun c9 => ?_)
      refine AW_iload_n 13 hX dX7_swayBy_12 rfl rfl ?_
      refine AW_iload_n 14 hX dX7_swayBy_13 rfl rfl ?_
      refine AW_iadd 15 hX dX7_swayBy_14 rfl ?_
      refine AW_iload 17 hX dX7_swayBy_15 rfl rfl ?_
      refine AW_iconst 18 hX dX7_swayBy_17 rfl ic_1 ?_
      refine AW_icmp_ne 21 25 hX dX7_swayBy_18 rfl (by decide) (fun c18 => absurd rfl c18) (fun c18 => ?_)
      refine AW_iconst 22 hX dX7_swayBy_21 rfl ic_1 ?_
      refine AW_goto 52 hX dX7_swayBy_22 (by decide) ?_
      refine AW_iadd 53 hX dX7_swayBy_52 rfl ?_
      refine AW_iret hX hE dX7_swayBy_53 rfl (Nat.le_refl _) (Nat.le_refl _) ?_
      rw [show (1 : Int32) = nI 1 from rfl, nI_add, nI_add]
      rw [show sa 1 s far = s + (far + 1) from if_neg hf0] at hK
      rw [show s + (far + 1) = s + far + 1 by omega] at hK
      exact hK
    · refine AW_aload_n 1 hX dX7_swayBy_0 rfl rfl ?_
      refine AW_get 4 hX dX7_swayBy_1 rfl fl_X7_7 (by first | assumption | exact hset_eq | exact (hset_ne (by omega)).trans (by first | assumption | exact hset_eq | exact (hset_ne (by omega)).trans (by first | assumption | exact hset_eq | exact (hset_ne (by omega)).trans (by first | assumption | exact hset_eq | exact (hset_ne (by omega)).trans (by first | assumption | exact hset_eq))))) rfl ?_
      refine AW_iload_n 5 hX dX7_swayBy_4 rfl rfl ?_
      refine AW_iald 6 hX dX7_swayBy_5 rfl (by first | assumption | exact hset_eq | exact (hset_ne (by omega)).trans (by first | assumption | exact hset_eq | exact (hset_ne (by omega)).trans (by first | assumption | exact hset_eq | exact (hset_ne (by omega)).trans (by first | assumption | exact hset_eq | exact (hset_ne (by omega)).trans (by first | assumption | exact hset_eq))))) (j := p) hp rfl ?_
      rw [hk]
      refine AW_istore 8 hX dX7_swayBy_6 rfl (Nat.le_of_ble_eq_true rfl) rfl ?_
      refine AW_iload_n 9 hX dX7_swayBy_8 rfl rfl ?_
      refine AW_if_le 12 54 hX dX7_swayBy_9 rfl (by decide) (fun c9 => absurd c9 (fun q => by have := iLe (b := 0) q; omega)) (fun c9 => ?_)
      refine AW_iload_n 13 hX dX7_swayBy_12 rfl rfl ?_
      refine AW_iload_n 14 hX dX7_swayBy_13 rfl rfl ?_
      refine AW_iadd 15 hX dX7_swayBy_14 rfl ?_
      refine AW_iload 17 hX dX7_swayBy_15 rfl rfl ?_
      refine AW_iconst 18 hX dX7_swayBy_17 rfl ic_1 ?_
      refine AW_icmp_ne 21 25 hX dX7_swayBy_18 rfl (by decide) (fun c18 => ?_) (fun c18 => absurd c18 (by decide))
      refine AW_iload 27 hX dX7_swayBy_25 rfl rfl ?_
      refine AW_iconst 28 hX dX7_swayBy_27 rfl ic_2 ?_
      refine AW_icmp_eq 31 37 hX dX7_swayBy_28 rfl (by decide) (fun c28 => ?_) (fun c28 => absurd rfl c28)
      refine AW_iconst 38 hX dX7_swayBy_37 rfl ic_2 ?_
      refine AW_goto 52 hX dX7_swayBy_38 (by decide) ?_
      refine AW_iadd 53 hX dX7_swayBy_52 rfl ?_
      refine AW_iret hX hE dX7_swayBy_53 rfl (Nat.le_refl _) (Nat.le_refl _) ?_
      rw [show (2 : Int32) = nI 2 from rfl, nI_add, nI_add]
      rw [show sa 2 s far = s + (far + 2) from if_neg hf0] at hK
      rw [show s + (far + 2) = s + far + 2 by omega] at hK
      exact hK
    · refine AW_aload_n 1 hX dX7_swayBy_0 rfl rfl ?_
      refine AW_get 4 hX dX7_swayBy_1 rfl fl_X7_7 (by first | assumption | exact hset_eq | exact (hset_ne (by omega)).trans (by first | assumption | exact hset_eq | exact (hset_ne (by omega)).trans (by first | assumption | exact hset_eq | exact (hset_ne (by omega)).trans (by first | assumption | exact hset_eq | exact (hset_ne (by omega)).trans (by first | assumption | exact hset_eq))))) rfl ?_
      refine AW_iload_n 5 hX dX7_swayBy_4 rfl rfl ?_
      refine AW_iald 6 hX dX7_swayBy_5 rfl (by first | assumption | exact hset_eq | exact (hset_ne (by omega)).trans (by first | assumption | exact hset_eq | exact (hset_ne (by omega)).trans (by first | assumption | exact hset_eq | exact (hset_ne (by omega)).trans (by first | assumption | exact hset_eq | exact (hset_ne (by omega)).trans (by first | assumption | exact hset_eq))))) (j := p) hp rfl ?_
      rw [hk]
      refine AW_istore 8 hX dX7_swayBy_6 rfl (Nat.le_of_ble_eq_true rfl) rfl ?_
      refine AW_iload_n 9 hX dX7_swayBy_8 rfl rfl ?_
      refine AW_if_le 12 54 hX dX7_swayBy_9 rfl (by decide) (fun c9 => absurd c9 (fun q => by have := iLe (b := 0) q; omega)) (fun c9 => ?_)
      refine AW_iload_n 13 hX dX7_swayBy_12 rfl rfl ?_
      refine AW_iload_n 14 hX dX7_swayBy_13 rfl rfl ?_
      refine AW_iadd 15 hX dX7_swayBy_14 rfl ?_
      refine AW_iload 17 hX dX7_swayBy_15 rfl rfl ?_
      refine AW_iconst 18 hX dX7_swayBy_17 rfl ic_1 ?_
      refine AW_icmp_ne 21 25 hX dX7_swayBy_18 rfl (by decide) (fun c18 => ?_) (fun c18 => absurd c18 (by decide))
      refine AW_iload 27 hX dX7_swayBy_25 rfl rfl ?_
      refine AW_iconst 28 hX dX7_swayBy_27 rfl ic_2 ?_
      refine AW_icmp_eq 31 37 hX dX7_swayBy_28 rfl (by decide) (fun c28 => absurd c28 (by decide)) (fun c28 => ?_)
      refine AW_iload 33 hX dX7_swayBy_31 rfl rfl ?_
      refine AW_iconst 34 hX dX7_swayBy_33 rfl ic_4 ?_
      refine AW_icmp_ne 37 41 hX dX7_swayBy_34 rfl (by decide) (fun c34 => ?_) (fun c34 => absurd c34 (by decide))
      refine AW_iload 43 hX dX7_swayBy_41 rfl rfl ?_
      refine AW_iconst 44 hX dX7_swayBy_43 rfl ic_3 ?_
      refine AW_icmp_ne 47 51 hX dX7_swayBy_44 rfl (by decide) (fun c44 => absurd rfl c44) (fun c44 => ?_)
      refine AW_iload_n 48 hX dX7_swayBy_47 rfl rfl ?_
      refine AW_goto 52 hX dX7_swayBy_48 (by decide) ?_
      refine AW_iadd 53 hX dX7_swayBy_52 rfl ?_
      refine AW_iret hX hE dX7_swayBy_53 rfl (Nat.le_refl _) (Nat.le_refl _) ?_
      rw [nI_add, nI_add]
      rw [show sa 3 s far = s + (far + far) from if_neg hf0] at hK
      rw [show s + (far + far) = s + far + far by omega] at hK
      exact hK
    · refine AW_aload_n 1 hX dX7_swayBy_0 rfl rfl ?_
      refine AW_get 4 hX dX7_swayBy_1 rfl fl_X7_7 (by first | assumption | exact hset_eq | exact (hset_ne (by omega)).trans (by first | assumption | exact hset_eq | exact (hset_ne (by omega)).trans (by first | assumption | exact hset_eq | exact (hset_ne (by omega)).trans (by first | assumption | exact hset_eq | exact (hset_ne (by omega)).trans (by first | assumption | exact hset_eq))))) rfl ?_
      refine AW_iload_n 5 hX dX7_swayBy_4 rfl rfl ?_
      refine AW_iald 6 hX dX7_swayBy_5 rfl (by first | assumption | exact hset_eq | exact (hset_ne (by omega)).trans (by first | assumption | exact hset_eq | exact (hset_ne (by omega)).trans (by first | assumption | exact hset_eq | exact (hset_ne (by omega)).trans (by first | assumption | exact hset_eq | exact (hset_ne (by omega)).trans (by first | assumption | exact hset_eq))))) (j := p) hp rfl ?_
      rw [hk]
      refine AW_istore 8 hX dX7_swayBy_6 rfl (Nat.le_of_ble_eq_true rfl) rfl ?_
      refine AW_iload_n 9 hX dX7_swayBy_8 rfl rfl ?_
      refine AW_if_le 12 54 hX dX7_swayBy_9 rfl (by decide) (fun c9 => absurd c9 (fun q => by have := iLe (b := 0) q; omega)) (fun c9 => ?_)
      refine AW_iload_n 13 hX dX7_swayBy_12 rfl rfl ?_
      refine AW_iload_n 14 hX dX7_swayBy_13 rfl rfl ?_
      refine AW_iadd 15 hX dX7_swayBy_14 rfl ?_
      refine AW_iload 17 hX dX7_swayBy_15 rfl rfl ?_
      refine AW_iconst 18 hX dX7_swayBy_17 rfl ic_1 ?_
      refine AW_icmp_ne 21 25 hX dX7_swayBy_18 rfl (by decide) (fun c18 => ?_) (fun c18 => absurd c18 (by decide))
      refine AW_iload 27 hX dX7_swayBy_25 rfl rfl ?_
      refine AW_iconst 28 hX dX7_swayBy_27 rfl ic_2 ?_
      refine AW_icmp_eq 31 37 hX dX7_swayBy_28 rfl (by decide) (fun c28 => absurd c28 (by decide)) (fun c28 => ?_)
      refine AW_iload 33 hX dX7_swayBy_31 rfl rfl ?_
      refine AW_iconst 34 hX dX7_swayBy_33 rfl ic_4 ?_
      refine AW_icmp_ne 37 41 hX dX7_swayBy_34 rfl (by decide) (fun c34 => absurd rfl c34) (fun c34 => ?_)
      refine AW_iconst 38 hX dX7_swayBy_37 rfl ic_2 ?_
      refine AW_goto 52 hX dX7_swayBy_38 (by decide) ?_
      refine AW_iadd 53 hX dX7_swayBy_52 rfl ?_
      refine AW_iret hX hE dX7_swayBy_53 rfl (Nat.le_refl _) (Nat.le_refl _) ?_
      rw [show (2 : Int32) = nI 2 from rfl, nI_add, nI_add]
      rw [show sa 4 s far = s + (far + 2) from if_neg hf0] at hK
      rw [show s + (far + 2) = s + far + 2 by omega] at hK
      exact hK
