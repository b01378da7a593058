set_option maxRecDepth 100000 in
set_option maxHeartbeats 4000000 in
theorem D_letter {h : AH} {K : Option Value → AH → Prop} {kp yd qk pm n ht p s : Nat} {pg ks : Nat → Nat} {stp fl : Int32} {m : Nat} {hd : HD} {w : SV} {I : Nat → Int32} {sd hh : Int64} {F : AF} (g : MH h I sd hh F) (r : MR (kp, yd, qk, pm, pg, (n, ks, ht, p, s, stp, fl, m, hd), w) I F) (ok : Sok (kp, yd, qk, pm, pg, (n, ks, ht, p, s, stp, fl, m, hd), w)) (x : Int32) (hK : ∀ h' : AH, MJ h' (spLetter (kp, yd, qk, pm, pg, (n, ks, ht, p, s, stp, fl, m, hd), w) x).2 → fr h h' 34 47 → K (some (.int (spLetter (kp, yd, qk, pm, pg, (n, ks, ht, p, s, stp, fl, m, hd), w) x).1)) h') : aX7_letter 1 [.ref 34, .int x] h K := by
  obtain ⟨g0, a0, a1, a2, a3, a4, a5, a6, a7, a8, a9, a10, a11⟩ := id g
  obtain ⟨⟨e0, e1, e3, e4, e5, e6, e7, e8, e13, e14⟩, rk, rh, rp, rkp, rk0⟩ := id r
  obtain ⟨⟨ok1, ok2, ok3, ok4, ok5, ok6, ok7, ok8⟩, okp, okw, okq, okpm, okpg, oky⟩ := id ok
  have hp12 : p < 12 := by
    rcases Nat.eq_zero_or_pos n with e | e
    · have := ok8 e; omega
    · have := ok7 e; omega
  refine AM.of [some (.ref 34), some (.int x)] pn_X7_letter rfl (Nat.le_of_ble_eq_true rfl) (fun X hX hE => ?_)
  refine AW_iload_n 1 hX dX7_letter_0 rfl rfl ?_
  refine AW_bipush 3 hX dX7_letter_1 rfl bp_32 ?_
  refine AW_bipush 5 hX dX7_letter_3 rfl bp_126 ?_
  refine AW_cS (As := [_, _, _]) 8 hX dX7_letter_5 rfl ml_X7_47 mw_X7_within rfl rfl (Nat.le_of_ble_eq_true rfl) (by decide) ⟨(Nat.le_refl _), (Nat.le_refl _)⟩ (M_within _ _ _ (fun w1 w2 => ?_) (fun w1 => ?_))
  · obtain ⟨c, hc1, hc2, ec⟩ := rg (x := x) 32 126 (by decide) (by decide) w1 w2
    subst ec
    have hcif : ¬ (nI c < 32 ∨ 126 < nI c) := rgI (lo := 32) (hi := 126) (by decide) rfl hc1 hc2
    refine AW_if_ne 11 14 hX dX7_letter_8 rfl (by decide) (fun c8 => ?_) (fun c8 => absurd c8 (by decide))
    refine AW_aload_n 15 hX dX7_letter_14 rfl rfl ?_
    refine AW_get 18 hX dX7_letter_15 rfl fl_X7_51 (by first | assumption | exact hset_eq | exact (hset_ne (by omega)).trans (by first | assumption | exact hset_eq | exact (hset_ne (by omega)).trans (by first | assumption | exact hset_eq | exact (hset_ne (by omega)).trans (by first | assumption | exact hset_eq | exact (hset_ne (by omega)).trans (by first | assumption | exact hset_eq))))) rfl ?_
    refine AW_bipush 20 hX dX7_letter_18 rfl bp_16 ?_
    rw [e14]
    refine AW_icmp_ne 23 26 hX dX7_letter_20 rfl (by decide) (fun c20 => ?_) (fun c20 => ?_)
    · refine AW_aload_n 27 hX dX7_letter_26 rfl rfl ?_
      refine AW_get 30 hX dX7_letter_27 rfl fl_X7_25 (by first | assumption | exact hset_eq | exact (hset_ne (by omega)).trans (by first | assumption | exact hset_eq | exact (hset_ne (by omega)).trans (by first | assumption | exact hset_eq | exact (hset_ne (by omega)).trans (by first | assumption | exact hset_eq | exact (hset_ne (by omega)).trans (by first | assumption | exact hset_eq))))) rfl ?_
      refine AW_aload_n 31 hX dX7_letter_30 rfl rfl ?_
      refine AW_get 34 hX dX7_letter_31 rfl fl_X7_51 (by first | assumption | exact hset_eq | exact (hset_ne (by omega)).trans (by first | assumption | exact hset_eq | exact (hset_ne (by omega)).trans (by first | assumption | exact hset_eq | exact (hset_ne (by omega)).trans (by first | assumption | exact hset_eq | exact (hset_ne (by omega)).trans (by first | assumption | exact hset_eq))))) rfl ?_
      refine AW_iload_n 35 hX dX7_letter_34 rfl rfl ?_
      refine AW_i2b 36 hX dX7_letter_35 rfl ?_
      rw [b128 c (by omega)]
      refine AW_bast 37 hX dX7_letter_36 rfl (by first | assumption | exact hset_eq | exact (hset_ne (by omega)).trans (by first | assumption | exact hset_eq | exact (hset_ne (by omega)).trans (by first | assumption | exact hset_eq | exact (hset_ne (by omega)).trans (by first | assumption | exact hset_eq | exact (hset_ne (by omega)).trans (by first | assumption | exact hset_eq))))) (j := pm) (by have := iNe (b := 16) c20; omega) e14 ?_
      try rw [hset_hset]
      refine AW_aload_n 38 hX dX7_letter_37 rfl rfl ?_
      refine AW_dup 39 hX dX7_letter_38 rfl rfl ?_
      refine AW_get 42 hX dX7_letter_39 rfl fl_X7_51 (by first | assumption | exact hset_eq | exact (hset_ne (by omega)).trans (by first | assumption | exact hset_eq | exact (hset_ne (by omega)).trans (by first | assumption | exact hset_eq | exact (hset_ne (by omega)).trans (by first | assumption | exact hset_eq | exact (hset_ne (by omega)).trans (by first | assumption | exact hset_eq))))) rfl ?_
      refine AW_iconst 43 hX dX7_letter_42 rfl ic_1 ?_
      refine AW_iadd 44 hX dX7_letter_43 rfl ?_
      refine AW_put 47 hX dX7_letter_44 rfl fl_X7_51 (by first | assumption | exact hset_eq | exact (hset_ne (by omega)).trans (by first | assumption | exact hset_eq | exact (hset_ne (by omega)).trans (by first | assumption | exact hset_eq | exact (hset_ne (by omega)).trans (by first | assumption | exact hset_eq | exact (hset_ne (by omega)).trans (by first | assumption | exact hset_eq))))) rfl (fun _ => rfl) (fun _ => rfl) (Nat.le_of_ble_eq_true rfl) ?_
      rw [mo_set14]
      try rw [hset_hset]
      refine AW_aload_n 48 hX dX7_letter_47 rfl rfl ?_
      refine AW_get 51 hX dX7_letter_48 rfl fl_X7_51 (by first | assumption | exact hset_eq | exact (hset_ne (by omega)).trans (by first | assumption | exact hset_eq | exact (hset_ne (by omega)).trans (by first | assumption | exact hset_eq | exact (hset_ne (by omega)).trans (by first | assumption | exact hset_eq | exact (hset_ne (by omega)).trans (by first | assumption | exact hset_eq))))) rfl ?_
      refine AW_iret hX hE dX7_letter_51 rfl (Nat.le_refl _) (Nat.le_refl _) ?_
      have hne := iNe (b := 16) c20
      have e : spLetter (kp, yd, qk, pm, pg, (n, ks, ht, p, s, stp, fl, m, hd), w) (nI c) = (nI (pm + 1), (kp, yd, qk, pm + 1, fun j => if j = pm then c else pg j, (n, ks, ht, p, s, stp, fl, m, hd), w)) := by
        show cif _ _ _ = _
        rw [cif_neg hcif, cif_neg hne, cN_nI (by omega)]
      rw [e] at hK
      rw [pk_us, e14, nI_1]
      refine hK _ ⟨_, _, _, _, MH_obj (MH_arr5 g), ⟨⟨e0, e1, e3, e4, e5, e6, e7, e8, e13, rfl⟩, rk, rh, fun j hj => ?_, fun q => ?_, rk0⟩⟩ (fr_tr (fr_set (by omega) (by omega)) (fr_set (by omega) (by omega)))
      · show upd (F 5) pm (vp_nar .byte (nI c)) j = nI (if j = pm then c else pg j)
        rw [vp_nar_byte, b128 c (by omega)]
        simp only [upd]
        split
        · rfl
        · exact rp j (by omega)
      · exact rkp q
    · refine AW_bipush 25 hX dX7_letter_23 rfl bp_m104 ?_
      refine AW_iret hX hE dX7_letter_25 rfl (Nat.le_refl _) (Nat.le_refl _) ?_
      have e : spLetter (kp, yd, qk, pm, pg, (n, ks, ht, p, s, stp, fl, m, hd), w) (nI c) = (-104, (kp, yd, qk, pm, pg, (n, ks, ht, p, s, stp, fl, m, hd), w)) := by
        show cif _ _ _ = _
        rw [cif_neg hcif, cif_pos (iEq (b := 16) c20)]
      rw [e] at hK
      exact hK h ⟨I, sd, hh, F, g, r⟩ (fr_rf _ _ _)
  · refine AW_if_ne 11 14 hX dX7_letter_8 rfl (by decide) (fun c8 => absurd rfl c8) (fun c8 => ?_)
    refine AW_bipush 13 hX dX7_letter_11 rfl bp_m102 ?_
    refine AW_iret hX hE dX7_letter_13 rfl (Nat.le_refl _) (Nat.le_refl _) ?_
    have e : spLetter (kp, yd, qk, pm, pg, (n, ks, ht, p, s, stp, fl, m, hd), w) x = (-102, (kp, yd, qk, pm, pg, (n, ks, ht, p, s, stp, fl, m, hd), w)) := by
      show cif _ _ _ = _
      rw [cif_pos w1]
    rw [e] at hK
    exact hK h ⟨I, sd, hh, F, g, r⟩ (fr_rf _ _ _)
set_option maxRecDepth 100000 in
set_option maxHeartbeats 4000000 in
theorem D_blank {h : AH} {K : Option Value → AH → Prop} {kp yd qk pm n ht p s : Nat} {pg ks : Nat → Nat} {stp fl : Int32} {m : Nat} {hd : HD} {w : SV} {I : Nat → Int32} {sd hh : Int64} {F : AF} (g : MH h I sd hh F) (r : MR (kp, yd, qk, pm, pg, (n, ks, ht, p, s, stp, fl, m, hd), w) I F) (ok : Sok (kp, yd, qk, pm, pg, (n, ks, ht, p, s, stp, fl, m, hd), w)) (hK : ∀ h' : AH, MJ h' (spBlank (kp, yd, qk, pm, pg, (n, ks, ht, p, s, stp, fl, m, hd), w)).2 → fr h h' 34 47 → K (some (.int (spBlank (kp, yd, qk, pm, pg, (n, ks, ht, p, s, stp, fl, m, hd), w)).1)) h') : aX7_blank 1 [.ref 34] h K := by
  obtain ⟨g0, a0, a1, a2, a3, a4, a5, a6, a7, a8, a9, a10, a11⟩ := id g
  obtain ⟨⟨e0, e1, e3, e4, e5, e6, e7, e8, e13, e14⟩, rk, rh, rp, rkp, rk0⟩ := id r
  obtain ⟨⟨ok1, ok2, ok3, ok4, ok5, ok6, ok7, ok8⟩, okp, okw, okq, okpm, okpg, oky⟩ := id ok
  have hp12 : p < 12 := by
    rcases Nat.eq_zero_or_pos n with e | e
    · have := ok8 e; omega
    · have := ok7 e; omega
  refine AM.of [some (.ref 34), none] pn_X7_blank rfl (Nat.le_of_ble_eq_true rfl) (fun X hX hE => ?_)
  refine AW_aload_n 1 hX dX7_blank_0 rfl rfl ?_
  refine AW_get 4 hX dX7_blank_1 rfl fl_X7_51 (by first | assumption | exact hset_eq | exact (hset_ne (by omega)).trans (by first | assumption | exact hset_eq | exact (hset_ne (by omega)).trans (by first | assumption | exact hset_eq | exact (hset_ne (by omega)).trans (by first | assumption | exact hset_eq | exact (hset_ne (by omega)).trans (by first | assumption | exact hset_eq))))) rfl ?_
  refine AW_istore_n 5 hX dX7_blank_4 rfl (Nat.le_of_ble_eq_true rfl) rfl ?_
  refine AW_aload_n 6 hX dX7_blank_5 rfl rfl ?_
  refine AW_iconst 7 hX dX7_blank_6 rfl ic_0 ?_
  refine AW_put 10 hX dX7_blank_7 rfl fl_X7_51 (by first | assumption | exact hset_eq | exact (hset_ne (by omega)).trans (by first | assumption | exact hset_eq | exact (hset_ne (by omega)).trans (by first | assumption | exact hset_eq | exact (hset_ne (by omega)).trans (by first | assumption | exact hset_eq | exact (hset_ne (by omega)).trans (by first | assumption | exact hset_eq))))) rfl (fun _ => rfl) (fun _ => rfl) (Nat.le_of_ble_eq_true rfl) ?_
  rw [mo_set14]
  try rw [hset_hset]
  refine AW_iload_n 11 hX dX7_blank_10 rfl rfl ?_
  refine AW_iret hX hE dX7_blank_11 rfl (Nat.le_refl _) (Nat.le_refl _) ?_
  rw [e14]
  exact hK _ ⟨_, _, _, _, MH_obj g, ⟨⟨e0, e1, e3, e4, e5, e6, e7, e8, e13, rfl⟩, rk, rh, fun j hj => absurd hj (Nat.not_lt_zero j), rkp, rk0⟩⟩ (fr_set (by omega) (by omega))
set_option maxRecDepth 100000 in
set_option maxHeartbeats 4000000 in
theorem D_fault {h : AH} {K : Option Value → AH → Prop} {kp yd qk pm n ht p s : Nat} {pg ks : Nat → Nat} {stp fl : Int32} {m : Nat} {hd : HD} {w : SV} {I : Nat → Int32} {sd hh : Int64} {F : AF} (g : MH h I sd hh F) (r : MR (kp, yd, qk, pm, pg, (n, ks, ht, p, s, stp, fl, m, hd), w) I F) (ok : Sok (kp, yd, qk, pm, pg, (n, ks, ht, p, s, stp, fl, m, hd), w)) (hK : ∀ h' : AH, MJ h' (spFault (kp, yd, qk, pm, pg, (n, ks, ht, p, s, stp, fl, m, hd), w)).2 → fr h h' 34 47 → K (some (.int (spFault (kp, yd, qk, pm, pg, (n, ks, ht, p, s, stp, fl, m, hd), w)).1)) h') : aX7_fault 2 [.ref 34] h K := by
  obtain ⟨g0, a0, a1, a2, a3, a4, a5, a6, a7, a8, a9, a10, a11⟩ := id g
  obtain ⟨⟨e0, e1, e3, e4, e5, e6, e7, e8, e13, e14⟩, rk, rh, rp, rkp, rk0⟩ := id r
  obtain ⟨⟨ok1, ok2, ok3, ok4, ok5, ok6, ok7, ok8⟩, okp, okw, okq, okpm, okpg, oky⟩ := id ok
  have hp12 : p < 12 := by
    rcases Nat.eq_zero_or_pos n with e | e
    · have := ok8 e; omega
    · have := ok7 e; omega
  refine AM.of [some (.ref 34)] pn_X7_fault rfl (Nat.le_of_ble_eq_true rfl) (fun X hX hE => ?_)
  refine AW_aload_n 1 hX dX7_fault_0 rfl rfl ?_
  refine AW_cV (As := []) 4 hX dX7_fault_1 rfl ml_X7_69 mw_X7_read (by first | assumption | exact hset_eq | exact (hset_ne (by omega)).trans (by first | assumption | exact hset_eq | exact (hset_ne (by omega)).trans (by first | assumption | exact hset_eq | exact (hset_ne (by omega)).trans (by first | assumption | exact hset_eq | exact (hset_ne (by omega)).trans (by first | assumption | exact hset_eq))))) (by decide) rfl rfl rfl (Nat.le_of_ble_eq_true rfl) (by decide) ⟨(Nat.le_refl _), (Nat.le_refl _)⟩ (M_read g e14 okpm rp okpg (fun h' I' g' ei w1 w0 e17 hfr => ?_))
  refine AW_iret hX hE dX7_fault_4 rfl (Nat.le_refl _) (Nat.le_refl _) ?_
  exact hK h' ⟨I', sd, hh, F, g', MR_I r ei⟩ (fr_wide hfr (by omega) (by omega))
theorem upF_upF (F : AF) (k : Nat) (f f' : Nat → Int32) : upF (upF F k f) k f' = upF F k f' := by
  funext j
  simp only [upF]
  split <;> rfl
theorem MH_arr0' {h : AH} {I : Nat → Int32} {sd hh : Int64} {F : AF} {f f' : Nat → Int32} (g : MH h I sd hh (upF F 0 f)) : MH (hset h 35 (.inr (0, 12, f'))) I sd hh (upF F 0 f') := by
  have := MH_arr0 (f := f') g
  rw [upF_upF] at this
  exact this
set_option maxRecDepth 100000 in
set_option maxHeartbeats 4000000 in
theorem D_yard {h : AH} {K : Option Value → AH → Prop} {kp yd qk pm n ht p s : Nat} {pg ks : Nat → Nat} {stp fl : Int32} {m : Nat} {hd : HD} {w : SV} {I : Nat → Int32} {sd hh : Int64} {F : AF} (g : MH h I sd hh F) (r : MR (kp, yd, qk, pm, pg, (n, ks, ht, p, s, stp, fl, m, hd), w) I F) (ok : Sok (kp, yd, qk, pm, pg, (n, ks, ht, p, s, stp, fl, m, hd), w)) (hK : ∀ h' : AH, MJ h' (spYard (kp, yd, qk, pm, pg, (n, ks, ht, p, s, stp, fl, m, hd), w)).2 → fr h h' 34 47 → K (some (.int (spYard (kp, yd, qk, pm, pg, (n, ks, ht, p, s, stp, fl, m, hd), w)).1)) h') : aX7_yard 2 [.ref 34] h K := by
  obtain ⟨g0, a0, a1, a2, a3, a4, a5, a6, a7, a8, a9, a10, a11⟩ := id g
  obtain ⟨⟨e0, e1, e3, e4, e5, e6, e7, e8, e13, e14⟩, rk, rh, rp, rkp, rk0⟩ := id r
  obtain ⟨⟨ok1, ok2, ok3, ok4, ok5, ok6, ok7, ok8⟩, okp, okw, okq, okpm, okpg, oky⟩ := id ok
  have hp12 : p < 12 := by
    rcases Nat.eq_zero_or_pos n with e | e
    · have := ok8 e; omega
    · have := ok7 e; omega
  have hpl := plc_le pm pg
  refine AM.of [some (.ref 34), none, none] pn_X7_yard rfl (Nat.le_of_ble_eq_true rfl) (fun X hX hE => ?_)
  have body : pwh pm pg → ∀ (h' : AH) (I' : Nat → Int32), MH h' I' sd hh F → (∀ k, k ≠ 16 → k ≠ 17 → I' k = I k) → I' 17 = nI (plc pm pg) → fr h h' 34 47 → AW X 0 0 15 [some (.ref 34), some (.int (nI (fw pm pg))), none] [] h' := by
    intro hw h' I' g' ei e17 hfr
    obtain ⟨w1, w2, w3, w4, w5⟩ := id hw
    have efw : fw pm pg = pm := by simp only [fw]; rw [if_neg (by omega), if_pos ⟨w3, w4⟩]; omega
    obtain ⟨b0, -⟩ := id g'
    have loop : ∀ d i, i + d = plc pm pg → ∀ (h2 : AH) (f2 : Nat → Int32), MH h2 (upd I' 1 (nI (plc pm pg))) sd hh (upF F 0 f2) → (∀ j, j < i → f2 j = nI (kn (pAt pm pg j))) → fr h h2 34 47 → AW X 0 0 25 [some (.ref 34), some (.int (nI pm)), some (.int (nI i))] [] h2 := by
      intro d
      induction d with
      | zero =>
        intro i hi h2 f2 g2 hf2 hfr2
        obtain ⟨c0, q0, q1, q2, q3, q4, q5, -⟩ := id g2
        have e5m : F 5 (pm - 1) = nI (pg (pm - 1)) := rp _ (by omega)
        have epa : pAt pm pg (pm - 1) = pg (pm - 1) := if_pos (by omega)
        have h48 : 48 ≤ pg (pm - 1) := by rw [← epa, show pm - 1 = plc pm pg + 1 by omega]; omega
        refine AW_iload_n 26 hX dX7_yard_25 rfl rfl ?_
        refine AW_aload_n 27 hX dX7_yard_26 rfl rfl ?_
        refine AW_get 30 hX dX7_yard_27 rfl fl_X7_73 (by first | assumption | exact hset_eq | exact (hset_ne (by omega)).trans (by first | assumption | exact hset_eq | exact (hset_ne (by omega)).trans (by first | assumption | exact hset_eq | exact (hset_ne (by omega)).trans (by first | assumption | exact hset_eq | exact (hset_ne (by omega)).trans (by first | assumption | exact hset_eq))))) rfl ?_
        refine AW_icmp_ge 33 54 hX dX7_yard_30 rfl (by decide) (fun c30 => ?_) (fun c30 => absurd (nI_le (a := plc pm pg) (b := i) (by omega) (by omega)) c30)
        refine AW_aload_n 55 hX dX7_yard_54 rfl rfl ?_
        refine AW_aload_n 56 hX dX7_yard_55 rfl rfl ?_
        refine AW_get 59 hX dX7_yard_56 rfl fl_X7_25 (by first | assumption | exact hset_eq | exact (hset_ne (by omega)).trans (by first | assumption | exact hset_eq | exact (hset_ne (by omega)).trans (by first | assumption | exact hset_eq | exact (hset_ne (by omega)).trans (by first | assumption | exact hset_eq | exact (hset_ne (by omega)).trans (by first | assumption | exact hset_eq))))) rfl ?_
        refine AW_iload_n 60 hX dX7_yard_59 rfl rfl ?_
        refine AW_iconst 61 hX dX7_yard_60 rfl ic_1 ?_
        refine AW_isub 62 hX dX7_yard_61 rfl ?_
        rw [show (1 : Int32) = nI 1 from rfl, pk_sub (by omega)]
        refine AW_bald 63 hX dX7_yard_62 rfl (by first | assumption | exact hset_eq | exact (hset_ne (by omega)).trans (by first | assumption | exact hset_eq | exact (hset_ne (by omega)).trans (by first | assumption | exact hset_eq | exact (hset_ne (by omega)).trans (by first | assumption | exact hset_eq | exact (hset_ne (by omega)).trans (by first | assumption | exact hset_eq))))) (j := pm - 1) (by omega) rfl ?_
        refine AW_bipush 65 hX dX7_yard_63 rfl bp_48 ?_
        refine AW_isub 66 hX dX7_yard_65 rfl ?_
        rw [show upF F 0 f2 5 (pm - 1) = nI (pg (pm - 1)) from e5m, show (48 : Int32) = nI 48 from rfl, pk_sub h48]
        refine AW_put 69 hX dX7_yard_66 rfl fl_X7_76 (by first | assumption | exact hset_eq | exact (hset_ne (by omega)).trans (by first | assumption | exact hset_eq | exact (hset_ne (by omega)).trans (by first | assumption | exact hset_eq | exact (hset_ne (by omega)).trans (by first | assumption | exact hset_eq | exact (hset_ne (by omega)).trans (by first | assumption | exact hset_eq))))) rfl (fun _ => rfl) (fun _ => rfl) (Nat.le_of_ble_eq_true rfl) ?_
        rw [mo_set3]
        try rw [hset_hset]
        refine AW_aload_n 70 hX dX7_yard_69 rfl rfl ?_
        refine AW_dup 71 hX dX7_yard_70 rfl rfl ?_
        refine AW_get 74 hX dX7_yard_71 rfl fl_X7_79 (by first | assumption | exact hset_eq | exact (hset_ne (by omega)).trans (by first | assumption | exact hset_eq | exact (hset_ne (by omega)).trans (by first | assumption | exact hset_eq | exact (hset_ne (by omega)).trans (by first | assumption | exact hset_eq | exact (hset_ne (by omega)).trans (by first | assumption | exact hset_eq))))) rfl ?_
        refine AW_iconst 75 hX dX7_yard_74 rfl ic_1 ?_
        refine AW_iadd 76 hX dX7_yard_75 rfl ?_
        refine AW_put 79 hX dX7_yard_76 rfl fl_X7_79 (by first | assumption | exact hset_eq | exact (hset_ne (by omega)).trans (by first | assumption | exact hset_eq | exact (hset_ne (by omega)).trans (by first | assumption | exact hset_eq | exact (hset_ne (by omega)).trans (by first | assumption | exact hset_eq | exact (hset_ne (by omega)).trans (by first | assumption | exact hset_eq))))) rfl (fun _ => rfl) (fun _ => rfl) (Nat.le_of_ble_eq_true rfl) ?_
        rw [mo_set0]
        try rw [hset_hset]
        refine AW_aload_n 80 hX dX7_yard_79 rfl rfl ?_
        refine AW_iconst 81 hX dX7_yard_80 rfl ic_0 ?_
        refine AW_put 84 hX dX7_yard_81 rfl fl_X7_82 (by first | assumption | exact hset_eq | exact (hset_ne (by omega)).trans (by first | assumption | exact hset_eq | exact (hset_ne (by omega)).trans (by first | assumption | exact hset_eq | exact (hset_ne (by omega)).trans (by first | assumption | exact hset_eq | exact (hset_ne (by omega)).trans (by first | assumption | exact hset_eq))))) rfl (fun _ => rfl) (fun _ => rfl) (Nat.le_of_ble_eq_true rfl) ?_
        rw [mo_set4]
        try rw [hset_hset]
        refine AW_aload_n 85 hX dX7_yard_84 rfl rfl ?_
        refine AW_iconst 86 hX dX7_yard_85 rfl ic_0 ?_
        refine AW_put 89 hX dX7_yard_86 rfl fl_X7_85 (by first | assumption | exact hset_eq | exact (hset_ne (by omega)).trans (by first | assumption | exact hset_eq | exact (hset_ne (by omega)).trans (by first | assumption | exact hset_eq | exact (hset_ne (by omega)).trans (by first | assumption | exact hset_eq | exact (hset_ne (by omega)).trans (by first | assumption | exact hset_eq))))) rfl (fun _ => rfl) (fun _ => rfl) (Nat.le_of_ble_eq_true rfl) ?_
        rw [mo_set5]
        try rw [hset_hset]
        refine AW_aload_n 90 hX dX7_yard_89 rfl rfl ?_
        refine AW_iconst 91 hX dX7_yard_90 rfl ic_0 ?_
        refine AW_put 94 hX dX7_yard_91 rfl fl_X7_88 (by first | assumption | exact hset_eq | exact (hset_ne (by omega)).trans (by first | assumption | exact hset_eq | exact (hset_ne (by omega)).trans (by first | assumption | exact hset_eq | exact (hset_ne (by omega)).trans (by first | assumption | exact hset_eq | exact (hset_ne (by omega)).trans (by first | assumption | exact hset_eq))))) rfl (fun _ => rfl) (fun _ => rfl) (Nat.le_of_ble_eq_true rfl) ?_
        rw [mo_set6]
        try rw [hset_hset]
        refine AW_aload_n 95 hX dX7_yard_94 rfl rfl ?_
        refine AW_iconst 96 hX dX7_yard_95 rfl ic_0 ?_
        refine AW_put 99 hX dX7_yard_96 rfl fl_X7_91 (by first | assumption | exact hset_eq | exact (hset_ne (by omega)).trans (by first | assumption | exact hset_eq | exact (hset_ne (by omega)).trans (by first | assumption | exact hset_eq | exact (hset_ne (by omega)).trans (by first | assumption | exact hset_eq | exact (hset_ne (by omega)).trans (by first | assumption | exact hset_eq))))) rfl (fun _ => rfl) (fun _ => rfl) (Nat.le_of_ble_eq_true rfl) ?_
        rw [mo_set7]
        try rw [hset_hset]
        refine AW_aload_n 100 hX dX7_yard_99 rfl rfl ?_
        refine AW_iconst 101 hX dX7_yard_100 rfl ic_0 ?_
        refine AW_put 104 hX dX7_yard_101 rfl fl_X7_94 (by first | assumption | exact hset_eq | exact (hset_ne (by omega)).trans (by first | assumption | exact hset_eq | exact (hset_ne (by omega)).trans (by first | assumption | exact hset_eq | exact (hset_ne (by omega)).trans (by first | assumption | exact hset_eq | exact (hset_ne (by omega)).trans (by first | assumption | exact hset_eq))))) rfl (fun _ => rfl) (fun _ => rfl) (Nat.le_of_ble_eq_true rfl) ?_
        rw [mo_set8]
        try rw [hset_hset]
        refine AW_aload_n 105 hX dX7_yard_104 rfl rfl ?_
        refine AW_iconst 106 hX dX7_yard_105 rfl ic_0 ?_
        refine AW_put 109 hX dX7_yard_106 rfl fl_X7_51 (by first | assumption | exact hset_eq | exact (hset_ne (by omega)).trans (by first | assumption | exact hset_eq | exact (hset_ne (by omega)).trans (by first | assumption | exact hset_eq | exact (hset_ne (by omega)).trans (by first | assumption | exact hset_eq | exact (hset_ne (by omega)).trans (by first | assumption | exact hset_eq))))) rfl (fun _ => rfl) (fun _ => rfl) (Nat.le_of_ble_eq_true rfl) ?_
        rw [mo_set14]
        try rw [hset_hset]
        refine AW_aload_n 110 hX dX7_yard_109 rfl rfl ?_
        refine AW_get 113 hX dX7_yard_110 rfl fl_X7_73 (by first | assumption | exact hset_eq | exact (hset_ne (by omega)).trans (by first | assumption | exact hset_eq | exact (hset_ne (by omega)).trans (by first | assumption | exact hset_eq | exact (hset_ne (by omega)).trans (by first | assumption | exact hset_eq | exact (hset_ne (by omega)).trans (by first | assumption | exact hset_eq))))) rfl ?_
        refine AW_iret hX hE dX7_yard_113 rfl (Nat.le_refl _) (Nat.le_refl _) ?_
        rw [show spYard (kp, yd, qk, pm, pg, (n, ks, ht, p, s, stp, fl, m, hd), w) = (nI (plc pm pg), (0, yd + 1, qk, 0, pg, (plc pm pg, fun j => kn (pAt pm pg j), pAt pm pg (pm - 1) - 48, 0, 0, 0, 0, 0, hd), w)) from cif_pos hw, epa] at hK
        refine hK _ ⟨_, _, _, _, MH_obj g2, ⟨⟨?_, rfl, rfl, rfl, rfl, rfl, rfl, rfl, (ei 13 (by decide) (by decide)).trans e13, rfl⟩, fun j hj => hf2 j (by omega), fun j hj => by omega, fun j hj => by omega, fun q => by omega, fun _ => ?_⟩⟩ (fr_tr hfr2 (fr_set (by omega) (by omega)))
        · show I' 0 + 1 = nI (yd + 1)
          rw [ei 0 (by decide) (by decide), e0, nI_1]
        · show I' 20 = 0 ∨ ∃ ky, ky < yd + 1 ∧ I' 21 = nI ky
          rw [ei 20 (by decide) (by decide), ei 21 (by decide) (by decide)]
          rcases (show kp = 0 ∨ kp = 1 by omega) with q | q
          · rcases rk0 q with z | ⟨ky, z1, z2⟩
            · exact Or.inl z
            · exact Or.inr ⟨ky, by omega, z2⟩
          · obtain ⟨⟨-, z, -⟩, -⟩ := rkp q
            exact Or.inr ⟨yd, by omega, z⟩
      | succ d ih =>
        intro i hi h2 f2 g2 hf2 hfr2
        obtain ⟨c0, q0, q1, q2, q3, q4, q5, -⟩ := id g2
        have hi5 : upF F 0 f2 5 i = nI (pg i) := rp i (by omega)
        have epi : pAt pm pg i = pg i := if_pos (by omega)
        have hkn : kn (pg i) < 5 := by rw [← epi]; exact plc_kn (by omega)
        refine AW_iload_n 26 hX dX7_yard_25 rfl rfl ?_
        refine AW_aload_n 27 hX dX7_yard_26 rfl rfl ?_
        refine AW_get 30 hX dX7_yard_27 rfl fl_X7_73 (by first | assumption | exact hset_eq | exact (hset_ne (by omega)).trans (by first | assumption | exact hset_eq | exact (hset_ne (by omega)).trans (by first | assumption | exact hset_eq | exact (hset_ne (by omega)).trans (by first | assumption | exact hset_eq | exact (hset_ne (by omega)).trans (by first | assumption | exact hset_eq))))) rfl ?_
        refine AW_icmp_ge 33 54 hX dX7_yard_30 rfl (by decide) (fun c30 => absurd c30 (nI_ge (a := i) (b := plc pm pg) (by omega) (by omega))) (fun c30 => ?_)
        refine AW_aload_n 34 hX dX7_yard_33 rfl rfl ?_
        refine AW_get 37 hX dX7_yard_34 rfl fl_X7_7 (by first | assumption | exact hset_eq | exact (hset_ne (by omega)).trans (by first | assumption | exact hset_eq | exact (hset_ne (by omega)).trans (by first | assumption | exact hset_eq | exact (hset_ne (by omega)).trans (by first | assumption | exact hset_eq | exact (hset_ne (by omega)).trans (by first | assumption | exact hset_eq))))) rfl ?_
        refine AW_iload_n 38 hX dX7_yard_37 rfl rfl ?_
        refine AW_aload_n 39 hX dX7_yard_38 rfl rfl ?_
        refine AW_get 42 hX dX7_yard_39 rfl fl_X7_25 (by first | assumption | exact hset_eq | exact (hset_ne (by omega)).trans (by first | assumption | exact hset_eq | exact (hset_ne (by omega)).trans (by first | assumption | exact hset_eq | exact (hset_ne (by omega)).trans (by first | assumption | exact hset_eq | exact (hset_ne (by omega)).trans (by first | assumption | exact hset_eq))))) rfl ?_
        refine AW_iload_n 43 hX dX7_yard_42 rfl rfl ?_
        refine AW_bald 44 hX dX7_yard_43 rfl (by first | assumption | exact hset_eq | exact (hset_ne (by omega)).trans (by first | assumption | exact hset_eq | exact (hset_ne (by omega)).trans (by first | assumption | exact hset_eq | exact (hset_ne (by omega)).trans (by first | assumption | exact hset_eq | exact (hset_ne (by omega)).trans (by first | assumption | exact hset_eq))))) (j := i) (by omega) rfl ?_
        rw [hi5]
        refine AW_cS (As := [_]) 47 hX dX7_yard_44 rfl ml_X7_63 mw_X7_kindBy rfl rfl (Nat.le_of_ble_eq_true rfl) (by decide) ⟨(Nat.le_refl _), (Nat.le_refl _)⟩ (M_kindBy _ (okpg i (by omega)) ?_)
        refine AW_iast 48 hX dX7_yard_47 rfl (by first | assumption | exact hset_eq | exact (hset_ne (by omega)).trans (by first | assumption | exact hset_eq | exact (hset_ne (by omega)).trans (by first | assumption | exact hset_eq | exact (hset_ne (by omega)).trans (by first | assumption | exact hset_eq | exact (hset_ne (by omega)).trans (by first | assumption | exact hset_eq))))) (j := i) (by omega) rfl ?_
        try rw [hset_hset]
        refine AW_iinc 51 hX dX7_yard_48 rfl rfl (iincp ic_1) (Nat.le_of_ble_eq_true rfl) rfl ?_
        refine AW_goto 25 hX dX7_yard_51 (by decide) ?_
        rw [nI_1]
        refine ih (i + 1) (by omega) _ (upd f2 i (kr (pg i))) (MH_arr0' g2) (fun j hj => ?_) (fr_tr hfr2 (fr_set (by omega) (by omega)))
        by_cases e : j = i
        · subst e; rw [pk_us, epi]; simp only [kr, if_pos hkn]
        · rw [pk_un e]; exact hf2 j (by omega)
    rw [efw]
    refine AW_aload_n 16 hX dX7_yard_15 rfl rfl ?_
    refine AW_aload_n 17 hX dX7_yard_16 rfl rfl ?_
    refine AW_get 20 hX dX7_yard_17 rfl fl_X7_66 (by first | assumption | exact hset_eq | exact (hset_ne (by omega)).trans (by first | assumption | exact hset_eq | exact (hset_ne (by omega)).trans (by first | assumption | exact hset_eq | exact (hset_ne (by omega)).trans (by first | assumption | exact hset_eq | exact (hset_ne (by omega)).trans (by first | assumption | exact hset_eq))))) rfl ?_
    rw [e17]
    refine AW_put 23 hX dX7_yard_20 rfl fl_X7_73 (by first | assumption | exact hset_eq | exact (hset_ne (by omega)).trans (by first | assumption | exact hset_eq | exact (hset_ne (by omega)).trans (by first | assumption | exact hset_eq | exact (hset_ne (by omega)).trans (by first | assumption | exact hset_eq | exact (hset_ne (by omega)).trans (by first | assumption | exact hset_eq))))) rfl (fun _ => rfl) (fun _ => rfl) (Nat.le_of_ble_eq_true rfl) ?_
    rw [mo_set1]
    try rw [hset_hset]
    refine AW_iconst 24 hX dX7_yard_23 rfl ic_0 ?_
    refine AW_istore_n 25 hX dX7_yard_24 rfl (Nat.le_of_ble_eq_true rfl) rfl ?_
    exact loop (plc pm pg) 0 (by omega) _ (F 0) (by rw [show upF F 0 (F 0) = F from funext fun j => by simp only [upF]; split; (next q => rw [q]); rfl]; exact MH_obj g') (fun j hj => by omega) (fr_tr hfr (fr_set (by omega) (by omega)))
  refine AW_aload_n 1 hX dX7_yard_0 rfl rfl ?_
  refine AW_cV (As := []) 4 hX dX7_yard_1 rfl ml_X7_69 mw_X7_read (by first | assumption | exact hset_eq | exact (hset_ne (by omega)).trans (by first | assumption | exact hset_eq | exact (hset_ne (by omega)).trans (by first | assumption | exact hset_eq | exact (hset_ne (by omega)).trans (by first | assumption | exact hset_eq | exact (hset_ne (by omega)).trans (by first | assumption | exact hset_eq))))) (by decide) rfl rfl rfl (Nat.le_of_ble_eq_true rfl) (by decide) ⟨(Nat.le_refl _), (Nat.le_refl _)⟩ (M_read g e14 okpm rp okpg (fun h' I' g' ei w1 w0 e17 hfr => ?_))
  have b0 := g'.1
  refine AW_istore_n 5 hX dX7_yard_4 rfl (Nat.le_of_ble_eq_true rfl) rfl ?_
  refine AW_aload_n 6 hX dX7_yard_5 rfl rfl ?_
  refine AW_get 9 hX dX7_yard_6 rfl fl_X7_55 (by first | assumption | exact hset_eq | exact (hset_ne (by omega)).trans (by first | assumption | exact hset_eq | exact (hset_ne (by omega)).trans (by first | assumption | exact hset_eq | exact (hset_ne (by omega)).trans (by first | assumption | exact hset_eq | exact (hset_ne (by omega)).trans (by first | assumption | exact hset_eq))))) rfl ?_
  refine AW_if_ne 12 15 hX dX7_yard_9 rfl (by decide) (fun c9 => ?_) (fun c9 => ?_)
  · have hw : pwh pm pg := Classical.byContradiction fun q => c9 (w0 q)
    exact body hw h' I' g' ei e17 (fr_wide hfr (by omega) (by omega))
  · refine AW_bipush 14 hX dX7_yard_12 rfl bp_m103 ?_
    refine AW_iret hX hE dX7_yard_14 rfl (Nat.le_refl _) (Nat.le_refl _) ?_
    have hw : ¬ pwh pm pg := fun q => by rw [w1 q] at c9; exact absurd c9 (by decide)
    have e : spYard (kp, yd, qk, pm, pg, (n, ks, ht, p, s, stp, fl, m, hd), w) = (-103, (kp, yd, qk, pm, pg, (n, ks, ht, p, s, stp, fl, m, hd), w)) := by
      show cif _ _ _ = _
      rw [cif_neg hw]
    rw [e] at hK
    exact hK h' ⟨I', sd, hh, F, g', MR_I r ei⟩ (fr_wide hfr (by omega) (by omega))
set_option maxRecDepth 100000 in
set_option maxHeartbeats 4000000 in
theorem D_as {h : AH} {K : Option Value → AH → Prop} {kp yd qk pm n ht p s : Nat} {pg ks : Nat → Nat} {stp fl : Int32} {m : Nat} {hd : HD} {w : SV} {I : Nat → Int32} {sd hh : Int64} {F : AF} (g : MH h I sd hh F) (r : MR (kp, yd, qk, pm, pg, (n, ks, ht, p, s, stp, fl, m, hd), w) I F) (ok : Sok (kp, yd, qk, pm, pg, (n, ks, ht, p, s, stp, fl, m, hd), w)) (x y : Int32) (hK : ∀ h' : AH, MJ h' (spAs (kp, yd, qk, pm, pg, (n, ks, ht, p, s, stp, fl, m, hd), w) x y).2 → fr h h' 34 47 → K (some (.int (spAs (kp, yd, qk, pm, pg, (n, ks, ht, p, s, stp, fl, m, hd), w) x y).1)) h') : aX7_as 2 [.ref 34, .int x, .int y] h K := by
  obtain ⟨g0, a0, a1, a2, a3, a4, a5, a6, a7, a8, a9, a10, a11⟩ := id g
  obtain ⟨⟨e0, e1, e3, e4, e5, e6, e7, e8, e13, e14⟩, rk, rh, rp, rkp, rk0⟩ := id r
  obtain ⟨⟨ok1, ok2, ok3, ok4, ok5, ok6, ok7, ok8⟩, okp, okw, okq, okpm, okpg, oky⟩ := id ok
  have hp12 : p < 12 := by
    rcases Nat.eq_zero_or_pos n with e | e
    · have := ok8 e; omega
    · have := ok7 e; omega
  refine AM.of [some (.ref 34), some (.int x), some (.int y), none] pn_X7_as rfl (Nat.le_of_ble_eq_true rfl) (fun X hX hE => ?_)
  refine AW_aload_n 1 hX dX7_as_0 rfl rfl ?_
  refine AW_iload_n 2 hX dX7_as_1 rfl rfl ?_
  refine AW_cV (As := [_]) 5 hX dX7_as_2 rfl ml_X7_104 mw_X7_isPlace (by first | assumption | exact hset_eq | exact (hset_ne (by omega)).trans (by first | assumption | exact hset_eq | exact (hset_ne (by omega)).trans (by first | assumption | exact hset_eq | exact (hset_ne (by omega)).trans (by first | assumption | exact hset_eq | exact (hset_ne (by omega)).trans (by first | assumption | exact hset_eq))))) (by decide) rfl rfl rfl (Nat.le_of_ble_eq_true rfl) (by decide) ⟨(Nat.le_refl _), (Nat.le_refl _)⟩ (M_isPlace g e1 ok1 x (fun q hq eq => ?_) (fun hno => ?_))
  · subst eq
    have hkq := ok2 q hq
    refine AW_if_ne 8 11 hX dX7_as_5 rfl (by decide) (fun c5 => ?_) (fun c5 => absurd c5 (by decide))
    refine AW_iload_n 12 hX dX7_as_11 rfl rfl ?_
    refine AW_iconst 13 hX dX7_as_12 rfl ic_0 ?_
    refine AW_iconst 14 hX dX7_as_13 rfl ic_4 ?_
    refine AW_cS (As := [_, _, _]) 17 hX dX7_as_14 rfl ml_X7_47 mw_X7_within rfl rfl (Nat.le_of_ble_eq_true rfl) (by decide) ⟨(Nat.le_refl _), (Nat.le_refl _)⟩ (M_within _ _ _ (fun w1 w2 => ?_) (fun w1 => ?_))
    · obtain ⟨k, -, hk4, ek⟩ := rg (x := y) 0 4 (by decide) (by decide) w1 w2
      subst ek
      refine AW_if_ne 20 23 hX dX7_as_17 rfl (by decide) (fun c17 => ?_) (fun c17 => absurd c17 (by decide))
      refine AW_aload_n 24 hX dX7_as_23 rfl rfl ?_
      refine AW_get 27 hX dX7_as_24 rfl fl_X7_7 (by first | assumption | exact hset_eq | exact (hset_ne (by omega)).trans (by first | assumption | exact hset_eq | exact (hset_ne (by omega)).trans (by first | assumption | exact hset_eq | exact (hset_ne (by omega)).trans (by first | assumption | exact hset_eq | exact (hset_ne (by omega)).trans (by first | assumption | exact hset_eq))))) rfl ?_
      refine AW_iload_n 28 hX dX7_as_27 rfl rfl ?_
      refine AW_iald 29 hX dX7_as_28 rfl (by first | assumption | exact hset_eq | exact (hset_ne (by omega)).trans (by first | assumption | exact hset_eq | exact (hset_ne (by omega)).trans (by first | assumption | exact hset_eq | exact (hset_ne (by omega)).trans (by first | assumption | exact hset_eq | exact (hset_ne (by omega)).trans (by first | assumption | exact hset_eq))))) (j := q) (by omega) rfl ?_
      rw [rk q hq]
      refine AW_istore_n 30 hX dX7_as_29 rfl (Nat.le_of_ble_eq_true rfl) rfl ?_
      refine AW_iload_n 31 hX dX7_as_30 rfl rfl ?_
      refine AW_if_eq 34 49 hX dX7_as_31 rfl (by decide) (fun c31 => ?_) (fun c31 => ?_)
      · refine AW_iload_n 50 hX dX7_as_49 rfl rfl ?_
        refine AW_goto 54 hX dX7_as_50 (by decide) ?_
        refine AW_iret hX hE dX7_as_54 rfl (Nat.le_refl _) (Nat.le_refl _) ?_
        have e : spAs (kp, yd, qk, pm, pg, (n, ks, ht, p, s, stp, fl, m, hd), w) (nI q) (nI k) = (nI q, (kp, yd, qk, pm, pg, (n, ks, ht, p, s, stp, fl, m, hd), w)) := by
          show (cif _ _ _, _) = _
          rw [cif_pos ⟨q, hq, rfl⟩, cif_pos ⟨k, by omega, rfl⟩, cN_nI (by omega), cN_nI (by omega), cif_pos (show isA (ks q) k from Or.inl (iEq (b := 0) c31))]
        rw [e] at hK
        exact hK h ⟨I, sd, hh, F, g, r⟩ (fr_rf _ _ _)
      · refine AW_iload_n 35 hX dX7_as_34 rfl rfl ?_
        refine AW_iload_n 36 hX dX7_as_35 rfl rfl ?_
        refine AW_icmp_eq 39 49 hX dX7_as_36 rfl (by decide) (fun c36 => ?_) (fun c36 => ?_)
        · refine AW_iload_n 50 hX dX7_as_49 rfl rfl ?_
          refine AW_goto 54 hX dX7_as_50 (by decide) ?_
          refine AW_iret hX hE dX7_as_54 rfl (Nat.le_refl _) (Nat.le_refl _) ?_
          have e : spAs (kp, yd, qk, pm, pg, (n, ks, ht, p, s, stp, fl, m, hd), w) (nI q) (nI k) = (nI q, (kp, yd, qk, pm, pg, (n, ks, ht, p, s, stp, fl, m, hd), w)) := by
            show (cif _ _ _, _) = _
            rw [cif_pos ⟨q, hq, rfl⟩, cif_pos ⟨k, by omega, rfl⟩, cN_nI (by omega), cN_nI (by omega), cif_pos (show isA (ks q) k from Or.inr (Or.inl (iEq c36)))]
          rw [e] at hK
          exact hK h ⟨I, sd, hh, F, g, r⟩ (fr_rf _ _ _)
        · refine AW_iload_n 40 hX dX7_as_39 rfl rfl ?_
          refine AW_iconst 41 hX dX7_as_40 rfl ic_1 ?_
          refine AW_icmp_ne 44 53 hX dX7_as_41 rfl (by decide) (fun c41 => ?_) (fun c41 => ?_)
          · refine AW_iconst 54 hX dX7_as_53 rfl ic_m1 ?_
            refine AW_iret hX hE dX7_as_54 rfl (Nat.le_refl _) (Nat.le_refl _) ?_
            have e : spAs (kp, yd, qk, pm, pg, (n, ks, ht, p, s, stp, fl, m, hd), w) (nI q) (nI k) = (-1, (kp, yd, qk, pm, pg, (n, ks, ht, p, s, stp, fl, m, hd), w)) := by
              show (cif _ _ _, _) = _
              rw [cif_pos ⟨q, hq, rfl⟩, cif_pos ⟨k, by omega, rfl⟩, cN_nI (by omega), cN_nI (by omega), cif_neg (fun z => by rcases z with z | z | z; exact c31 (by rw [z]; rfl); exact c36 (by rw [z]); exact c41 (by rw [z.1]; rfl))]
            rw [e] at hK
            exact hK h ⟨I, sd, hh, F, g, r⟩ (fr_rf _ _ _)
          · refine AW_iload_n 45 hX dX7_as_44 rfl rfl ?_
            refine AW_iconst 46 hX dX7_as_45 rfl ic_4 ?_
            refine AW_icmp_ne 49 53 hX dX7_as_46 rfl (by decide) (fun c46 => ?_) (fun c46 => ?_)
            · refine AW_iconst 54 hX dX7_as_53 rfl ic_m1 ?_
              refine AW_iret hX hE dX7_as_54 rfl (Nat.le_refl _) (Nat.le_refl _) ?_
              have e : spAs (kp, yd, qk, pm, pg, (n, ks, ht, p, s, stp, fl, m, hd), w) (nI q) (nI k) = (-1, (kp, yd, qk, pm, pg, (n, ks, ht, p, s, stp, fl, m, hd), w)) := by
                show (cif _ _ _, _) = _
                rw [cif_pos ⟨q, hq, rfl⟩, cif_pos ⟨k, by omega, rfl⟩, cN_nI (by omega), cN_nI (by omega), cif_neg (fun z => by rcases z with z | z | z; exact c31 (by rw [z]; rfl); exact c36 (by rw [z]); exact c46 (by rw [z.2]; rfl))]
              rw [e] at hK
              exact hK h ⟨I, sd, hh, F, g, r⟩ (fr_rf _ _ _)
            · refine AW_iload_n 50 hX dX7_as_49 rfl rfl ?_
              refine AW_goto 54 hX dX7_as_50 (by decide) ?_
              refine AW_iret hX hE dX7_as_54 rfl (Nat.le_refl _) (Nat.le_refl _) ?_
              have e : spAs (kp, yd, qk, pm, pg, (n, ks, ht, p, s, stp, fl, m, hd), w) (nI q) (nI k) = (nI q, (kp, yd, qk, pm, pg, (n, ks, ht, p, s, stp, fl, m, hd), w)) := by
                show (cif _ _ _, _) = _
                rw [cif_pos ⟨q, hq, rfl⟩, cif_pos ⟨k, by omega, rfl⟩, cN_nI (by omega), cN_nI (by omega), cif_pos (show isA (ks q) k from Or.inr (Or.inr ⟨iEq (b := 1) c41, iEq (b := 4) c46⟩))]
              rw [e] at hK
              exact hK h ⟨I, sd, hh, F, g, r⟩ (fr_rf _ _ _)
    · refine AW_if_ne 20 23 hX dX7_as_17 rfl (by decide) (fun c17 => absurd rfl c17) (fun c17 => ?_)
      refine AW_bipush 22 hX dX7_as_20 rfl bp_m102 ?_
      refine AW_iret hX hE dX7_as_22 rfl (Nat.le_refl _) (Nat.le_refl _) ?_
      have e : spAs (kp, yd, qk, pm, pg, (n, ks, ht, p, s, stp, fl, m, hd), w) (nI q) y = (-102, (kp, yd, qk, pm, pg, (n, ks, ht, p, s, stp, fl, m, hd), w)) := by
        show (cif _ _ _, _) = _
        rw [cif_pos ⟨q, hq, rfl⟩, cif_neg (isP_nx (N := 4) (by decide) w1)]
      rw [e] at hK
      exact hK h ⟨I, sd, hh, F, g, r⟩ (fr_rf _ _ _)
  · refine AW_if_ne 8 11 hX dX7_as_5 rfl (by decide) (fun c5 => absurd rfl c5) (fun c5 => ?_)
    refine AW_bipush 10 hX dX7_as_8 rfl bp_m101 ?_
    refine AW_iret hX hE dX7_as_10 rfl (Nat.le_refl _) (Nat.le_refl _) ?_
    have e : spAs (kp, yd, qk, pm, pg, (n, ks, ht, p, s, stp, fl, m, hd), w) x y = (-101, (kp, yd, qk, pm, pg, (n, ks, ht, p, s, stp, fl, m, hd), w)) := by
      show (cif _ _ _, _) = _
      rw [cif_neg (fun ⟨q, hq, eq⟩ => hno q hq eq)]
    rw [e] at hK
    exact hK h ⟨I, sd, hh, F, g, r⟩ (fr_rf _ _ _)
set_option maxRecDepth 100000 in
set_option maxHeartbeats 4000000 in
theorem D_lay {h : AH} {K : Option Value → AH → Prop} {kp yd qk pm n ht p s : Nat} {pg ks : Nat → Nat} {stp fl : Int32} {m : Nat} {hd : HD} {w : SV} {I : Nat → Int32} {sd hh : Int64} {F : AF} (g : MH h I sd hh F) (r : MR (kp, yd, qk, pm, pg, (n, ks, ht, p, s, stp, fl, m, hd), w) I F) (ok : Sok (kp, yd, qk, pm, pg, (n, ks, ht, p, s, stp, fl, m, hd), w)) (x y : Int32) (hK : ∀ h' : AH, MJ h' (spLay (kp, yd, qk, pm, pg, (n, ks, ht, p, s, stp, fl, m, hd), w) x y).2 → fr h h' 34 47 → K (some (.int (spLay (kp, yd, qk, pm, pg, (n, ks, ht, p, s, stp, fl, m, hd), w) x y).1)) h') : aX7_lay 2 [.ref 34, .int x, .int y] h K := by
  obtain ⟨g0, a0, a1, a2, a3, a4, a5, a6, a7, a8, a9, a10, a11⟩ := id g
  obtain ⟨⟨e0, e1, e3, e4, e5, e6, e7, e8, e13, e14⟩, rk, rh, rp, rkp, rk0⟩ := id r
  obtain ⟨⟨ok1, ok2, ok3, ok4, ok5, ok6, ok7, ok8⟩, okp, okw, okq, okpm, okpg, oky⟩ := id ok
  have hp12 : p < 12 := by
    rcases Nat.eq_zero_or_pos n with e | e
    · have := ok8 e; omega
    · have := ok7 e; omega
  refine AM.of [some (.ref 34), some (.int x), some (.int y), none] pn_X7_lay rfl (Nat.le_of_ble_eq_true rfl) (fun X hX hE => ?_)
  refine AW_aload_n 1 hX dX7_lay_0 rfl rfl ?_
  refine AW_iload_n 2 hX dX7_lay_1 rfl rfl ?_
  refine AW_cV (As := [_]) 5 hX dX7_lay_2 rfl ml_X7_104 mw_X7_isPlace (by first | assumption | exact hset_eq | exact (hset_ne (by omega)).trans (by first | assumption | exact hset_eq | exact (hset_ne (by omega)).trans (by first | assumption | exact hset_eq | exact (hset_ne (by omega)).trans (by first | assumption | exact hset_eq | exact (hset_ne (by omega)).trans (by first | assumption | exact hset_eq))))) (by decide) rfl rfl rfl (Nat.le_of_ble_eq_true rfl) (by decide) ⟨(Nat.le_refl _), (Nat.le_refl _)⟩ (M_isPlace g e1 ok1 x (fun q hq eq => ?_) (fun hno => ?_))
  · subst eq
    refine AW_if_ne 8 11 hX dX7_lay_5 rfl (by decide) (fun c5 => ?_) (fun c5 => absurd c5 (by decide))
    refine AW_iload_n 12 hX dX7_lay_11 rfl rfl ?_
    refine AW_iconst 13 hX dX7_lay_12 rfl ic_0 ?_
    refine AW_iconst 14 hX dX7_lay_13 rfl ic_4 ?_
    refine AW_cS (As := [_, _, _]) 17 hX dX7_lay_14 rfl ml_X7_47 mw_X7_within rfl rfl (Nat.le_of_ble_eq_true rfl) (by decide) ⟨(Nat.le_refl _), (Nat.le_refl _)⟩ (M_within _ _ _ (fun w1 w2 => ?_) (fun w1 => ?_))
    · obtain ⟨k, -, hk4, ek⟩ := rg (x := y) 0 4 (by decide) (by decide) w1 w2
      subst ek
      refine AW_if_ne 20 23 hX dX7_lay_17 rfl (by decide) (fun c17 => ?_) (fun c17 => absurd c17 (by decide))
      refine AW_aload_n 24 hX dX7_lay_23 rfl rfl ?_
      refine AW_get 27 hX dX7_lay_24 rfl fl_X7_7 (by first | assumption | exact hset_eq | exact (hset_ne (by omega)).trans (by first | assumption | exact hset_eq | exact (hset_ne (by omega)).trans (by first | assumption | exact hset_eq | exact (hset_ne (by omega)).trans (by first | assumption | exact hset_eq | exact (hset_ne (by omega)).trans (by first | assumption | exact hset_eq))))) rfl ?_
      refine AW_iload_n 28 hX dX7_lay_27 rfl rfl ?_
      refine AW_iald 29 hX dX7_lay_28 rfl (by first | assumption | exact hset_eq | exact (hset_ne (by omega)).trans (by first | assumption | exact hset_eq | exact (hset_ne (by omega)).trans (by first | assumption | exact hset_eq | exact (hset_ne (by omega)).trans (by first | assumption | exact hset_eq | exact (hset_ne (by omega)).trans (by first | assumption | exact hset_eq))))) (j := q) (by omega) rfl ?_
      rw [rk q hq]
      refine AW_istore_n 30 hX dX7_lay_29 rfl (Nat.le_of_ble_eq_true rfl) rfl ?_
      refine AW_aload_n 31 hX dX7_lay_30 rfl rfl ?_
      refine AW_get 34 hX dX7_lay_31 rfl fl_X7_7 (by first | assumption | exact hset_eq | exact (hset_ne (by omega)).trans (by first | assumption | exact hset_eq | exact (hset_ne (by omega)).trans (by first | assumption | exact hset_eq | exact (hset_ne (by omega)).trans (by first | assumption | exact hset_eq | exact (hset_ne (by omega)).trans (by first | assumption | exact hset_eq))))) rfl ?_
      refine AW_iload_n 35 hX dX7_lay_34 rfl rfl ?_
      refine AW_iload_n 36 hX dX7_lay_35 rfl rfl ?_
      refine AW_iast 37 hX dX7_lay_36 rfl (by first | assumption | exact hset_eq | exact (hset_ne (by omega)).trans (by first | assumption | exact hset_eq | exact (hset_ne (by omega)).trans (by first | assumption | exact hset_eq | exact (hset_ne (by omega)).trans (by first | assumption | exact hset_eq | exact (hset_ne (by omega)).trans (by first | assumption | exact hset_eq))))) (j := q) (by omega) rfl ?_
      try rw [hset_hset]
      refine AW_iload_n 38 hX dX7_lay_37 rfl rfl ?_
      refine AW_iret hX hE dX7_lay_38 rfl (Nat.le_refl _) (Nat.le_refl _) ?_
      have e : spLay (kp, yd, qk, pm, pg, (n, ks, ht, p, s, stp, fl, m, hd), w) (nI q) (nI k) = (nI (ks q), (kp, yd, qk, pm, pg, (n, fun j => if j = q then k else ks j, ht, p, s, stp, fl, m, hd), w)) := by
        show cif _ _ _ = _
        rw [cif_pos ⟨q, hq, rfl⟩, cif_pos ⟨k, by omega, rfl⟩, cN_nI (by omega), cN_nI (by omega)]
      rw [e] at hK
      refine hK _ ⟨_, _, _, _, MH_arr0 g, ⟨⟨e0, e1, e3, e4, e5, e6, e7, e8, e13, e14⟩, fun j hj => ?_, rh, rp, rkp, rk0⟩⟩ (fr_set (by omega) (by omega))
      show upd (F 0) q (nI k) j = nI (if j = q then k else ks j)
      simp only [upd]
      split
      · rfl
      · exact rk j hj
    · refine AW_if_ne 20 23 hX dX7_lay_17 rfl (by decide) (fun c17 => absurd rfl c17) (fun c17 => ?_)
      refine AW_bipush 22 hX dX7_lay_20 rfl bp_m102 ?_
      refine AW_iret hX hE dX7_lay_22 rfl (Nat.le_refl _) (Nat.le_refl _) ?_
      have e : spLay (kp, yd, qk, pm, pg, (n, ks, ht, p, s, stp, fl, m, hd), w) (nI q) y = (-102, (kp, yd, qk, pm, pg, (n, ks, ht, p, s, stp, fl, m, hd), w)) := by
        show cif _ _ _ = _
        rw [cif_pos ⟨q, hq, rfl⟩, cif_neg (isP_nx (N := 4) (by decide) w1)]
      rw [e] at hK
      exact hK h ⟨I, sd, hh, F, g, r⟩ (fr_rf _ _ _)
  · refine AW_if_ne 8 11 hX dX7_lay_5 rfl (by decide) (fun c5 => absurd rfl c5) (fun c5 => ?_)
    refine AW_bipush 10 hX dX7_lay_8 rfl bp_m101 ?_
    refine AW_iret hX hE dX7_lay_10 rfl (Nat.le_refl _) (Nat.le_refl _) ?_
    have e : spLay (kp, yd, qk, pm, pg, (n, ks, ht, p, s, stp, fl, m, hd), w) x y = (-101, (kp, yd, qk, pm, pg, (n, ks, ht, p, s, stp, fl, m, hd), w)) := by
      show cif _ _ _ = _
      rw [cif_neg (fun ⟨q, hq, eq⟩ => hno q hq eq)]
    rw [e] at hK
    exact hK h ⟨I, sd, hh, F, g, r⟩ (fr_rf _ _ _)
set_option maxRecDepth 100000 in
set_option maxHeartbeats 4000000 in
theorem D_blocks {h : AH} {K : Option Value → AH → Prop} {kp yd qk pm n ht p s : Nat} {pg ks : Nat → Nat} {stp fl : Int32} {m : Nat} {hd : HD} {w : SV} {I : Nat → Int32} {sd hh : Int64} {F : AF} (g : MH h I sd hh F) (r : MR (kp, yd, qk, pm, pg, (n, ks, ht, p, s, stp, fl, m, hd), w) I F) (ok : Sok (kp, yd, qk, pm, pg, (n, ks, ht, p, s, stp, fl, m, hd), w)) (x : Int32) (hK : ∀ h' : AH, MJ h' (spBlocks (kp, yd, qk, pm, pg, (n, ks, ht, p, s, stp, fl, m, hd), w) x).2 → fr h h' 34 47 → K (some (.int (spBlocks (kp, yd, qk, pm, pg, (n, ks, ht, p, s, stp, fl, m, hd), w) x).1)) h') : aX7_blocks 1 [.ref 34, .int x] h K := by
  obtain ⟨g0, a0, a1, a2, a3, a4, a5, a6, a7, a8, a9, a10, a11⟩ := id g
  obtain ⟨⟨e0, e1, e3, e4, e5, e6, e7, e8, e13, e14⟩, rk, rh, rp, rkp, rk0⟩ := id r
  obtain ⟨⟨ok1, ok2, ok3, ok4, ok5, ok6, ok7, ok8⟩, okp, okw, okq, okpm, okpg, oky⟩ := id ok
  have hp12 : p < 12 := by
    rcases Nat.eq_zero_or_pos n with e | e
    · have := ok8 e; omega
    · have := ok7 e; omega
  refine AM.of [some (.ref 34), some (.int x), none] pn_X7_blocks rfl (Nat.le_of_ble_eq_true rfl) (fun X hX hE => ?_)
  refine AW_iload_n 1 hX dX7_blocks_0 rfl rfl ?_
  refine AW_iconst 2 hX dX7_blocks_1 rfl ic_1 ?_
  refine AW_bipush 4 hX dX7_blocks_2 rfl bp_9 ?_
  refine AW_cS (As := [_, _, _]) 7 hX dX7_blocks_4 rfl ml_X7_47 mw_X7_within rfl rfl (Nat.le_of_ble_eq_true rfl) (by decide) ⟨(Nat.le_refl _), (Nat.le_refl _)⟩ (M_within _ _ _ (fun w1 w2 => ?_) (fun w1 => ?_))
  · obtain ⟨c, hc1, hc2, ec⟩ := rg (x := x) 1 9 (by decide) (by decide) w1 w2
    subst ec
    have hcif : ¬ (nI c < 1 ∨ 9 < nI c) := rgI (lo := 1) (hi := 9) (by decide) rfl hc1 hc2
    refine AW_if_ne 10 13 hX dX7_blocks_7 rfl (by decide) (fun c7 => ?_) (fun c7 => absurd c7 (by decide))
    refine AW_aload_n 14 hX dX7_blocks_13 rfl rfl ?_
    refine AW_get 17 hX dX7_blocks_14 rfl fl_X7_73 (by first | assumption | exact hset_eq | exact (hset_ne (by omega)).trans (by first | assumption | exact hset_eq | exact (hset_ne (by omega)).trans (by first | assumption | exact hset_eq | exact (hset_ne (by omega)).trans (by first | assumption | exact hset_eq | exact (hset_ne (by omega)).trans (by first | assumption | exact hset_eq))))) rfl ?_
    rw [e1]
    refine AW_if_ne 20 23 hX dX7_blocks_17 rfl (by decide) (fun c17 => ?_) (fun c17 => ?_)
    · refine AW_aload_n 24 hX dX7_blocks_23 rfl rfl ?_
      refine AW_get 27 hX dX7_blocks_24 rfl fl_X7_76 (by first | assumption | exact hset_eq | exact (hset_ne (by omega)).trans (by first | assumption | exact hset_eq | exact (hset_ne (by omega)).trans (by first | assumption | exact hset_eq | exact (hset_ne (by omega)).trans (by first | assumption | exact hset_eq | exact (hset_ne (by omega)).trans (by first | assumption | exact hset_eq))))) rfl ?_
      refine AW_istore_n 28 hX dX7_blocks_27 rfl (Nat.le_of_ble_eq_true rfl) rfl ?_
      refine AW_aload_n 29 hX dX7_blocks_28 rfl rfl ?_
      refine AW_iload_n 30 hX dX7_blocks_29 rfl rfl ?_
      refine AW_put 33 hX dX7_blocks_30 rfl fl_X7_76 (by first | assumption | exact hset_eq | exact (hset_ne (by omega)).trans (by first | assumption | exact hset_eq | exact (hset_ne (by omega)).trans (by first | assumption | exact hset_eq | exact (hset_ne (by omega)).trans (by first | assumption | exact hset_eq | exact (hset_ne (by omega)).trans (by first | assumption | exact hset_eq))))) rfl (fun _ => rfl) (fun _ => rfl) (Nat.le_of_ble_eq_true rfl) ?_
      rw [mo_set3]
      try rw [hset_hset]
      refine AW_aload_n 34 hX dX7_blocks_33 rfl rfl ?_
      refine AW_iconst 35 hX dX7_blocks_34 rfl ic_0 ?_
      refine AW_put 38 hX dX7_blocks_35 rfl fl_X7_82 (by first | assumption | exact hset_eq | exact (hset_ne (by omega)).trans (by first | assumption | exact hset_eq | exact (hset_ne (by omega)).trans (by first | assumption | exact hset_eq | exact (hset_ne (by omega)).trans (by first | assumption | exact hset_eq | exact (hset_ne (by omega)).trans (by first | assumption | exact hset_eq))))) rfl (fun _ => rfl) (fun _ => rfl) (Nat.le_of_ble_eq_true rfl) ?_
      rw [mo_set4]
      try rw [hset_hset]
      refine AW_aload_n 39 hX dX7_blocks_38 rfl rfl ?_
      refine AW_iconst 40 hX dX7_blocks_39 rfl ic_0 ?_
      refine AW_put 43 hX dX7_blocks_40 rfl fl_X7_85 (by first | assumption | exact hset_eq | exact (hset_ne (by omega)).trans (by first | assumption | exact hset_eq | exact (hset_ne (by omega)).trans (by first | assumption | exact hset_eq | exact (hset_ne (by omega)).trans (by first | assumption | exact hset_eq | exact (hset_ne (by omega)).trans (by first | assumption | exact hset_eq))))) rfl (fun _ => rfl) (fun _ => rfl) (Nat.le_of_ble_eq_true rfl) ?_
      rw [mo_set5]
      try rw [hset_hset]
      refine AW_iload_n 44 hX dX7_blocks_43 rfl rfl ?_
      refine AW_iret hX hE dX7_blocks_44 rfl (Nat.le_refl _) (Nat.le_refl _) ?_
      have hn := iNe (b := 0) c17
      have e : spBlocks (kp, yd, qk, pm, pg, (n, ks, ht, p, s, stp, fl, m, hd), w) (nI c) = (nI ht, (kp, yd, qk, pm, pg, (n, ks, c, 0, 0, stp, fl, m, hd), w)) := by
        show cif _ _ _ = _
        rw [cif_neg hcif, cif_neg hn, cN_nI (by omega)]
      rw [e] at hK
      rw [e3]
      exact hK _ ⟨_, _, _, _, MH_obj g, ⟨⟨e0, e1, rfl, rfl, rfl, e6, e7, e8, e13, e14⟩, rk, rh, rp, rkp, rk0⟩⟩ (fr_set (by omega) (by omega))
    · refine AW_bipush 22 hX dX7_blocks_20 rfl bp_m103 ?_
      refine AW_iret hX hE dX7_blocks_22 rfl (Nat.le_refl _) (Nat.le_refl _) ?_
      have e : spBlocks (kp, yd, qk, pm, pg, (n, ks, ht, p, s, stp, fl, m, hd), w) (nI c) = (-103, (kp, yd, qk, pm, pg, (n, ks, ht, p, s, stp, fl, m, hd), w)) := by
        show cif _ _ _ = _
        rw [cif_neg hcif, cif_pos (iEq (b := 0) c17)]
      rw [e] at hK
      exact hK h ⟨I, sd, hh, F, g, r⟩ (fr_rf _ _ _)
  · refine AW_if_ne 10 13 hX dX7_blocks_7 rfl (by decide) (fun c7 => absurd rfl c7) (fun c7 => ?_)
    refine AW_bipush 12 hX dX7_blocks_10 rfl bp_m102 ?_
    refine AW_iret hX hE dX7_blocks_12 rfl (Nat.le_refl _) (Nat.le_refl _) ?_
    have e : spBlocks (kp, yd, qk, pm, pg, (n, ks, ht, p, s, stp, fl, m, hd), w) x = (-102, (kp, yd, qk, pm, pg, (n, ks, ht, p, s, stp, fl, m, hd), w)) := by
      show cif _ _ _ = _
      rw [cif_pos w1]
    rw [e] at hK
    exact hK h ⟨I, sd, hh, F, g, r⟩ (fr_rf _ _ _)
set_option maxRecDepth 100000 in
set_option maxHeartbeats 4000000 in
theorem M_goes {h : AH} {K : Option Value → AH → Prop} {I : Nat → Int32} {sd hh : Int64} {F : AF} (g : MH h I sd hh F) {n p s ht : Nat} {ks : Nat → Nat} (rk : ∀ j, j < n → F 0 j = nI (ks j)) (ok2 : ∀ j, j < n → ks j ≤ 4) (hn12 : n ≤ 12) (e3 : I 3 = nI ht) (e4 : I 4 = nI p) (e5 : I 5 = nI s) (hht : ht ≤ 12) (hs : s < 58) (far : Nat) (hf : far ≤ 3) (hp : p + far < n) (h1 : ¬ 12 - ht < sa (ks (p + far)) s far → K (some (.int 1)) (hset h 34 (.inl (6, mo (upd (upd I 4 (nI (p + far))) 5 (nI (sa (ks (p + far)) s far))) sd hh)))) (h0 : 12 - ht < sa (ks (p + far)) s far → K (some (.int 0)) (hset h 34 (.inl (6, mo (upd (upd I 4 0) 5 0) sd hh)))) : aX7_goes 1 [.ref 34, .int (nI far)] h K := by
  obtain ⟨g0, a0, -⟩ := id g
  have hsa := sa_le (k := ks (p + far)) (s := s) hf
  refine AM.of [some (.ref 34), some (.int (nI far)), none, none] pn_X7_goes rfl (Nat.le_of_ble_eq_true rfl) (fun X hX hE => ?_)
  refine AW_aload_n 1 hX dX7_goes_0 rfl rfl ?_
  refine AW_aload_n 2 hX dX7_goes_1 rfl rfl ?_
  refine AW_get 5 hX dX7_goes_2 rfl fl_X7_82 (by first | assumption | exact hset_eq | exact (hset_ne (by omega)).trans (by first | assumption | exact hset_eq | exact (hset_ne (by omega)).trans (by first | assumption | exact hset_eq | exact (hset_ne (by omega)).trans (by first | assumption | exact hset_eq | exact (hset_ne (by omega)).trans (by first | assumption | exact hset_eq))))) rfl ?_
  refine AW_iload_n 6 hX dX7_goes_5 rfl rfl ?_
  rw [e4]
  refine AW_iadd 7 hX dX7_goes_6 rfl ?_
  rw [nI_add]
  refine AW_iload_n 8 hX dX7_goes_7 rfl rfl ?_
  refine AW_aload_n 9 hX dX7_goes_8 rfl rfl ?_
  refine AW_get 12 hX dX7_goes_9 rfl fl_X7_85 (by first | assumption | exact hset_eq | exact (hset_ne (by omega)).trans (by first | assumption | exact hset_eq | exact (hset_ne (by omega)).trans (by first | assumption | exact hset_eq | exact (hset_ne (by omega)).trans (by first | assumption | exact hset_eq | exact (hset_ne (by omega)).trans (by first | assumption | exact hset_eq))))) rfl ?_
  rw [e5]
  refine AW_cV (As := [_, _, _]) 15 hX dX7_goes_12 rfl ml_X7_97 mw_X7_swayBy (by first | assumption | exact hset_eq | exact (hset_ne (by omega)).trans (by first | assumption | exact hset_eq | exact (hset_ne (by omega)).trans (by first | assumption | exact hset_eq | exact (hset_ne (by omega)).trans (by first | assumption | exact hset_eq | exact (hset_ne (by omega)).trans (by first | assumption | exact hset_eq))))) (by decide) rfl rfl rfl (Nat.le_of_ble_eq_true rfl) (by decide) ⟨(Nat.le_refl _), (Nat.le_refl _)⟩ (M_swayBy g (p := p + far) (by omega) (rk _ hp) (ok2 _ hp) far s (by omega) (by omega) ?_)
  refine AW_istore_n 16 hX dX7_goes_15 rfl (Nat.le_of_ble_eq_true rfl) rfl ?_
  refine AW_iload_n 17 hX dX7_goes_16 rfl rfl ?_
  refine AW_aload_n 18 hX dX7_goes_17 rfl rfl ?_
  refine AW_get 21 hX dX7_goes_18 rfl fl_X7_76 (by first | assumption | exact hset_eq | exact (hset_ne (by omega)).trans (by first | assumption | exact hset_eq | exact (hset_ne (by omega)).trans (by first | assumption | exact hset_eq | exact (hset_ne (by omega)).trans (by first | assumption | exact hset_eq | exact (hset_ne (by omega)).trans (by first | assumption | exact hset_eq))))) rfl ?_
  rw [e3]
  refine AW_cS (As := [_]) 24 hX dX7_goes_21 rfl ml_X7_112 mw_X7_bears rfl rfl (Nat.le_of_ble_eq_true rfl) (by decide) ⟨(Nat.le_refl _), (Nat.le_refl _)⟩ (M_bears ht hht ?_)
  refine AW_icmp_gt 27 31 hX dX7_goes_24 rfl (by decide) (fun c24 => ?_) (fun c24 => ?_)
  · refine AW_iconst 32 hX dX7_goes_31 rfl ic_0 ?_
    refine AW_istore_n 33 hX dX7_goes_32 rfl (Nat.le_of_ble_eq_true rfl) rfl ?_
    refine AW_aload_n 34 hX dX7_goes_33 rfl rfl ?_
    refine AW_iload_n 35 hX dX7_goes_34 rfl rfl ?_
    refine AW_if_eq 38 47 hX dX7_goes_35 rfl (by decide) (fun c35 => ?_) (fun c35 => absurd rfl c35)
    refine AW_iconst 48 hX dX7_goes_47 rfl ic_0 ?_
    refine AW_put 51 hX dX7_goes_48 rfl fl_X7_82 (by first | assumption | exact hset_eq | exact (hset_ne (by omega)).trans (by first | assumption | exact hset_eq | exact (hset_ne (by omega)).trans (by first | assumption | exact hset_eq | exact (hset_ne (by omega)).trans (by first | assumption | exact hset_eq | exact (hset_ne (by omega)).trans (by first | assumption | exact hset_eq))))) rfl (fun _ => rfl) (fun _ => rfl) (Nat.le_of_ble_eq_true rfl) ?_
    rw [mo_set4]
    try rw [hset_hset]
    refine AW_aload_n 52 hX dX7_goes_51 rfl rfl ?_
    refine AW_iload_n 53 hX dX7_goes_52 rfl rfl ?_
    refine AW_if_eq 56 60 hX dX7_goes_53 rfl (by decide) (fun c53 => ?_) (fun c53 => absurd rfl c53)
    refine AW_iconst 61 hX dX7_goes_60 rfl ic_0 ?_
    refine AW_put 64 hX dX7_goes_61 rfl fl_X7_85 (by first | assumption | exact hset_eq | exact (hset_ne (by omega)).trans (by first | assumption | exact hset_eq | exact (hset_ne (by omega)).trans (by first | assumption | exact hset_eq | exact (hset_ne (by omega)).trans (by first | assumption | exact hset_eq | exact (hset_ne (by omega)).trans (by first | assumption | exact hset_eq))))) rfl (fun _ => rfl) (fun _ => rfl) (Nat.le_of_ble_eq_true rfl) ?_
    rw [mo_set5]
    try rw [hset_hset]
    refine AW_iload_n 65 hX dX7_goes_64 rfl rfl ?_
    refine AW_iret hX hE dX7_goes_65 rfl (Nat.le_refl _) (Nat.le_refl _) ?_
    exact h0 (iLt c24)
  · refine AW_iconst 28 hX dX7_goes_27 rfl ic_1 ?_
    refine AW_goto 32 hX dX7_goes_28 (by decide) ?_
    refine AW_istore_n 33 hX dX7_goes_32 rfl (Nat.le_of_ble_eq_true rfl) rfl ?_
    refine AW_aload_n 34 hX dX7_goes_33 rfl rfl ?_
    refine AW_iload_n 35 hX dX7_goes_34 rfl rfl ?_
    refine AW_if_eq 38 47 hX dX7_goes_35 rfl (by decide) (fun c35 => absurd c35 (by decide)) (fun c35 => ?_)
    refine AW_aload_n 39 hX dX7_goes_38 rfl rfl ?_
    refine AW_get 42 hX dX7_goes_39 rfl fl_X7_82 (by first | assumption | exact hset_eq | exact (hset_ne (by omega)).trans (by first | assumption | exact hset_eq | exact (hset_ne (by omega)).trans (by first | assumption | exact hset_eq | exact (hset_ne (by omega)).trans (by first | assumption | exact hset_eq | exact (hset_ne (by omega)).trans (by first | assumption | exact hset_eq))))) rfl ?_
    rw [e4]
    refine AW_iload_n 43 hX dX7_goes_42 rfl rfl ?_
    refine AW_iadd 44 hX dX7_goes_43 rfl ?_
    rw [nI_add]
    refine AW_goto 48 hX dX7_goes_44 (by decide) ?_
    refine AW_put 51 hX dX7_goes_48 rfl fl_X7_82 (by first | assumption | exact hset_eq | exact (hset_ne (by omega)).trans (by first | assumption | exact hset_eq | exact (hset_ne (by omega)).trans (by first | assumption | exact hset_eq | exact (hset_ne (by omega)).trans (by first | assumption | exact hset_eq | exact (hset_ne (by omega)).trans (by first | assumption | exact hset_eq))))) rfl (fun _ => rfl) (fun _ => rfl) (Nat.le_of_ble_eq_true rfl) ?_
    rw [mo_set4]
    try rw [hset_hset]
    refine AW_aload_n 52 hX dX7_goes_51 rfl rfl ?_
    refine AW_iload_n 53 hX dX7_goes_52 rfl rfl ?_
    refine AW_if_eq 56 60 hX dX7_goes_53 rfl (by decide) (fun c53 => absurd c53 (by decide)) (fun c53 => ?_)
    refine AW_iload_n 57 hX dX7_goes_56 rfl rfl ?_
    refine AW_goto 61 hX dX7_goes_57 (by decide) ?_
    refine AW_put 64 hX dX7_goes_61 rfl fl_X7_85 (by first | assumption | exact hset_eq | exact (hset_ne (by omega)).trans (by first | assumption | exact hset_eq | exact (hset_ne (by omega)).trans (by first | assumption | exact hset_eq | exact (hset_ne (by omega)).trans (by first | assumption | exact hset_eq | exact (hset_ne (by omega)).trans (by first | assumption | exact hset_eq))))) rfl (fun _ => rfl) (fun _ => rfl) (Nat.le_of_ble_eq_true rfl) ?_
    rw [mo_set5]
    try rw [hset_hset]
    refine AW_iload_n 65 hX dX7_goes_64 rfl rfl ?_
    refine AW_iret hX hE dX7_goes_65 rfl (Nat.le_refl _) (Nat.le_refl _) ?_
    exact h1 (by have := iNlt c24; omega)
set_option maxRecDepth 100000 in
set_option maxHeartbeats 4000000 in
theorem D_step {h : AH} {K : Option Value → AH → Prop} {kp yd qk pm n ht p s : Nat} {pg ks : Nat → Nat} {stp fl : Int32} {m : Nat} {hd : HD} {w : SV} {I : Nat → Int32} {sd hh : Int64} {F : AF} (g : MH h I sd hh F) (r : MR (kp, yd, qk, pm, pg, (n, ks, ht, p, s, stp, fl, m, hd), w) I F) (ok : Sok (kp, yd, qk, pm, pg, (n, ks, ht, p, s, stp, fl, m, hd), w)) (x : Int32) (hK : ∀ h' : AH, MJ h' (spStep (kp, yd, qk, pm, pg, (n, ks, ht, p, s, stp, fl, m, hd), w) x).2 → fr h h' 34 47 → K (some (.int (spStep (kp, yd, qk, pm, pg, (n, ks, ht, p, s, stp, fl, m, hd), w) x).1)) h') : aX7_step 2 [.ref 34, .int x] h K := by
  obtain ⟨g0, a0, a1, a2, a3, a4, a5, a6, a7, a8, a9, a10, a11⟩ := id g
  obtain ⟨⟨e0, e1, e3, e4, e5, e6, e7, e8, e13, e14⟩, rk, rh, rp, rkp, rk0⟩ := id r
  obtain ⟨⟨ok1, ok2, ok3, ok4, ok5, ok6, ok7, ok8⟩, okp, okw, okq, okpm, okpg, oky⟩ := id ok
  have hp12 : p < 12 := by
    rcases Nat.eq_zero_or_pos n with e | e
    · have := ok8 e; omega
    · have := ok7 e; omega
  refine AM.of [some (.ref 34), some (.int x)] pn_X7_step rfl (Nat.le_of_ble_eq_true rfl) (fun X hX hE => ?_)
  refine AW_iload_n 1 hX dX7_step_0 rfl rfl ?_
  refine AW_iconst 2 hX dX7_step_1 rfl ic_0 ?_
  refine AW_iconst 3 hX dX7_step_2 rfl ic_3 ?_
  refine AW_cS (As := [_, _, _]) 6 hX dX7_step_3 rfl ml_X7_47 mw_X7_within rfl rfl (Nat.le_of_ble_eq_true rfl) (by decide) ⟨(Nat.le_refl _), (Nat.le_refl _)⟩ (M_within _ _ _ (fun w1 w2 => ?_) (fun w1 => ?_))
  · obtain ⟨far, -, hf, ef⟩ := rg (x := x) 0 3 (by decide) (by decide) w1 w2
    subst ef
    refine AW_if_ne 9 12 hX dX7_step_6 rfl (by decide) (fun c6 => ?_) (fun c6 => absurd c6 (by decide))
    refine AW_aload_n 13 hX dX7_step_12 rfl rfl ?_
    refine AW_aload_n 14 hX dX7_step_13 rfl rfl ?_
    refine AW_get 17 hX dX7_step_14 rfl fl_X7_82 (by first | assumption | exact hset_eq | exact (hset_ne (by omega)).trans (by first | assumption | exact hset_eq | exact (hset_ne (by omega)).trans (by first | assumption | exact hset_eq | exact (hset_ne (by omega)).trans (by first | assumption | exact hset_eq | exact (hset_ne (by omega)).trans (by first | assumption | exact hset_eq))))) rfl ?_
    refine AW_iload_n 18 hX dX7_step_17 rfl rfl ?_
    rw [e4]
    refine AW_iadd 19 hX dX7_step_18 rfl ?_
    rw [nI_add]
    refine AW_cV (As := [_]) 22 hX dX7_step_19 rfl ml_X7_104 mw_X7_isPlace (by first | assumption | exact hset_eq | exact (hset_ne (by omega)).trans (by first | assumption | exact hset_eq | exact (hset_ne (by omega)).trans (by first | assumption | exact hset_eq | exact (hset_ne (by omega)).trans (by first | assumption | exact hset_eq | exact (hset_ne (by omega)).trans (by first | assumption | exact hset_eq))))) (by decide) rfl rfl rfl (Nat.le_of_ble_eq_true rfl) (by decide) ⟨(Nat.le_refl _), (Nat.le_refl _)⟩ (M_isPlace g e1 ok1 _ (fun q hq eq => ?_) (fun hno => ?_))
    · have hy : p + far < n := by have := iEq eq; omega
      refine AW_if_ne 25 28 hX dX7_step_22 rfl (by decide) (fun c22 => ?_) (fun c22 => absurd c22 (by decide))
      refine AW_aload_n 29 hX dX7_step_28 rfl rfl ?_
      refine AW_dup 30 hX dX7_step_29 rfl rfl ?_
      refine AW_get 33 hX dX7_step_30 rfl fl_X7_88 (by first | assumption | exact hset_eq | exact (hset_ne (by omega)).trans (by first | assumption | exact hset_eq | exact (hset_ne (by omega)).trans (by first | assumption | exact hset_eq | exact (hset_ne (by omega)).trans (by first | assumption | exact hset_eq | exact (hset_ne (by omega)).trans (by first | assumption | exact hset_eq))))) rfl ?_
      refine AW_iconst 34 hX dX7_step_33 rfl ic_1 ?_
      refine AW_iadd 35 hX dX7_step_34 rfl ?_
      refine AW_put 38 hX dX7_step_35 rfl fl_X7_88 (by first | assumption | exact hset_eq | exact (hset_ne (by omega)).trans (by first | assumption | exact hset_eq | exact (hset_ne (by omega)).trans (by first | assumption | exact hset_eq | exact (hset_ne (by omega)).trans (by first | assumption | exact hset_eq | exact (hset_ne (by omega)).trans (by first | assumption | exact hset_eq))))) rfl (fun _ => rfl) (fun _ => rfl) (Nat.le_of_ble_eq_true rfl) ?_
      rw [mo_set6]
      try rw [hset_hset]
      refine AW_aload_n 39 hX dX7_step_38 rfl rfl ?_
      refine AW_iload_n 40 hX dX7_step_39 rfl rfl ?_
      refine AW_cV (As := [_]) 43 hX dX7_step_40 rfl ml_X7_115 mw_X7_goes (by first | assumption | exact hset_eq | exact (hset_ne (by omega)).trans (by first | assumption | exact hset_eq | exact (hset_ne (by omega)).trans (by first | assumption | exact hset_eq | exact (hset_ne (by omega)).trans (by first | assumption | exact hset_eq | exact (hset_ne (by omega)).trans (by first | assumption | exact hset_eq))))) (by decide) rfl rfl rfl (Nat.le_of_ble_eq_true rfl) (by decide) ⟨(Nat.le_refl _), (Nat.le_refl _)⟩ (M_goes (I := upd I 6 (I 6 + 1)) (MH_obj g) rk ok2 ok1 e3 e4 e5 (by omega) (by omega) far hf hy (fun hfell => ?_) (fun hfell => ?_))
      · rw [hset_hset]
        refine AW_if_eq 46 51 hX dX7_step_43 rfl (by decide) (fun c43 => absurd c43 (by decide)) (fun c43 => ?_)
        refine AW_aload_n 47 hX dX7_step_46 rfl rfl ?_
        refine AW_get 50 hX dX7_step_47 rfl fl_X7_82 (by first | assumption | exact hset_eq | exact (hset_ne (by omega)).trans (by first | assumption | exact hset_eq | exact (hset_ne (by omega)).trans (by first | assumption | exact hset_eq | exact (hset_ne (by omega)).trans (by first | assumption | exact hset_eq | exact (hset_ne (by omega)).trans (by first | assumption | exact hset_eq))))) rfl ?_
        refine AW_iret hX hE dX7_step_50 rfl (Nat.le_refl _) (Nat.le_refl _) ?_
        have e : spStep (kp, yd, qk, pm, pg, (n, ks, ht, p, s, stp, fl, m, hd), w) (nI far) = (nI (p + far), (kp, yd, qk, pm, pg, (n, ks, ht, p + far, sa (ks (p + far)) s far, stp + 1, fl, m, hd), w)) := by
          show cif _ _ _ = _
          rw [cif_pos ⟨far, by omega, rfl⟩, cN_nI (by omega), cif_pos hy, cif_neg hfell]
        rw [e] at hK
        exact hK _ ⟨_, _, _, _, MH_obj g, ⟨⟨e0, e1, e3, rfl, rfl, congrArg (· + 1) e6, e7, e8, e13, e14⟩, rk, rh, rp, rkp, rk0⟩⟩ (fr_set (by omega) (by omega))
      · rw [hset_hset]
        refine AW_if_eq 46 51 hX dX7_step_43 rfl (by decide) (fun c43 => ?_) (fun c43 => absurd rfl c43)
        refine AW_aload_n 52 hX dX7_step_51 rfl rfl ?_
        refine AW_dup 53 hX dX7_step_52 rfl rfl ?_
        refine AW_get 56 hX dX7_step_53 rfl fl_X7_91 (by first | assumption | exact hset_eq | exact (hset_ne (by omega)).trans (by first | assumption | exact hset_eq | exact (hset_ne (by omega)).trans (by first | assumption | exact hset_eq | exact (hset_ne (by omega)).trans (by first | assumption | exact hset_eq | exact (hset_ne (by omega)).trans (by first | assumption | exact hset_eq))))) rfl ?_
        refine AW_iconst 57 hX dX7_step_56 rfl ic_1 ?_
        refine AW_iadd 58 hX dX7_step_57 rfl ?_
        refine AW_put 61 hX dX7_step_58 rfl fl_X7_91 (by first | assumption | exact hset_eq | exact (hset_ne (by omega)).trans (by first | assumption | exact hset_eq | exact (hset_ne (by omega)).trans (by first | assumption | exact hset_eq | exact (hset_ne (by omega)).trans (by first | assumption | exact hset_eq | exact (hset_ne (by omega)).trans (by first | assumption | exact hset_eq))))) rfl (fun _ => rfl) (fun _ => rfl) (Nat.le_of_ble_eq_true rfl) ?_
        rw [mo_set7]
        try rw [hset_hset]
        refine AW_iconst 62 hX dX7_step_61 rfl ic_m1 ?_
        refine AW_iret hX hE dX7_step_62 rfl (Nat.le_refl _) (Nat.le_refl _) ?_
        have e : spStep (kp, yd, qk, pm, pg, (n, ks, ht, p, s, stp, fl, m, hd), w) (nI far) = (-1, (kp, yd, qk, pm, pg, (n, ks, ht, 0, 0, stp + 1, fl + 1, m, hd), w)) := by
          show cif _ _ _ = _
          rw [cif_pos ⟨far, by omega, rfl⟩, cN_nI (by omega), cif_pos hy, cif_pos hfell]
        rw [e] at hK
        exact hK _ ⟨_, _, _, _, MH_obj g, ⟨⟨e0, e1, e3, rfl, rfl, congrArg (· + 1) e6, congrArg (· + 1) e7, e8, e13, e14⟩, rk, rh, rp, rkp, rk0⟩⟩ (fr_set (by omega) (by omega))
    · refine AW_if_ne 25 28 hX dX7_step_22 rfl (by decide) (fun c22 => absurd rfl c22) (fun c22 => ?_)
      refine AW_bipush 27 hX dX7_step_25 rfl bp_m103 ?_
      refine AW_iret hX hE dX7_step_27 rfl (Nat.le_refl _) (Nat.le_refl _) ?_
      have e : spStep (kp, yd, qk, pm, pg, (n, ks, ht, p, s, stp, fl, m, hd), w) (nI far) = (-103, (kp, yd, qk, pm, pg, (n, ks, ht, p, s, stp, fl, m, hd), w)) := by
        show cif _ _ _ = _
        rw [cif_pos ⟨far, by omega, rfl⟩, cN_nI (by omega), cif_neg (fun q => hno _ q rfl)]
      rw [e] at hK
      exact hK h ⟨I, sd, hh, F, g, r⟩ (fr_rf _ _ _)
  · refine AW_if_ne 9 12 hX dX7_step_6 rfl (by decide) (fun c6 => absurd rfl c6) (fun c6 => ?_)
    refine AW_bipush 11 hX dX7_step_9 rfl bp_m102 ?_
    refine AW_iret hX hE dX7_step_11 rfl (Nat.le_refl _) (Nat.le_refl _) ?_
    have e : spStep (kp, yd, qk, pm, pg, (n, ks, ht, p, s, stp, fl, m, hd), w) x = (-102, (kp, yd, qk, pm, pg, (n, ks, ht, p, s, stp, fl, m, hd), w)) := by
      show cif _ _ _ = _
      rw [cif_neg (isP_nx (N := 3) (by decide) w1)]
    rw [e] at hK
    exact hK h ⟨I, sd, hh, F, g, r⟩ (fr_rf _ _ _)
set_option maxRecDepth 100000 in
set_option maxHeartbeats 4000000 in
theorem D_would {h : AH} {K : Option Value → AH → Prop} {kp yd qk pm n ht p s : Nat} {pg ks : Nat → Nat} {stp fl : Int32} {m : Nat} {hd : HD} {w : SV} {I : Nat → Int32} {sd hh : Int64} {F : AF} (g : MH h I sd hh F) (r : MR (kp, yd, qk, pm, pg, (n, ks, ht, p, s, stp, fl, m, hd), w) I F) (ok : Sok (kp, yd, qk, pm, pg, (n, ks, ht, p, s, stp, fl, m, hd), w)) (x : Int32) (hK : ∀ h' : AH, MJ h' (spWould (kp, yd, qk, pm, pg, (n, ks, ht, p, s, stp, fl, m, hd), w) x).2 → fr h h' 34 47 → K (some (.int (spWould (kp, yd, qk, pm, pg, (n, ks, ht, p, s, stp, fl, m, hd), w) x).1)) h') : aX7_would 2 [.ref 34, .int x] h K := by
  obtain ⟨g0, a0, a1, a2, a3, a4, a5, a6, a7, a8, a9, a10, a11⟩ := id g
  obtain ⟨⟨e0, e1, e3, e4, e5, e6, e7, e8, e13, e14⟩, rk, rh, rp, rkp, rk0⟩ := id r
  obtain ⟨⟨ok1, ok2, ok3, ok4, ok5, ok6, ok7, ok8⟩, okp, okw, okq, okpm, okpg, oky⟩ := id ok
  have hp12 : p < 12 := by
    rcases Nat.eq_zero_or_pos n with e | e
    · have := ok8 e; omega
    · have := ok7 e; omega
  refine AM.of [some (.ref 34), some (.int x)] pn_X7_would rfl (Nat.le_of_ble_eq_true rfl) (fun X hX hE => ?_)
  refine AW_iload_n 1 hX dX7_would_0 rfl rfl ?_
  refine AW_iconst 2 hX dX7_would_1 rfl ic_0 ?_
  refine AW_iconst 3 hX dX7_would_2 rfl ic_3 ?_
  refine AW_cS (As := [_, _, _]) 6 hX dX7_would_3 rfl ml_X7_47 mw_X7_within rfl rfl (Nat.le_of_ble_eq_true rfl) (by decide) ⟨(Nat.le_refl _), (Nat.le_refl _)⟩ (M_within _ _ _ (fun w1 w2 => ?_) (fun w1 => ?_))
  · obtain ⟨far, -, hf, ef⟩ := rg (x := x) 0 3 (by decide) (by decide) w1 w2
    subst ef
    refine AW_if_ne 9 12 hX dX7_would_6 rfl (by decide) (fun c6 => ?_) (fun c6 => absurd c6 (by decide))
    refine AW_aload_n 13 hX dX7_would_12 rfl rfl ?_
    refine AW_aload_n 14 hX dX7_would_13 rfl rfl ?_
    refine AW_get 17 hX dX7_would_14 rfl fl_X7_82 (by first | assumption | exact hset_eq | exact (hset_ne (by omega)).trans (by first | assumption | exact hset_eq | exact (hset_ne (by omega)).trans (by first | assumption | exact hset_eq | exact (hset_ne (by omega)).trans (by first | assumption | exact hset_eq | exact (hset_ne (by omega)).trans (by first | assumption | exact hset_eq))))) rfl ?_
    refine AW_iload_n 18 hX dX7_would_17 rfl rfl ?_
    rw [e4]
    refine AW_iadd 19 hX dX7_would_18 rfl ?_
    rw [nI_add]
    refine AW_cV (As := [_]) 22 hX dX7_would_19 rfl ml_X7_104 mw_X7_isPlace (by first | assumption | exact hset_eq | exact (hset_ne (by omega)).trans (by first | assumption | exact hset_eq | exact (hset_ne (by omega)).trans (by first | assumption | exact hset_eq | exact (hset_ne (by omega)).trans (by first | assumption | exact hset_eq | exact (hset_ne (by omega)).trans (by first | assumption | exact hset_eq))))) (by decide) rfl rfl rfl (Nat.le_of_ble_eq_true rfl) (by decide) ⟨(Nat.le_refl _), (Nat.le_refl _)⟩ (M_isPlace g e1 ok1 _ (fun q hq eq => ?_) (fun hno => ?_))
    · have hy : p + far < n := by have := iEq eq; omega
      refine AW_if_eq 25 43 hX dX7_would_22 rfl (by decide) (fun c22 => absurd c22 (by decide)) (fun c22 => ?_)
      refine AW_aload_n 26 hX dX7_would_25 rfl rfl ?_
      refine AW_aload_n 27 hX dX7_would_26 rfl rfl ?_
      refine AW_get 30 hX dX7_would_27 rfl fl_X7_82 (by first | assumption | exact hset_eq | exact (hset_ne (by omega)).trans (by first | assumption | exact hset_eq | exact (hset_ne (by omega)).trans (by first | assumption | exact hset_eq | exact (hset_ne (by omega)).trans (by first | assumption | exact hset_eq | exact (hset_ne (by omega)).trans (by first | assumption | exact hset_eq))))) rfl ?_
      refine AW_iload_n 31 hX dX7_would_30 rfl rfl ?_
      rw [e4]
      refine AW_iadd 32 hX dX7_would_31 rfl ?_
      rw [nI_add]
      refine AW_iload_n 33 hX dX7_would_32 rfl rfl ?_
      refine AW_aload_n 34 hX dX7_would_33 rfl rfl ?_
      refine AW_get 37 hX dX7_would_34 rfl fl_X7_85 (by first | assumption | exact hset_eq | exact (hset_ne (by omega)).trans (by first | assumption | exact hset_eq | exact (hset_ne (by omega)).trans (by first | assumption | exact hset_eq | exact (hset_ne (by omega)).trans (by first | assumption | exact hset_eq | exact (hset_ne (by omega)).trans (by first | assumption | exact hset_eq))))) rfl ?_
      rw [e5]
      refine AW_cV (As := [_, _, _]) 40 hX dX7_would_37 rfl ml_X7_97 mw_X7_swayBy (by first | assumption | exact hset_eq | exact (hset_ne (by omega)).trans (by first | assumption | exact hset_eq | exact (hset_ne (by omega)).trans (by first | assumption | exact hset_eq | exact (hset_ne (by omega)).trans (by first | assumption | exact hset_eq | exact (hset_ne (by omega)).trans (by first | assumption | exact hset_eq))))) (by decide) rfl rfl rfl (Nat.le_of_ble_eq_true rfl) (by decide) ⟨(Nat.le_refl _), (Nat.le_refl _)⟩ (M_swayBy g (p := p + far) (by omega) (rk _ hy) (ok2 _ hy) far s (by omega) (by omega) ?_)
      refine AW_goto 45 hX dX7_would_40 (by decide) ?_
      refine AW_iret hX hE dX7_would_45 rfl (Nat.le_refl _) (Nat.le_refl _) ?_
      have e : spWould (kp, yd, qk, pm, pg, (n, ks, ht, p, s, stp, fl, m, hd), w) (nI far) = (nI (sa (ks (p + far)) s far), (kp, yd, qk, pm, pg, (n, ks, ht, p, s, stp, fl, m, hd), w)) := by
        show (cif _ _ _, _) = _
        rw [cif_pos ⟨far, by omega, rfl⟩, cN_nI (by omega), cif_pos hy]
      rw [e] at hK
      exact hK h ⟨I, sd, hh, F, g, r⟩ (fr_rf _ _ _)
    · refine AW_if_eq 25 43 hX dX7_would_22 rfl (by decide) (fun c22 => ?_) (fun c22 => absurd rfl c22)
      refine AW_bipush 45 hX dX7_would_43 rfl bp_m103 ?_
      refine AW_iret hX hE dX7_would_45 rfl (Nat.le_refl _) (Nat.le_refl _) ?_
      have e : spWould (kp, yd, qk, pm, pg, (n, ks, ht, p, s, stp, fl, m, hd), w) (nI far) = (-103, (kp, yd, qk, pm, pg, (n, ks, ht, p, s, stp, fl, m, hd), w)) := by
        show (cif _ _ _, _) = _
        rw [cif_pos ⟨far, by omega, rfl⟩, cN_nI (by omega), cif_neg (fun q => hno _ q rfl)]
      rw [e] at hK
      exact hK h ⟨I, sd, hh, F, g, r⟩ (fr_rf _ _ _)
  · refine AW_if_ne 9 12 hX dX7_would_6 rfl (by decide) (fun c6 => absurd rfl c6) (fun c6 => ?_)
    refine AW_bipush 11 hX dX7_would_9 rfl bp_m102 ?_
    refine AW_iret hX hE dX7_would_11 rfl (Nat.le_refl _) (Nat.le_refl _) ?_
    have e : spWould (kp, yd, qk, pm, pg, (n, ks, ht, p, s, stp, fl, m, hd), w) x = (-102, (kp, yd, qk, pm, pg, (n, ks, ht, p, s, stp, fl, m, hd), w)) := by
      show (cif _ _ _, _) = _
      rw [cif_neg (isP_nx (N := 3) (by decide) w1)]
    rw [e] at hK
    exact hK h ⟨I, sd, hh, F, g, r⟩ (fr_rf _ _ _)
set_option maxRecDepth 100000 in
set_option maxHeartbeats 4000000 in
theorem D_hear {h : AH} {K : Option Value → AH → Prop} {kp yd qk pm n ht p s : Nat} {pg ks : Nat → Nat} {stp fl : Int32} {m : Nat} {hd : HD} {w : SV} {I : Nat → Int32} {sd hh : Int64} {F : AF} (g : MH h I sd hh F) (r : MR (kp, yd, qk, pm, pg, (n, ks, ht, p, s, stp, fl, m, hd), w) I F) (ok : Sok (kp, yd, qk, pm, pg, (n, ks, ht, p, s, stp, fl, m, hd), w)) (x y z : Int32) (b : Nat) (hb1 : b ≤ 1) (hK : ∀ h' : AH, MJ h' (spHear (kp, yd, qk, pm, pg, (n, ks, ht, p, s, stp, fl, m, hd), w) x y z (nI b)).2 → fr h h' 34 47 → K (some (.int (spHear (kp, yd, qk, pm, pg, (n, ks, ht, p, s, stp, fl, m, hd), w) x y z (nI b)).1)) h') : aX7_hear 2 [.ref 34, .int x, .int y, .int z, .int (nI b)] h K := by
  obtain ⟨g0, a0, a1, a2, a3, a4, a5, a6, a7, a8, a9, a10, a11⟩ := id g
  obtain ⟨⟨e0, e1, e3, e4, e5, e6, e7, e8, e13, e14⟩, rk, rh, rp, rkp, rk0⟩ := id r
  obtain ⟨⟨ok1, ok2, ok3, ok4, ok5, ok6, ok7, ok8⟩, okp, okw, okq, okpm, okpg, oky⟩ := id ok
  have hp12 : p < 12 := by
    rcases Nat.eq_zero_or_pos n with e | e
    · have := ok8 e; omega
    · have := ok7 e; omega
  refine AM.of [some (.ref 34), some (.int x), some (.int y), some (.int z), some (.int (nI b))] pn_X7_hear rfl (Nat.le_of_ble_eq_true rfl) (fun X hX hE => ?_)
  refine AW_aload_n 1 hX dX7_hear_0 rfl rfl ?_
  refine AW_iload_n 2 hX dX7_hear_1 rfl rfl ?_
  refine AW_cV (As := [_]) 5 hX dX7_hear_2 rfl ml_X7_104 mw_X7_isPlace (by first | assumption | exact hset_eq | exact (hset_ne (by omega)).trans (by first | assumption | exact hset_eq | exact (hset_ne (by omega)).trans (by first | assumption | exact hset_eq | exact (hset_ne (by omega)).trans (by first | assumption | exact hset_eq | exact (hset_ne (by omega)).trans (by first | assumption | exact hset_eq))))) (by decide) rfl rfl rfl (Nat.le_of_ble_eq_true rfl) (by decide) ⟨(Nat.le_refl _), (Nat.le_refl _)⟩ (M_isPlace g e1 ok1 x (fun q hq eq => ?_) (fun hno => ?_))
  · subst eq
    refine AW_if_ne 8 11 hX dX7_hear_5 rfl (by decide) (fun c5 => ?_) (fun c5 => absurd c5 (by decide))
    refine AW_iload_n 12 hX dX7_hear_11 rfl rfl ?_
    refine AW_iconst 13 hX dX7_hear_12 rfl ic_1 ?_
    refine AW_iconst 14 hX dX7_hear_13 rfl ic_3 ?_
    refine AW_cS (As := [_, _, _]) 17 hX dX7_hear_14 rfl ml_X7_47 mw_X7_within rfl rfl (Nat.le_of_ble_eq_true rfl) (by decide) ⟨(Nat.le_refl _), (Nat.le_refl _)⟩ (M_within _ _ _ (fun w1 w2 => ?_) (fun w1 => ?_))
    · obtain ⟨cy, hy1, hy2, ey⟩ := rg (x := y) 1 3 (by decide) (by decide) w1 w2
      subst ey
      refine AW_if_eq 20 30 hX dX7_hear_17 rfl (by decide) (fun c17 => absurd c17 (by decide)) (fun c17 => ?_)
      refine AW_iload_n 21 hX dX7_hear_20 rfl rfl ?_
      refine AW_iconst 22 hX dX7_hear_21 rfl ic_0 ?_
      refine AW_bipush 24 hX dX7_hear_22 rfl bp_11 ?_
      refine AW_cS (As := [_, _, _]) 27 hX dX7_hear_24 rfl ml_X7_47 mw_X7_within rfl rfl (Nat.le_of_ble_eq_true rfl) (by decide) ⟨(Nat.le_refl _), (Nat.le_refl _)⟩ (M_within _ _ _ (fun w3 w4 => ?_) (fun w3 => ?_))
      · obtain ⟨cz, hz1, hz2, ez⟩ := rg (x := z) 0 11 (by decide) (by decide) w3 w4
        subst ez
        refine AW_if_ne 30 33 hX dX7_hear_27 rfl (by decide) (fun c27 => ?_) (fun c27 => absurd c27 (by decide))
        refine AW_aload_n 34 hX dX7_hear_33 rfl rfl ?_
        refine AW_get 37 hX dX7_hear_34 rfl fl_X7_94 (by first | assumption | exact hset_eq | exact (hset_ne (by omega)).trans (by first | assumption | exact hset_eq | exact (hset_ne (by omega)).trans (by first | assumption | exact hset_eq | exact (hset_ne (by omega)).trans (by first | assumption | exact hset_eq | exact (hset_ne (by omega)).trans (by first | assumption | exact hset_eq))))) rfl ?_
        refine AW_bipush 39 hX dX7_hear_37 rfl bp_6 ?_
        rw [e8]
        refine AW_icmp_ne 42 45 hX dX7_hear_39 rfl (by decide) (fun c39 => ?_) (fun c39 => ?_)
        · refine AW_aload_n 46 hX dX7_hear_45 rfl rfl ?_
          refine AW_get 49 hX dX7_hear_46 rfl fl_X7_13 (by first | assumption | exact hset_eq | exact (hset_ne (by omega)).trans (by first | assumption | exact hset_eq | exact (hset_ne (by omega)).trans (by first | assumption | exact hset_eq | exact (hset_ne (by omega)).trans (by first | assumption | exact hset_eq | exact (hset_ne (by omega)).trans (by first | assumption | exact hset_eq))))) rfl ?_
          refine AW_aload_n 50 hX dX7_hear_49 rfl rfl ?_
          refine AW_get 53 hX dX7_hear_50 rfl fl_X7_94 (by first | assumption | exact hset_eq | exact (hset_ne (by omega)).trans (by first | assumption | exact hset_eq | exact (hset_ne (by omega)).trans (by first | assumption | exact hset_eq | exact (hset_ne (by omega)).trans (by first | assumption | exact hset_eq | exact (hset_ne (by omega)).trans (by first | assumption | exact hset_eq))))) rfl ?_
          refine AW_iload_n 54 hX dX7_hear_53 rfl rfl ?_
          refine AW_iast 55 hX dX7_hear_54 rfl (by first | assumption | exact hset_eq | exact (hset_ne (by omega)).trans (by first | assumption | exact hset_eq | exact (hset_ne (by omega)).trans (by first | assumption | exact hset_eq | exact (hset_ne (by omega)).trans (by first | assumption | exact hset_eq | exact (hset_ne (by omega)).trans (by first | assumption | exact hset_eq))))) (j := m) (by have := iNe (b := 6) c39; omega) e8 ?_
          try rw [hset_hset]
          refine AW_aload_n 56 hX dX7_hear_55 rfl rfl ?_
          refine AW_get 59 hX dX7_hear_56 rfl fl_X7_16 (by first | assumption | exact hset_eq | exact (hset_ne (by omega)).trans (by first | assumption | exact hset_eq | exact (hset_ne (by omega)).trans (by first | assumption | exact hset_eq | exact (hset_ne (by omega)).trans (by first | assumption | exact hset_eq | exact (hset_ne (by omega)).trans (by first | assumption | exact hset_eq))))) rfl ?_
          refine AW_aload_n 60 hX dX7_hear_59 rfl rfl ?_
          refine AW_get 63 hX dX7_hear_60 rfl fl_X7_94 (by first | assumption | exact hset_eq | exact (hset_ne (by omega)).trans (by first | assumption | exact hset_eq | exact (hset_ne (by omega)).trans (by first | assumption | exact hset_eq | exact (hset_ne (by omega)).trans (by first | assumption | exact hset_eq | exact (hset_ne (by omega)).trans (by first | assumption | exact hset_eq))))) rfl ?_
          refine AW_iload_n 64 hX dX7_hear_63 rfl rfl ?_
          refine AW_iast 65 hX dX7_hear_64 rfl (by first | assumption | exact hset_eq | exact (hset_ne (by omega)).trans (by first | assumption | exact hset_eq | exact (hset_ne (by omega)).trans (by first | assumption | exact hset_eq | exact (hset_ne (by omega)).trans (by first | assumption | exact hset_eq | exact (hset_ne (by omega)).trans (by first | assumption | exact hset_eq))))) (j := m) (by have := iNe (b := 6) c39; omega) e8 ?_
          try rw [hset_hset]
          refine AW_aload_n 66 hX dX7_hear_65 rfl rfl ?_
          refine AW_get 69 hX dX7_hear_66 rfl fl_X7_19 (by first | assumption | exact hset_eq | exact (hset_ne (by omega)).trans (by first | assumption | exact hset_eq | exact (hset_ne (by omega)).trans (by first | assumption | exact hset_eq | exact (hset_ne (by omega)).trans (by first | assumption | exact hset_eq | exact (hset_ne (by omega)).trans (by first | assumption | exact hset_eq))))) rfl ?_
          refine AW_aload_n 70 hX dX7_hear_69 rfl rfl ?_
          refine AW_get 73 hX dX7_hear_70 rfl fl_X7_94 (by first | assumption | exact hset_eq | exact (hset_ne (by omega)).trans (by first | assumption | exact hset_eq | exact (hset_ne (by omega)).trans (by first | assumption | exact hset_eq | exact (hset_ne (by omega)).trans (by first | assumption | exact hset_eq | exact (hset_ne (by omega)).trans (by first | assumption | exact hset_eq))))) rfl ?_
          refine AW_iload_n 74 hX dX7_hear_73 rfl rfl ?_
          refine AW_iast 75 hX dX7_hear_74 rfl (by first | assumption | exact hset_eq | exact (hset_ne (by omega)).trans (by first | assumption | exact hset_eq | exact (hset_ne (by omega)).trans (by first | assumption | exact hset_eq | exact (hset_ne (by omega)).trans (by first | assumption | exact hset_eq | exact (hset_ne (by omega)).trans (by first | assumption | exact hset_eq))))) (j := m) (by have := iNe (b := 6) c39; omega) e8 ?_
          try rw [hset_hset]
          refine AW_aload_n 76 hX dX7_hear_75 rfl rfl ?_
          refine AW_get 79 hX dX7_hear_76 rfl fl_X7_22 (by first | assumption | exact hset_eq | exact (hset_ne (by omega)).trans (by first | assumption | exact hset_eq | exact (hset_ne (by omega)).trans (by first | assumption | exact hset_eq | exact (hset_ne (by omega)).trans (by first | assumption | exact hset_eq | exact (hset_ne (by omega)).trans (by first | assumption | exact hset_eq))))) rfl ?_
          refine AW_aload_n 80 hX dX7_hear_79 rfl rfl ?_
          refine AW_get 83 hX dX7_hear_80 rfl fl_X7_94 (by first | assumption | exact hset_eq | exact (hset_ne (by omega)).trans (by first | assumption | exact hset_eq | exact (hset_ne (by omega)).trans (by first | assumption | exact hset_eq | exact (hset_ne (by omega)).trans (by first | assumption | exact hset_eq | exact (hset_ne (by omega)).trans (by first | assumption | exact hset_eq))))) rfl ?_
          refine AW_iload 85 hX dX7_hear_83 rfl rfl ?_
          refine AW_if_eq 88 92 hX dX7_hear_85 rfl (by decide) (fun c85 => ?_) (fun c85 => ?_)
          · refine AW_iconst 93 hX dX7_hear_92 rfl ic_0 ?_
            refine AW_iast 94 hX dX7_hear_93 rfl (by first | assumption | exact hset_eq | exact (hset_ne (by omega)).trans (by first | assumption | exact hset_eq | exact (hset_ne (by omega)).trans (by first | assumption | exact hset_eq | exact (hset_ne (by omega)).trans (by first | assumption | exact hset_eq | exact (hset_ne (by omega)).trans (by first | assumption | exact hset_eq))))) (j := m) (by have := iNe (b := 6) c39; omega) e8 ?_
            try rw [hset_hset]
            refine AW_aload_n 95 hX dX7_hear_94 rfl rfl ?_
            refine AW_dup 96 hX dX7_hear_95 rfl rfl ?_
            refine AW_get 99 hX dX7_hear_96 rfl fl_X7_94 (by first | assumption | exact hset_eq | exact (hset_ne (by omega)).trans (by first | assumption | exact hset_eq | exact (hset_ne (by omega)).trans (by first | assumption | exact hset_eq | exact (hset_ne (by omega)).trans (by first | assumption | exact hset_eq | exact (hset_ne (by omega)).trans (by first | assumption | exact hset_eq))))) rfl ?_
            refine AW_iconst 100 hX dX7_hear_99 rfl ic_1 ?_
            refine AW_iadd 101 hX dX7_hear_100 rfl ?_
            refine AW_put 104 hX dX7_hear_101 rfl fl_X7_94 (by first | assumption | exact hset_eq | exact (hset_ne (by omega)).trans (by first | assumption | exact hset_eq | exact (hset_ne (by omega)).trans (by first | assumption | exact hset_eq | exact (hset_ne (by omega)).trans (by first | assumption | exact hset_eq | exact (hset_ne (by omega)).trans (by first | assumption | exact hset_eq))))) rfl (fun _ => rfl) (fun _ => rfl) (Nat.le_of_ble_eq_true rfl) ?_
            rw [mo_set8]
            try rw [hset_hset]
            refine AW_aload_n 105 hX dX7_hear_104 rfl rfl ?_
            refine AW_get 108 hX dX7_hear_105 rfl fl_X7_94 (by first | assumption | exact hset_eq | exact (hset_ne (by omega)).trans (by first | assumption | exact hset_eq | exact (hset_ne (by omega)).trans (by first | assumption | exact hset_eq | exact (hset_ne (by omega)).trans (by first | assumption | exact hset_eq | exact (hset_ne (by omega)).trans (by first | assumption | exact hset_eq))))) rfl ?_
            refine AW_iret hX hE dX7_hear_108 rfl (Nat.le_refl _) (Nat.le_refl _) ?_
            have hm6 := iNe (b := 6) c39
            have hbv : b = 0 := iEq (b := 0) c85
            subst hbv
            have e : spHear (kp, yd, qk, pm, pg, (n, ks, ht, p, s, stp, fl, m, hd), w) (nI q) (nI cy) (nI cz) (nI 0) = (nI (m + 1), (kp, yd, qk, pm, pg, (n, ks, ht, p, s, stp, fl, m + 1, fun j => if j = m then (q, cy, cz, 0) else hd j), w)) := by
              show cif _ _ _ = _
              rw [cif_pos ⟨q, hq, rfl⟩, cif_neg (fun q => q.elim (fun q => rgI (lo := 1) (hi := 3) (by decide) rfl hy1 hy2 q) (fun q => rgI (lo := 0) (hi := 11) (by decide) rfl hz1 hz2 q)), cif_neg hm6, cN_nI (by omega), cN_nI (by omega), cN_nI (by omega), cN_nI (by omega)]
            rw [e] at hK
            rw [pk_us, e8, nI_1]
            refine hK _ ⟨_, _, _, _, MH_obj (MH_arr4 (MH_arr3 (MH_arr2 (MH_arr1 g)))), ⟨⟨e0, e1, e3, e4, e5, e6, e7, rfl, e13, e14⟩, rk, fun j hj => ?_, rp, rkp, rk0⟩⟩ (fr_tr (fr_tr (fr_tr (fr_tr (fr_set (by omega) (by omega)) (fr_set (by omega) (by omega))) (fr_set (by omega) (by omega))) (fr_set (by omega) (by omega))) (fr_set (by omega) (by omega)))
            show upd (F 1) m (nI q) j = _ ∧ upd (F 2) m (nI cy) j = _ ∧ upd (F 3) m (nI cz) j = _ ∧ upd (F 4) m 0 j = _
            by_cases e : j = m
            · subst e
              dsimp only
              rw [if_pos rfl, pk_us, pk_us, pk_us, pk_us]
              exact ⟨rfl, rfl, rfl, rfl⟩
            · dsimp only
              rw [if_neg e, pk_un e, pk_un e, pk_un e, pk_un e]
              exact rh j (by omega)
          · refine AW_iconst 89 hX dX7_hear_88 rfl ic_1 ?_
            refine AW_goto 93 hX dX7_hear_89 (by decide) ?_
            refine AW_iast 94 hX dX7_hear_93 rfl (by first | assumption | exact hset_eq | exact (hset_ne (by omega)).trans (by first | assumption | exact hset_eq | exact (hset_ne (by omega)).trans (by first | assumption | exact hset_eq | exact (hset_ne (by omega)).trans (by first | assumption | exact hset_eq | exact (hset_ne (by omega)).trans (by first | assumption | exact hset_eq))))) (j := m) (by have := iNe (b := 6) c39; omega) e8 ?_
            try rw [hset_hset]
            refine AW_aload_n 95 hX dX7_hear_94 rfl rfl ?_
            refine AW_dup 96 hX dX7_hear_95 rfl rfl ?_
            refine AW_get 99 hX dX7_hear_96 rfl fl_X7_94 (by first | assumption | exact hset_eq | exact (hset_ne (by omega)).trans (by first | assumption | exact hset_eq | exact (hset_ne (by omega)).trans (by first | assumption | exact hset_eq | exact (hset_ne (by omega)).trans (by first | assumption | exact hset_eq | exact (hset_ne (by omega)).trans (by first | assumption | exact hset_eq))))) rfl ?_
            refine AW_iconst 100 hX dX7_hear_99 rfl ic_1 ?_
            refine AW_iadd 101 hX dX7_hear_100 rfl ?_
            refine AW_put 104 hX dX7_hear_101 rfl fl_X7_94 (by first | assumption | exact hset_eq | exact (hset_ne (by omega)).trans (by first | assumption | exact hset_eq | exact (hset_ne (by omega)).trans (by first | assumption | exact hset_eq | exact (hset_ne (by omega)).trans (by first | assumption | exact hset_eq | exact (hset_ne (by omega)).trans (by first | assumption | exact hset_eq))))) rfl (fun _ => rfl) (fun _ => rfl) (Nat.le_of_ble_eq_true rfl) ?_
            rw [mo_set8]
            try rw [hset_hset]
            refine AW_aload_n 105 hX dX7_hear_104 rfl rfl ?_
            refine AW_get 108 hX dX7_hear_105 rfl fl_X7_94 (by first | assumption | exact hset_eq | exact (hset_ne (by omega)).trans (by first | assumption | exact hset_eq | exact (hset_ne (by omega)).trans (by first | assumption | exact hset_eq | exact (hset_ne (by omega)).trans (by first | assumption | exact hset_eq | exact (hset_ne (by omega)).trans (by first | assumption | exact hset_eq))))) rfl ?_
            refine AW_iret hX hE dX7_hear_108 rfl (Nat.le_refl _) (Nat.le_refl _) ?_
            have hm6 := iNe (b := 6) c39
            have hbv : b = 1 := by have := iNe (b := 0) c85; omega
            subst hbv
            have e : spHear (kp, yd, qk, pm, pg, (n, ks, ht, p, s, stp, fl, m, hd), w) (nI q) (nI cy) (nI cz) (nI 1) = (nI (m + 1), (kp, yd, qk, pm, pg, (n, ks, ht, p, s, stp, fl, m + 1, fun j => if j = m then (q, cy, cz, 1) else hd j), w)) := by
              show cif _ _ _ = _
              rw [cif_pos ⟨q, hq, rfl⟩, cif_neg (fun q => q.elim (fun q => rgI (lo := 1) (hi := 3) (by decide) rfl hy1 hy2 q) (fun q => rgI (lo := 0) (hi := 11) (by decide) rfl hz1 hz2 q)), cif_neg hm6, cN_nI (by omega), cN_nI (by omega), cN_nI (by omega), cN_nI (by omega)]
            rw [e] at hK
            rw [pk_us, e8, nI_1]
            refine hK _ ⟨_, _, _, _, MH_obj (MH_arr4 (MH_arr3 (MH_arr2 (MH_arr1 g)))), ⟨⟨e0, e1, e3, e4, e5, e6, e7, rfl, e13, e14⟩, rk, fun j hj => ?_, rp, rkp, rk0⟩⟩ (fr_tr (fr_tr (fr_tr (fr_tr (fr_set (by omega) (by omega)) (fr_set (by omega) (by omega))) (fr_set (by omega) (by omega))) (fr_set (by omega) (by omega))) (fr_set (by omega) (by omega)))
            show upd (F 1) m (nI q) j = _ ∧ upd (F 2) m (nI cy) j = _ ∧ upd (F 3) m (nI cz) j = _ ∧ upd (F 4) m 1 j = _
            by_cases e : j = m
            · subst e
              dsimp only
              rw [if_pos rfl, pk_us, pk_us, pk_us, pk_us]
              exact ⟨rfl, rfl, rfl, rfl⟩
            · dsimp only
              rw [if_neg e, pk_un e, pk_un e, pk_un e, pk_un e]
              exact rh j (by omega)
        · refine AW_bipush 44 hX dX7_hear_42 rfl bp_m104 ?_
          refine AW_iret hX hE dX7_hear_44 rfl (Nat.le_refl _) (Nat.le_refl _) ?_
          have e : spHear (kp, yd, qk, pm, pg, (n, ks, ht, p, s, stp, fl, m, hd), w) (nI q) (nI cy) (nI cz) (nI b) = (-104, (kp, yd, qk, pm, pg, (n, ks, ht, p, s, stp, fl, m, hd), w)) := by
            show cif _ _ _ = _
            rw [cif_pos ⟨q, hq, rfl⟩, cif_neg (fun q => q.elim (fun q => rgI (lo := 1) (hi := 3) (by decide) rfl hy1 hy2 q) (fun q => rgI (lo := 0) (hi := 11) (by decide) rfl hz1 hz2 q)), cif_pos (iEq (b := 6) c39)]
          rw [e] at hK
          exact hK h ⟨I, sd, hh, F, g, r⟩ (fr_rf _ _ _)
      · refine AW_if_ne 30 33 hX dX7_hear_27 rfl (by decide) (fun c27 => absurd rfl c27) (fun c27 => ?_)
        refine AW_bipush 32 hX dX7_hear_30 rfl bp_m102 ?_
        refine AW_iret hX hE dX7_hear_32 rfl (Nat.le_refl _) (Nat.le_refl _) ?_
        have e : spHear (kp, yd, qk, pm, pg, (n, ks, ht, p, s, stp, fl, m, hd), w) (nI q) (nI cy) z (nI b) = (-102, (kp, yd, qk, pm, pg, (n, ks, ht, p, s, stp, fl, m, hd), w)) := by
          show cif _ _ _ = _
          rw [cif_pos ⟨q, hq, rfl⟩, cif_pos (Or.inr w3)]
        rw [e] at hK
        exact hK h ⟨I, sd, hh, F, g, r⟩ (fr_rf _ _ _)
    · refine AW_if_eq 20 30 hX dX7_hear_17 rfl (by decide) (fun c17 => ?_) (fun c17 => absurd rfl c17)
      refine AW_bipush 32 hX dX7_hear_30 rfl bp_m102 ?_
      refine AW_iret hX hE dX7_hear_32 rfl (Nat.le_refl _) (Nat.le_refl _) ?_
      have e : spHear (kp, yd, qk, pm, pg, (n, ks, ht, p, s, stp, fl, m, hd), w) (nI q) y z (nI b) = (-102, (kp, yd, qk, pm, pg, (n, ks, ht, p, s, stp, fl, m, hd), w)) := by
        show cif _ _ _ = _
        rw [cif_pos ⟨q, hq, rfl⟩, cif_pos (Or.inl w1)]
      rw [e] at hK
      exact hK h ⟨I, sd, hh, F, g, r⟩ (fr_rf _ _ _)
  · refine AW_if_ne 8 11 hX dX7_hear_5 rfl (by decide) (fun c5 => absurd rfl c5) (fun c5 => ?_)
    refine AW_bipush 10 hX dX7_hear_8 rfl bp_m101 ?_
    refine AW_iret hX hE dX7_hear_10 rfl (Nat.le_refl _) (Nat.le_refl _) ?_
    have e : spHear (kp, yd, qk, pm, pg, (n, ks, ht, p, s, stp, fl, m, hd), w) x y z (nI b) = (-101, (kp, yd, qk, pm, pg, (n, ks, ht, p, s, stp, fl, m, hd), w)) := by
      show cif _ _ _ = _
      rw [cif_neg (fun ⟨q, hq, eq⟩ => hno q hq eq)]
    rw [e] at hK
    exact hK h ⟨I, sd, hh, F, g, r⟩ (fr_rf _ _ _)
set_option maxRecDepth 100000 in
set_option maxHeartbeats 4000000 in
theorem D_forget {h : AH} {K : Option Value → AH → Prop} {kp yd qk pm n ht p s : Nat} {pg ks : Nat → Nat} {stp fl : Int32} {m : Nat} {hd : HD} {w : SV} {I : Nat → Int32} {sd hh : Int64} {F : AF} (g : MH h I sd hh F) (r : MR (kp, yd, qk, pm, pg, (n, ks, ht, p, s, stp, fl, m, hd), w) I F) (ok : Sok (kp, yd, qk, pm, pg, (n, ks, ht, p, s, stp, fl, m, hd), w)) (hK : ∀ h' : AH, MJ h' (spForget (kp, yd, qk, pm, pg, (n, ks, ht, p, s, stp, fl, m, hd), w)).2 → fr h h' 34 47 → K (some (.int (spForget (kp, yd, qk, pm, pg, (n, ks, ht, p, s, stp, fl, m, hd), w)).1)) h') : aX7_forget 1 [.ref 34] h K := by
  obtain ⟨g0, a0, a1, a2, a3, a4, a5, a6, a7, a8, a9, a10, a11⟩ := id g
  obtain ⟨⟨e0, e1, e3, e4, e5, e6, e7, e8, e13, e14⟩, rk, rh, rp, rkp, rk0⟩ := id r
  obtain ⟨⟨ok1, ok2, ok3, ok4, ok5, ok6, ok7, ok8⟩, okp, okw, okq, okpm, okpg, oky⟩ := id ok
  have hp12 : p < 12 := by
    rcases Nat.eq_zero_or_pos n with e | e
    · have := ok8 e; omega
    · have := ok7 e; omega
  refine AM.of [some (.ref 34), none] pn_X7_forget rfl (Nat.le_of_ble_eq_true rfl) (fun X hX hE => ?_)
  refine AW_aload_n 1 hX dX7_forget_0 rfl rfl ?_
  refine AW_get 4 hX dX7_forget_1 rfl fl_X7_94 (by first | assumption | exact hset_eq | exact (hset_ne (by omega)).trans (by first | assumption | exact hset_eq | exact (hset_ne (by omega)).trans (by first | assumption | exact hset_eq | exact (hset_ne (by omega)).trans (by first | assumption | exact hset_eq | exact (hset_ne (by omega)).trans (by first | assumption | exact hset_eq))))) rfl ?_
  refine AW_istore_n 5 hX dX7_forget_4 rfl (Nat.le_of_ble_eq_true rfl) rfl ?_
  refine AW_aload_n 6 hX dX7_forget_5 rfl rfl ?_
  refine AW_iconst 7 hX dX7_forget_6 rfl ic_0 ?_
  refine AW_put 10 hX dX7_forget_7 rfl fl_X7_94 (by first | assumption | exact hset_eq | exact (hset_ne (by omega)).trans (by first | assumption | exact hset_eq | exact (hset_ne (by omega)).trans (by first | assumption | exact hset_eq | exact (hset_ne (by omega)).trans (by first | assumption | exact hset_eq | exact (hset_ne (by omega)).trans (by first | assumption | exact hset_eq))))) rfl (fun _ => rfl) (fun _ => rfl) (Nat.le_of_ble_eq_true rfl) ?_
  rw [mo_set8]
  try rw [hset_hset]
  refine AW_iload_n 11 hX dX7_forget_10 rfl rfl ?_
  refine AW_iret hX hE dX7_forget_11 rfl (Nat.le_refl _) (Nat.le_refl _) ?_
  rw [e8]
  exact hK _ ⟨_, _, _, _, MH_obj g, ⟨⟨e0, e1, e3, e4, e5, e6, e7, rfl, e13, e14⟩, rk, fun j hj => absurd hj (Nat.not_lt_zero j), rp, rkp, rk0⟩⟩ (fr_set (by omega) (by omega))
