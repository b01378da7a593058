theorem dr_L {d : Nat} (h : d < 2147483648) : (lN d / 65536 - lN d / 65536 / (4 : Int32).toInt64 * (4 : Int32).toInt64).toInt32 = nI (d / 65536 % 4) := by
  rw [show (65536 : Int64) = lN 65536 from rfl, show (4 : Int32).toInt64 = lN 4 from rfl, pk_lDiv (by omega) (by decide) (by decide), pk_lRem (by omega) (by decide) (by decide), lN_i]
set_option maxRecDepth 100000 in
set_option maxHeartbeats 4000000 in
theorem M_draw {h : AH} {K : Option Value → AH → Prop} {I : Nat → Int32} {hh : Int64} {F : AF} {d : Nat} (g : MH h I (lN d) hh F) (hK : K (some (.int (nI (nxD d / 65536 % 4)))) (hset h 34 (.inl (6, mo I (lN (nxD d)) hh)))) : aX7_draw 0 [.ref 34, .int 4] h K := by
  have g0 := g.1
  refine AM.of [some (.ref 34), some (.int 4)] pn_X7_draw rfl (Nat.le_of_ble_eq_true rfl) (fun X hX hE => ?_)
  refine AW_aload_n 1 hX dX7_draw_0 rfl rfl ?_
  refine AW_ldc2 4 hX dX7_draw_1 rfl kc_X7_152 ?_
  refine AW_aload_n 5 hX dX7_draw_4 rfl rfl ?_
  refine AW_get 8 hX dX7_draw_5 rfl fl_X7_154 (by first | assumption | exact hset_eq | exact (hset_ne (by omega)).trans (by first | assumption | exact hset_eq | exact (hset_ne (by omega)).trans (by first | assumption | exact hset_eq | exact (hset_ne (by omega)).trans (by first | assumption | exact hset_eq | exact (hset_ne (by omega)).trans (by first | assumption | exact hset_eq))))) rfl ?_
  refine AW_lmul 9 hX dX7_draw_8 rfl ?_
  refine AW_ldc2 12 hX dX7_draw_9 rfl kc_X7_158 ?_
  refine AW_ladd 13 hX dX7_draw_12 rfl ?_
  refine AW_ldc2 16 hX dX7_draw_13 rfl kc_X7_160 ?_
  refine AW_land 17 hX dX7_draw_16 rfl ?_
  rw [nx_L]
  refine AW_put 20 hX dX7_draw_17 rfl fl_X7_154 (by first | assumption | exact hset_eq | exact (hset_ne (by omega)).trans (by first | assumption | exact hset_eq | exact (hset_ne (by omega)).trans (by first | assumption | exact hset_eq | exact (hset_ne (by omega)).trans (by first | assumption | exact hset_eq | exact (hset_ne (by omega)).trans (by first | assumption | exact hset_eq))))) rfl (fun _ => rfl) (fun _ => rfl) (Nat.le_of_ble_eq_true rfl) ?_
  rw [mo_set19]
  try rw [hset_hset]
  refine AW_aload_n 21 hX dX7_draw_20 rfl rfl ?_
  refine AW_get 24 hX dX7_draw_21 rfl fl_X7_154 (by first | assumption | exact hset_eq | exact (hset_ne (by omega)).trans (by first | assumption | exact hset_eq | exact (hset_ne (by omega)).trans (by first | assumption | exact hset_eq | exact (hset_ne (by omega)).trans (by first | assumption | exact hset_eq | exact (hset_ne (by omega)).trans (by first | assumption | exact hset_eq))))) rfl ?_
  refine AW_ldc2 27 hX dX7_draw_24 rfl kc_X7_162 ?_
  refine AW_ldiv 28 hX dX7_draw_27 rfl (by decide) ?_
  refine AW_iload_n 29 hX dX7_draw_28 rfl rfl ?_
  refine AW_i2l 30 hX dX7_draw_29 rfl ?_
  refine AW_lrem 31 hX dX7_draw_30 rfl (by decide) ?_
  refine AW_l2i 32 hX dX7_draw_31 rfl ?_
  refine AW_iret hX hE dX7_draw_32 rfl (Nat.le_refl _) (Nat.le_refl _) ?_
  rw [dr_L (nxD_lt d)]
  exact hK
set_option maxRecDepth 100000 in
set_option maxHeartbeats 4000000 in
theorem M_racesNow {h : AH} {K : Option Value → AH → Prop} {kp yd qk pm n ht p s : Nat} {pg ks : Nat → Nat} {stp fl : Int32} {m : Nat} {hd : HD} {w : SV} {I : Nat → Int32} {sd hh : Int64} {F : AF} (g : MH h I sd hh F) (r : MR (kp, yd, qk, pm, pg, (n, ks, ht, p, s, stp, fl, m, hd), w) I F) (ok : Sok (kp, yd, qk, pm, pg, (n, ks, ht, p, s, stp, fl, m, hd), w)) (hn : 0 < n) (cx cy cz : Nat) (hx : cx ≤ 60) (hy : cy < 2147483648) (hz : cz ≤ 2) (hK : ∀ (h' : AH) (sd' : Int64), MH h' I sd' hh F → fr h h' 34 47 → K (some (.int (cif (nI cz = 0) (nI (rI n ks ht (p, s, cy, 0) cx).2.2.2) (cif (nI cz = 1) (nI (rI n ks ht (p, s, cy, 0) cx).1) (nI (rI n ks ht (p, s, cy, 0) cx).2.2.1))))) h') : aX7_racesNow 2 [.ref 34, .int (nI cx), .int (nI cy), .int (nI cz)] h K := by
  obtain ⟨g0, a0, a1, a2, a3, a4, a5, a6, a7, a8, a9, a10, a11⟩ := id g
  obtain ⟨⟨e0, e1, e3, e4, e5, e6, e7, e8, e13, e14⟩, rk, rh, rp, rkp, rk0⟩ := id r
  obtain ⟨⟨ok1, ok2, ok3, ok4, ok5, ok6, ok7, ok8⟩, okp, okw, okq, okpm, okpg, oky⟩ := id ok
  have hp12 : p < 12 := by
    rcases Nat.eq_zero_or_pos n with e | e
    · have := ok8 e; omega
    · have := ok7 e; omega
  have hok := rI_ok (ks := ks) (ht := ht) (x := (p, s, cy, 0)) hn (ok7 hn).1 ok4 hy
  refine AM.of [some (.ref 34), some (.int (nI cx)), some (.int (nI cy)), some (.int (nI cz)), none, none, none, none, none, none] pn_X7_racesNow rfl (Nat.le_of_ble_eq_true rfl) (fun X hX hE => ?_)
  have loop : ∀ d i, i + d = cx → ∀ (h' : AH) (I' : Nat → Int32) (z1 z2 : Option Value), MH h' I' (lN (rI n ks ht (p, s, cy, 0) i).2.2.1) hh F → (∀ k, k ≠ 4 → k ≠ 5 → I' k = I k) → I' 4 = nI (rI n ks ht (p, s, cy, 0) i).1 → I' 5 = nI (rI n ks ht (p, s, cy, 0) i).2.1 → fr h h' 34 47 → AW X 0 0 24 [some (.ref 34), some (.int (nI cx)), some (.int (nI cy)), some (.int (nI cz)), some (.int (nI p)), some (.int (nI s)), some (.int (nI (rI n ks ht (p, s, cy, 0) i).2.2.2)), some (.int (nI i)), z1, z2] [] h' := by
    intro d
    induction d with
    | zero =>
      intro i hi h' I' z1 z2 g' ei e4' e5' hfr
      have ec : i = cx := by omega
      subst ec
      have b0 := g'.1
      have eI : upd (upd I' 4 (nI p)) 5 (nI s) = I := by
        funext k
        simp only [upd]
        split
        next q => rw [q, e5]
        next q5 =>
          split
          next q => rw [q, e4]
          next q4 => exact ei k q4 q5
      have gF : MH (hset h' 34 (.inl (6, mo (upd (upd I' 4 (nI p)) 5 (nI s)) (lN (rI n ks ht (p, s, cy, 0) i).2.2.1) hh))) (upd (upd I' 4 (nI p)) 5 (nI s)) (lN (rI n ks ht (p, s, cy, 0) i).2.2.1) hh F := MH_obj g'
      refine AW_iload 26 hX dX7_racesNow_24 rfl rfl ?_
      refine AW_iload_n 27 hX dX7_racesNow_26 rfl rfl ?_
      refine AW_icmp_ge 30 87 hX dX7_racesNow_27 rfl (by decide) (fun c27 => ?_) (fun c27 => absurd (nI_le (by omega) (by omega)) c27)
      refine AW_aload_n 88 hX dX7_racesNow_87 rfl rfl ?_
      refine AW_get 91 hX dX7_racesNow_88 rfl fl_X7_82 (by first | assumption | exact hset_eq | exact (hset_ne (by omega)).trans (by first | assumption | exact hset_eq | exact (hset_ne (by omega)).trans (by first | assumption | exact hset_eq | exact (hset_ne (by omega)).trans (by first | assumption | exact hset_eq | exact (hset_ne (by omega)).trans (by first | assumption | exact hset_eq))))) rfl ?_
      rw [e4']
      refine AW_istore 93 hX dX7_racesNow_91 rfl (Nat.le_of_ble_eq_true rfl) rfl ?_
      refine AW_aload_n 94 hX dX7_racesNow_93 rfl rfl ?_
      refine AW_iload 96 hX dX7_racesNow_94 rfl rfl ?_
      refine AW_put 99 hX dX7_racesNow_96 rfl fl_X7_82 (by first | assumption | exact hset_eq | exact (hset_ne (by omega)).trans (by first | assumption | exact hset_eq | exact (hset_ne (by omega)).trans (by first | assumption | exact hset_eq | exact (hset_ne (by omega)).trans (by first | assumption | exact hset_eq | exact (hset_ne (by omega)).trans (by first | assumption | exact hset_eq))))) rfl (fun _ => rfl) (fun _ => rfl) (Nat.le_of_ble_eq_true rfl) ?_
      rw [mo_set4]
      try rw [hset_hset]
      refine AW_aload_n 100 hX dX7_racesNow_99 rfl rfl ?_
      refine AW_iload 102 hX dX7_racesNow_100 rfl rfl ?_
      refine AW_put 105 hX dX7_racesNow_102 rfl fl_X7_85 (by first | assumption | exact hset_eq | exact (hset_ne (by omega)).trans (by first | assumption | exact hset_eq | exact (hset_ne (by omega)).trans (by first | assumption | exact hset_eq | exact (hset_ne (by omega)).trans (by first | assumption | exact hset_eq | exact (hset_ne (by omega)).trans (by first | assumption | exact hset_eq))))) rfl (fun _ => rfl) (fun _ => rfl) (Nat.le_of_ble_eq_true rfl) ?_
      rw [mo_set5]
      try rw [hset_hset]
      refine AW_iload_n 106 hX dX7_racesNow_105 rfl rfl ?_
      refine AW_if_ne 109 114 hX dX7_racesNow_106 rfl (by decide) (fun c106 => ?_) (fun c106 => ?_)
      · refine AW_iload_n 115 hX dX7_racesNow_114 rfl rfl ?_
        refine AW_iconst 116 hX dX7_racesNow_115 rfl ic_1 ?_
        refine AW_icmp_ne 119 124 hX dX7_racesNow_116 rfl (by decide) (fun c116 => ?_) (fun c116 => ?_)
        · refine AW_aload_n 125 hX dX7_racesNow_124 rfl rfl ?_
          refine AW_get 128 hX dX7_racesNow_125 rfl fl_X7_154 (by first | assumption | exact hset_eq | exact (hset_ne (by omega)).trans (by first | assumption | exact hset_eq | exact (hset_ne (by omega)).trans (by first | assumption | exact hset_eq | exact (hset_ne (by omega)).trans (by first | assumption | exact hset_eq | exact (hset_ne (by omega)).trans (by first | assumption | exact hset_eq))))) rfl ?_
          refine AW_l2i 129 hX dX7_racesNow_128 rfl ?_
          refine AW_iret hX hE dX7_racesNow_129 rfl (Nat.le_refl _) (Nat.le_refl _) ?_
          rw [eI] at gF ⊢
          have := hK _ _ gF (fr_tr hfr (fr_set (by omega) (by omega)))
          rw [cif_neg c106, cif_neg c116] at this
          rw [lN_i]
          exact this
        · refine AW_iload 121 hX dX7_racesNow_119 rfl rfl ?_
          refine AW_goto 129 hX dX7_racesNow_121 (by decide) ?_
          refine AW_iret hX hE dX7_racesNow_129 rfl (Nat.le_refl _) (Nat.le_refl _) ?_
          rw [eI] at gF ⊢
          have := hK _ _ gF (fr_tr hfr (fr_set (by omega) (by omega)))
          rw [cif_neg c106, cif_pos c116] at this
          exact this
      · refine AW_iload 111 hX dX7_racesNow_109 rfl rfl ?_
        refine AW_goto 129 hX dX7_racesNow_111 (by decide) ?_
        refine AW_iret hX hE dX7_racesNow_129 rfl (Nat.le_refl _) (Nat.le_refl _) ?_
        rw [eI] at gF ⊢
        have := hK _ _ gF (fr_tr hfr (fr_set (by omega) (by omega)))
        rw [cif_pos c106] at this
        exact this
    | succ d ih =>
      intro i hi h' I' z1 z2 g' ei e4' e5' hfr
      obtain ⟨q1, q2, q3, q4⟩ := hok i
      have b0 := g'.1
      have h4 : nxD (rI n ks ht (p, s, cy, 0) i).2.2.1 / 65536 % 4 < 4 := Nat.mod_lt _ (by decide)
      have hfar : (rI n ks ht (p, s, cy, 0) i).1 + rfar n (rI n ks ht (p, s, cy, 0) i) < n ∧ rfar n (rI n ks ht (p, s, cy, 0) i) ≤ 3 := by
        simp only [rfar]
        split <;> omega
      have at67 : ∀ far : Nat, far = rfar n (rI n ks ht (p, s, cy, 0) i) → ∀ z8 z9, AW X 0 0 67 [some (.ref 34), some (.int (nI cx)), some (.int (nI cy)), some (.int (nI cz)), some (.int (nI p)), some (.int (nI s)), some (.int (nI (rI n ks ht (p, s, cy, 0) i).2.2.2)), some (.int (nI i)), z8, z9] [.int (nI far), .ref 34, .int (nI (rI n ks ht (p, s, cy, 0) i).2.2.2)] (hset h' 34 (.inl (6, mo I' (lN (nxD (rI n ks ht (p, s, cy, 0) i).2.2.1)) hh))) := by
        intro far efar z8 z9
        subst efar
        refine AW_cV (As := [_]) 70 hX dX7_racesNow_67 rfl ml_X7_115 mw_X7_goes (by first | assumption | exact hset_eq | exact (hset_ne (by omega)).trans (by first | assumption | exact hset_eq | exact (hset_ne (by omega)).trans (by first | assumption | exact hset_eq | exact (hset_ne (by omega)).trans (by first | assumption | exact hset_eq | exact (hset_ne (by omega)).trans (by first | assumption | exact hset_eq))))) (by decide) rfl rfl rfl (Nat.le_of_ble_eq_true rfl) (by decide) ⟨(Nat.le_refl _), (Nat.le_refl _)⟩ (M_goes (I := I') (sd := lN (nxD (rI n ks ht (p, s, cy, 0) i).2.2.1)) (MH_obj g') (n := n) (p := (rI n ks ht (p, s, cy, 0) i).1) (s := (rI n ks ht (p, s, cy, 0) i).2.1) rk ok2 ok1 ((ei 3 (by decide) (by decide)).trans e3) e4' e5' (by omega) (by omega) _ hfar.2 hfar.1 (fun hf => ?_) (fun hf => ?_))
        · rw [hset_hset]
          refine AW_if_eq 73 77 hX dX7_racesNow_70 rfl (by decide) (fun c70 => absurd c70 (by decide)) (fun c70 => ?_)
          refine AW_iconst 74 hX dX7_racesNow_73 rfl ic_0 ?_
          refine AW_goto 78 hX dX7_racesNow_74 (by decide) ?_
          refine AW_iadd 79 hX dX7_racesNow_78 rfl ?_
          refine AW_istore 81 hX dX7_racesNow_79 rfl (Nat.le_of_ble_eq_true rfl) rfl ?_
          refine AW_iinc 84 hX dX7_racesNow_81 rfl rfl (iincp ic_1) (Nat.le_of_ble_eq_true rfl) rfl ?_
          refine AW_goto 24 hX dX7_racesNow_84 (by decide) ?_
          rw [nI_1, Int32.add_zero]
          have eR : rI n ks ht (p, s, cy, 0) (i + 1) = ((rI n ks ht (p, s, cy, 0) i).1 + rfar n (rI n ks ht (p, s, cy, 0) i), sa (ks ((rI n ks ht (p, s, cy, 0) i).1 + rfar n (rI n ks ht (p, s, cy, 0) i))) (rI n ks ht (p, s, cy, 0) i).2.1 (rfar n (rI n ks ht (p, s, cy, 0) i)), nxD (rI n ks ht (p, s, cy, 0) i).2.2.1, (rI n ks ht (p, s, cy, 0) i).2.2.2) := by
            simp only [rI, rstep, if_neg hf]
          have := ih (i + 1) (by omega) _ (upd (upd I' 4 (nI ((rI n ks ht (p, s, cy, 0) i).1 + rfar n (rI n ks ht (p, s, cy, 0) i)))) 5 (nI (sa (ks ((rI n ks ht (p, s, cy, 0) i).1 + rfar n (rI n ks ht (p, s, cy, 0) i))) (rI n ks ht (p, s, cy, 0) i).2.1 (rfar n (rI n ks ht (p, s, cy, 0) i))))) z8 z9 (by rw [eR]; exact MH_obj g') (fun k k4 k5 => by rw [pk_un k5, pk_un k4]; exact ei k k4 k5) (by rw [eR, pk_un (by decide), pk_us]) (by rw [eR, pk_us]) (fr_tr hfr (fr_set (by omega) (by omega)))
          rw [eR] at this
          exact this
        · rw [hset_hset]
          refine AW_if_eq 73 77 hX dX7_racesNow_70 rfl (by decide) (fun c70 => ?_) (fun c70 => absurd rfl c70)
          refine AW_iconst 78 hX dX7_racesNow_77 rfl ic_1 ?_
          refine AW_iadd 79 hX dX7_racesNow_78 rfl ?_
          refine AW_istore 81 hX dX7_racesNow_79 rfl (Nat.le_of_ble_eq_true rfl) rfl ?_
          refine AW_iinc 84 hX dX7_racesNow_81 rfl rfl (iincp ic_1) (Nat.le_of_ble_eq_true rfl) rfl ?_
          refine AW_goto 24 hX dX7_racesNow_84 (by decide) ?_
          rw [nI_1, nI_1]
          have eR : rI n ks ht (p, s, cy, 0) (i + 1) = (0, 0, nxD (rI n ks ht (p, s, cy, 0) i).2.2.1, (rI n ks ht (p, s, cy, 0) i).2.2.2 + 1) := by
            simp only [rI, rstep, if_pos hf]
          have := ih (i + 1) (by omega) _ (upd (upd I' 4 0) 5 0) z8 z9 (by rw [eR]; exact MH_obj g') (fun k k4 k5 => by rw [pk_un k5, pk_un k4]; exact ei k k4 k5) (by rw [eR, pk_un (by decide), pk_us]; rfl) (by rw [eR, pk_us]; rfl) (fr_tr hfr (fr_set (by omega) (by omega)))
          rw [eR] at this
          exact this
      refine AW_iload 26 hX dX7_racesNow_24 rfl rfl ?_
      refine AW_iload_n 27 hX dX7_racesNow_26 rfl rfl ?_
      refine AW_icmp_ge 30 87 hX dX7_racesNow_27 rfl (by decide) (fun c27 => absurd c27 (nI_ge (by omega) (by omega))) (fun c27 => ?_)
      refine AW_aload_n 31 hX dX7_racesNow_30 rfl rfl ?_
      refine AW_iconst 32 hX dX7_racesNow_31 rfl ic_4 ?_
      refine AW_cV (As := [_]) 35 hX dX7_racesNow_32 rfl ml_X7_164 mw_X7_draw (by first | assumption | exact hset_eq | exact (hset_ne (by omega)).trans (by first | assumption | exact hset_eq | exact (hset_ne (by omega)).trans (by first | assumption | exact hset_eq | exact (hset_ne (by omega)).trans (by first | assumption | exact hset_eq | exact (hset_ne (by omega)).trans (by first | assumption | exact hset_eq))))) (by decide) rfl rfl rfl (Nat.le_of_ble_eq_true rfl) (by decide) ⟨(Nat.le_refl _), (Nat.le_refl _)⟩ (M_draw g' ?_)
      refine AW_istore 37 hX dX7_racesNow_35 rfl (Nat.le_of_ble_eq_true rfl) rfl ?_
      refine AW_aload_n 38 hX dX7_racesNow_37 rfl rfl ?_
      refine AW_get 41 hX dX7_racesNow_38 rfl fl_X7_73 (by first | assumption | exact hset_eq | exact (hset_ne (by omega)).trans (by first | assumption | exact hset_eq | exact (hset_ne (by omega)).trans (by first | assumption | exact hset_eq | exact (hset_ne (by omega)).trans (by first | assumption | exact hset_eq | exact (hset_ne (by omega)).trans (by first | assumption | exact hset_eq))))) rfl ?_
      rw [ei 1 (by decide) (by decide), e1]
      refine AW_iconst 42 hX dX7_racesNow_41 rfl ic_1 ?_
      refine AW_isub 43 hX dX7_racesNow_42 rfl ?_
      refine AW_aload_n 44 hX dX7_racesNow_43 rfl rfl ?_
      refine AW_get 47 hX dX7_racesNow_44 rfl fl_X7_82 (by first | assumption | exact hset_eq | exact (hset_ne (by omega)).trans (by first | assumption | exact hset_eq | exact (hset_ne (by omega)).trans (by first | assumption | exact hset_eq | exact (hset_ne (by omega)).trans (by first | assumption | exact hset_eq | exact (hset_ne (by omega)).trans (by first | assumption | exact hset_eq))))) rfl ?_
      rw [e4']
      refine AW_isub 48 hX dX7_racesNow_47 rfl ?_
      rw [show (1 : Int32) = nI 1 from rfl, pk_sub (by omega), pk_sub (by omega)]
      refine AW_istore 50 hX dX7_racesNow_48 rfl (Nat.le_of_ble_eq_true rfl) rfl ?_
      refine AW_iload 52 hX dX7_racesNow_50 rfl rfl ?_
      refine AW_aload_n 53 hX dX7_racesNow_52 rfl rfl ?_
      refine AW_iload 55 hX dX7_racesNow_53 rfl rfl ?_
      refine AW_iload 57 hX dX7_racesNow_55 rfl rfl ?_
      refine AW_icmp_ge 60 65 hX dX7_racesNow_57 rfl (by decide) (fun c57 => ?_) (fun c57 => ?_)
      · refine AW_iload 67 hX dX7_racesNow_65 rfl rfl ?_
        exact at67 _ (by have := iLe c57; simp only [rfar]; split <;> omega) _ _
      · refine AW_iload 62 hX dX7_racesNow_60 rfl rfl ?_
        refine AW_goto 67 hX dX7_racesNow_62 (by decide) ?_
        exact at67 _ (by have := iNle c57; simp only [rfar]; split <;> omega) _ _
  refine AW_aload_n 1 hX dX7_racesNow_0 rfl rfl ?_
  refine AW_get 4 hX dX7_racesNow_1 rfl fl_X7_82 (by first | assumption | exact hset_eq | exact (hset_ne (by omega)).trans (by first | assumption | exact hset_eq | exact (hset_ne (by omega)).trans (by first | assumption | exact hset_eq | exact (hset_ne (by omega)).trans (by first | assumption | exact hset_eq | exact (hset_ne (by omega)).trans (by first | assumption | exact hset_eq))))) rfl ?_
  rw [e4]
  refine AW_istore 6 hX dX7_racesNow_4 rfl (Nat.le_of_ble_eq_true rfl) rfl ?_
  refine AW_aload_n 7 hX dX7_racesNow_6 rfl rfl ?_
  refine AW_get 10 hX dX7_racesNow_7 rfl fl_X7_85 (by first | assumption | exact hset_eq | exact (hset_ne (by omega)).trans (by first | assumption | exact hset_eq | exact (hset_ne (by omega)).trans (by first | assumption | exact hset_eq | exact (hset_ne (by omega)).trans (by first | assumption | exact hset_eq | exact (hset_ne (by omega)).trans (by first | assumption | exact hset_eq))))) rfl ?_
  rw [e5]
  refine AW_istore 12 hX dX7_racesNow_10 rfl (Nat.le_of_ble_eq_true rfl) rfl ?_
  refine AW_aload_n 13 hX dX7_racesNow_12 rfl rfl ?_
  refine AW_iload_n 14 hX dX7_racesNow_13 rfl rfl ?_
  refine AW_i2l 15 hX dX7_racesNow_14 rfl ?_
  rw [nI_l (by omega)]
  refine AW_put 18 hX dX7_racesNow_15 rfl fl_X7_154 (by first | assumption | exact hset_eq | exact (hset_ne (by omega)).trans (by first | assumption | exact hset_eq | exact (hset_ne (by omega)).trans (by first | assumption | exact hset_eq | exact (hset_ne (by omega)).trans (by first | assumption | exact hset_eq | exact (hset_ne (by omega)).trans (by first | assumption | exact hset_eq))))) rfl (fun _ => rfl) (fun _ => rfl) (Nat.le_of_ble_eq_true rfl) ?_
  rw [mo_set19]
  try rw [hset_hset]
  refine AW_iconst 19 hX dX7_racesNow_18 rfl ic_0 ?_
  refine AW_istore 21 hX dX7_racesNow_19 rfl (Nat.le_of_ble_eq_true rfl) rfl ?_
  refine AW_iconst 22 hX dX7_racesNow_21 rfl ic_0 ?_
  refine AW_istore 24 hX dX7_racesNow_22 rfl (Nat.le_of_ble_eq_true rfl) rfl ?_
  exact loop cx 0 (by omega) _ I none none (MH_obj g) (fun _ _ _ => rfl) e4 e5 (fr_set (by omega) (by omega))
set_option maxRecDepth 100000 in
set_option maxHeartbeats 4000000 in
theorem D_races {h : AH} {K : Option Value → AH → Prop} {kp yd qk pm n ht p s : Nat} {pg ks : Nat → Nat} {stp fl : Int32} {m : Nat} {hd : HD} {w : SV} {I : Nat → Int32} {sd hh : Int64} {F : AF} (g : MH h I sd hh F) (r : MR (kp, yd, qk, pm, pg, (n, ks, ht, p, s, stp, fl, m, hd), w) I F) (ok : Sok (kp, yd, qk, pm, pg, (n, ks, ht, p, s, stp, fl, m, hd), w)) (x y z : Int32) (hK : ∀ h' : AH, MJ h' (spRaces (kp, yd, qk, pm, pg, (n, ks, ht, p, s, stp, fl, m, hd), w) x y z).2 → fr h h' 34 47 → K (some (.int (spRaces (kp, yd, qk, pm, pg, (n, ks, ht, p, s, stp, fl, m, hd), w) x y z).1)) h') : aX7_races 3 [.ref 34, .int x, .int y, .int z] h K := by
  obtain ⟨g0, a0, a1, a2, a3, a4, a5, a6, a7, a8, a9, a10, a11⟩ := id g
  obtain ⟨⟨e0, e1, e3, e4, e5, e6, e7, e8, e13, e14⟩, rk, rh, rp, rkp, rk0⟩ := id r
  obtain ⟨⟨ok1, ok2, ok3, ok4, ok5, ok6, ok7, ok8⟩, okp, okw, okq, okpm, okpg, oky⟩ := id ok
  have hp12 : p < 12 := by
    rcases Nat.eq_zero_or_pos n with e | e
    · have := ok8 e; omega
    · have := ok7 e; omega
  refine AM.of [some (.ref 34), some (.int x), some (.int y), some (.int z)] pn_X7_races rfl (Nat.le_of_ble_eq_true rfl) (fun X hX hE => ?_)
  refine AW_iload_n 1 hX dX7_races_0 rfl rfl ?_
  refine AW_iconst 2 hX dX7_races_1 rfl ic_1 ?_
  refine AW_bipush 4 hX dX7_races_2 rfl bp_60 ?_
  refine AW_cS (As := [_, _, _]) 7 hX dX7_races_4 rfl ml_X7_47 mw_X7_within rfl rfl (Nat.le_of_ble_eq_true rfl) (by decide) ⟨(Nat.le_refl _), (Nat.le_refl _)⟩ (M_within _ _ _ (fun w1 w2 => ?_) (fun w1 => ?_))
  · obtain ⟨cx, hx1, hx2, ex⟩ := rg (x := x) 1 60 (by decide) (by decide) w1 w2
    subst ex
    refine AW_if_eq 10 23 hX dX7_races_7 rfl (by decide) (fun c7 => absurd c7 (by decide)) (fun c7 => ?_)
    refine AW_iload_n 11 hX dX7_races_10 rfl rfl ?_
    refine AW_if_lt 14 23 hX dX7_races_11 rfl (by decide) (fun c11 => ?_) (fun c11 => ?_)
    · refine AW_bipush 25 hX dX7_races_23 rfl bp_m102 ?_
      refine AW_iret hX hE dX7_races_25 rfl (Nat.le_refl _) (Nat.le_refl _) ?_
      have e : spRaces (kp, yd, qk, pm, pg, (n, ks, ht, p, s, stp, fl, m, hd), w) (nI cx) y z = (-102, (kp, yd, qk, pm, pg, (n, ks, ht, p, s, stp, fl, m, hd), w)) := by
        show (cif _ _ _, _) = _
        rw [cif_pos (Or.inr (Or.inl c11))]
      rw [e] at hK
      exact hK h ⟨I, sd, hh, F, g, r⟩ (fr_rf _ _ _)
    · refine AW_iload_n 15 hX dX7_races_14 rfl rfl ?_
      refine AW_iconst 16 hX dX7_races_15 rfl ic_0 ?_
      refine AW_iconst 17 hX dX7_races_16 rfl ic_2 ?_
      refine AW_cS (As := [_, _, _]) 20 hX dX7_races_17 rfl ml_X7_47 mw_X7_within rfl rfl (Nat.le_of_ble_eq_true rfl) (by decide) ⟨(Nat.le_refl _), (Nat.le_refl _)⟩ (M_within _ _ _ (fun w3 w4 => ?_) (fun w3 => ?_))
      · obtain ⟨cy, hy1, ey⟩ := nI_of c11
        obtain ⟨cz, -, hz2, ez⟩ := rg (x := z) 0 2 (by decide) (by decide) w3 w4
        subst ey
        subst ez
        refine AW_if_ne 23 26 hX dX7_races_20 rfl (by decide) (fun c20 => ?_) (fun c20 => absurd c20 (by decide))
        refine AW_aload_n 27 hX dX7_races_26 rfl rfl ?_
        refine AW_get 30 hX dX7_races_27 rfl fl_X7_73 (by first | assumption | exact hset_eq | exact (hset_ne (by omega)).trans (by first | assumption | exact hset_eq | exact (hset_ne (by omega)).trans (by first | assumption | exact hset_eq | exact (hset_ne (by omega)).trans (by first | assumption | exact hset_eq | exact (hset_ne (by omega)).trans (by first | assumption | exact hset_eq))))) rfl ?_
        rw [e1]
        refine AW_if_ne 33 38 hX dX7_races_30 rfl (by decide) (fun c30 => ?_) (fun c30 => ?_)
        · refine AW_aload_n 39 hX dX7_races_38 rfl rfl ?_
          refine AW_iload_n 40 hX dX7_races_39 rfl rfl ?_
          refine AW_iload_n 41 hX dX7_races_40 rfl rfl ?_
          refine AW_iload_n 42 hX dX7_races_41 rfl rfl ?_
          refine AW_cV (As := [_, _, _]) 45 hX dX7_races_42 rfl ml_X7_167 mw_X7_racesNow (by first | assumption | exact hset_eq | exact (hset_ne (by omega)).trans (by first | assumption | exact hset_eq | exact (hset_ne (by omega)).trans (by first | assumption | exact hset_eq | exact (hset_ne (by omega)).trans (by first | assumption | exact hset_eq | exact (hset_ne (by omega)).trans (by first | assumption | exact hset_eq))))) (by decide) rfl rfl rfl (Nat.le_of_ble_eq_true rfl) (by decide) ⟨(Nat.le_refl _), (Nat.le_refl _)⟩ (M_racesNow g r ok (by have := iNe (b := 0) c30; omega) cx cy cz hx2 hy1 hz2 (fun h' sd' g' hfr => ?_))
          refine AW_iret hX hE dX7_races_45 rfl (Nat.le_refl _) (Nat.le_refl _) ?_
          have e : spRaces (kp, yd, qk, pm, pg, (n, ks, ht, p, s, stp, fl, m, hd), w) (nI cx) (nI cy) (nI cz) = (cif (nI cz = 0) (nI (rI n ks ht (p, s, cy, 0) cx).2.2.2) (cif (nI cz = 1) (nI (rI n ks ht (p, s, cy, 0) cx).1) (nI (rI n ks ht (p, s, cy, 0) cx).2.2.1)), (kp, yd, qk, pm, pg, (n, ks, ht, p, s, stp, fl, m, hd), w)) := by
            show (cif _ _ _, _) = _
            rw [cif_neg (fun q => q.elim (fun q => rgI (lo := 1) (hi := 60) (by decide) rfl hx1 hx2 q) (fun q => q.elim (fun q => nI_pos (by omega) q) (fun q => rgI (lo := 0) (hi := 2) (by decide) rfl (Nat.zero_le _) hz2 q))), cif_neg (show ¬ n = 0 from iNe (b := 0) c30), cN_nI (by omega), cN_nI (by omega)]
          rw [e] at hK
          exact hK h' ⟨I, sd', hh, F, g', r⟩ hfr
        · refine AW_bipush 35 hX dX7_races_33 rfl bp_m103 ?_
          refine AW_goto 45 hX dX7_races_35 (by decide) ?_
          refine AW_iret hX hE dX7_races_45 rfl (Nat.le_refl _) (Nat.le_refl _) ?_
          have e : spRaces (kp, yd, qk, pm, pg, (n, ks, ht, p, s, stp, fl, m, hd), w) (nI cx) (nI cy) (nI cz) = (-103, (kp, yd, qk, pm, pg, (n, ks, ht, p, s, stp, fl, m, hd), w)) := by
            show (cif _ _ _, _) = _
            rw [cif_neg (fun q => q.elim (fun q => rgI (lo := 1) (hi := 60) (by decide) rfl hx1 hx2 q) (fun q => q.elim (fun q => nI_pos (by omega) q) (fun q => rgI (lo := 0) (hi := 2) (by decide) rfl (Nat.zero_le _) hz2 q))), cif_pos (show n = 0 from iEq (b := 0) c30)]
          rw [e] at hK
          exact hK h ⟨I, sd, hh, F, g, r⟩ (fr_rf _ _ _)
      · refine AW_if_ne 23 26 hX dX7_races_20 rfl (by decide) (fun c20 => absurd rfl c20) (fun c20 => ?_)
        refine AW_bipush 25 hX dX7_races_23 rfl bp_m102 ?_
        refine AW_iret hX hE dX7_races_25 rfl (Nat.le_refl _) (Nat.le_refl _) ?_
        have e : spRaces (kp, yd, qk, pm, pg, (n, ks, ht, p, s, stp, fl, m, hd), w) (nI cx) y z = (-102, (kp, yd, qk, pm, pg, (n, ks, ht, p, s, stp, fl, m, hd), w)) := by
          show (cif _ _ _, _) = _
          rw [cif_pos (Or.inr (Or.inr w3))]
        rw [e] at hK
        exact hK h ⟨I, sd, hh, F, g, r⟩ (fr_rf _ _ _)
  · refine AW_if_eq 10 23 hX dX7_races_7 rfl (by decide) (fun c7 => ?_) (fun c7 => absurd rfl c7)
    refine AW_bipush 25 hX dX7_races_23 rfl bp_m102 ?_
    refine AW_iret hX hE dX7_races_25 rfl (Nat.le_refl _) (Nat.le_refl _) ?_
    have e : spRaces (kp, yd, qk, pm, pg, (n, ks, ht, p, s, stp, fl, m, hd), w) x y z = (-102, (kp, yd, qk, pm, pg, (n, ks, ht, p, s, stp, fl, m, hd), w)) := by
      show (cif _ _ _, _) = _
      rw [cif_pos (Or.inl w1)]
    rw [e] at hK
    exact hK h ⟨I, sd, hh, F, g, r⟩ (fr_rf _ _ _)
set_option maxRecDepth 100000 in
set_option maxHeartbeats 4000000 in
theorem M_plain {h : AH} {K : Option Value → AH → Prop} {kp yd qk pm n ht p s : Nat} {pg ks : Nat → Nat} {stp fl : Int32} {m : Nat} {hd : HD} {w : SV} {I : Nat → Int32} {sd hh : Int64} {F : AF} (g : MH h I sd hh F) (r : MR (kp, yd, qk, pm, pg, (n, ks, ht, p, s, stp, fl, m, hd), w) I F) (ok : Sok (kp, yd, qk, pm, pg, (n, ks, ht, p, s, stp, fl, m, hd), w)) (hK : K (some (.int (nI (cntP (fun j => nI (ks j)) n)))) h) : aX7_plain 0 [.ref 34] h K := by
  obtain ⟨g0, a0, a1, a2, a3, a4, a5, a6, a7, a8, a9, a10, a11⟩ := id g
  obtain ⟨⟨e0, e1, e3, e4, e5, e6, e7, e8, e13, e14⟩, rk, rh, rp, rkp, rk0⟩ := id r
  obtain ⟨⟨ok1, ok2, ok3, ok4, ok5, ok6, ok7, ok8⟩, okp, okw, okq, okpm, okpg, oky⟩ := id ok
  have hp12 : p < 12 := by
    rcases Nat.eq_zero_or_pos n with e | e
    · have := ok8 e; omega
    · have := ok7 e; omega
  refine AM.of [some (.ref 34), none, none] pn_X7_plain rfl (Nat.le_of_ble_eq_true rfl) (fun X hX hE => ?_)
  have loop : ∀ d i, i + d = n → AW X 0 0 4 [some (.ref 34), some (.int (nI (cntP (fun j => nI (ks j)) i))), some (.int (nI i))] [] h := by
    intro d
    induction d with
    | zero =>
      intro i hi
      refine AW_iload_n 5 hX dX7_plain_4 rfl rfl ?_
      refine AW_aload_n 6 hX dX7_plain_5 rfl rfl ?_
      refine AW_get 9 hX dX7_plain_6 rfl fl_X7_73 (by first | assumption | exact hset_eq | exact (hset_ne (by omega)).trans (by first | assumption | exact hset_eq | exact (hset_ne (by omega)).trans (by first | assumption | exact hset_eq | exact (hset_ne (by omega)).trans (by first | assumption | exact hset_eq | exact (hset_ne (by omega)).trans (by first | assumption | exact hset_eq))))) rfl ?_
      rw [e1]
      refine AW_icmp_ge 12 35 hX dX7_plain_9 rfl (by decide) (fun c9 => ?_) (fun c9 => absurd (nI_le (by omega) (by omega)) c9)
      refine AW_iload_n 36 hX dX7_plain_35 rfl rfl ?_
      refine AW_iret hX hE dX7_plain_36 rfl (Nat.le_refl _) (Nat.le_refl _) ?_
      rw [show i = n by omega]; exact hK
    | succ d ih =>
      intro i hi
      refine AW_iload_n 5 hX dX7_plain_4 rfl rfl ?_
      refine AW_aload_n 6 hX dX7_plain_5 rfl rfl ?_
      refine AW_get 9 hX dX7_plain_6 rfl fl_X7_73 (by first | assumption | exact hset_eq | exact (hset_ne (by omega)).trans (by first | assumption | exact hset_eq | exact (hset_ne (by omega)).trans (by first | assumption | exact hset_eq | exact (hset_ne (by omega)).trans (by first | assumption | exact hset_eq | exact (hset_ne (by omega)).trans (by first | assumption | exact hset_eq))))) rfl ?_
      rw [e1]
      refine AW_icmp_ge 12 35 hX dX7_plain_9 rfl (by decide) (fun c9 => absurd c9 (nI_ge (by omega) (by omega))) (fun c9 => ?_)
      refine AW_iload_n 13 hX dX7_plain_12 rfl rfl ?_
      refine AW_aload_n 14 hX dX7_plain_13 rfl rfl ?_
      refine AW_get 17 hX dX7_plain_14 rfl fl_X7_7 (by first | assumption | exact hset_eq | exact (hset_ne (by omega)).trans (by first | assumption | exact hset_eq | exact (hset_ne (by omega)).trans (by first | assumption | exact hset_eq | exact (hset_ne (by omega)).trans (by first | assumption | exact hset_eq | exact (hset_ne (by omega)).trans (by first | assumption | exact hset_eq))))) rfl ?_
      refine AW_iload_n 18 hX dX7_plain_17 rfl rfl ?_
      refine AW_iald 19 hX dX7_plain_18 rfl (by first | assumption | exact hset_eq | exact (hset_ne (by omega)).trans (by first | assumption | exact hset_eq | exact (hset_ne (by omega)).trans (by first | assumption | exact hset_eq | exact (hset_ne (by omega)).trans (by first | assumption | exact hset_eq | exact (hset_ne (by omega)).trans (by first | assumption | exact hset_eq))))) (j := i) (by omega) rfl ?_
      rw [rk i (by omega)]
      refine AW_if_ne 22 26 hX dX7_plain_19 rfl (by decide) (fun c19 => ?_) (fun c19 => ?_)
      · refine AW_iconst 27 hX dX7_plain_26 rfl ic_0 ?_
        refine AW_iadd 28 hX dX7_plain_27 rfl ?_
        refine AW_istore_n 29 hX dX7_plain_28 rfl (Nat.le_of_ble_eq_true rfl) rfl ?_
        refine AW_iinc 32 hX dX7_plain_29 rfl rfl (iincp ic_1) (Nat.le_of_ble_eq_true rfl) rfl ?_
        refine AW_goto 4 hX dX7_plain_32 (by decide) ?_
        rw [nI_1, Int32.add_zero]
        have := ih (i + 1) (by omega)
        simp only [cntP, if_neg c19, Nat.add_zero] at this
        exact this
      · refine AW_iconst 23 hX dX7_plain_22 rfl ic_1 ?_
        refine AW_goto 27 hX dX7_plain_23 (by decide) ?_
        refine AW_iadd 28 hX dX7_plain_27 rfl ?_
        refine AW_istore_n 29 hX dX7_plain_28 rfl (Nat.le_of_ble_eq_true rfl) rfl ?_
        refine AW_iinc 32 hX dX7_plain_29 rfl rfl (iincp ic_1) (Nat.le_of_ble_eq_true rfl) rfl ?_
        refine AW_goto 4 hX dX7_plain_32 (by decide) ?_
        rw [nI_1, nI_1]
        have := ih (i + 1) (by omega)
        simp only [cntP, if_pos c19] at this
        exact this
  refine AW_iconst 1 hX dX7_plain_0 rfl ic_0 ?_
  refine AW_istore_n 2 hX dX7_plain_1 rfl (Nat.le_of_ble_eq_true rfl) rfl ?_
  refine AW_iconst 3 hX dX7_plain_2 rfl ic_0 ?_
  refine AW_istore_n 4 hX dX7_plain_3 rfl (Nat.le_of_ble_eq_true rfl) rfl ?_
  exact loop n 0 (by omega)
set_option maxRecDepth 100000 in
set_option maxHeartbeats 4000000 in
theorem M_howMany {h : AH} {K : Option Value → AH → Prop} {kp yd qk pm n ht p s : Nat} {pg ks : Nat → Nat} {stp fl : Int32} {m : Nat} {hd : HD} {w : SV} {I : Nat → Int32} {sd hh : Int64} {F : AF} (g : MH h I sd hh F) (r : MR (kp, yd, qk, pm, pg, (n, ks, ht, p, s, stp, fl, m, hd), w) I F) (ok : Sok (kp, yd, qk, pm, pg, (n, ks, ht, p, s, stp, fl, m, hd), w)) (k : Nat) (hk : k < 12) (hK : K (some (.int (ctA (kp, yd, qk, pm, pg, (n, ks, ht, p, s, stp, fl, m, hd), w) k))) h) : aX7_howMany 1 [.ref 34, .int (nI k)] h K := by
  obtain ⟨g0, a0, a1, a2, a3, a4, a5, a6, a7, a8, a9, a10, a11⟩ := id g
  obtain ⟨⟨e0, e1, e3, e4, e5, e6, e7, e8, e13, e14⟩, rk, rh, rp, rkp, rk0⟩ := id r
  obtain ⟨⟨ok1, ok2, ok3, ok4, ok5, ok6, ok7, ok8⟩, okp, okw, okq, okpm, okpg, oky⟩ := id ok
  have hp12 : p < 12 := by
    rcases Nat.eq_zero_or_pos n with e | e
    · have := ok8 e; omega
    · have := ok7 e; omega
  refine AM.of [some (.ref 34), some (.int (nI k))] pn_X7_howMany rfl (Nat.le_of_ble_eq_true rfl) (fun X hX hE => ?_)
  refine AW_iload_n 1 hX dX7_howMany_0 rfl rfl ?_
  rcases (show k = 0 ∨ k = 1 ∨ k = 2 ∨ k = 3 ∨ k = 4 ∨ k = 5 ∨ k = 6 ∨ k = 7 ∨ k = 8 ∨ k = 9 ∨ k = 10 ∨ k = 11 by omega) with rfl | rfl | rfl | rfl | rfl | rfl | rfl | rfl | rfl | rfl | rfl | rfl
  · refine AW_tab (off := 63) 64 hX dX7_howMany_1 (by decide) (by decide) (by decide) (by decide) ?_
    refine AW_aload_n 65 hX dX7_howMany_64 rfl rfl ?_
    refine AW_get 68 hX dX7_howMany_65 rfl fl_X7_73 (by first | assumption | exact hset_eq | exact (hset_ne (by omega)).trans (by first | assumption | exact hset_eq | exact (hset_ne (by omega)).trans (by first | assumption | exact hset_eq | exact (hset_ne (by omega)).trans (by first | assumption | exact hset_eq | exact (hset_ne (by omega)).trans (by first | assumption | exact hset_eq))))) rfl ?_
    refine AW_iret hX hE dX7_howMany_68 rfl (Nat.le_refl _) (Nat.le_refl _) ?_
    rw [e1]
    exact hK
  · refine AW_tab (off := 68) 69 hX dX7_howMany_1 (by decide) (by decide) (by decide) (by decide) ?_
    refine AW_aload_n 70 hX dX7_howMany_69 rfl rfl ?_
    refine AW_get 73 hX dX7_howMany_70 rfl fl_X7_76 (by first | assumption | exact hset_eq | exact (hset_ne (by omega)).trans (by first | assumption | exact hset_eq | exact (hset_ne (by omega)).trans (by first | assumption | exact hset_eq | exact (hset_ne (by omega)).trans (by first | assumption | exact hset_eq | exact (hset_ne (by omega)).trans (by first | assumption | exact hset_eq))))) rfl ?_
    refine AW_iret hX hE dX7_howMany_73 rfl (Nat.le_refl _) (Nat.le_refl _) ?_
    rw [e3]
    exact hK
  · refine AW_tab (off := 73) 74 hX dX7_howMany_1 (by decide) (by decide) (by decide) (by decide) ?_
    refine AW_aload_n 75 hX dX7_howMany_74 rfl rfl ?_
    refine AW_get 78 hX dX7_howMany_75 rfl fl_X7_82 (by first | assumption | exact hset_eq | exact (hset_ne (by omega)).trans (by first | assumption | exact hset_eq | exact (hset_ne (by omega)).trans (by first | assumption | exact hset_eq | exact (hset_ne (by omega)).trans (by first | assumption | exact hset_eq | exact (hset_ne (by omega)).trans (by first | assumption | exact hset_eq))))) rfl ?_
    refine AW_iret hX hE dX7_howMany_78 rfl (Nat.le_refl _) (Nat.le_refl _) ?_
    rw [e4]
    exact hK
  · refine AW_tab (off := 78) 79 hX dX7_howMany_1 (by decide) (by decide) (by decide) (by decide) ?_
    refine AW_aload_n 80 hX dX7_howMany_79 rfl rfl ?_
    refine AW_get 83 hX dX7_howMany_80 rfl fl_X7_85 (by first | assumption | exact hset_eq | exact (hset_ne (by omega)).trans (by first | assumption | exact hset_eq | exact (hset_ne (by omega)).trans (by first | assumption | exact hset_eq | exact (hset_ne (by omega)).trans (by first | assumption | exact hset_eq | exact (hset_ne (by omega)).trans (by first | assumption | exact hset_eq))))) rfl ?_
    refine AW_iret hX hE dX7_howMany_83 rfl (Nat.le_refl _) (Nat.le_refl _) ?_
    rw [e5]
    exact hK
  · refine AW_tab (off := 83) 84 hX dX7_howMany_1 (by decide) (by decide) (by decide) (by decide) ?_
    refine AW_aload_n 85 hX dX7_howMany_84 rfl rfl ?_
    refine AW_get 88 hX dX7_howMany_85 rfl fl_X7_88 (by first | assumption | exact hset_eq | exact (hset_ne (by omega)).trans (by first | assumption | exact hset_eq | exact (hset_ne (by omega)).trans (by first | assumption | exact hset_eq | exact (hset_ne (by omega)).trans (by first | assumption | exact hset_eq | exact (hset_ne (by omega)).trans (by first | assumption | exact hset_eq))))) rfl ?_
    refine AW_iret hX hE dX7_howMany_88 rfl (Nat.le_refl _) (Nat.le_refl _) ?_
    rw [e6]
    exact hK
  · refine AW_tab (off := 88) 89 hX dX7_howMany_1 (by decide) (by decide) (by decide) (by decide) ?_
    refine AW_aload_n 90 hX dX7_howMany_89 rfl rfl ?_
    refine AW_get 93 hX dX7_howMany_90 rfl fl_X7_91 (by first | assumption | exact hset_eq | exact (hset_ne (by omega)).trans (by first | assumption | exact hset_eq | exact (hset_ne (by omega)).trans (by first | assumption | exact hset_eq | exact (hset_ne (by omega)).trans (by first | assumption | exact hset_eq | exact (hset_ne (by omega)).trans (by first | assumption | exact hset_eq))))) rfl ?_
    refine AW_iret hX hE dX7_howMany_93 rfl (Nat.le_refl _) (Nat.le_refl _) ?_
    rw [e7]
    exact hK
  · refine AW_tab (off := 93) 94 hX dX7_howMany_1 (by decide) (by decide) (by decide) (by decide) ?_
    refine AW_aload_n 95 hX dX7_howMany_94 rfl rfl ?_
    refine AW_get 98 hX dX7_howMany_95 rfl fl_X7_73 (by first | assumption | exact hset_eq | exact (hset_ne (by omega)).trans (by first | assumption | exact hset_eq | exact (hset_ne (by omega)).trans (by first | assumption | exact hset_eq | exact (hset_ne (by omega)).trans (by first | assumption | exact hset_eq | exact (hset_ne (by omega)).trans (by first | assumption | exact hset_eq))))) rfl ?_
    rw [e1]
    refine AW_if_ne 101 105 hX dX7_howMany_98 rfl (by decide) (fun c98 => ?_) (fun c98 => ?_)
    · refine AW_aload_n 106 hX dX7_howMany_105 rfl rfl ?_
      refine AW_get 109 hX dX7_howMany_106 rfl fl_X7_76 (by first | assumption | exact hset_eq | exact (hset_ne (by omega)).trans (by first | assumption | exact hset_eq | exact (hset_ne (by omega)).trans (by first | assumption | exact hset_eq | exact (hset_ne (by omega)).trans (by first | assumption | exact hset_eq | exact (hset_ne (by omega)).trans (by first | assumption | exact hset_eq))))) rfl ?_
      rw [e3]
      refine AW_cS (As := [_]) 112 hX dX7_howMany_109 rfl ml_X7_112 mw_X7_bears rfl rfl (Nat.le_of_ble_eq_true rfl) (by decide) ⟨(Nat.le_refl _), (Nat.le_refl _)⟩ (M_bears ht (by omega) ?_)
      refine AW_iret hX hE dX7_howMany_112 rfl (Nat.le_refl _) (Nat.le_refl _) ?_
      rw [show ctA (kp, yd, qk, pm, pg, (n, ks, ht, p, s, stp, fl, m, hd), w) 6 = nI (12 - ht) from if_neg (iNe (b := 0) c98)] at hK
      exact hK
    · refine AW_iconst 102 hX dX7_howMany_101 rfl ic_0 ?_
      refine AW_goto 112 hX dX7_howMany_102 (by decide) ?_
      refine AW_iret hX hE dX7_howMany_112 rfl (Nat.le_refl _) (Nat.le_refl _) ?_
      rw [show ctA (kp, yd, qk, pm, pg, (n, ks, ht, p, s, stp, fl, m, hd), w) 6 = 0 from if_pos (iEq (b := 0) c98)] at hK
      exact hK
  · refine AW_tab (off := 112) 113 hX dX7_howMany_1 (by decide) (by decide) (by decide) (by decide) ?_
    refine AW_aload_n 114 hX dX7_howMany_113 rfl rfl ?_
    refine AW_cV (As := []) 117 hX dX7_howMany_114 rfl ml_X7_194 mw_X7_plain (by first | assumption | exact hset_eq | exact (hset_ne (by omega)).trans (by first | assumption | exact hset_eq | exact (hset_ne (by omega)).trans (by first | assumption | exact hset_eq | exact (hset_ne (by omega)).trans (by first | assumption | exact hset_eq | exact (hset_ne (by omega)).trans (by first | assumption | exact hset_eq))))) (by decide) rfl rfl rfl (Nat.le_of_ble_eq_true rfl) (by decide) ⟨(Nat.le_refl _), (Nat.le_refl _)⟩ (M_plain g r ok ?_)
    refine AW_iret hX hE dX7_howMany_117 rfl (Nat.le_refl _) (Nat.le_refl _) ?_
    exact hK
  · refine AW_tab (off := 117) 118 hX dX7_howMany_1 (by decide) (by decide) (by decide) (by decide) ?_
    refine AW_aload_n 119 hX dX7_howMany_118 rfl rfl ?_
    refine AW_get 122 hX dX7_howMany_119 rfl fl_X7_94 (by first | assumption | exact hset_eq | exact (hset_ne (by omega)).trans (by first | assumption | exact hset_eq | exact (hset_ne (by omega)).trans (by first | assumption | exact hset_eq | exact (hset_ne (by omega)).trans (by first | assumption | exact hset_eq | exact (hset_ne (by omega)).trans (by first | assumption | exact hset_eq))))) rfl ?_
    refine AW_iret hX hE dX7_howMany_122 rfl (Nat.le_refl _) (Nat.le_refl _) ?_
    rw [e8]
    exact hK
  · refine AW_tab (off := 122) 123 hX dX7_howMany_1 (by decide) (by decide) (by decide) (by decide) ?_
    refine AW_aload_n 124 hX dX7_howMany_123 rfl rfl ?_
    refine AW_get 127 hX dX7_howMany_124 rfl fl_X7_51 (by first | assumption | exact hset_eq | exact (hset_ne (by omega)).trans (by first | assumption | exact hset_eq | exact (hset_ne (by omega)).trans (by first | assumption | exact hset_eq | exact (hset_ne (by omega)).trans (by first | assumption | exact hset_eq | exact (hset_ne (by omega)).trans (by first | assumption | exact hset_eq))))) rfl ?_
    refine AW_iret hX hE dX7_howMany_127 rfl (Nat.le_refl _) (Nat.le_refl _) ?_
    rw [e14]
    exact hK
  · refine AW_tab (off := 127) 128 hX dX7_howMany_1 (by decide) (by decide) (by decide) (by decide) ?_
    refine AW_aload_n 129 hX dX7_howMany_128 rfl rfl ?_
    refine AW_get 132 hX dX7_howMany_129 rfl fl_X7_79 (by first | assumption | exact hset_eq | exact (hset_ne (by omega)).trans (by first | assumption | exact hset_eq | exact (hset_ne (by omega)).trans (by first | assumption | exact hset_eq | exact (hset_ne (by omega)).trans (by first | assumption | exact hset_eq | exact (hset_ne (by omega)).trans (by first | assumption | exact hset_eq))))) rfl ?_
    refine AW_iret hX hE dX7_howMany_132 rfl (Nat.le_refl _) (Nat.le_refl _) ?_
    rw [e0]
    exact hK
  · refine AW_tab (off := 132) 133 hX dX7_howMany_1 (by decide) (by decide) (by decide) (by decide) ?_
    refine AW_aload_n 134 hX dX7_howMany_133 rfl rfl ?_
    refine AW_get 137 hX dX7_howMany_134 rfl fl_X7_130 (by first | assumption | exact hset_eq | exact (hset_ne (by omega)).trans (by first | assumption | exact hset_eq | exact (hset_ne (by omega)).trans (by first | assumption | exact hset_eq | exact (hset_ne (by omega)).trans (by first | assumption | exact hset_eq | exact (hset_ne (by omega)).trans (by first | assumption | exact hset_eq))))) rfl ?_
    refine AW_iret hX hE dX7_howMany_137 rfl (Nat.le_refl _) (Nat.le_refl _) ?_
    rw [e13]
    exact hK
set_option maxRecDepth 100000 in
set_option maxHeartbeats 4000000 in
theorem M_howOut {h : AH} {K : Option Value → AH → Prop} (x : Int32) (hx : ¬ isP 12 x) (hKo : K (some (.int (-102))) h) : aX7_howMany 1 [.ref 34, .int x] h K := by
  refine AM.of [some (.ref 34), some (.int x)] pn_X7_howMany rfl (Nat.le_of_ble_eq_true rfl) (fun X hX hE => ?_)
  refine AW_iload_n 1 hX dX7_howMany_0 rfl rfl ?_
  refine AW_tabO 138 hX dX7_howMany_1 ?_ (by decide) ?_
  · rcases Int.lt_or_le x.toInt 0 with q | q
    · exact Or.inl q
    · refine Or.inr ?_
      rcases Int.lt_or_le 11 x.toInt with r | r
      · exact r
      · exact absurd ⟨x.toInt.toNat, by omega, Int32.toInt_inj.mp (by rw [nI_toInt (by omega)]; omega)⟩ hx
  refine AW_bipush 140 hX dX7_howMany_138 rfl bp_m102 ?_
  refine AW_iret hX hE dX7_howMany_140 rfl (Nat.le_refl _) (Nat.le_refl _) ?_
  exact hKo
set_option maxRecDepth 100000 in
set_option maxHeartbeats 4000000 in
theorem D_count {h : AH} {K : Option Value → AH → Prop} {kp yd qk pm n ht p s : Nat} {pg ks : Nat → Nat} {stp fl : Int32} {m : Nat} {hd : HD} {w : SV} {I : Nat → Int32} {sd hh : Int64} {F : AF} (g : MH h I sd hh F) (r : MR (kp, yd, qk, pm, pg, (n, ks, ht, p, s, stp, fl, m, hd), w) I F) (ok : Sok (kp, yd, qk, pm, pg, (n, ks, ht, p, s, stp, fl, m, hd), w)) (x : Int32) (hK : ∀ h' : AH, MJ h' (spCount (kp, yd, qk, pm, pg, (n, ks, ht, p, s, stp, fl, m, hd), w) x).2 → fr h h' 34 47 → K (some (.int (spCount (kp, yd, qk, pm, pg, (n, ks, ht, p, s, stp, fl, m, hd), w) x).1)) h') : aX7_count 2 [.ref 34, .int x] h K := by
  obtain ⟨g0, a0, a1, a2, a3, a4, a5, a6, a7, a8, a9, a10, a11⟩ := id g
  obtain ⟨⟨e0, e1, e3, e4, e5, e6, e7, e8, e13, e14⟩, rk, rh, rp, rkp, rk0⟩ := id r
  obtain ⟨⟨ok1, ok2, ok3, ok4, ok5, ok6, ok7, ok8⟩, okp, okw, okq, okpm, okpg, oky⟩ := id ok
  have hp12 : p < 12 := by
    rcases Nat.eq_zero_or_pos n with e | e
    · have := ok8 e; omega
    · have := ok7 e; omega
  rcases i0 x 12 (by decide) with hx | hx
  · obtain ⟨k, hk12, ek⟩ := hx
    subst ek
    refine AM.of [some (.ref 34), some (.int (nI k))] pn_X7_count rfl (Nat.le_of_ble_eq_true rfl) (fun X hX hE => ?_)
    refine AW_aload_n 1 hX dX7_count_0 rfl rfl ?_
    refine AW_iload_n 2 hX dX7_count_1 rfl rfl ?_
    refine AW_cV (As := [_]) 5 hX dX7_count_2 rfl ml_X7_197 mw_X7_howMany (by first | assumption | exact hset_eq | exact (hset_ne (by omega)).trans (by first | assumption | exact hset_eq | exact (hset_ne (by omega)).trans (by first | assumption | exact hset_eq | exact (hset_ne (by omega)).trans (by first | assumption | exact hset_eq | exact (hset_ne (by omega)).trans (by first | assumption | exact hset_eq))))) (by decide) rfl rfl rfl (Nat.le_of_ble_eq_true rfl) (by decide) ⟨(Nat.le_refl _), (Nat.le_refl _)⟩ (M_howMany g r ok k hk12 ?_)
    refine AW_iret hX hE dX7_count_5 rfl (Nat.le_refl _) (Nat.le_refl _) ?_
    have e : spCount (kp, yd, qk, pm, pg, (n, ks, ht, p, s, stp, fl, m, hd), w) (nI k) = (ctA (kp, yd, qk, pm, pg, (n, ks, ht, p, s, stp, fl, m, hd), w) k, (kp, yd, qk, pm, pg, (n, ks, ht, p, s, stp, fl, m, hd), w)) := by
      show (cif _ _ _, _) = _
      rw [cif_pos ⟨k, hk12, rfl⟩, cN_nI (by omega)]
    rw [e] at hK
    exact hK h ⟨I, sd, hh, F, g, r⟩ (fr_rf _ _ _)
  · refine AM.of [some (.ref 34), some (.int x)] pn_X7_count rfl (Nat.le_of_ble_eq_true rfl) (fun X hX hE => ?_)
    refine AW_aload_n 1 hX dX7_count_0 rfl rfl ?_
    refine AW_iload_n 2 hX dX7_count_1 rfl rfl ?_
    refine AW_cV (As := [_]) 5 hX dX7_count_2 rfl ml_X7_197 mw_X7_howMany (by first | assumption | exact hset_eq | exact (hset_ne (by omega)).trans (by first | assumption | exact hset_eq | exact (hset_ne (by omega)).trans (by first | assumption | exact hset_eq | exact (hset_ne (by omega)).trans (by first | assumption | exact hset_eq | exact (hset_ne (by omega)).trans (by first | assumption | exact hset_eq))))) (by decide) rfl rfl rfl (Nat.le_of_ble_eq_true rfl) (by decide) ⟨(Nat.le_refl _), (Nat.le_refl _)⟩ (M_howOut x hx ?_)
    refine AW_iret hX hE dX7_count_5 rfl (Nat.le_refl _) (Nat.le_refl _) ?_
    have e : spCount (kp, yd, qk, pm, pg, (n, ks, ht, p, s, stp, fl, m, hd), w) x = (-102, (kp, yd, qk, pm, pg, (n, ks, ht, p, s, stp, fl, m, hd), w)) := by
      show (cif _ _ _, _) = _
      rw [cif_neg hx]
    rw [e] at hK
    exact hK h ⟨I, sd, hh, F, g, r⟩ (fr_rf _ _ _)
set_option maxRecDepth 100000 in
set_option maxHeartbeats 4000000 in
theorem D_image {h : AH} {K : Option Value → AH → Prop} {kp yd qk pm n ht p s : Nat} {pg ks : Nat → Nat} {stp fl : Int32} {m : Nat} {hd : HD} {w : SV} {I : Nat → Int32} {sd hh : Int64} {F : AF} (g : MH h I sd hh F) (r : MR (kp, yd, qk, pm, pg, (n, ks, ht, p, s, stp, fl, m, hd), w) I F) (ok : Sok (kp, yd, qk, pm, pg, (n, ks, ht, p, s, stp, fl, m, hd), w)) (hK : ∀ h' : AH, MJ h' (spImage (kp, yd, qk, pm, pg, (n, ks, ht, p, s, stp, fl, m, hd), w)).2 → fr h h' 34 47 → K (some (.int (spImage (kp, yd, qk, pm, pg, (n, ks, ht, p, s, stp, fl, m, hd), w)).1)) h') : aX7_image 1 [.ref 34] h K := by
  obtain ⟨g0, a0, a1, a2, a3, a4, a5, a6, a7, a8, a9, a10, a11⟩ := id g
  obtain ⟨⟨e0, e1, e3, e4, e5, e6, e7, e8, e13, e14⟩, rk, rh, rp, rkp, rk0⟩ := id r
  obtain ⟨⟨ok1, ok2, ok3, ok4, ok5, ok6, ok7, ok8⟩, okp, okw, okq, okpm, okpg, oky⟩ := id ok
  have hp12 : p < 12 := by
    rcases Nat.eq_zero_or_pos n with e | e
    · have := ok8 e; omega
    · have := ok7 e; omega
  refine AM.of [some (.ref 34), none] pn_X7_image rfl (Nat.le_of_ble_eq_true rfl) (fun X hX hE => ?_)
  generalize eI2 : upd (upd (upd (upd (upd (upd (upd (upd I 20 1) 21 (nI yd)) 22 (nI ht)) 23 (nI p)) 24 (nI s)) 25 stp) 26 fl) 27 (nI m) = I2
  have i6 : I2 6 = stp := by rw [← eI2]; exact e6
  have loop2 : ∀ d i, i + d = 6 → ∀ (h' : AH) (F' : AF), MH h' I2 sd hh F' → (∀ k, k < 7 → F' k = F k) → (∀ j, j < 12 → F' 7 j = F 0 j) → (∀ j, j < i → F' 8 j = F 1 j ∧ F' 9 j = F 2 j ∧ F' 10 j = F 3 j ∧ F' 11 j = F 4 j) → fr h h' 34 47 → ¬ n = 0 → AW X 0 0 99 [some (.ref 34), some (.int (nI i))] [] h' := by
    intro d
    induction d with
    | zero =>
      intro i hi h' F' g' ef ef7 ef8 hfr hn
      have b0 := g'.1
      refine AW_iload_n 100 hX dX7_image_99 rfl rfl ?_
      refine AW_bipush 102 hX dX7_image_100 rfl bp_6 ?_
      refine AW_icmp_ge 105 159 hX dX7_image_102 rfl (by decide) (fun c102 => ?_) (fun c102 => absurd (nI_le (a := 6) (b := i) (by omega) (by omega)) c102)
      refine AW_aload_n 160 hX dX7_image_159 rfl rfl ?_
      refine AW_get 163 hX dX7_image_160 rfl fl_X7_88 (by first | assumption | exact hset_eq | exact (hset_ne (by omega)).trans (by first | assumption | exact hset_eq | exact (hset_ne (by omega)).trans (by first | assumption | exact hset_eq | exact (hset_ne (by omega)).trans (by first | assumption | exact hset_eq | exact (hset_ne (by omega)).trans (by first | assumption | exact hset_eq))))) rfl ?_
      refine AW_iret hX hE dX7_image_163 rfl (Nat.le_refl _) (Nat.le_refl _) ?_
      have e : spImage (kp, yd, qk, pm, pg, (n, ks, ht, p, s, stp, fl, m, hd), w) = (stp, (1, yd, qk, pm, pg, (n, ks, ht, p, s, stp, fl, m, hd), (n, ks, ht, p, s, stp, fl, m, hd))) := by
        show cif _ _ _ = _
        rw [cif_neg hn]
      rw [e] at hK
      rw [i6]
      refine hK _ ⟨I2, sd, hh, F', g', ?_⟩ hfr
      subst eI2
      refine ⟨⟨e0, e1, e3, e4, e5, e6, e7, e8, e13, e14⟩, fun j hj => by rw [ef 0 (by decide)]; exact rk j hj, fun j hj => by rw [ef 1 (by decide), ef 2 (by decide), ef 3 (by decide), ef 4 (by decide)]; exact rh j hj, fun j hj => by rw [ef 5 (by decide)]; exact rp j hj, fun _ => ⟨⟨rfl, rfl, rfl, rfl, rfl, rfl, rfl, rfl⟩, fun j hj => by rw [ef7 j (by omega)]; exact rk j hj, fun j hj => ?_⟩, fun q => by omega⟩
      obtain ⟨z1, z2, z3, z4⟩ := ef8 j (by omega)
      rw [z1, z2, z3, z4]
      exact rh j hj
    | succ d ih =>
      intro i hi h' F' g' ef ef7 ef8 hfr hn
      obtain ⟨b0, c0, c1, c2, c3, c4, c5, c6, c7, c8, c9, c10, c11⟩ := id g'
      refine AW_iload_n 100 hX dX7_image_99 rfl rfl ?_
      refine AW_bipush 102 hX dX7_image_100 rfl bp_6 ?_
      refine AW_icmp_ge 105 159 hX dX7_image_102 rfl (by decide) (fun c102 => absurd c102 (nI_ge (a := i) (b := 6) (by omega) (by decide))) (fun c102 => ?_)
      refine AW_aload_n 106 hX dX7_image_105 rfl rfl ?_
      refine AW_get 109 hX dX7_image_106 rfl fl_X7_35 (by first | assumption | exact hset_eq | exact (hset_ne (by omega)).trans (by first | assumption | exact hset_eq | exact (hset_ne (by omega)).trans (by first | assumption | exact hset_eq | exact (hset_ne (by omega)).trans (by first | assumption | exact hset_eq | exact (hset_ne (by omega)).trans (by first | assumption | exact hset_eq))))) rfl ?_
      refine AW_iload_n 110 hX dX7_image_109 rfl rfl ?_
      refine AW_aload_n 111 hX dX7_image_110 rfl rfl ?_
      refine AW_get 114 hX dX7_image_111 rfl fl_X7_13 (by first | assumption | exact hset_eq | exact (hset_ne (by omega)).trans (by first | assumption | exact hset_eq | exact (hset_ne (by omega)).trans (by first | assumption | exact hset_eq | exact (hset_ne (by omega)).trans (by first | assumption | exact hset_eq | exact (hset_ne (by omega)).trans (by first | assumption | exact hset_eq))))) rfl ?_
      refine AW_iload_n 115 hX dX7_image_114 rfl rfl ?_
      refine AW_iald 116 hX dX7_image_115 rfl (by first | assumption | exact hset_eq | exact (hset_ne (by omega)).trans (by first | assumption | exact hset_eq | exact (hset_ne (by omega)).trans (by first | assumption | exact hset_eq | exact (hset_ne (by omega)).trans (by first | assumption | exact hset_eq | exact (hset_ne (by omega)).trans (by first | assumption | exact hset_eq))))) (j := i) (by omega) rfl ?_
      refine AW_iast 117 hX dX7_image_116 rfl (by first | assumption | exact hset_eq | exact (hset_ne (by omega)).trans (by first | assumption | exact hset_eq | exact (hset_ne (by omega)).trans (by first | assumption | exact hset_eq | exact (hset_ne (by omega)).trans (by first | assumption | exact hset_eq | exact (hset_ne (by omega)).trans (by first | assumption | exact hset_eq))))) (j := i) (by omega) rfl ?_
      try rw [hset_hset]
      refine AW_aload_n 118 hX dX7_image_117 rfl rfl ?_
      refine AW_get 121 hX dX7_image_118 rfl fl_X7_38 (by first | assumption | exact hset_eq | exact (hset_ne (by omega)).trans (by first | assumption | exact hset_eq | exact (hset_ne (by omega)).trans (by first | assumption | exact hset_eq | exact (hset_ne (by omega)).trans (by first | assumption | exact hset_eq | exact (hset_ne (by omega)).trans (by first | assumption | exact hset_eq))))) rfl ?_
      refine AW_iload_n 122 hX dX7_image_121 rfl rfl ?_
      refine AW_aload_n 123 hX dX7_image_122 rfl rfl ?_
      refine AW_get 126 hX dX7_image_123 rfl fl_X7_16 (by first | assumption | exact hset_eq | exact (hset_ne (by omega)).trans (by first | assumption | exact hset_eq | exact (hset_ne (by omega)).trans (by first | assumption | exact hset_eq | exact (hset_ne (by omega)).trans (by first | assumption | exact hset_eq | exact (hset_ne (by omega)).trans (by first | assumption | exact hset_eq))))) rfl ?_
      refine AW_iload_n 127 hX dX7_image_126 rfl rfl ?_
      refine AW_iald 128 hX dX7_image_127 rfl (by first | assumption | exact hset_eq | exact (hset_ne (by omega)).trans (by first | assumption | exact hset_eq | exact (hset_ne (by omega)).trans (by first | assumption | exact hset_eq | exact (hset_ne (by omega)).trans (by first | assumption | exact hset_eq | exact (hset_ne (by omega)).trans (by first | assumption | exact hset_eq))))) (j := i) (by omega) rfl ?_
      refine AW_iast 129 hX dX7_image_128 rfl (by first | assumption | exact hset_eq | exact (hset_ne (by omega)).trans (by first | assumption | exact hset_eq | exact (hset_ne (by omega)).trans (by first | assumption | exact hset_eq | exact (hset_ne (by omega)).trans (by first | assumption | exact hset_eq | exact (hset_ne (by omega)).trans (by first | assumption | exact hset_eq))))) (j := i) (by omega) rfl ?_
      try rw [hset_hset]
      refine AW_aload_n 130 hX dX7_image_129 rfl rfl ?_
      refine AW_get 133 hX dX7_image_130 rfl fl_X7_41 (by first | assumption | exact hset_eq | exact (hset_ne (by omega)).trans (by first | assumption | exact hset_eq | exact (hset_ne (by omega)).trans (by first | assumption | exact hset_eq | exact (hset_ne (by omega)).trans (by first | assumption | exact hset_eq | exact (hset_ne (by omega)).trans (by first | assumption | exact hset_eq))))) rfl ?_
      refine AW_iload_n 134 hX dX7_image_133 rfl rfl ?_
      refine AW_aload_n 135 hX dX7_image_134 rfl rfl ?_
      refine AW_get 138 hX dX7_image_135 rfl fl_X7_19 (by first | assumption | exact hset_eq | exact (hset_ne (by omega)).trans (by first | assumption | exact hset_eq | exact (hset_ne (by omega)).trans (by first | assumption | exact hset_eq | exact (hset_ne (by omega)).trans (by first | assumption | exact hset_eq | exact (hset_ne (by omega)).trans (by first | assumption | exact hset_eq))))) rfl ?_
      refine AW_iload_n 139 hX dX7_image_138 rfl rfl ?_
      refine AW_iald 140 hX dX7_image_139 rfl (by first | assumption | exact hset_eq | exact (hset_ne (by omega)).trans (by first | assumption | exact hset_eq | exact (hset_ne (by omega)).trans (by first | assumption | exact hset_eq | exact (hset_ne (by omega)).trans (by first | assumption | exact hset_eq | exact (hset_ne (by omega)).trans (by first | assumption | exact hset_eq))))) (j := i) (by omega) rfl ?_
      refine AW_iast 141 hX dX7_image_140 rfl (by first | assumption | exact hset_eq | exact (hset_ne (by omega)).trans (by first | assumption | exact hset_eq | exact (hset_ne (by omega)).trans (by first | assumption | exact hset_eq | exact (hset_ne (by omega)).trans (by first | assumption | exact hset_eq | exact (hset_ne (by omega)).trans (by first | assumption | exact hset_eq))))) (j := i) (by omega) rfl ?_
      try rw [hset_hset]
      refine AW_aload_n 142 hX dX7_image_141 rfl rfl ?_
      refine AW_get 145 hX dX7_image_142 rfl fl_X7_44 (by first | assumption | exact hset_eq | exact (hset_ne (by omega)).trans (by first | assumption | exact hset_eq | exact (hset_ne (by omega)).trans (by first | assumption | exact hset_eq | exact (hset_ne (by omega)).trans (by first | assumption | exact hset_eq | exact (hset_ne (by omega)).trans (by first | assumption | exact hset_eq))))) rfl ?_
      refine AW_iload_n 146 hX dX7_image_145 rfl rfl ?_
      refine AW_aload_n 147 hX dX7_image_146 rfl rfl ?_
      refine AW_get 150 hX dX7_image_147 rfl fl_X7_22 (by first | assumption | exact hset_eq | exact (hset_ne (by omega)).trans (by first | assumption | exact hset_eq | exact (hset_ne (by omega)).trans (by first | assumption | exact hset_eq | exact (hset_ne (by omega)).trans (by first | assumption | exact hset_eq | exact (hset_ne (by omega)).trans (by first | assumption | exact hset_eq))))) rfl ?_
      refine AW_iload_n 151 hX dX7_image_150 rfl rfl ?_
      refine AW_iald 152 hX dX7_image_151 rfl (by first | assumption | exact hset_eq | exact (hset_ne (by omega)).trans (by first | assumption | exact hset_eq | exact (hset_ne (by omega)).trans (by first | assumption | exact hset_eq | exact (hset_ne (by omega)).trans (by first | assumption | exact hset_eq | exact (hset_ne (by omega)).trans (by first | assumption | exact hset_eq))))) (j := i) (by omega) rfl ?_
      refine AW_iast 153 hX dX7_image_152 rfl (by first | assumption | exact hset_eq | exact (hset_ne (by omega)).trans (by first | assumption | exact hset_eq | exact (hset_ne (by omega)).trans (by first | assumption | exact hset_eq | exact (hset_ne (by omega)).trans (by first | assumption | exact hset_eq | exact (hset_ne (by omega)).trans (by first | assumption | exact hset_eq))))) (j := i) (by omega) rfl ?_
      try rw [hset_hset]
      refine AW_iinc 156 hX dX7_image_153 rfl rfl (iincp ic_1) (Nat.le_of_ble_eq_true rfl) rfl ?_
      refine AW_goto 99 hX dX7_image_156 (by decide) ?_
      rw [nI_1]
      refine ih (i + 1) (by omega) _ (upF (upF (upF (upF F' 8 (upd (F' 8) i (F' 1 i))) 9 (upd (F' 9) i (F' 2 i))) 10 (upd (F' 10) i (F' 3 i))) 11 (upd (F' 11) i (F' 4 i))) (MH_arr11 (MH_arr10 (MH_arr9 (MH_arr8 g')))) (fun k hk => ?_) (fun j hj => ef7 j hj) (fun j hj => ?_) (fr_tr hfr (fr_tr (fr_tr (fr_tr (fr_set (by omega) (by omega)) (fr_set (by omega) (by omega))) (fr_set (by omega) (by omega))) (fr_set (by omega) (by omega)))) hn
      · simp only [upF]
        rw [if_neg (by omega), if_neg (by omega), if_neg (by omega), if_neg (by omega)]
        exact ef k hk
      · show upd (F' 8) i (F' 1 i) j = _ ∧ upd (F' 9) i (F' 2 i) j = _ ∧ upd (F' 10) i (F' 3 i) j = _ ∧ upd (F' 11) i (F' 4 i) j = _
        rw [ef 1 (by decide), ef 2 (by decide), ef 3 (by decide), ef 4 (by decide)]
        by_cases e : j = i
        · subst e
          rw [pk_us, pk_us, pk_us, pk_us]
          exact ⟨rfl, rfl, rfl, rfl⟩
        · rw [pk_un e, pk_un e, pk_un e, pk_un e]
          exact ef8 j (by omega)
  have loop1 : ∀ d i, i + d = 12 → ∀ (h' : AH) (F' : AF), MH h' I2 sd hh F' → (∀ k, k < 7 → F' k = F k) → (∀ j, j < i → F' 7 j = F 0 j) → fr h h' 34 47 → ¬ n = 0 → AW X 0 0 73 [some (.ref 34), some (.int (nI i))] [] h' := by
    intro d
    induction d with
    | zero =>
      intro i hi h' F' g' ef ef7 hfr hn
      refine AW_iload_n 74 hX dX7_image_73 rfl rfl ?_
      refine AW_bipush 76 hX dX7_image_74 rfl bp_12 ?_
      refine AW_icmp_ge 79 97 hX dX7_image_76 rfl (by decide) (fun c76 => ?_) (fun c76 => absurd (nI_le (a := 12) (b := i) (by omega) (by omega)) c76)
      refine AW_iconst 98 hX dX7_image_97 rfl ic_0 ?_
      refine AW_istore_n 99 hX dX7_image_98 rfl (Nat.le_of_ble_eq_true rfl) rfl ?_
      exact loop2 6 0 (by omega) h' F' g' ef (fun j hj => ef7 j (by omega)) (fun j hj => by omega) hfr hn
    | succ d ih =>
      intro i hi h' F' g' ef ef7 hfr hn
      obtain ⟨b0, c0, c1, c2, c3, c4, c5, c6, c7, c8, c9, c10, c11⟩ := id g'
      refine AW_iload_n 74 hX dX7_image_73 rfl rfl ?_
      refine AW_bipush 76 hX dX7_image_74 rfl bp_12 ?_
      refine AW_icmp_ge 79 97 hX dX7_image_76 rfl (by decide) (fun c76 => absurd c76 (nI_ge (a := i) (b := 12) (by omega) (by decide))) (fun c76 => ?_)
      refine AW_aload_n 80 hX dX7_image_79 rfl rfl ?_
      refine AW_get 83 hX dX7_image_80 rfl fl_X7_32 (by first | assumption | exact hset_eq | exact (hset_ne (by omega)).trans (by first | assumption | exact hset_eq | exact (hset_ne (by omega)).trans (by first | assumption | exact hset_eq | exact (hset_ne (by omega)).trans (by first | assumption | exact hset_eq | exact (hset_ne (by omega)).trans (by first | assumption | exact hset_eq))))) rfl ?_
      refine AW_iload_n 84 hX dX7_image_83 rfl rfl ?_
      refine AW_aload_n 85 hX dX7_image_84 rfl rfl ?_
      refine AW_get 88 hX dX7_image_85 rfl fl_X7_7 (by first | assumption | exact hset_eq | exact (hset_ne (by omega)).trans (by first | assumption | exact hset_eq | exact (hset_ne (by omega)).trans (by first | assumption | exact hset_eq | exact (hset_ne (by omega)).trans (by first | assumption | exact hset_eq | exact (hset_ne (by omega)).trans (by first | assumption | exact hset_eq))))) rfl ?_
      refine AW_iload_n 89 hX dX7_image_88 rfl rfl ?_
      refine AW_iald 90 hX dX7_image_89 rfl (by first | assumption | exact hset_eq | exact (hset_ne (by omega)).trans (by first | assumption | exact hset_eq | exact (hset_ne (by omega)).trans (by first | assumption | exact hset_eq | exact (hset_ne (by omega)).trans (by first | assumption | exact hset_eq | exact (hset_ne (by omega)).trans (by first | assumption | exact hset_eq))))) (j := i) (by omega) rfl ?_
      refine AW_iast 91 hX dX7_image_90 rfl (by first | assumption | exact hset_eq | exact (hset_ne (by omega)).trans (by first | assumption | exact hset_eq | exact (hset_ne (by omega)).trans (by first | assumption | exact hset_eq | exact (hset_ne (by omega)).trans (by first | assumption | exact hset_eq | exact (hset_ne (by omega)).trans (by first | assumption | exact hset_eq))))) (j := i) (by omega) rfl ?_
      try rw [hset_hset]
      refine AW_iinc 94 hX dX7_image_91 rfl rfl (iincp ic_1) (Nat.le_of_ble_eq_true rfl) rfl ?_
      refine AW_goto 73 hX dX7_image_94 (by decide) ?_
      rw [nI_1]
      refine ih (i + 1) (by omega) _ (upF F' 7 (upd (F' 7) i (F' 0 i))) (MH_arr7 g') (fun k hk => ?_) (fun j hj => ?_) (fr_tr hfr (fr_set (by omega) (by omega))) hn
      · simp only [upF]
        rw [if_neg (by omega)]
        exact ef k hk
      · show upd (F' 7) i (F' 0 i) j = _
        rw [ef 0 (by decide)]
        by_cases e : j = i
        · subst e; exact pk_us
        · rw [pk_un e]; exact ef7 j (by omega)
  refine AW_aload_n 1 hX dX7_image_0 rfl rfl ?_
  refine AW_get 4 hX dX7_image_1 rfl fl_X7_73 (by first | assumption | exact hset_eq | exact (hset_ne (by omega)).trans (by first | assumption | exact hset_eq | exact (hset_ne (by omega)).trans (by first | assumption | exact hset_eq | exact (hset_ne (by omega)).trans (by first | assumption | exact hset_eq | exact (hset_ne (by omega)).trans (by first | assumption | exact hset_eq))))) rfl ?_
  rw [e1]
  refine AW_if_ne 7 10 hX dX7_image_4 rfl (by decide) (fun c4 => ?_) (fun c4 => ?_)
  · refine AW_aload_n 11 hX dX7_image_10 rfl rfl ?_
    refine AW_iconst 12 hX dX7_image_11 rfl ic_1 ?_
    refine AW_put 15 hX dX7_image_12 rfl fl_X7_170 (by first | assumption | exact hset_eq | exact (hset_ne (by omega)).trans (by first | assumption | exact hset_eq | exact (hset_ne (by omega)).trans (by first | assumption | exact hset_eq | exact (hset_ne (by omega)).trans (by first | assumption | exact hset_eq | exact (hset_ne (by omega)).trans (by first | assumption | exact hset_eq))))) rfl (fun _ => rfl) (fun _ => rfl) (Nat.le_of_ble_eq_true rfl) ?_
    rw [mo_set20]
    try rw [hset_hset]
    refine AW_aload_n 16 hX dX7_image_15 rfl rfl ?_
    refine AW_aload_n 17 hX dX7_image_16 rfl rfl ?_
    refine AW_get 20 hX dX7_image_17 rfl fl_X7_79 (by first | assumption | exact hset_eq | exact (hset_ne (by omega)).trans (by first | assumption | exact hset_eq | exact (hset_ne (by omega)).trans (by first | assumption | exact hset_eq | exact (hset_ne (by omega)).trans (by first | assumption | exact hset_eq | exact (hset_ne (by omega)).trans (by first | assumption | exact hset_eq))))) rfl ?_
    refine AW_put 23 hX dX7_image_20 rfl fl_X7_173 (by first | assumption | exact hset_eq | exact (hset_ne (by omega)).trans (by first | assumption | exact hset_eq | exact (hset_ne (by omega)).trans (by first | assumption | exact hset_eq | exact (hset_ne (by omega)).trans (by first | assumption | exact hset_eq | exact (hset_ne (by omega)).trans (by first | assumption | exact hset_eq))))) rfl (fun _ => rfl) (fun _ => rfl) (Nat.le_of_ble_eq_true rfl) ?_
    rw [mo_set21]
    try rw [hset_hset]
    refine AW_aload_n 24 hX dX7_image_23 rfl rfl ?_
    refine AW_aload_n 25 hX dX7_image_24 rfl rfl ?_
    refine AW_get 28 hX dX7_image_25 rfl fl_X7_76 (by first | assumption | exact hset_eq | exact (hset_ne (by omega)).trans (by first | assumption | exact hset_eq | exact (hset_ne (by omega)).trans (by first | assumption | exact hset_eq | exact (hset_ne (by omega)).trans (by first | assumption | exact hset_eq | exact (hset_ne (by omega)).trans (by first | assumption | exact hset_eq))))) rfl ?_
    refine AW_put 31 hX dX7_image_28 rfl fl_X7_176 (by first | assumption | exact hset_eq | exact (hset_ne (by omega)).trans (by first | assumption | exact hset_eq | exact (hset_ne (by omega)).trans (by first | assumption | exact hset_eq | exact (hset_ne (by omega)).trans (by first | assumption | exact hset_eq | exact (hset_ne (by omega)).trans (by first | assumption | exact hset_eq))))) rfl (fun _ => rfl) (fun _ => rfl) (Nat.le_of_ble_eq_true rfl) ?_
    rw [mo_set22]
    try rw [hset_hset]
    refine AW_aload_n 32 hX dX7_image_31 rfl rfl ?_
    refine AW_aload_n 33 hX dX7_image_32 rfl rfl ?_
    refine AW_get 36 hX dX7_image_33 rfl fl_X7_82 (by first | assumption | exact hset_eq | exact (hset_ne (by omega)).trans (by first | assumption | exact hset_eq | exact (hset_ne (by omega)).trans (by first | assumption | exact hset_eq | exact (hset_ne (by omega)).trans (by first | assumption | exact hset_eq | exact (hset_ne (by omega)).trans (by first | assumption | exact hset_eq))))) rfl ?_
    refine AW_put 39 hX dX7_image_36 rfl fl_X7_179 (by first | assumption | exact hset_eq | exact (hset_ne (by omega)).trans (by first | assumption | exact hset_eq | exact (hset_ne (by omega)).trans (by first | assumption | exact hset_eq | exact (hset_ne (by omega)).trans (by first | assumption | exact hset_eq | exact (hset_ne (by omega)).trans (by first | assumption | exact hset_eq))))) rfl (fun _ => rfl) (fun _ => rfl) (Nat.le_of_ble_eq_true rfl) ?_
    rw [mo_set23]
    try rw [hset_hset]
    refine AW_aload_n 40 hX dX7_image_39 rfl rfl ?_
    refine AW_aload_n 41 hX dX7_image_40 rfl rfl ?_
    refine AW_get 44 hX dX7_image_41 rfl fl_X7_85 (by first | assumption | exact hset_eq | exact (hset_ne (by omega)).trans (by first | assumption | exact hset_eq | exact (hset_ne (by omega)).trans (by first | assumption | exact hset_eq | exact (hset_ne (by omega)).trans (by first | assumption | exact hset_eq | exact (hset_ne (by omega)).trans (by first | assumption | exact hset_eq))))) rfl ?_
    refine AW_put 47 hX dX7_image_44 rfl fl_X7_182 (by first | assumption | exact hset_eq | exact (hset_ne (by omega)).trans (by first | assumption | exact hset_eq | exact (hset_ne (by omega)).trans (by first | assumption | exact hset_eq | exact (hset_ne (by omega)).trans (by first | assumption | exact hset_eq | exact (hset_ne (by omega)).trans (by first | assumption | exact hset_eq))))) rfl (fun _ => rfl) (fun _ => rfl) (Nat.le_of_ble_eq_true rfl) ?_
    rw [mo_set24]
    try rw [hset_hset]
    refine AW_aload_n 48 hX dX7_image_47 rfl rfl ?_
    refine AW_aload_n 49 hX dX7_image_48 rfl rfl ?_
    refine AW_get 52 hX dX7_image_49 rfl fl_X7_88 (by first | assumption | exact hset_eq | exact (hset_ne (by omega)).trans (by first | assumption | exact hset_eq | exact (hset_ne (by omega)).trans (by first | assumption | exact hset_eq | exact (hset_ne (by omega)).trans (by first | assumption | exact hset_eq | exact (hset_ne (by omega)).trans (by first | assumption | exact hset_eq))))) rfl ?_
    refine AW_put 55 hX dX7_image_52 rfl fl_X7_185 (by first | assumption | exact hset_eq | exact (hset_ne (by omega)).trans (by first | assumption | exact hset_eq | exact (hset_ne (by omega)).trans (by first | assumption | exact hset_eq | exact (hset_ne (by omega)).trans (by first | assumption | exact hset_eq | exact (hset_ne (by omega)).trans (by first | assumption | exact hset_eq))))) rfl (fun _ => rfl) (fun _ => rfl) (Nat.le_of_ble_eq_true rfl) ?_
    rw [mo_set25]
    try rw [hset_hset]
    refine AW_aload_n 56 hX dX7_image_55 rfl rfl ?_
    refine AW_aload_n 57 hX dX7_image_56 rfl rfl ?_
    refine AW_get 60 hX dX7_image_57 rfl fl_X7_91 (by first | assumption | exact hset_eq | exact (hset_ne (by omega)).trans (by first | assumption | exact hset_eq | exact (hset_ne (by omega)).trans (by first | assumption | exact hset_eq | exact (hset_ne (by omega)).trans (by first | assumption | exact hset_eq | exact (hset_ne (by omega)).trans (by first | assumption | exact hset_eq))))) rfl ?_
    refine AW_put 63 hX dX7_image_60 rfl fl_X7_188 (by first | assumption | exact hset_eq | exact (hset_ne (by omega)).trans (by first | assumption | exact hset_eq | exact (hset_ne (by omega)).trans (by first | assumption | exact hset_eq | exact (hset_ne (by omega)).trans (by first | assumption | exact hset_eq | exact (hset_ne (by omega)).trans (by first | assumption | exact hset_eq))))) rfl (fun _ => rfl) (fun _ => rfl) (Nat.le_of_ble_eq_true rfl) ?_
    rw [mo_set26]
    try rw [hset_hset]
    refine AW_aload_n 64 hX dX7_image_63 rfl rfl ?_
    refine AW_aload_n 65 hX dX7_image_64 rfl rfl ?_
    refine AW_get 68 hX dX7_image_65 rfl fl_X7_94 (by first | assumption | exact hset_eq | exact (hset_ne (by omega)).trans (by first | assumption | exact hset_eq | exact (hset_ne (by omega)).trans (by first | assumption | exact hset_eq | exact (hset_ne (by omega)).trans (by first | assumption | exact hset_eq | exact (hset_ne (by omega)).trans (by first | assumption | exact hset_eq))))) rfl ?_
    refine AW_put 71 hX dX7_image_68 rfl fl_X7_191 (by first | assumption | exact hset_eq | exact (hset_ne (by omega)).trans (by first | assumption | exact hset_eq | exact (hset_ne (by omega)).trans (by first | assumption | exact hset_eq | exact (hset_ne (by omega)).trans (by first | assumption | exact hset_eq | exact (hset_ne (by omega)).trans (by first | assumption | exact hset_eq))))) rfl (fun _ => rfl) (fun _ => rfl) (Nat.le_of_ble_eq_true rfl) ?_
    rw [mo_set27]
    try rw [hset_hset]
    refine AW_iconst 72 hX dX7_image_71 rfl ic_0 ?_
    refine AW_istore_n 73 hX dX7_image_72 rfl (Nat.le_of_ble_eq_true rfl) rfl ?_
    have hn : ¬ n = 0 := iNe (b := 0) c4
    refine cast (congrArg (fun z => AW X 0 0 73 [some (.ref 34), some (.int (nI 0))] [] (hset h 34 (.inl (6, mo z sd hh)))) ?_) (loop1 12 0 (by omega) (hset h 34 (.inl (6, mo I2 sd hh))) F (MH_obj g) (fun _ _ => rfl) (fun j hj => by omega) (fr_set (by omega) (by omega)) hn)
    rw [← eI2, ← e0, ← e3, ← e4, ← e5, ← e6, ← e7, ← e8]
    rfl
  · refine AW_bipush 9 hX dX7_image_7 rfl bp_m103 ?_
    refine AW_iret hX hE dX7_image_9 rfl (Nat.le_refl _) (Nat.le_refl _) ?_
    have e : spImage (kp, yd, qk, pm, pg, (n, ks, ht, p, s, stp, fl, m, hd), w) = (-103, (kp, yd, qk, pm, pg, (n, ks, ht, p, s, stp, fl, m, hd), w)) := by
      show cif _ _ _ = _
      rw [cif_pos (show n = 0 from iEq (b := 0) c4)]
    rw [e] at hK
    exact hK h ⟨I, sd, hh, F, g, r⟩ (fr_rf _ _ _)
set_option maxRecDepth 100000 in
set_option maxHeartbeats 4000000 in
theorem D_restore {h : AH} {K : Option Value → AH → Prop} {kp yd qk pm n ht p s : Nat} {pg ks : Nat → Nat} {stp fl : Int32} {m : Nat} {hd : HD} {w : SV} {I : Nat → Int32} {sd hh : Int64} {F : AF} (g : MH h I sd hh F) (r : MR (kp, yd, qk, pm, pg, (n, ks, ht, p, s, stp, fl, m, hd), w) I F) (ok : Sok (kp, yd, qk, pm, pg, (n, ks, ht, p, s, stp, fl, m, hd), w)) (hK : ∀ h' : AH, MJ h' (spRestore (kp, yd, qk, pm, pg, (n, ks, ht, p, s, stp, fl, m, hd), w)).2 → fr h h' 34 47 → K (some (.int (spRestore (kp, yd, qk, pm, pg, (n, ks, ht, p, s, stp, fl, m, hd), w)).1)) h') : aX7_restore 1 [.ref 34] h K := by
  obtain ⟨g0, a0, a1, a2, a3, a4, a5, a6, a7, a8, a9, a10, a11⟩ := id g
  obtain ⟨⟨e0, e1, e3, e4, e5, e6, e7, e8, e13, e14⟩, rk, rh, rp, rkp, rk0⟩ := id r
  obtain ⟨⟨ok1, ok2, ok3, ok4, ok5, ok6, ok7, ok8⟩, okp, okw, okq, okpm, okpg, oky⟩ := id ok
  have hp12 : p < 12 := by
    rcases Nat.eq_zero_or_pos n with e | e
    · have := ok8 e; omega
    · have := ok7 e; omega
  refine AM.of [some (.ref 34), none] pn_X7_restore rfl (Nat.le_of_ble_eq_true rfl) (fun X hX hE => ?_)
  have body : kp = 1 → AW X 0 0 21 [some (.ref 34), none] [] h := by
    intro hk1
    obtain ⟨n1, ks1, ht1, p1, s1, stp1, fl1, m1, hd1⟩ := w
    obtain ⟨⟨k20, k21, k22, k23, k24, k25, k26, k27⟩, kk, kh⟩ := rkp hk1
    obtain ⟨⟨w1, w2, w3, w4, w5, w6, w7, w8⟩, wn, wp⟩ := okw hk1
    have wn : n1 = n := wn
    generalize eI2 : upd (upd (upd (upd (upd (upd I 3 (I 22)) 4 (I 23)) 5 (I 24)) 6 (I 25)) 7 (I 26)) 8 (I 27) = I2
    have loop2 : ∀ d i, i + d = 6 → ∀ (h' : AH) (F' : AF), MH h' I2 sd hh F' → (∀ k, 5 ≤ k → F' k = F k) → (∀ j, j < 12 → F' 0 j = F 7 j) → (∀ j, j < i → F' 1 j = F 8 j ∧ F' 2 j = F 9 j ∧ F' 3 j = F 10 j ∧ F' 4 j = F 11 j) → fr h h' 34 47 → AW X 0 0 97 [some (.ref 34), some (.int (nI i))] [] h' := by
      intro d
      induction d with
      | zero =>
        intro i hi h' F' g' ef ef7 ef8 hfr
        have b0 := g'.1
        refine AW_iload_n 98 hX dX7_restore_97 rfl rfl ?_
        refine AW_bipush 100 hX dX7_restore_98 rfl bp_6 ?_
        refine AW_icmp_ge 103 157 hX dX7_restore_100 rfl (by decide) (fun c100 => ?_) (fun c100 => absurd (nI_le (a := 6) (b := i) (by omega) (by omega)) c100)
        refine AW_aload_n 158 hX dX7_restore_157 rfl rfl ?_
        refine AW_get 161 hX dX7_restore_158 rfl fl_X7_88 (by first | assumption | exact hset_eq | exact (hset_ne (by omega)).trans (by first | assumption | exact hset_eq | exact (hset_ne (by omega)).trans (by first | assumption | exact hset_eq | exact (hset_ne (by omega)).trans (by first | assumption | exact hset_eq | exact (hset_ne (by omega)).trans (by first | assumption | exact hset_eq))))) rfl ?_
        refine AW_iret hX hE dX7_restore_161 rfl (Nat.le_refl _) (Nat.le_refl _) ?_
        have e : spRestore (kp, yd, qk, pm, pg, (n, ks, ht, p, s, stp, fl, m, hd), (n1, ks1, ht1, p1, s1, stp1, fl1, m1, hd1)) = (stp1, (kp, yd, qk, pm, pg, (n1, ks1, ht1, p1, s1, stp1, fl1, m1, hd1), (n1, ks1, ht1, p1, s1, stp1, fl1, m1, hd1))) := by
          show cif _ _ _ = _
          rw [cif_neg (show ¬ kp = 0 by omega)]
        rw [e] at hK
        rw [show I2 6 = stp1 by rw [← eI2]; exact k25]
        refine hK _ ⟨I2, sd, hh, F', g', ?_⟩ hfr
        subst eI2
        refine ⟨⟨e0, by rw [wn]; exact e1, k22, k23, k24, k25, k26, k27, e13, e14⟩, fun j hj => by rw [ef7 j (by omega)]; exact kk j hj, fun j hj => ?_, fun j hj => by rw [ef 5 (by decide)]; exact rp j hj, fun _ => ⟨⟨k20, k21, k22, k23, k24, k25, k26, k27⟩, fun j hj => by rw [ef 7 (by decide)]; exact kk j hj, fun j hj => by rw [ef 8 (by decide), ef 9 (by decide), ef 10 (by decide), ef 11 (by decide)]; exact kh j hj⟩, fun q => by omega⟩
        obtain ⟨z1, z2, z3, z4⟩ := ef8 j (by omega)
        rw [z1, z2, z3, z4]
        exact kh j hj
      | succ d ih =>
        intro i hi h' F' g' ef ef7 ef8 hfr
        obtain ⟨b0, c0, c1, c2, c3, c4, c5, c6, c7, c8, c9, c10, c11⟩ := id g'
        refine AW_iload_n 98 hX dX7_restore_97 rfl rfl ?_
        refine AW_bipush 100 hX dX7_restore_98 rfl bp_6 ?_
        refine AW_icmp_ge 103 157 hX dX7_restore_100 rfl (by decide) (fun c100 => absurd c100 (nI_ge (a := i) (b := 6) (by omega) (by decide))) (fun c100 => ?_)
        refine AW_aload_n 104 hX dX7_restore_103 rfl rfl ?_
        refine AW_get 107 hX dX7_restore_104 rfl fl_X7_13 (by first | assumption | exact hset_eq | exact (hset_ne (by omega)).trans (by first | assumption | exact hset_eq | exact (hset_ne (by omega)).trans (by first | assumption | exact hset_eq | exact (hset_ne (by omega)).trans (by first | assumption | exact hset_eq | exact (hset_ne (by omega)).trans (by first | assumption | exact hset_eq))))) rfl ?_
        refine AW_iload_n 108 hX dX7_restore_107 rfl rfl ?_
        refine AW_aload_n 109 hX dX7_restore_108 rfl rfl ?_
        refine AW_get 112 hX dX7_restore_109 rfl fl_X7_35 (by first | assumption | exact hset_eq | exact (hset_ne (by omega)).trans (by first | assumption | exact hset_eq | exact (hset_ne (by omega)).trans (by first | assumption | exact hset_eq | exact (hset_ne (by omega)).trans (by first | assumption | exact hset_eq | exact (hset_ne (by omega)).trans (by first | assumption | exact hset_eq))))) rfl ?_
        refine AW_iload_n 113 hX dX7_restore_112 rfl rfl ?_
        refine AW_iald 114 hX dX7_restore_113 rfl (by first | assumption | exact hset_eq | exact (hset_ne (by omega)).trans (by first | assumption | exact hset_eq | exact (hset_ne (by omega)).trans (by first | assumption | exact hset_eq | exact (hset_ne (by omega)).trans (by first | assumption | exact hset_eq | exact (hset_ne (by omega)).trans (by first | assumption | exact hset_eq))))) (j := i) (by omega) rfl ?_
        refine AW_iast 115 hX dX7_restore_114 rfl (by first | assumption | exact hset_eq | exact (hset_ne (by omega)).trans (by first | assumption | exact hset_eq | exact (hset_ne (by omega)).trans (by first | assumption | exact hset_eq | exact (hset_ne (by omega)).trans (by first | assumption | exact hset_eq | exact (hset_ne (by omega)).trans (by first | assumption | exact hset_eq))))) (j := i) (by omega) rfl ?_
        try rw [hset_hset]
        refine AW_aload_n 116 hX dX7_restore_115 rfl rfl ?_
        refine AW_get 119 hX dX7_restore_116 rfl fl_X7_16 (by first | assumption | exact hset_eq | exact (hset_ne (by omega)).trans (by first | assumption | exact hset_eq | exact (hset_ne (by omega)).trans (by first | assumption | exact hset_eq | exact (hset_ne (by omega)).trans (by first | assumption | exact hset_eq | exact (hset_ne (by omega)).trans (by first | assumption | exact hset_eq))))) rfl ?_
        refine AW_iload_n 120 hX dX7_restore_119 rfl rfl ?_
        refine AW_aload_n 121 hX dX7_restore_120 rfl rfl ?_
        refine AW_get 124 hX dX7_restore_121 rfl fl_X7_38 (by first | assumption | exact hset_eq | exact (hset_ne (by omega)).trans (by first | assumption | exact hset_eq | exact (hset_ne (by omega)).trans (by first | assumption | exact hset_eq | exact (hset_ne (by omega)).trans (by first | assumption | exact hset_eq | exact (hset_ne (by omega)).trans (by first | assumption | exact hset_eq))))) rfl ?_
        refine AW_iload_n 125 hX dX7_restore_124 rfl rfl ?_
        refine AW_iald 126 hX dX7_restore_125 rfl (by first | assumption | exact hset_eq | exact (hset_ne (by omega)).trans (by first | assumption | exact hset_eq | exact (hset_ne (by omega)).trans (by first | assumption | exact hset_eq | exact (hset_ne (by omega)).trans (by first | assumption | exact hset_eq | exact (hset_ne (by omega)).trans (by first | assumption | exact hset_eq))))) (j := i) (by omega) rfl ?_
        refine AW_iast 127 hX dX7_restore_126 rfl (by first | assumption | exact hset_eq | exact (hset_ne (by omega)).trans (by first | assumption | exact hset_eq | exact (hset_ne (by omega)).trans (by first | assumption | exact hset_eq | exact (hset_ne (by omega)).trans (by first | assumption | exact hset_eq | exact (hset_ne (by omega)).trans (by first | assumption | exact hset_eq))))) (j := i) (by omega) rfl ?_
        try rw [hset_hset]
        refine AW_aload_n 128 hX dX7_restore_127 rfl rfl ?_
        refine AW_get 131 hX dX7_restore_128 rfl fl_X7_19 (by first | assumption | exact hset_eq | exact (hset_ne (by omega)).trans (by first | assumption | exact hset_eq | exact (hset_ne (by omega)).trans (by first | assumption | exact hset_eq | exact (hset_ne (by omega)).trans (by first | assumption | exact hset_eq | exact (hset_ne (by omega)).trans (by first | assumption | exact hset_eq))))) rfl ?_
        refine AW_iload_n 132 hX dX7_restore_131 rfl rfl ?_
        refine AW_aload_n 133 hX dX7_restore_132 rfl rfl ?_
        refine AW_get 136 hX dX7_restore_133 rfl fl_X7_41 (by first | assumption | exact hset_eq | exact (hset_ne (by omega)).trans (by first | assumption | exact hset_eq | exact (hset_ne (by omega)).trans (by first | assumption | exact hset_eq | exact (hset_ne (by omega)).trans (by first | assumption | exact hset_eq | exact (hset_ne (by omega)).trans (by first | assumption | exact hset_eq))))) rfl ?_
        refine AW_iload_n 137 hX dX7_restore_136 rfl rfl ?_
        refine AW_iald 138 hX dX7_restore_137 rfl (by first | assumption | exact hset_eq | exact (hset_ne (by omega)).trans (by first | assumption | exact hset_eq | exact (hset_ne (by omega)).trans (by first | assumption | exact hset_eq | exact (hset_ne (by omega)).trans (by first | assumption | exact hset_eq | exact (hset_ne (by omega)).trans (by first | assumption | exact hset_eq))))) (j := i) (by omega) rfl ?_
        refine AW_iast 139 hX dX7_restore_138 rfl (by first | assumption | exact hset_eq | exact (hset_ne (by omega)).trans (by first | assumption | exact hset_eq | exact (hset_ne (by omega)).trans (by first | assumption | exact hset_eq | exact (hset_ne (by omega)).trans (by first | assumption | exact hset_eq | exact (hset_ne (by omega)).trans (by first | assumption | exact hset_eq))))) (j := i) (by omega) rfl ?_
        try rw [hset_hset]
        refine AW_aload_n 140 hX dX7_restore_139 rfl rfl ?_
        refine AW_get 143 hX dX7_restore_140 rfl fl_X7_22 (by first | assumption | exact hset_eq | exact (hset_ne (by omega)).trans (by first | assumption | exact hset_eq | exact (hset_ne (by omega)).trans (by first | assumption | exact hset_eq | exact (hset_ne (by omega)).trans (by first | assumption | exact hset_eq | exact (hset_ne (by omega)).trans (by first | assumption | exact hset_eq))))) rfl ?_
        refine AW_iload_n 144 hX dX7_restore_143 rfl rfl ?_
        refine AW_aload_n 145 hX dX7_restore_144 rfl rfl ?_
        refine AW_get 148 hX dX7_restore_145 rfl fl_X7_44 (by first | assumption | exact hset_eq | exact (hset_ne (by omega)).trans (by first | assumption | exact hset_eq | exact (hset_ne (by omega)).trans (by first | assumption | exact hset_eq | exact (hset_ne (by omega)).trans (by first | assumption | exact hset_eq | exact (hset_ne (by omega)).trans (by first | assumption | exact hset_eq))))) rfl ?_
        refine AW_iload_n 149 hX dX7_restore_148 rfl rfl ?_
        refine AW_iald 150 hX dX7_restore_149 rfl (by first | assumption | exact hset_eq | exact (hset_ne (by omega)).trans (by first | assumption | exact hset_eq | exact (hset_ne (by omega)).trans (by first | assumption | exact hset_eq | exact (hset_ne (by omega)).trans (by first | assumption | exact hset_eq | exact (hset_ne (by omega)).trans (by first | assumption | exact hset_eq))))) (j := i) (by omega) rfl ?_
        refine AW_iast 151 hX dX7_restore_150 rfl (by first | assumption | exact hset_eq | exact (hset_ne (by omega)).trans (by first | assumption | exact hset_eq | exact (hset_ne (by omega)).trans (by first | assumption | exact hset_eq | exact (hset_ne (by omega)).trans (by first | assumption | exact hset_eq | exact (hset_ne (by omega)).trans (by first | assumption | exact hset_eq))))) (j := i) (by omega) rfl ?_
        try rw [hset_hset]
        refine AW_iinc 154 hX dX7_restore_151 rfl rfl (iincp ic_1) (Nat.le_of_ble_eq_true rfl) rfl ?_
        refine AW_goto 97 hX dX7_restore_154 (by decide) ?_
        rw [nI_1]
        refine ih (i + 1) (by omega) _ (upF (upF (upF (upF F' 1 (upd (F' 1) i (F' 8 i))) 2 (upd (F' 2) i (F' 9 i))) 3 (upd (F' 3) i (F' 10 i))) 4 (upd (F' 4) i (F' 11 i))) (MH_arr4 (MH_arr3 (MH_arr2 (MH_arr1 g')))) (fun k hk => ?_) (fun j hj => ef7 j hj) (fun j hj => ?_) (fr_tr hfr (fr_tr (fr_tr (fr_tr (fr_set (by omega) (by omega)) (fr_set (by omega) (by omega))) (fr_set (by omega) (by omega))) (fr_set (by omega) (by omega))))
        · simp only [upF]
          rw [if_neg (by omega), if_neg (by omega), if_neg (by omega), if_neg (by omega)]
          exact ef k hk
        · show upd (F' 1) i (F' 8 i) j = _ ∧ upd (F' 2) i (F' 9 i) j = _ ∧ upd (F' 3) i (F' 10 i) j = _ ∧ upd (F' 4) i (F' 11 i) j = _
          rw [ef 8 (by decide), ef 9 (by decide), ef 10 (by decide), ef 11 (by decide)]
          by_cases e : j = i
          · subst e
            rw [pk_us, pk_us, pk_us, pk_us]
            exact ⟨rfl, rfl, rfl, rfl⟩
          · rw [pk_un e, pk_un e, pk_un e, pk_un e]
            exact ef8 j (by omega)
    have loop1 : ∀ d i, i + d = 12 → ∀ (h' : AH) (F' : AF), MH h' I2 sd hh F' → (∀ k, 1 ≤ k → F' k = F k) → (∀ j, j < i → F' 0 j = F 7 j) → fr h h' 34 47 → AW X 0 0 71 [some (.ref 34), some (.int (nI i))] [] h' := by
      intro d
      induction d with
      | zero =>
        intro i hi h' F' g' ef ef7 hfr
        refine AW_iload_n 72 hX dX7_restore_71 rfl rfl ?_
        refine AW_bipush 74 hX dX7_restore_72 rfl bp_12 ?_
        refine AW_icmp_ge 77 95 hX dX7_restore_74 rfl (by decide) (fun c74 => ?_) (fun c74 => absurd (nI_le (a := 12) (b := i) (by omega) (by omega)) c74)
        refine AW_iconst 96 hX dX7_restore_95 rfl ic_0 ?_
        refine AW_istore_n 97 hX dX7_restore_96 rfl (Nat.le_of_ble_eq_true rfl) rfl ?_
        exact loop2 6 0 (by omega) h' F' g' (fun k hk => ef k (by omega)) (fun j hj => ef7 j (by omega)) (fun j hj => by omega) hfr
      | succ d ih =>
        intro i hi h' F' g' ef ef7 hfr
        obtain ⟨b0, c0, c1, c2, c3, c4, c5, c6, c7, c8, c9, c10, c11⟩ := id g'
        refine AW_iload_n 72 hX dX7_restore_71 rfl rfl ?_
        refine AW_bipush 74 hX dX7_restore_72 rfl bp_12 ?_
        refine AW_icmp_ge 77 95 hX dX7_restore_74 rfl (by decide) (fun c74 => absurd c74 (nI_ge (a := i) (b := 12) (by omega) (by decide))) (fun c74 => ?_)
        refine AW_aload_n 78 hX dX7_restore_77 rfl rfl ?_
        refine AW_get 81 hX dX7_restore_78 rfl fl_X7_7 (by first | assumption | exact hset_eq | exact (hset_ne (by omega)).trans (by first | assumption | exact hset_eq | exact (hset_ne (by omega)).trans (by first | assumption | exact hset_eq | exact (hset_ne (by omega)).trans (by first | assumption | exact hset_eq | exact (hset_ne (by omega)).trans (by first | assumption | exact hset_eq))))) rfl ?_
        refine AW_iload_n 82 hX dX7_restore_81 rfl rfl ?_
        refine AW_aload_n 83 hX dX7_restore_82 rfl rfl ?_
        refine AW_get 86 hX dX7_restore_83 rfl fl_X7_32 (by first | assumption | exact hset_eq | exact (hset_ne (by omega)).trans (by first | assumption | exact hset_eq | exact (hset_ne (by omega)).trans (by first | assumption | exact hset_eq | exact (hset_ne (by omega)).trans (by first | assumption | exact hset_eq | exact (hset_ne (by omega)).trans (by first | assumption | exact hset_eq))))) rfl ?_
        refine AW_iload_n 87 hX dX7_restore_86 rfl rfl ?_
        refine AW_iald 88 hX dX7_restore_87 rfl (by first | assumption | exact hset_eq | exact (hset_ne (by omega)).trans (by first | assumption | exact hset_eq | exact (hset_ne (by omega)).trans (by first | assumption | exact hset_eq | exact (hset_ne (by omega)).trans (by first | assumption | exact hset_eq | exact (hset_ne (by omega)).trans (by first | assumption | exact hset_eq))))) (j := i) (by omega) rfl ?_
        refine AW_iast 89 hX dX7_restore_88 rfl (by first | assumption | exact hset_eq | exact (hset_ne (by omega)).trans (by first | assumption | exact hset_eq | exact (hset_ne (by omega)).trans (by first | assumption | exact hset_eq | exact (hset_ne (by omega)).trans (by first | assumption | exact hset_eq | exact (hset_ne (by omega)).trans (by first | assumption | exact hset_eq))))) (j := i) (by omega) rfl ?_
        try rw [hset_hset]
        refine AW_iinc 92 hX dX7_restore_89 rfl rfl (iincp ic_1) (Nat.le_of_ble_eq_true rfl) rfl ?_
        refine AW_goto 71 hX dX7_restore_92 (by decide) ?_
        rw [nI_1]
        refine ih (i + 1) (by omega) _ (upF F' 0 (upd (F' 0) i (F' 7 i))) (MH_arr0 g') (fun k hk => ?_) (fun j hj => ?_) (fr_tr hfr (fr_set (by omega) (by omega)))
        · simp only [upF]
          rw [if_neg (by omega)]
          exact ef k hk
        · show upd (F' 0) i (F' 7 i) j = _
          rw [ef 7 (by decide)]
          by_cases e : j = i
          · subst e; exact pk_us
          · rw [pk_un e]; exact ef7 j (by omega)
    refine AW_aload_n 22 hX dX7_restore_21 rfl rfl ?_
    refine AW_aload_n 23 hX dX7_restore_22 rfl rfl ?_
    refine AW_get 26 hX dX7_restore_23 rfl fl_X7_176 (by first | assumption | exact hset_eq | exact (hset_ne (by omega)).trans (by first | assumption | exact hset_eq | exact (hset_ne (by omega)).trans (by first | assumption | exact hset_eq | exact (hset_ne (by omega)).trans (by first | assumption | exact hset_eq | exact (hset_ne (by omega)).trans (by first | assumption | exact hset_eq))))) rfl ?_
    refine AW_put 29 hX dX7_restore_26 rfl fl_X7_76 (by first | assumption | exact hset_eq | exact (hset_ne (by omega)).trans (by first | assumption | exact hset_eq | exact (hset_ne (by omega)).trans (by first | assumption | exact hset_eq | exact (hset_ne (by omega)).trans (by first | assumption | exact hset_eq | exact (hset_ne (by omega)).trans (by first | assumption | exact hset_eq))))) rfl (fun _ => rfl) (fun _ => rfl) (Nat.le_of_ble_eq_true rfl) ?_
    rw [mo_set3]
    try rw [hset_hset]
    refine AW_aload_n 30 hX dX7_restore_29 rfl rfl ?_
    refine AW_aload_n 31 hX dX7_restore_30 rfl rfl ?_
    refine AW_get 34 hX dX7_restore_31 rfl fl_X7_179 (by first | assumption | exact hset_eq | exact (hset_ne (by omega)).trans (by first | assumption | exact hset_eq | exact (hset_ne (by omega)).trans (by first | assumption | exact hset_eq | exact (hset_ne (by omega)).trans (by first | assumption | exact hset_eq | exact (hset_ne (by omega)).trans (by first | assumption | exact hset_eq))))) rfl ?_
    refine AW_put 37 hX dX7_restore_34 rfl fl_X7_82 (by first | assumption | exact hset_eq | exact (hset_ne (by omega)).trans (by first | assumption | exact hset_eq | exact (hset_ne (by omega)).trans (by first | assumption | exact hset_eq | exact (hset_ne (by omega)).trans (by first | assumption | exact hset_eq | exact (hset_ne (by omega)).trans (by first | assumption | exact hset_eq))))) rfl (fun _ => rfl) (fun _ => rfl) (Nat.le_of_ble_eq_true rfl) ?_
    rw [mo_set4]
    try rw [hset_hset]
    refine AW_aload_n 38 hX dX7_restore_37 rfl rfl ?_
    refine AW_aload_n 39 hX dX7_restore_38 rfl rfl ?_
    refine AW_get 42 hX dX7_restore_39 rfl fl_X7_182 (by first | assumption | exact hset_eq | exact (hset_ne (by omega)).trans (by first | assumption | exact hset_eq | exact (hset_ne (by omega)).trans (by first | assumption | exact hset_eq | exact (hset_ne (by omega)).trans (by first | assumption | exact hset_eq | exact (hset_ne (by omega)).trans (by first | assumption | exact hset_eq))))) rfl ?_
    refine AW_put 45 hX dX7_restore_42 rfl fl_X7_85 (by first | assumption | exact hset_eq | exact (hset_ne (by omega)).trans (by first | assumption | exact hset_eq | exact (hset_ne (by omega)).trans (by first | assumption | exact hset_eq | exact (hset_ne (by omega)).trans (by first | assumption | exact hset_eq | exact (hset_ne (by omega)).trans (by first | assumption | exact hset_eq))))) rfl (fun _ => rfl) (fun _ => rfl) (Nat.le_of_ble_eq_true rfl) ?_
    rw [mo_set5]
    try rw [hset_hset]
    refine AW_aload_n 46 hX dX7_restore_45 rfl rfl ?_
    refine AW_aload_n 47 hX dX7_restore_46 rfl rfl ?_
    refine AW_get 50 hX dX7_restore_47 rfl fl_X7_185 (by first | assumption | exact hset_eq | exact (hset_ne (by omega)).trans (by first | assumption | exact hset_eq | exact (hset_ne (by omega)).trans (by first | assumption | exact hset_eq | exact (hset_ne (by omega)).trans (by first | assumption | exact hset_eq | exact (hset_ne (by omega)).trans (by first | assumption | exact hset_eq))))) rfl ?_
    refine AW_put 53 hX dX7_restore_50 rfl fl_X7_88 (by first | assumption | exact hset_eq | exact (hset_ne (by omega)).trans (by first | assumption | exact hset_eq | exact (hset_ne (by omega)).trans (by first | assumption | exact hset_eq | exact (hset_ne (by omega)).trans (by first | assumption | exact hset_eq | exact (hset_ne (by omega)).trans (by first | assumption | exact hset_eq))))) rfl (fun _ => rfl) (fun _ => rfl) (Nat.le_of_ble_eq_true rfl) ?_
    rw [mo_set6]
    try rw [hset_hset]
    refine AW_aload_n 54 hX dX7_restore_53 rfl rfl ?_
    refine AW_aload_n 55 hX dX7_restore_54 rfl rfl ?_
    refine AW_get 58 hX dX7_restore_55 rfl fl_X7_188 (by first | assumption | exact hset_eq | exact (hset_ne (by omega)).trans (by first | assumption | exact hset_eq | exact (hset_ne (by omega)).trans (by first | assumption | exact hset_eq | exact (hset_ne (by omega)).trans (by first | assumption | exact hset_eq | exact (hset_ne (by omega)).trans (by first | assumption | exact hset_eq))))) rfl ?_
    refine AW_put 61 hX dX7_restore_58 rfl fl_X7_91 (by first | assumption | exact hset_eq | exact (hset_ne (by omega)).trans (by first | assumption | exact hset_eq | exact (hset_ne (by omega)).trans (by first | assumption | exact hset_eq | exact (hset_ne (by omega)).trans (by first | assumption | exact hset_eq | exact (hset_ne (by omega)).trans (by first | assumption | exact hset_eq))))) rfl (fun _ => rfl) (fun _ => rfl) (Nat.le_of_ble_eq_true rfl) ?_
    rw [mo_set7]
    try rw [hset_hset]
    refine AW_aload_n 62 hX dX7_restore_61 rfl rfl ?_
    refine AW_aload_n 63 hX dX7_restore_62 rfl rfl ?_
    refine AW_get 66 hX dX7_restore_63 rfl fl_X7_191 (by first | assumption | exact hset_eq | exact (hset_ne (by omega)).trans (by first | assumption | exact hset_eq | exact (hset_ne (by omega)).trans (by first | assumption | exact hset_eq | exact (hset_ne (by omega)).trans (by first | assumption | exact hset_eq | exact (hset_ne (by omega)).trans (by first | assumption | exact hset_eq))))) rfl ?_
    refine AW_put 69 hX dX7_restore_66 rfl fl_X7_94 (by first | assumption | exact hset_eq | exact (hset_ne (by omega)).trans (by first | assumption | exact hset_eq | exact (hset_ne (by omega)).trans (by first | assumption | exact hset_eq | exact (hset_ne (by omega)).trans (by first | assumption | exact hset_eq | exact (hset_ne (by omega)).trans (by first | assumption | exact hset_eq))))) rfl (fun _ => rfl) (fun _ => rfl) (Nat.le_of_ble_eq_true rfl) ?_
    rw [mo_set8]
    try rw [hset_hset]
    refine AW_iconst 70 hX dX7_restore_69 rfl ic_0 ?_
    refine AW_istore_n 71 hX dX7_restore_70 rfl (Nat.le_of_ble_eq_true rfl) rfl ?_
    refine cast (congrArg (fun z => AW X 0 0 71 [some (.ref 34), some (.int (nI 0))] [] (hset h 34 (.inl (6, mo z sd hh)))) ?_) (loop1 12 0 (by omega) (hset h 34 (.inl (6, mo I2 sd hh))) F (MH_obj g) (fun _ _ => rfl) (fun j hj => by omega) (fr_set (by omega) (by omega)))
    rw [← eI2]
    rfl
  refine AW_aload_n 1 hX dX7_restore_0 rfl rfl ?_
  refine AW_get 4 hX dX7_restore_1 rfl fl_X7_170 (by first | assumption | exact hset_eq | exact (hset_ne (by omega)).trans (by first | assumption | exact hset_eq | exact (hset_ne (by omega)).trans (by first | assumption | exact hset_eq | exact (hset_ne (by omega)).trans (by first | assumption | exact hset_eq | exact (hset_ne (by omega)).trans (by first | assumption | exact hset_eq))))) rfl ?_
  refine AW_if_eq 7 18 hX dX7_restore_4 rfl (by decide) (fun c4 => ?_) (fun c4 => ?_)
  · refine AW_bipush 20 hX dX7_restore_18 rfl bp_m103 ?_
    refine AW_iret hX hE dX7_restore_20 rfl (Nat.le_refl _) (Nat.le_refl _) ?_
    have hk0 : kp = 0 := by
      rcases (show kp = 0 ∨ kp = 1 by omega) with q | q
      · exact q
      · exfalso
        obtain ⟨n1, ks1, ht1, p1, s1, stp1, fl1, m1, hd1⟩ := w
        obtain ⟨⟨k20, -⟩, -⟩ := rkp q
        rw [k20] at c4
        exact absurd c4 (by decide)
    have e : spRestore (kp, yd, qk, pm, pg, (n, ks, ht, p, s, stp, fl, m, hd), w) = (-103, (kp, yd, qk, pm, pg, (n, ks, ht, p, s, stp, fl, m, hd), w)) := by
      show cif _ _ _ = _
      rw [cif_pos hk0]
    rw [e] at hK
    exact hK h ⟨I, sd, hh, F, g, r⟩ (fr_rf _ _ _)
  · refine AW_aload_n 8 hX dX7_restore_7 rfl rfl ?_
    refine AW_get 11 hX dX7_restore_8 rfl fl_X7_173 (by first | assumption | exact hset_eq | exact (hset_ne (by omega)).trans (by first | assumption | exact hset_eq | exact (hset_ne (by omega)).trans (by first | assumption | exact hset_eq | exact (hset_ne (by omega)).trans (by first | assumption | exact hset_eq | exact (hset_ne (by omega)).trans (by first | assumption | exact hset_eq))))) rfl ?_
    refine AW_aload_n 12 hX dX7_restore_11 rfl rfl ?_
    refine AW_get 15 hX dX7_restore_12 rfl fl_X7_79 (by first | assumption | exact hset_eq | exact (hset_ne (by omega)).trans (by first | assumption | exact hset_eq | exact (hset_ne (by omega)).trans (by first | assumption | exact hset_eq | exact (hset_ne (by omega)).trans (by first | assumption | exact hset_eq | exact (hset_ne (by omega)).trans (by first | assumption | exact hset_eq))))) rfl ?_
    refine AW_icmp_eq 18 21 hX dX7_restore_15 rfl (by decide) (fun c15 => ?_) (fun c15 => ?_)
    · have hk1 : kp = 1 := by
        rcases (show kp = 0 ∨ kp = 1 by omega) with q | q
        · exfalso
          rcases rk0 q with z | ⟨ky, z1, z2⟩
          · exact c4 z
          · rw [z2, e0] at c15
            have := iEq c15
            omega
        · exact q
      exact body hk1
    · refine AW_bipush 20 hX dX7_restore_18 rfl bp_m103 ?_
      refine AW_iret hX hE dX7_restore_20 rfl (Nat.le_refl _) (Nat.le_refl _) ?_
      have hk0 : kp = 0 := by
        rcases (show kp = 0 ∨ kp = 1 by omega) with q | q
        · exact q
        · exfalso
          obtain ⟨n1, ks1, ht1, p1, s1, stp1, fl1, m1, hd1⟩ := w
          obtain ⟨⟨k20, k21, -⟩, -⟩ := rkp q
          exact c15 (by rw [k21, e0])
      have e : spRestore (kp, yd, qk, pm, pg, (n, ks, ht, p, s, stp, fl, m, hd), w) = (-103, (kp, yd, qk, pm, pg, (n, ks, ht, p, s, stp, fl, m, hd), w)) := by
        show cif _ _ _ = _
        rw [cif_pos hk0]
      rw [e] at hK
      exact hK h ⟨I, sd, hh, F, g, r⟩ (fr_rf _ _ _)
