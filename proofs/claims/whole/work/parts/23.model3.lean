set_option maxRecDepth 100000 in
set_option maxHeartbeats 4000000 in
theorem M_heightsNow {h : AH} {K : Option Value → AH → Prop} {kp yd qk pm n ht p s : Nat} {pg ks : Nat → Nat} {stp fl : Int32} {m : Nat} {hd : HD} {w : SV} {I : Nat → Int32} {sd hh : Int64} {F : AF} (g : MH h I sd hh F) (r : MR (kp, yd, qk, pm, pg, (n, ks, ht, p, s, stp, fl, m, hd), w) I F) (ok : Sok (kp, yd, qk, pm, pg, (n, ks, ht, p, s, stp, fl, m, hd), w)) (hK : K (some (.int (hB ks hd m))) h) : aX7_heightsNow 1 [.ref 34] h K := by
  obtain ⟨g0, a0, a1, a2, a3, a4, a5, a6, a7, a8, a9, a10, a11⟩ := id g
  obtain ⟨⟨e0, e1, e3, e4, e5, e6, e7, e8, e13, e14⟩, rk, rh, rp, rkp, rk0⟩ := id r
  obtain ⟨⟨ok1, ok2, ok3, ok4, ok5, ok6, ok7, ok8⟩, okp, okw, okq, okpm, okpg, oky⟩ := id ok
  have hp12 : p < 12 := by
    rcases Nat.eq_zero_or_pos n with e | e
    · have := ok8 e; omega
    · have := ok7 e; omega
  refine AM.of [some (.ref 34), none, none, none, none] pn_X7_heightsNow rfl (Nat.le_of_ble_eq_true rfl) (fun X hX hE => ?_)
  have loop : ∀ d i, i + d = 9 → ∀ z1 z2, AW X 0 0 4 [some (.ref 34), some (.int (hbt ks hd m i)), some (.int (nI (i + 1))), z1, z2] [] h := by
    intro d
    induction d with
    | zero =>
      intro i hi z1 z2
      refine AW_iload_n 5 hX dX7_heightsNow_4 rfl rfl ?_
      refine AW_bipush 7 hX dX7_heightsNow_5 rfl bp_9 ?_
      refine AW_icmp_gt 10 118 hX dX7_heightsNow_7 rfl (by decide) (fun c7 => ?_) (fun c7 => absurd (nI_lt (a := 9) (b := i + 1) (by omega) (by omega)) c7)
      refine AW_iload_n 119 hX dX7_heightsNow_118 rfl rfl ?_
      refine AW_iret hX hE dX7_heightsNow_119 rfl (Nat.le_refl _) (Nat.le_refl _) ?_
      rw [show i = 9 by omega]; exact hK
    | succ d ih =>
      intro i hi z1 z2
      have inner : ∀ c k, k + c = m → ∀ b : Nat, b ≤ 1 → (b = 1 → ∀ j, j < k → (12 - (i + 1) < wj ks hd j ↔ (hd j).2.2.2 = 1)) → (b = 0 → ∃ j, j < m ∧ ¬ (12 - (i + 1) < wj ks hd j ↔ (hd j).2.2.2 = 1)) → AW X 0 0 15 [some (.ref 34), some (.int (hbt ks hd m i)), some (.int (nI (i + 1))), some (.int (nI b)), some (.int (nI k))] [] h := by
        intro c
        induction c with
        | zero =>
          intro k hk b hb hb1 hb0
          have := ih (i + 1) (by omega) (some (.int (nI b))) (some (.int (nI k)))
          simp only [hbt] at this
          refine AW_iload 17 hX dX7_heightsNow_15 rfl rfl ?_
          refine AW_aload_n 18 hX dX7_heightsNow_17 rfl rfl ?_
          refine AW_get 21 hX dX7_heightsNow_18 rfl fl_X7_94 (by first | assumption | exact hset_eq | exact (hset_ne (by omega)).trans (by first | assumption | exact hset_eq | exact (hset_ne (by omega)).trans (by first | assumption | exact hset_eq | exact (hset_ne (by omega)).trans (by first | assumption | exact hset_eq | exact (hset_ne (by omega)).trans (by first | assumption | exact hset_eq))))) rfl ?_
          rw [e8]
          refine AW_icmp_ge 24 96 hX dX7_heightsNow_21 rfl (by decide) (fun c21 => ?_) (fun c21 => absurd (nI_le (by omega) (by omega)) c21)
          refine AW_iload_n 97 hX dX7_heightsNow_96 rfl rfl ?_
          refine AW_iload_n 98 hX dX7_heightsNow_97 rfl rfl ?_
          refine AW_if_eq 101 109 hX dX7_heightsNow_98 rfl (by decide) (fun c98 => ?_) (fun c98 => ?_)
          · refine AW_iconst 110 hX dX7_heightsNow_109 rfl ic_0 ?_
            refine AW_ior 111 hX dX7_heightsNow_110 rfl ?_
            refine AW_istore_n 112 hX dX7_heightsNow_111 rfl (Nat.le_of_ble_eq_true rfl) rfl ?_
            refine AW_iinc 115 hX dX7_heightsNow_112 rfl rfl (iincp ic_1) (Nat.le_of_ble_eq_true rfl) rfl ?_
            refine AW_goto 4 hX dX7_heightsNow_115 (by decide) ?_
            rw [nI_1]
            have hno : ¬ okH ks hd m (i + 1) := fun q => by
              obtain ⟨j, hj, hj2⟩ := hb0 (iEq (b := 0) c98)
              exact hj2 (q j hj)
            rw [if_neg hno] at this
            exact this
          · refine AW_iconst 102 hX dX7_heightsNow_101 rfl ic_1 ?_
            refine AW_iload_n 103 hX dX7_heightsNow_102 rfl rfl ?_
            refine AW_iconst 104 hX dX7_heightsNow_103 rfl ic_1 ?_
            refine AW_isub 105 hX dX7_heightsNow_104 rfl ?_
            refine AW_ishl 106 hX dX7_heightsNow_105 rfl ?_
            refine AW_goto 110 hX dX7_heightsNow_106 (by decide) ?_
            refine AW_ior 111 hX dX7_heightsNow_110 rfl ?_
            refine AW_istore_n 112 hX dX7_heightsNow_111 rfl (Nat.le_of_ble_eq_true rfl) rfl ?_
            refine AW_iinc 115 hX dX7_heightsNow_112 rfl rfl (iincp ic_1) (Nat.le_of_ble_eq_true rfl) rfl ?_
            refine AW_goto 4 hX dX7_heightsNow_115 (by decide) ?_
            rw [nI_1]
            have hbe : b = 1 := by have := iNe (b := 0) c98; omega
            have hyes : okH ks hd m (i + 1) := fun j hj => hb1 hbe j (by omega)
            rw [if_pos hyes] at this
            exact this
        | succ c ihc =>
          intro k hk b hb hb1 hb0
          obtain ⟨o1, o2, o3, o4, o5⟩ := ok5 k (by omega)
          obtain ⟨r1, r2, r3, r4⟩ := rh k (by omega)
          have hgw := gw_le (k := ks (hd k).1) o3
          have esa : sa (ks (hd k).1) (hd k).2.2.1 (hd k).2.1 = wj ks hd k := if_neg (by omega)
          have hwj : wj ks hd k ≤ 17 := by simp only [wj]; omega
          have go1 : (12 - (i + 1) < wj ks hd k ↔ (hd k).2.2.2 = 1) → b = 1 → AW X 0 0 15 [some (.ref 34), some (.int (hbt ks hd m i)), some (.int (nI (i + 1))), some (.int (nI 1)), some (.int (nI (k + 1)))] [] h := fun hc hb1' => ihc (k + 1) (by omega) 1 (by omega) (fun _ j hj => by
            by_cases e : j = k
            · subst e; exact hc
            · exact hb1 hb1' j (by omega)) (fun q => by omega)
          have go0 : ¬ (12 - (i + 1) < wj ks hd k ↔ (hd k).2.2.2 = 1) → AW X 0 0 15 [some (.ref 34), some (.int (hbt ks hd m i)), some (.int (nI (i + 1))), some (.int (nI 0)), some (.int (nI (k + 1)))] [] h := fun hc => ihc (k + 1) (by omega) 0 (by omega) (fun q => by omega) (fun _ => ⟨k, by omega, hc⟩)
          refine AW_iload 17 hX dX7_heightsNow_15 rfl rfl ?_
          refine AW_aload_n 18 hX dX7_heightsNow_17 rfl rfl ?_
          refine AW_get 21 hX dX7_heightsNow_18 rfl fl_X7_94 (by first | assumption | exact hset_eq | exact (hset_ne (by omega)).trans (by first | assumption | exact hset_eq | exact (hset_ne (by omega)).trans (by first | assumption | exact hset_eq | exact (hset_ne (by omega)).trans (by first | assumption | exact hset_eq | exact (hset_ne (by omega)).trans (by first | assumption | exact hset_eq))))) rfl ?_
          rw [e8]
          refine AW_icmp_ge 24 96 hX dX7_heightsNow_21 rfl (by decide) (fun c21 => absurd c21 (nI_ge (by omega) (by omega))) (fun c21 => ?_)
          refine AW_iload_n 25 hX dX7_heightsNow_24 rfl rfl ?_
          refine AW_if_eq 28 88 hX dX7_heightsNow_25 rfl (by decide) (fun c25 => ?_) (fun c25 => ?_)
          · refine AW_iconst 89 hX dX7_heightsNow_88 rfl ic_0 ?_
            refine AW_istore_n 90 hX dX7_heightsNow_89 rfl (Nat.le_of_ble_eq_true rfl) rfl ?_
            refine AW_iinc 93 hX dX7_heightsNow_90 rfl rfl (iincp ic_1) (Nat.le_of_ble_eq_true rfl) rfl ?_
            refine AW_goto 15 hX dX7_heightsNow_93 (by decide) ?_
            rw [nI_1]
            obtain ⟨j, hj, hj2⟩ := hb0 (iEq (b := 0) c25)
            exact ihc (k + 1) (by omega) 0 (by omega) (fun q => by omega) (fun _ => ⟨j, hj, hj2⟩)
          · refine AW_aload_n 29 hX dX7_heightsNow_28 rfl rfl ?_
            refine AW_aload_n 30 hX dX7_heightsNow_29 rfl rfl ?_
            refine AW_get 33 hX dX7_heightsNow_30 rfl fl_X7_13 (by first | assumption | exact hset_eq | exact (hset_ne (by omega)).trans (by first | assumption | exact hset_eq | exact (hset_ne (by omega)).trans (by first | assumption | exact hset_eq | exact (hset_ne (by omega)).trans (by first | assumption | exact hset_eq | exact (hset_ne (by omega)).trans (by first | assumption | exact hset_eq))))) rfl ?_
            refine AW_iload 35 hX dX7_heightsNow_33 rfl rfl ?_
            refine AW_iald 36 hX dX7_heightsNow_35 rfl (by first | assumption | exact hset_eq | exact (hset_ne (by omega)).trans (by first | assumption | exact hset_eq | exact (hset_ne (by omega)).trans (by first | assumption | exact hset_eq | exact (hset_ne (by omega)).trans (by first | assumption | exact hset_eq | exact (hset_ne (by omega)).trans (by first | assumption | exact hset_eq))))) (j := k) (by omega) rfl ?_
            refine AW_aload_n 37 hX dX7_heightsNow_36 rfl rfl ?_
            refine AW_get 40 hX dX7_heightsNow_37 rfl fl_X7_16 (by first | assumption | exact hset_eq | exact (hset_ne (by omega)).trans (by first | assumption | exact hset_eq | exact (hset_ne (by omega)).trans (by first | assumption | exact hset_eq | exact (hset_ne (by omega)).trans (by first | assumption | exact hset_eq | exact (hset_ne (by omega)).trans (by first | assumption | exact hset_eq))))) rfl ?_
            refine AW_iload 42 hX dX7_heightsNow_40 rfl rfl ?_
            refine AW_iald 43 hX dX7_heightsNow_42 rfl (by first | assumption | exact hset_eq | exact (hset_ne (by omega)).trans (by first | assumption | exact hset_eq | exact (hset_ne (by omega)).trans (by first | assumption | exact hset_eq | exact (hset_ne (by omega)).trans (by first | assumption | exact hset_eq | exact (hset_ne (by omega)).trans (by first | assumption | exact hset_eq))))) (j := k) (by omega) rfl ?_
            refine AW_aload_n 44 hX dX7_heightsNow_43 rfl rfl ?_
            refine AW_get 47 hX dX7_heightsNow_44 rfl fl_X7_19 (by first | assumption | exact hset_eq | exact (hset_ne (by omega)).trans (by first | assumption | exact hset_eq | exact (hset_ne (by omega)).trans (by first | assumption | exact hset_eq | exact (hset_ne (by omega)).trans (by first | assumption | exact hset_eq | exact (hset_ne (by omega)).trans (by first | assumption | exact hset_eq))))) rfl ?_
            refine AW_iload 49 hX dX7_heightsNow_47 rfl rfl ?_
            refine AW_iald 50 hX dX7_heightsNow_49 rfl (by first | assumption | exact hset_eq | exact (hset_ne (by omega)).trans (by first | assumption | exact hset_eq | exact (hset_ne (by omega)).trans (by first | assumption | exact hset_eq | exact (hset_ne (by omega)).trans (by first | assumption | exact hset_eq | exact (hset_ne (by omega)).trans (by first | assumption | exact hset_eq))))) (j := k) (by omega) rfl ?_
            rw [r1, r2, r3]
            refine AW_cV (As := [_, _, _]) 53 hX dX7_heightsNow_50 rfl ml_X7_97 mw_X7_swayBy (by first | assumption | exact hset_eq | exact (hset_ne (by omega)).trans (by first | assumption | exact hset_eq | exact (hset_ne (by omega)).trans (by first | assumption | exact hset_eq | exact (hset_ne (by omega)).trans (by first | assumption | exact hset_eq | exact (hset_ne (by omega)).trans (by first | assumption | exact hset_eq))))) (by decide) rfl rfl rfl (Nat.le_of_ble_eq_true rfl) (by decide) ⟨(Nat.le_refl _), (Nat.le_refl _)⟩ (M_swayBy g (p := (hd k).1) (by omega) (rk _ o1) (ok2 _ o1) _ _ (by omega) (by omega) ?_)
            rw [esa]
            refine AW_iload_n 54 hX dX7_heightsNow_53 rfl rfl ?_
            refine AW_cS (As := [_]) 57 hX dX7_heightsNow_54 rfl ml_X7_112 mw_X7_bears rfl rfl (Nat.le_of_ble_eq_true rfl) (by decide) ⟨(Nat.le_refl _), (Nat.le_refl _)⟩ (M_bears (i + 1) (by omega) ?_)
            refine AW_icmp_le 60 64 hX dX7_heightsNow_57 rfl (by decide) (fun c57 => ?_) (fun c57 => ?_)
            · refine AW_iconst 65 hX dX7_heightsNow_64 rfl ic_0 ?_
              refine AW_aload_n 66 hX dX7_heightsNow_65 rfl rfl ?_
              refine AW_get 69 hX dX7_heightsNow_66 rfl fl_X7_22 (by first | assumption | exact hset_eq | exact (hset_ne (by omega)).trans (by first | assumption | exact hset_eq | exact (hset_ne (by omega)).trans (by first | assumption | exact hset_eq | exact (hset_ne (by omega)).trans (by first | assumption | exact hset_eq | exact (hset_ne (by omega)).trans (by first | assumption | exact hset_eq))))) rfl ?_
              refine AW_iload 71 hX dX7_heightsNow_69 rfl rfl ?_
              refine AW_iald 72 hX dX7_heightsNow_71 rfl (by first | assumption | exact hset_eq | exact (hset_ne (by omega)).trans (by first | assumption | exact hset_eq | exact (hset_ne (by omega)).trans (by first | assumption | exact hset_eq | exact (hset_ne (by omega)).trans (by first | assumption | exact hset_eq | exact (hset_ne (by omega)).trans (by first | assumption | exact hset_eq))))) (j := k) (by omega) rfl ?_
              rw [r4]
              refine AW_iconst 73 hX dX7_heightsNow_72 rfl ic_1 ?_
              refine AW_icmp_ne 76 80 hX dX7_heightsNow_73 rfl (by decide) (fun c73 => ?_) (fun c73 => ?_)
              · refine AW_iconst 81 hX dX7_heightsNow_80 rfl ic_0 ?_
                refine AW_icmp_ne 84 88 hX dX7_heightsNow_81 rfl (by decide) (fun c81 => absurd rfl c81) (fun c81 => ?_)
                refine AW_iconst 85 hX dX7_heightsNow_84 rfl ic_1 ?_
                refine AW_goto 89 hX dX7_heightsNow_85 (by decide) ?_
                refine AW_istore_n 90 hX dX7_heightsNow_89 rfl (Nat.le_of_ble_eq_true rfl) rfl ?_
                refine AW_iinc 93 hX dX7_heightsNow_90 rfl rfl (iincp ic_1) (Nat.le_of_ble_eq_true rfl) rfl ?_
                refine AW_goto 15 hX dX7_heightsNow_93 (by decide) ?_
                rw [nI_1]
                have a := iLe c57
                have b2 := iNe (b := 1) c73
                exact go1 (by omega) (by have := iNe (b := 0) c25; omega)
              · refine AW_iconst 77 hX dX7_heightsNow_76 rfl ic_1 ?_
                refine AW_goto 81 hX dX7_heightsNow_77 (by decide) ?_
                refine AW_icmp_ne 84 88 hX dX7_heightsNow_81 rfl (by decide) (fun c81 => ?_) (fun c81 => absurd c81 (by decide))
                refine AW_iconst 89 hX dX7_heightsNow_88 rfl ic_0 ?_
                refine AW_istore_n 90 hX dX7_heightsNow_89 rfl (Nat.le_of_ble_eq_true rfl) rfl ?_
                refine AW_iinc 93 hX dX7_heightsNow_90 rfl rfl (iincp ic_1) (Nat.le_of_ble_eq_true rfl) rfl ?_
                refine AW_goto 15 hX dX7_heightsNow_93 (by decide) ?_
                rw [nI_1]
                have a := iLe c57
                have b2 := iEq (b := 1) c73
                exact go0 (by omega)
            · refine AW_iconst 61 hX dX7_heightsNow_60 rfl ic_1 ?_
              refine AW_goto 65 hX dX7_heightsNow_61 (by decide) ?_
              refine AW_aload_n 66 hX dX7_heightsNow_65 rfl rfl ?_
              refine AW_get 69 hX dX7_heightsNow_66 rfl fl_X7_22 (by first | assumption | exact hset_eq | exact (hset_ne (by omega)).trans (by first | assumption | exact hset_eq | exact (hset_ne (by omega)).trans (by first | assumption | exact hset_eq | exact (hset_ne (by omega)).trans (by first | assumption | exact hset_eq | exact (hset_ne (by omega)).trans (by first | assumption | exact hset_eq))))) rfl ?_
              refine AW_iload 71 hX dX7_heightsNow_69 rfl rfl ?_
              refine AW_iald 72 hX dX7_heightsNow_71 rfl (by first | assumption | exact hset_eq | exact (hset_ne (by omega)).trans (by first | assumption | exact hset_eq | exact (hset_ne (by omega)).trans (by first | assumption | exact hset_eq | exact (hset_ne (by omega)).trans (by first | assumption | exact hset_eq | exact (hset_ne (by omega)).trans (by first | assumption | exact hset_eq))))) (j := k) (by omega) rfl ?_
              rw [r4]
              refine AW_iconst 73 hX dX7_heightsNow_72 rfl ic_1 ?_
              refine AW_icmp_ne 76 80 hX dX7_heightsNow_73 rfl (by decide) (fun c73 => ?_) (fun c73 => ?_)
              · refine AW_iconst 81 hX dX7_heightsNow_80 rfl ic_0 ?_
                refine AW_icmp_ne 84 88 hX dX7_heightsNow_81 rfl (by decide) (fun c81 => ?_) (fun c81 => absurd c81 (by decide))
                refine AW_iconst 89 hX dX7_heightsNow_88 rfl ic_0 ?_
                refine AW_istore_n 90 hX dX7_heightsNow_89 rfl (Nat.le_of_ble_eq_true rfl) rfl ?_
                refine AW_iinc 93 hX dX7_heightsNow_90 rfl rfl (iincp ic_1) (Nat.le_of_ble_eq_true rfl) rfl ?_
                refine AW_goto 15 hX dX7_heightsNow_93 (by decide) ?_
                rw [nI_1]
                have a := iNle c57
                have b2 := iNe (b := 1) c73
                exact go0 (by omega)
              · refine AW_iconst 77 hX dX7_heightsNow_76 rfl ic_1 ?_
                refine AW_goto 81 hX dX7_heightsNow_77 (by decide) ?_
                refine AW_icmp_ne 84 88 hX dX7_heightsNow_81 rfl (by decide) (fun c81 => absurd rfl c81) (fun c81 => ?_)
                refine AW_iconst 85 hX dX7_heightsNow_84 rfl ic_1 ?_
                refine AW_goto 89 hX dX7_heightsNow_85 (by decide) ?_
                refine AW_istore_n 90 hX dX7_heightsNow_89 rfl (Nat.le_of_ble_eq_true rfl) rfl ?_
                refine AW_iinc 93 hX dX7_heightsNow_90 rfl rfl (iincp ic_1) (Nat.le_of_ble_eq_true rfl) rfl ?_
                refine AW_goto 15 hX dX7_heightsNow_93 (by decide) ?_
                rw [nI_1]
                have a := iNle c57
                have b2 := iEq (b := 1) c73
                exact go1 (by omega) (by have := iNe (b := 0) c25; omega)
      refine AW_iload_n 5 hX dX7_heightsNow_4 rfl rfl ?_
      refine AW_bipush 7 hX dX7_heightsNow_5 rfl bp_9 ?_
      refine AW_icmp_gt 10 118 hX dX7_heightsNow_7 rfl (by decide) (fun c7 => absurd c7 (nI_nlt (a := 9) (b := i + 1) (by omega) (by omega))) (fun c7 => ?_)
      refine AW_iconst 11 hX dX7_heightsNow_10 rfl ic_1 ?_
      refine AW_istore_n 12 hX dX7_heightsNow_11 rfl (Nat.le_of_ble_eq_true rfl) rfl ?_
      refine AW_iconst 13 hX dX7_heightsNow_12 rfl ic_0 ?_
      refine AW_istore 15 hX dX7_heightsNow_13 rfl (Nat.le_of_ble_eq_true rfl) rfl ?_
      exact inner m 0 (by omega) 1 (by omega) (fun _ j hj => by omega) (fun q => by omega)
  refine AW_iconst 1 hX dX7_heightsNow_0 rfl ic_0 ?_
  refine AW_istore_n 2 hX dX7_heightsNow_1 rfl (Nat.le_of_ble_eq_true rfl) rfl ?_
  refine AW_iconst 3 hX dX7_heightsNow_2 rfl ic_1 ?_
  refine AW_istore_n 4 hX dX7_heightsNow_3 rfl (Nat.le_of_ble_eq_true rfl) rfl ?_
  exact loop 9 0 (by omega) none none
set_option maxRecDepth 100000 in
set_option maxHeartbeats 4000000 in
theorem D_heights {h : AH} {K : Option Value → AH → Prop} {kp yd qk pm n ht p s : Nat} {pg ks : Nat → Nat} {stp fl : Int32} {m : Nat} {hd : HD} {w : SV} {I : Nat → Int32} {sd hh : Int64} {F : AF} (g : MH h I sd hh F) (r : MR (kp, yd, qk, pm, pg, (n, ks, ht, p, s, stp, fl, m, hd), w) I F) (ok : Sok (kp, yd, qk, pm, pg, (n, ks, ht, p, s, stp, fl, m, hd), w)) (hK : ∀ h' : AH, MJ h' (spHeights (kp, yd, qk, pm, pg, (n, ks, ht, p, s, stp, fl, m, hd), w)).2 → fr h h' 34 47 → K (some (.int (spHeights (kp, yd, qk, pm, pg, (n, ks, ht, p, s, stp, fl, m, hd), w)).1)) h') : aX7_heights 2 [.ref 34] h K := by
  obtain ⟨g0, a0, a1, a2, a3, a4, a5, a6, a7, a8, a9, a10, a11⟩ := id g
  obtain ⟨⟨e0, e1, e3, e4, e5, e6, e7, e8, e13, e14⟩, rk, rh, rp, rkp, rk0⟩ := id r
  obtain ⟨⟨ok1, ok2, ok3, ok4, ok5, ok6, ok7, ok8⟩, okp, okw, okq, okpm, okpg, oky⟩ := id ok
  have hp12 : p < 12 := by
    rcases Nat.eq_zero_or_pos n with e | e
    · have := ok8 e; omega
    · have := ok7 e; omega
  refine AM.of [some (.ref 34)] pn_X7_heights rfl (Nat.le_of_ble_eq_true rfl) (fun X hX hE => ?_)
  refine AW_aload_n 1 hX dX7_heights_0 rfl rfl ?_
  refine AW_get 4 hX dX7_heights_1 rfl fl_X7_73 (by first | assumption | exact hset_eq | exact (hset_ne (by omega)).trans (by first | assumption | exact hset_eq | exact (hset_ne (by omega)).trans (by first | assumption | exact hset_eq | exact (hset_ne (by omega)).trans (by first | assumption | exact hset_eq | exact (hset_ne (by omega)).trans (by first | assumption | exact hset_eq))))) rfl ?_
  rw [e1]
  refine AW_if_ne 7 12 hX dX7_heights_4 rfl (by decide) (fun c4 => ?_) (fun c4 => ?_)
  · refine AW_aload_n 13 hX dX7_heights_12 rfl rfl ?_
    refine AW_cV (As := []) 16 hX dX7_heights_13 rfl ml_X7_145 mw_X7_heightsNow (by first | assumption | exact hset_eq | exact (hset_ne (by omega)).trans (by first | assumption | exact hset_eq | exact (hset_ne (by omega)).trans (by first | assumption | exact hset_eq | exact (hset_ne (by omega)).trans (by first | assumption | exact hset_eq | exact (hset_ne (by omega)).trans (by first | assumption | exact hset_eq))))) (by decide) rfl rfl rfl (Nat.le_of_ble_eq_true rfl) (by decide) ⟨(Nat.le_refl _), (Nat.le_refl _)⟩ (M_heightsNow g r ok ?_)
    refine AW_iret hX hE dX7_heights_16 rfl (Nat.le_refl _) (Nat.le_refl _) ?_
    have e : spHeights (kp, yd, qk, pm, pg, (n, ks, ht, p, s, stp, fl, m, hd), w) = (hB ks hd m, (kp, yd, qk, pm, pg, (n, ks, ht, p, s, stp, fl, m, hd), w)) := by
      show (cif _ _ _, _) = _
      rw [cif_neg (show ¬ n = 0 from iNe (b := 0) c4)]
    rw [e] at hK
    exact hK h ⟨I, sd, hh, F, g, r⟩ (fr_rf _ _ _)
  · refine AW_bipush 9 hX dX7_heights_7 rfl bp_m103 ?_
    refine AW_goto 16 hX dX7_heights_9 (by decide) ?_
    refine AW_iret hX hE dX7_heights_16 rfl (Nat.le_refl _) (Nat.le_refl _) ?_
    have e : spHeights (kp, yd, qk, pm, pg, (n, ks, ht, p, s, stp, fl, m, hd), w) = (-103, (kp, yd, qk, pm, pg, (n, ks, ht, p, s, stp, fl, m, hd), w)) := by
      show (cif _ _ _, _) = _
      rw [cif_pos (show n = 0 from iEq (b := 0) c4)]
    rw [e] at hK
    exact hK h ⟨I, sd, hh, F, g, r⟩ (fr_rf _ _ _)
theorem cF_n {b : Int32} {w k : Nat} (h : ¬ bH b (k + 1)) : cF b w (k + 1) = cF b w k ∧ cU b w (k + 1) = cU b w k := by
  simp only [cF, cU]
  rw [if_neg (fun z => h z.1), if_neg (fun z => h z.1)]
  exact ⟨rfl, rfl⟩
theorem cF_y {b : Int32} {w k : Nat} (h : bH b (k + 1)) (h2 : 12 - (k + 1) < w) : cF b w (k + 1) = cF b w k + 1 ∧ cU b w (k + 1) = cU b w k := by
  simp only [cF, cU]
  rw [if_pos ⟨h, h2⟩, if_neg (fun z => z.2 h2)]
  exact ⟨rfl, rfl⟩
theorem cU_y {b : Int32} {w k : Nat} (h : bH b (k + 1)) (h2 : ¬ 12 - (k + 1) < w) : cF b w (k + 1) = cF b w k ∧ cU b w (k + 1) = cU b w k + 1 := by
  simp only [cF, cU]
  rw [if_neg (fun z => h2 z.2), if_pos ⟨h, h2⟩]
  exact ⟨rfl, rfl⟩
set_option maxRecDepth 100000 in
set_option maxHeartbeats 4000000 in
theorem M_tryAt {h : AH} {K : Option Value → AH → Prop} {kp yd qk pm n ht p s : Nat} {pg ks : Nat → Nat} {stp fl : Int32} {m : Nat} {hd : HD} {w : SV} {I : Nat → Int32} {sd hh : Int64} {F : AF} (g : MH h I sd hh F) (r : MR (kp, yd, qk, pm, pg, (n, ks, ht, p, s, stp, fl, m, hd), w) I F) (ok : Sok (kp, yd, qk, pm, pg, (n, ks, ht, p, s, stp, fl, m, hd), w)) (q : Nat) (hq : q < n) (hK : K (some (.int (tryC ks hd m q))) h) : aX7_tryAt 2 [.ref 34, .int (nI q)] h K := by
  obtain ⟨g0, a0, a1, a2, a3, a4, a5, a6, a7, a8, a9, a10, a11⟩ := id g
  obtain ⟨⟨e0, e1, e3, e4, e5, e6, e7, e8, e13, e14⟩, rk, rh, rp, rkp, rk0⟩ := id r
  obtain ⟨⟨ok1, ok2, ok3, ok4, ok5, ok6, ok7, ok8⟩, okp, okw, okq, okpm, okpg, oky⟩ := id ok
  have hp12 : p < 12 := by
    rcases Nat.eq_zero_or_pos n with e | e
    · have := ok8 e; omega
    · have := ok7 e; omega
  have hgw := gw_le (k := ks q) (far := 1) (by omega)
  refine AM.of [some (.ref 34), some (.int (nI q)), none, none, none, none, none, none, none] pn_X7_tryAt rfl (Nat.le_of_ble_eq_true rfl) (fun X hX hE => ?_)
  have loop : ¬ hB ks hd m = 0 → ∀ d i, i + d = 12 → ∀ z1 z2 z3, AW X 0 0 14 [some (.ref 34), some (.int (nI q)), some (.int (hB ks hd m)), some (.int (if i = 0 then -1 else nI (bst (fun t => LW (hB ks hd m) (t + gw (ks q) 1)) i).1)), some (.int (nI (if i = 0 then 268435456 else (bst (fun t => LW (hB ks hd m) (t + gw (ks q) 1)) i).2))), some (.int (nI i)), z1, z2, z3] [] h := by
    intro hnz d
    induction d with
    | zero =>
      intro i hi z1 z2 z3
      refine AW_iload 16 hX dX7_tryAt_14 rfl rfl ?_
      refine AW_bipush 18 hX dX7_tryAt_16 rfl bp_11 ?_
      refine AW_icmp_gt 21 155 hX dX7_tryAt_18 rfl (by decide) (fun c18 => ?_) (fun c18 => absurd (nI_lt (a := 11) (b := i) (by omega) (by omega)) c18)
      refine AW_iload_n 156 hX dX7_tryAt_155 rfl rfl ?_
      refine AW_iret hX hE dX7_tryAt_156 rfl (Nat.le_refl _) (Nat.le_refl _) ?_
      have e12 : i = 12 := by omega
      subst e12
      rw [if_neg (by decide)]
      simp only [tryC, if_neg hnz] at hK
      exact hK
    | succ d ih =>
      intro i hi z1 z2 z3
      have hb := bst_le (fun t => LW (hB ks hd m) (t + gw (ks q) 1)) (fun t => LW_le _ _) i
      have hl := LW_le (hB ks hd m) (i + gw (ks q) 1)
      have esa : sa (ks q) i 1 = i + gw (ks q) 1 := if_neg (by decide)
      -- behind the inner loop
      have at97 : ∀ z, AW X 0 0 97 [some (.ref 34), some (.int (nI q)), some (.int (hB ks hd m)), some (.int (if i = 0 then -1 else nI (bst (fun t => LW (hB ks hd m) (t + gw (ks q) 1)) i).1)), some (.int (nI (if i = 0 then 268435456 else (bst (fun t => LW (hB ks hd m) (t + gw (ks q) 1)) i).2))), some (.int (nI i)), some (.int (nI (cF (hB ks hd m) (i + gw (ks q) 1) 9))), some (.int (nI (cF (hB ks hd m) (i + gw (ks q) 1) 9 + cU (hB ks hd m) (i + gw (ks q) 1) 9))), z] [] h := by
        intro z
        have hfu := cFU_le (hB ks hd m) (i + gw (ks q) 1) 9
        have hnx := ih (i + 1) (by omega) (some (.int (nI (cF (hB ks hd m) (i + gw (ks q) 1) 9)))) (some (.int (nI (cF (hB ks hd m) (i + gw (ks q) 1) 9 + cU (hB ks hd m) (i + gw (ks q) 1) 9)))) (some (.int (nI (LW (hB ks hd m) (i + gw (ks q) 1)))))
        rw [if_neg (by omega), if_neg (by omega)] at hnx
        have upd1 : LW (hB ks hd m) (i + gw (ks q) 1) < (if i = 0 then 268435456 else (bst (fun t => LW (hB ks hd m) (t + gw (ks q) 1)) i).2) → AW X 0 0 14 [some (.ref 34), some (.int (nI q)), some (.int (hB ks hd m)), some (.int (nI i)), some (.int (nI (LW (hB ks hd m) (i + gw (ks q) 1)))), some (.int (nI (i + 1))), some (.int (nI (cF (hB ks hd m) (i + gw (ks q) 1) 9))), some (.int (nI (cF (hB ks hd m) (i + gw (ks q) 1) 9 + cU (hB ks hd m) (i + gw (ks q) 1) 9))), some (.int (nI (LW (hB ks hd m) (i + gw (ks q) 1))))] [] h := fun hlt => by
          have e : (bst (fun t => LW (hB ks hd m) (t + gw (ks q) 1)) (i + 1)) = (i, LW (hB ks hd m) (i + gw (ks q) 1)) := by
            simp only [bst]
            refine if_pos ?_
            by_cases h0 : i = 0
            · subst h0; simp only [bst]; omega
            · rw [if_neg h0] at hlt; exact hlt
          rw [e] at hnx
          exact hnx
        have upd0 : ¬ LW (hB ks hd m) (i + gw (ks q) 1) < (if i = 0 then 268435456 else (bst (fun t => LW (hB ks hd m) (t + gw (ks q) 1)) i).2) → AW X 0 0 14 [some (.ref 34), some (.int (nI q)), some (.int (hB ks hd m)), some (.int (if i = 0 then -1 else nI (bst (fun t => LW (hB ks hd m) (t + gw (ks q) 1)) i).1)), some (.int (nI (if i = 0 then 268435456 else (bst (fun t => LW (hB ks hd m) (t + gw (ks q) 1)) i).2))), some (.int (nI (i + 1))), some (.int (nI (cF (hB ks hd m) (i + gw (ks q) 1) 9))), some (.int (nI (cF (hB ks hd m) (i + gw (ks q) 1) 9 + cU (hB ks hd m) (i + gw (ks q) 1) 9))), some (.int (nI (LW (hB ks hd m) (i + gw (ks q) 1))))] [] h := fun hge => by
          have h0 : ¬ i = 0 := fun h0 => by rw [if_pos h0] at hge; omega
          rw [if_neg h0] at hge
          have e : (bst (fun t => LW (hB ks hd m) (t + gw (ks q) 1)) (i + 1)) = (bst (fun t => LW (hB ks hd m) (t + gw (ks q) 1)) i) := by
            simp only [bst]
            exact if_neg hge
          rw [e] at hnx
          rw [if_neg h0, if_neg h0]
          exact hnx
        have hlv : (if i = 0 then 268435456 else (bst (fun t => LW (hB ks hd m) (t + gw (ks q) 1)) i).2) < 2 ^ 31 := by split <;> omega
        have at117 : AW X 0 0 117 [some (.ref 34), some (.int (nI q)), some (.int (hB ks hd m)), some (.int (if i = 0 then -1 else nI (bst (fun t => LW (hB ks hd m) (t + gw (ks q) 1)) i).1)), some (.int (nI (if i = 0 then 268435456 else (bst (fun t => LW (hB ks hd m) (t + gw (ks q) 1)) i).2))), some (.int (nI i)), some (.int (nI (cF (hB ks hd m) (i + gw (ks q) 1) 9))), some (.int (nI (cF (hB ks hd m) (i + gw (ks q) 1) 9 + cU (hB ks hd m) (i + gw (ks q) 1) 9))), z] [.int (nI (LW (hB ks hd m) (i + gw (ks q) 1)))] h := by
          generalize (if i = 0 then (-1 : Int32) else nI (bst (fun t => LW (hB ks hd m) (t + gw (ks q) 1)) i).1) = bv at upd0 ⊢
          generalize (if i = 0 then 268435456 else (bst (fun t => LW (hB ks hd m) (t + gw (ks q) 1)) i).2) = lv at upd0 upd1 hlv ⊢
          refine AW_istore 119 hX dX7_tryAt_117 rfl (Nat.le_of_ble_eq_true rfl) rfl ?_
          refine AW_iload 121 hX dX7_tryAt_119 rfl rfl ?_
          refine AW_iload 123 hX dX7_tryAt_121 rfl rfl ?_
          refine AW_icmp_ge 126 131 hX dX7_tryAt_123 rfl (by decide) (fun c123 => ?_) (fun c123 => ?_)
          · refine AW_iload_n 132 hX dX7_tryAt_131 rfl rfl ?_
            refine AW_istore_n 133 hX dX7_tryAt_132 rfl (Nat.le_of_ble_eq_true rfl) rfl ?_
            refine AW_iload 135 hX dX7_tryAt_133 rfl rfl ?_
            refine AW_iload 137 hX dX7_tryAt_135 rfl rfl ?_
            refine AW_icmp_ge 140 145 hX dX7_tryAt_137 rfl (by decide) (fun c137 => ?_) (fun c137 => ?_)
            · refine AW_iload 147 hX dX7_tryAt_145 rfl rfl ?_
              refine AW_istore 149 hX dX7_tryAt_147 rfl (Nat.le_of_ble_eq_true rfl) rfl ?_
              refine AW_iinc 152 hX dX7_tryAt_149 rfl rfl (iincp ic_1) (Nat.le_of_ble_eq_true rfl) rfl ?_
              refine AW_goto 14 hX dX7_tryAt_152 (by decide) ?_
              rw [nI_1]
              exact upd0 (by have := iLe c123; omega)
            · refine AW_iload 142 hX dX7_tryAt_140 rfl rfl ?_
              refine AW_goto 147 hX dX7_tryAt_142 (by decide) ?_
              refine AW_istore 149 hX dX7_tryAt_147 rfl (Nat.le_of_ble_eq_true rfl) rfl ?_
              refine AW_iinc 152 hX dX7_tryAt_149 rfl rfl (iincp ic_1) (Nat.le_of_ble_eq_true rfl) rfl ?_
              refine AW_goto 14 hX dX7_tryAt_152 (by decide) ?_
              exact absurd c123 c137
          · refine AW_iload 128 hX dX7_tryAt_126 rfl rfl ?_
            refine AW_goto 132 hX dX7_tryAt_128 (by decide) ?_
            refine AW_istore_n 133 hX dX7_tryAt_132 rfl (Nat.le_of_ble_eq_true rfl) rfl ?_
            refine AW_iload 135 hX dX7_tryAt_133 rfl rfl ?_
            refine AW_iload 137 hX dX7_tryAt_135 rfl rfl ?_
            refine AW_icmp_ge 140 145 hX dX7_tryAt_137 rfl (by decide) (fun c137 => ?_) (fun c137 => ?_)
            · refine AW_iload 147 hX dX7_tryAt_145 rfl rfl ?_
              refine AW_istore 149 hX dX7_tryAt_147 rfl (Nat.le_of_ble_eq_true rfl) rfl ?_
              refine AW_iinc 152 hX dX7_tryAt_149 rfl rfl (iincp ic_1) (Nat.le_of_ble_eq_true rfl) rfl ?_
              refine AW_goto 14 hX dX7_tryAt_152 (by decide) ?_
              exact absurd c137 c123
            · refine AW_iload 142 hX dX7_tryAt_140 rfl rfl ?_
              refine AW_goto 147 hX dX7_tryAt_142 (by decide) ?_
              refine AW_istore 149 hX dX7_tryAt_147 rfl (Nat.le_of_ble_eq_true rfl) rfl ?_
              refine AW_iinc 152 hX dX7_tryAt_149 rfl rfl (iincp ic_1) (Nat.le_of_ble_eq_true rfl) rfl ?_
              refine AW_goto 14 hX dX7_tryAt_152 (by decide) ?_
              rw [nI_1]
              exact upd1 (iNle c123)
        refine AW_iload 99 hX dX7_tryAt_97 rfl rfl ?_
        refine AW_iload 101 hX dX7_tryAt_99 rfl rfl ?_
        refine AW_iload 103 hX dX7_tryAt_101 rfl rfl ?_
        refine AW_isub 104 hX dX7_tryAt_103 rfl ?_
        rw [pk_sub (by omega), Nat.add_sub_cancel_left]
        refine AW_icmp_le 107 112 hX dX7_tryAt_104 rfl (by decide) (fun c104 => ?_) (fun c104 => ?_)
        · refine AW_iload 114 hX dX7_tryAt_112 rfl rfl ?_
          refine AW_iload 116 hX dX7_tryAt_114 rfl rfl ?_
          refine AW_isub 117 hX dX7_tryAt_116 rfl ?_
          have hle := iLe c104
          rw [pk_sub (by omega), Nat.add_sub_cancel_left]
          rw [show LW (hB ks hd m) (i + gw (ks q) 1) = cU (hB ks hd m) (i + gw (ks q) 1) 9 by simp only [LW]; split <;> omega] at at117
          exact at117
        · refine AW_iload 109 hX dX7_tryAt_107 rfl rfl ?_
          refine AW_goto 117 hX dX7_tryAt_109 (by decide) ?_
          have hle := iNle c104
          rw [show LW (hB ks hd m) (i + gw (ks q) 1) = cF (hB ks hd m) (i + gw (ks q) 1) 9 by simp only [LW]; split <;> omega] at at117
          exact at117
      have inner : ∀ c k, k + c = 9 → AW X 0 0 34 [some (.ref 34), some (.int (nI q)), some (.int (hB ks hd m)), some (.int (if i = 0 then -1 else nI (bst (fun t => LW (hB ks hd m) (t + gw (ks q) 1)) i).1)), some (.int (nI (if i = 0 then 268435456 else (bst (fun t => LW (hB ks hd m) (t + gw (ks q) 1)) i).2))), some (.int (nI i)), some (.int (nI (cF (hB ks hd m) (i + gw (ks q) 1) k))), some (.int (nI (cF (hB ks hd m) (i + gw (ks q) 1) k + cU (hB ks hd m) (i + gw (ks q) 1) k))), some (.int (nI (k + 1)))] [] h := by
        intro c
        induction c with
        | zero =>
          intro k hk
          refine AW_iload 36 hX dX7_tryAt_34 rfl rfl ?_
          refine AW_bipush 38 hX dX7_tryAt_36 rfl bp_9 ?_
          refine AW_icmp_gt 41 97 hX dX7_tryAt_38 rfl (by decide) (fun c38 => ?_) (fun c38 => absurd (nI_lt (a := 9) (b := k + 1) (by omega) (by omega)) c38)
          have e9 : k = 9 := by omega
          subst e9
          exact at97 _
        | succ c ihc =>
          intro k hk
          have := ihc (k + 1) (by omega)
          rcases bit01 (hB ks hd m >>> ((nI (k + 1) - 1) &&& 31)) with hb0 | hb1
          · have hbn : ¬ bH (hB ks hd m) (k + 1) := fun z => z hb0
            rw [(cF_n hbn).1, (cF_n hbn).2] at this
            refine AW_iload 36 hX dX7_tryAt_34 rfl rfl ?_
            refine AW_bipush 38 hX dX7_tryAt_36 rfl bp_9 ?_
            refine AW_icmp_gt 41 97 hX dX7_tryAt_38 rfl (by decide) (fun c38 => absurd c38 (nI_nlt (a := 9) (b := k + 1) (by omega) (by omega))) (fun c38 => ?_)
            refine AW_iload 43 hX dX7_tryAt_41 rfl rfl ?_
            refine AW_iload_n 44 hX dX7_tryAt_43 rfl rfl ?_
            refine AW_iload 46 hX dX7_tryAt_44 rfl rfl ?_
            refine AW_iconst 47 hX dX7_tryAt_46 rfl ic_1 ?_
            refine AW_isub 48 hX dX7_tryAt_47 rfl ?_
            refine AW_ishr 49 hX dX7_tryAt_48 rfl ?_
            refine AW_iconst 50 hX dX7_tryAt_49 rfl ic_1 ?_
            refine AW_iand 51 hX dX7_tryAt_50 rfl ?_
            refine AW_iadd 52 hX dX7_tryAt_51 rfl ?_
            rw [hb0, Int32.add_zero]
            refine AW_istore 54 hX dX7_tryAt_52 rfl (Nat.le_of_ble_eq_true rfl) rfl ?_
            refine AW_iload 56 hX dX7_tryAt_54 rfl rfl ?_
            refine AW_iload_n 57 hX dX7_tryAt_56 rfl rfl ?_
            refine AW_iload 59 hX dX7_tryAt_57 rfl rfl ?_
            refine AW_iconst 60 hX dX7_tryAt_59 rfl ic_1 ?_
            refine AW_isub 61 hX dX7_tryAt_60 rfl ?_
            refine AW_cS (As := [_, _]) 64 hX dX7_tryAt_61 rfl ml_X7_148 mw_X7_isIn rfl rfl (Nat.le_of_ble_eq_true rfl) (by decide) ⟨(Nat.le_refl _), (Nat.le_refl _)⟩ (M_isIn _ _ (fun z => absurd hb0 z) (fun _ => ?_))
            refine AW_if_eq 67 87 hX dX7_tryAt_64 rfl (by decide) (fun c64 => ?_) (fun c64 => absurd rfl c64)
            refine AW_iconst 88 hX dX7_tryAt_87 rfl ic_0 ?_
            refine AW_iadd 89 hX dX7_tryAt_88 rfl ?_
            rw [Int32.add_zero]
            refine AW_istore 91 hX dX7_tryAt_89 rfl (Nat.le_of_ble_eq_true rfl) rfl ?_
            refine AW_iinc 94 hX dX7_tryAt_91 rfl rfl (iincp ic_1) (Nat.le_of_ble_eq_true rfl) rfl ?_
            refine AW_goto 34 hX dX7_tryAt_94 (by decide) ?_
            rw [nI_1]
            exact this
          · have hby : bH (hB ks hd m) (k + 1) := fun z => by rw [z] at hb1; exact absurd hb1 (by decide)
            refine AW_iload 36 hX dX7_tryAt_34 rfl rfl ?_
            refine AW_bipush 38 hX dX7_tryAt_36 rfl bp_9 ?_
            refine AW_icmp_gt 41 97 hX dX7_tryAt_38 rfl (by decide) (fun c38 => absurd c38 (nI_nlt (a := 9) (b := k + 1) (by omega) (by omega))) (fun c38 => ?_)
            refine AW_iload 43 hX dX7_tryAt_41 rfl rfl ?_
            refine AW_iload_n 44 hX dX7_tryAt_43 rfl rfl ?_
            refine AW_iload 46 hX dX7_tryAt_44 rfl rfl ?_
            refine AW_iconst 47 hX dX7_tryAt_46 rfl ic_1 ?_
            refine AW_isub 48 hX dX7_tryAt_47 rfl ?_
            refine AW_ishr 49 hX dX7_tryAt_48 rfl ?_
            refine AW_iconst 50 hX dX7_tryAt_49 rfl ic_1 ?_
            refine AW_iand 51 hX dX7_tryAt_50 rfl ?_
            refine AW_iadd 52 hX dX7_tryAt_51 rfl ?_
            rw [hb1, nI_1]
            refine AW_istore 54 hX dX7_tryAt_52 rfl (Nat.le_of_ble_eq_true rfl) rfl ?_
            refine AW_iload 56 hX dX7_tryAt_54 rfl rfl ?_
            refine AW_iload_n 57 hX dX7_tryAt_56 rfl rfl ?_
            refine AW_iload 59 hX dX7_tryAt_57 rfl rfl ?_
            refine AW_iconst 60 hX dX7_tryAt_59 rfl ic_1 ?_
            refine AW_isub 61 hX dX7_tryAt_60 rfl ?_
            refine AW_cS (As := [_, _]) 64 hX dX7_tryAt_61 rfl ml_X7_148 mw_X7_isIn rfl rfl (Nat.le_of_ble_eq_true rfl) (by decide) ⟨(Nat.le_refl _), (Nat.le_refl _)⟩ (M_isIn _ _ (fun _ => ?_) (fun z => absurd z hby))
            refine AW_if_eq 67 87 hX dX7_tryAt_64 rfl (by decide) (fun c64 => absurd c64 (by decide)) (fun c64 => ?_)
            refine AW_aload_n 68 hX dX7_tryAt_67 rfl rfl ?_
            refine AW_iload_n 69 hX dX7_tryAt_68 rfl rfl ?_
            refine AW_iconst 70 hX dX7_tryAt_69 rfl ic_1 ?_
            refine AW_iload 72 hX dX7_tryAt_70 rfl rfl ?_
            refine AW_cV (As := [_, _, _]) 75 hX dX7_tryAt_72 rfl ml_X7_97 mw_X7_swayBy (by first | assumption | exact hset_eq | exact (hset_ne (by omega)).trans (by first | assumption | exact hset_eq | exact (hset_ne (by omega)).trans (by first | assumption | exact hset_eq | exact (hset_ne (by omega)).trans (by first | assumption | exact hset_eq | exact (hset_ne (by omega)).trans (by first | assumption | exact hset_eq))))) (by decide) rfl rfl rfl (Nat.le_of_ble_eq_true rfl) (by decide) ⟨(Nat.le_refl _), (Nat.le_refl _)⟩ (M_swayBy g (p := q) (by omega) (rk _ hq) (ok2 _ hq) 1 i (by omega) (by omega) ?_)
            rw [esa]
            refine AW_iload 77 hX dX7_tryAt_75 rfl rfl ?_
            refine AW_cS (As := [_]) 80 hX dX7_tryAt_77 rfl ml_X7_112 mw_X7_bears rfl rfl (Nat.le_of_ble_eq_true rfl) (by decide) ⟨(Nat.le_refl _), (Nat.le_refl _)⟩ (M_bears (k + 1) (by omega) ?_)
            refine AW_icmp_le 83 87 hX dX7_tryAt_80 rfl (by decide) (fun c80 => ?_) (fun c80 => ?_)
            · refine AW_iconst 88 hX dX7_tryAt_87 rfl ic_0 ?_
              refine AW_iadd 89 hX dX7_tryAt_88 rfl ?_
              refine AW_istore 91 hX dX7_tryAt_89 rfl (Nat.le_of_ble_eq_true rfl) rfl ?_
              refine AW_iinc 94 hX dX7_tryAt_91 rfl rfl (iincp ic_1) (Nat.le_of_ble_eq_true rfl) rfl ?_
              refine AW_goto 34 hX dX7_tryAt_94 (by decide) ?_
              rw [nI_1, Int32.add_zero]
              have hle := iLe c80
              have hn : ¬ 12 - (k + 1) < i + gw (ks q) 1 := by omega
              rw [(cU_y hby hn).1, (cU_y hby hn).2] at this
              exact this
            · refine AW_iconst 84 hX dX7_tryAt_83 rfl ic_1 ?_
              refine AW_goto 88 hX dX7_tryAt_84 (by decide) ?_
              refine AW_iadd 89 hX dX7_tryAt_88 rfl ?_
              refine AW_istore 91 hX dX7_tryAt_89 rfl (Nat.le_of_ble_eq_true rfl) rfl ?_
              refine AW_iinc 94 hX dX7_tryAt_91 rfl rfl (iincp ic_1) (Nat.le_of_ble_eq_true rfl) rfl ?_
              refine AW_goto 34 hX dX7_tryAt_94 (by decide) ?_
              rw [nI_1, nI_1]
              have hle := iNle c80
              rw [(cF_y hby hle).1, (cF_y hby hle).2, show ∀ a b : Nat, a + 1 + b = a + b + 1 from fun a b => by omega] at this
              exact this
      refine AW_iload 16 hX dX7_tryAt_14 rfl rfl ?_
      refine AW_bipush 18 hX dX7_tryAt_16 rfl bp_11 ?_
      refine AW_icmp_gt 21 155 hX dX7_tryAt_18 rfl (by decide) (fun c18 => absurd c18 (nI_nlt (a := 11) (b := i) (by omega) (by omega))) (fun c18 => ?_)
      refine AW_iload_n 22 hX dX7_tryAt_21 rfl rfl ?_
      refine AW_if_eq 25 155 hX dX7_tryAt_22 rfl (by decide) (fun c22 => absurd c22 hnz) (fun c22 => ?_)
      refine AW_iconst 26 hX dX7_tryAt_25 rfl ic_0 ?_
      refine AW_istore 28 hX dX7_tryAt_26 rfl (Nat.le_of_ble_eq_true rfl) rfl ?_
      refine AW_iconst 29 hX dX7_tryAt_28 rfl ic_0 ?_
      refine AW_istore 31 hX dX7_tryAt_29 rfl (Nat.le_of_ble_eq_true rfl) rfl ?_
      refine AW_iconst 32 hX dX7_tryAt_31 rfl ic_1 ?_
      refine AW_istore 34 hX dX7_tryAt_32 rfl (Nat.le_of_ble_eq_true rfl) rfl ?_
      exact inner 9 0 (by omega)
  refine AW_aload_n 1 hX dX7_tryAt_0 rfl rfl ?_
  refine AW_cV (As := []) 4 hX dX7_tryAt_1 rfl ml_X7_145 mw_X7_heightsNow (by first | assumption | exact hset_eq | exact (hset_ne (by omega)).trans (by first | assumption | exact hset_eq | exact (hset_ne (by omega)).trans (by first | assumption | exact hset_eq | exact (hset_ne (by omega)).trans (by first | assumption | exact hset_eq | exact (hset_ne (by omega)).trans (by first | assumption | exact hset_eq))))) (by decide) rfl rfl rfl (Nat.le_of_ble_eq_true rfl) (by decide) ⟨(Nat.le_refl _), (Nat.le_refl _)⟩ (M_heightsNow g r ok ?_)
  refine AW_istore_n 5 hX dX7_tryAt_4 rfl (Nat.le_of_ble_eq_true rfl) rfl ?_
  refine AW_iconst 6 hX dX7_tryAt_5 rfl ic_m1 ?_
  refine AW_istore_n 7 hX dX7_tryAt_6 rfl (Nat.le_of_ble_eq_true rfl) rfl ?_
  refine AW_ldc 9 hX dX7_tryAt_7 rfl kc_X7_118 ?_
  refine AW_istore 11 hX dX7_tryAt_9 rfl (Nat.le_of_ble_eq_true rfl) rfl ?_
  refine AW_iconst 12 hX dX7_tryAt_11 rfl ic_0 ?_
  refine AW_istore 14 hX dX7_tryAt_12 rfl (Nat.le_of_ble_eq_true rfl) rfl ?_
  by_cases hnz : hB ks hd m = 0
  · -- nothing to try
    simp only [tryC, if_pos hnz] at hK
    rw [hnz]
    refine AW_iload 16 hX dX7_tryAt_14 rfl rfl ?_
    refine AW_bipush 18 hX dX7_tryAt_16 rfl bp_11 ?_
    refine AW_icmp_gt 21 155 hX dX7_tryAt_18 rfl (by decide) (fun c18 => absurd c18 (by decide)) (fun c18 => ?_)
    refine AW_iload_n 22 hX dX7_tryAt_21 rfl rfl ?_
    refine AW_if_eq 25 155 hX dX7_tryAt_22 rfl (by decide) (fun c22 => ?_) (fun c22 => absurd rfl c22)
    refine AW_iload_n 156 hX dX7_tryAt_155 rfl rfl ?_
    refine AW_iret hX hE dX7_tryAt_156 rfl (Nat.le_refl _) (Nat.le_refl _) ?_
    exact hK
  · exact loop hnz 12 0 (by omega) none none none
theorem on12 : ∀ k, k < 5 → nI (sa k 12 0) - 12 + 2 = onS k + 2 := by decide +kernel
set_option maxRecDepth 100000 in
set_option maxHeartbeats 4000000 in
theorem M_placeNow {h : AH} {K : Option Value → AH → Prop} {kp yd qk pm n ht p s : Nat} {pg ks : Nat → Nat} {stp fl : Int32} {m : Nat} {hd : HD} {w : SV} {I : Nat → Int32} {sd hh : Int64} {F : AF} (g : MH h I sd hh F) (r : MR (kp, yd, qk, pm, pg, (n, ks, ht, p, s, stp, fl, m, hd), w) I F) (ok : Sok (kp, yd, qk, pm, pg, (n, ks, ht, p, s, stp, fl, m, hd), w)) (q k : Nat) (hq : q < n) (hk : k < 6) (hK : K (some (.int (ab ks hd m q k))) h) : aX7_placeNow 3 [.ref 34, .int (nI q), .int (nI k)] h K := by
  obtain ⟨g0, a0, a1, a2, a3, a4, a5, a6, a7, a8, a9, a10, a11⟩ := id g
  obtain ⟨⟨e0, e1, e3, e4, e5, e6, e7, e8, e13, e14⟩, rk, rh, rp, rkp, rk0⟩ := id r
  obtain ⟨⟨ok1, ok2, ok3, ok4, ok5, ok6, ok7, ok8⟩, okp, okw, okq, okpm, okpg, oky⟩ := id ok
  have hp12 : p < 12 := by
    rcases Nat.eq_zero_or_pos n with e | e
    · have := ok8 e; omega
    · have := ok7 e; omega
  have hk4 := ok2 q hq
  refine AM.of [some (.ref 34), some (.int (nI q)), some (.int (nI k))] pn_X7_placeNow rfl (Nat.le_of_ble_eq_true rfl) (fun X hX hE => ?_)
  refine AW_iload_n 1 hX dX7_placeNow_0 rfl rfl ?_
  rcases (show k = 0 ∨ k = 1 ∨ k = 2 ∨ k = 3 ∨ k = 4 ∨ k = 5 by omega) with rfl | rfl | rfl | rfl | rfl | rfl
  · refine AW_tab (off := 35) 36 hX dX7_placeNow_1 (by decide) (by decide) (by decide) (by decide) ?_
    refine AW_aload_n 37 hX dX7_placeNow_36 rfl rfl ?_
    refine AW_get 40 hX dX7_placeNow_37 rfl fl_X7_7 (by first | assumption | exact hset_eq | exact (hset_ne (by omega)).trans (by first | assumption | exact hset_eq | exact (hset_ne (by omega)).trans (by first | assumption | exact hset_eq | exact (hset_ne (by omega)).trans (by first | assumption | exact hset_eq | exact (hset_ne (by omega)).trans (by first | assumption | exact hset_eq))))) rfl ?_
    refine AW_iload_n 41 hX dX7_placeNow_40 rfl rfl ?_
    refine AW_iald 42 hX dX7_placeNow_41 rfl (by first | assumption | exact hset_eq | exact (hset_ne (by omega)).trans (by first | assumption | exact hset_eq | exact (hset_ne (by omega)).trans (by first | assumption | exact hset_eq | exact (hset_ne (by omega)).trans (by first | assumption | exact hset_eq | exact (hset_ne (by omega)).trans (by first | assumption | exact hset_eq))))) (j := q) (by omega) rfl ?_
    refine AW_iret hX hE dX7_placeNow_42 rfl (Nat.le_refl _) (Nat.le_refl _) ?_
    rw [rk q hq]
    exact hK
  · refine AW_tab (off := 42) 43 hX dX7_placeNow_1 (by decide) (by decide) (by decide) (by decide) ?_
    refine AW_aload_n 44 hX dX7_placeNow_43 rfl rfl ?_
    refine AW_iload_n 45 hX dX7_placeNow_44 rfl rfl ?_
    refine AW_iload_n 46 hX dX7_placeNow_45 rfl rfl ?_
    refine AW_iconst 47 hX dX7_placeNow_46 rfl ic_0 ?_
    refine AW_cV (As := [_, _, _]) 50 hX dX7_placeNow_47 rfl ml_X7_97 mw_X7_swayBy (by first | assumption | exact hset_eq | exact (hset_ne (by omega)).trans (by first | assumption | exact hset_eq | exact (hset_ne (by omega)).trans (by first | assumption | exact hset_eq | exact (hset_ne (by omega)).trans (by first | assumption | exact hset_eq | exact (hset_ne (by omega)).trans (by first | assumption | exact hset_eq))))) (by decide) rfl rfl rfl (Nat.le_of_ble_eq_true rfl) (by decide) ⟨(Nat.le_refl _), (Nat.le_refl _)⟩ (M_swayBy g (p := q) (by omega) (rk _ hq) hk4 1 0 (by omega) (by omega) ?_)
    refine AW_iret hX hE dX7_placeNow_50 rfl (Nat.le_refl _) (Nat.le_refl _) ?_
    rw [show sa (ks q) 0 1 = gw (ks q) 1 from (if_neg (by decide)).trans (Nat.zero_add _)]
    exact hK
  · refine AW_tab (off := 42) 43 hX dX7_placeNow_1 (by decide) (by decide) (by decide) (by decide) ?_
    refine AW_aload_n 44 hX dX7_placeNow_43 rfl rfl ?_
    refine AW_iload_n 45 hX dX7_placeNow_44 rfl rfl ?_
    refine AW_iload_n 46 hX dX7_placeNow_45 rfl rfl ?_
    refine AW_iconst 47 hX dX7_placeNow_46 rfl ic_0 ?_
    refine AW_cV (As := [_, _, _]) 50 hX dX7_placeNow_47 rfl ml_X7_97 mw_X7_swayBy (by first | assumption | exact hset_eq | exact (hset_ne (by omega)).trans (by first | assumption | exact hset_eq | exact (hset_ne (by omega)).trans (by first | assumption | exact hset_eq | exact (hset_ne (by omega)).trans (by first | assumption | exact hset_eq | exact (hset_ne (by omega)).trans (by first | assumption | exact hset_eq))))) (by decide) rfl rfl rfl (Nat.le_of_ble_eq_true rfl) (by decide) ⟨(Nat.le_refl _), (Nat.le_refl _)⟩ (M_swayBy g (p := q) (by omega) (rk _ hq) hk4 2 0 (by omega) (by omega) ?_)
    refine AW_iret hX hE dX7_placeNow_50 rfl (Nat.le_refl _) (Nat.le_refl _) ?_
    rw [show sa (ks q) 0 2 = gw (ks q) 2 from (if_neg (by decide)).trans (Nat.zero_add _)]
    exact hK
  · refine AW_tab (off := 42) 43 hX dX7_placeNow_1 (by decide) (by decide) (by decide) (by decide) ?_
    refine AW_aload_n 44 hX dX7_placeNow_43 rfl rfl ?_
    refine AW_iload_n 45 hX dX7_placeNow_44 rfl rfl ?_
    refine AW_iload_n 46 hX dX7_placeNow_45 rfl rfl ?_
    refine AW_iconst 47 hX dX7_placeNow_46 rfl ic_0 ?_
    refine AW_cV (As := [_, _, _]) 50 hX dX7_placeNow_47 rfl ml_X7_97 mw_X7_swayBy (by first | assumption | exact hset_eq | exact (hset_ne (by omega)).trans (by first | assumption | exact hset_eq | exact (hset_ne (by omega)).trans (by first | assumption | exact hset_eq | exact (hset_ne (by omega)).trans (by first | assumption | exact hset_eq | exact (hset_ne (by omega)).trans (by first | assumption | exact hset_eq))))) (by decide) rfl rfl rfl (Nat.le_of_ble_eq_true rfl) (by decide) ⟨(Nat.le_refl _), (Nat.le_refl _)⟩ (M_swayBy g (p := q) (by omega) (rk _ hq) hk4 3 0 (by omega) (by omega) ?_)
    refine AW_iret hX hE dX7_placeNow_50 rfl (Nat.le_refl _) (Nat.le_refl _) ?_
    rw [show sa (ks q) 0 3 = gw (ks q) 3 from (if_neg (by decide)).trans (Nat.zero_add _)]
    exact hK
  · refine AW_tab (off := 50) 51 hX dX7_placeNow_1 (by decide) (by decide) (by decide) (by decide) ?_
    refine AW_aload_n 52 hX dX7_placeNow_51 rfl rfl ?_
    refine AW_iload_n 53 hX dX7_placeNow_52 rfl rfl ?_
    refine AW_iconst 54 hX dX7_placeNow_53 rfl ic_0 ?_
    refine AW_bipush 56 hX dX7_placeNow_54 rfl bp_12 ?_
    refine AW_cV (As := [_, _, _]) 59 hX dX7_placeNow_56 rfl ml_X7_97 mw_X7_swayBy (by first | assumption | exact hset_eq | exact (hset_ne (by omega)).trans (by first | assumption | exact hset_eq | exact (hset_ne (by omega)).trans (by first | assumption | exact hset_eq | exact (hset_ne (by omega)).trans (by first | assumption | exact hset_eq | exact (hset_ne (by omega)).trans (by first | assumption | exact hset_eq))))) (by decide) rfl rfl rfl (Nat.le_of_ble_eq_true rfl) (by decide) ⟨(Nat.le_refl _), (Nat.le_refl _)⟩ (M_swayBy g (p := q) (by omega) (rk _ hq) hk4 0 12 (by omega) (by omega) ?_)
    refine AW_bipush 61 hX dX7_placeNow_59 rfl bp_12 ?_
    refine AW_isub 62 hX dX7_placeNow_61 rfl ?_
    refine AW_iconst 63 hX dX7_placeNow_62 rfl ic_2 ?_
    refine AW_iadd 64 hX dX7_placeNow_63 rfl ?_
    refine AW_iret hX hE dX7_placeNow_64 rfl (Nat.le_refl _) (Nat.le_refl _) ?_
    rw [on12 _ (by omega)]
    exact hK
  · refine AW_tabO 65 hX dX7_placeNow_1 (by decide) (by decide) ?_
    refine AW_aload_n 66 hX dX7_placeNow_65 rfl rfl ?_
    refine AW_iload_n 67 hX dX7_placeNow_66 rfl rfl ?_
    refine AW_cV (As := [_]) 70 hX dX7_placeNow_67 rfl ml_X7_101 mw_X7_tryAt (by first | assumption | exact hset_eq | exact (hset_ne (by omega)).trans (by first | assumption | exact hset_eq | exact (hset_ne (by omega)).trans (by first | assumption | exact hset_eq | exact (hset_ne (by omega)).trans (by first | assumption | exact hset_eq | exact (hset_ne (by omega)).trans (by first | assumption | exact hset_eq))))) (by decide) rfl rfl rfl (Nat.le_of_ble_eq_true rfl) (by decide) ⟨(Nat.le_refl _), (Nat.le_refl _)⟩ (M_tryAt g r ok q hq ?_)
    refine AW_iret hX hE dX7_placeNow_70 rfl (Nat.le_refl _) (Nat.le_refl _) ?_
    exact hK
set_option maxRecDepth 100000 in
set_option maxHeartbeats 4000000 in
theorem D_about {h : AH} {K : Option Value → AH → Prop} {kp yd qk pm n ht p s : Nat} {pg ks : Nat → Nat} {stp fl : Int32} {m : Nat} {hd : HD} {w : SV} {I : Nat → Int32} {sd hh : Int64} {F : AF} (g : MH h I sd hh F) (r : MR (kp, yd, qk, pm, pg, (n, ks, ht, p, s, stp, fl, m, hd), w) I F) (ok : Sok (kp, yd, qk, pm, pg, (n, ks, ht, p, s, stp, fl, m, hd), w)) (x y : Int32) (hK : ∀ h' : AH, MJ h' (spAbout (kp, yd, qk, pm, pg, (n, ks, ht, p, s, stp, fl, m, hd), w) x y).2 → fr h h' 34 47 → K (some (.int (spAbout (kp, yd, qk, pm, pg, (n, ks, ht, p, s, stp, fl, m, hd), w) x y).1)) h') : aX7_about 4 [.ref 34, .int x, .int y] h K := by
  obtain ⟨g0, a0, a1, a2, a3, a4, a5, a6, a7, a8, a9, a10, a11⟩ := id g
  obtain ⟨⟨e0, e1, e3, e4, e5, e6, e7, e8, e13, e14⟩, rk, rh, rp, rkp, rk0⟩ := id r
  obtain ⟨⟨ok1, ok2, ok3, ok4, ok5, ok6, ok7, ok8⟩, okp, okw, okq, okpm, okpg, oky⟩ := id ok
  have hp12 : p < 12 := by
    rcases Nat.eq_zero_or_pos n with e | e
    · have := ok8 e; omega
    · have := ok7 e; omega
  refine AM.of [some (.ref 34), some (.int x), some (.int y)] pn_X7_about rfl (Nat.le_of_ble_eq_true rfl) (fun X hX hE => ?_)
  refine AW_aload_n 1 hX dX7_about_0 rfl rfl ?_
  refine AW_iload_n 2 hX dX7_about_1 rfl rfl ?_
  refine AW_cV (As := [_]) 5 hX dX7_about_2 rfl ml_X7_104 mw_X7_isPlace (by first | assumption | exact hset_eq | exact (hset_ne (by omega)).trans (by first | assumption | exact hset_eq | exact (hset_ne (by omega)).trans (by first | assumption | exact hset_eq | exact (hset_ne (by omega)).trans (by first | assumption | exact hset_eq | exact (hset_ne (by omega)).trans (by first | assumption | exact hset_eq))))) (by decide) rfl rfl rfl (Nat.le_of_ble_eq_true rfl) (by decide) ⟨(Nat.le_refl _), (Nat.le_refl _)⟩ (M_isPlace g e1 ok1 x (fun q hq eq => ?_) (fun hno => ?_))
  · subst eq
    refine AW_if_ne 8 13 hX dX7_about_5 rfl (by decide) (fun c5 => ?_) (fun c5 => absurd c5 (by decide))
    refine AW_iload_n 14 hX dX7_about_13 rfl rfl ?_
    refine AW_iconst 15 hX dX7_about_14 rfl ic_0 ?_
    refine AW_iconst 16 hX dX7_about_15 rfl ic_5 ?_
    refine AW_cS (As := [_, _, _]) 19 hX dX7_about_16 rfl ml_X7_47 mw_X7_within rfl rfl (Nat.le_of_ble_eq_true rfl) (by decide) ⟨(Nat.le_refl _), (Nat.le_refl _)⟩ (M_within _ _ _ (fun w1 w2 => ?_) (fun w1 => ?_))
    · obtain ⟨k, -, hk5, ek⟩ := rg (x := y) 0 5 (by decide) (by decide) w1 w2
      subst ek
      refine AW_if_eq 22 31 hX dX7_about_19 rfl (by decide) (fun c19 => absurd c19 (by decide)) (fun c19 => ?_)
      refine AW_aload_n 23 hX dX7_about_22 rfl rfl ?_
      refine AW_iload_n 24 hX dX7_about_23 rfl rfl ?_
      refine AW_iload_n 25 hX dX7_about_24 rfl rfl ?_
      refine AW_cV (As := [_, _]) 28 hX dX7_about_25 rfl ml_X7_108 mw_X7_placeNow (by first | assumption | exact hset_eq | exact (hset_ne (by omega)).trans (by first | assumption | exact hset_eq | exact (hset_ne (by omega)).trans (by first | assumption | exact hset_eq | exact (hset_ne (by omega)).trans (by first | assumption | exact hset_eq | exact (hset_ne (by omega)).trans (by first | assumption | exact hset_eq))))) (by decide) rfl rfl rfl (Nat.le_of_ble_eq_true rfl) (by decide) ⟨(Nat.le_refl _), (Nat.le_refl _)⟩ (M_placeNow g r ok q k hq (by omega) ?_)
      refine AW_goto 33 hX dX7_about_28 (by decide) ?_
      refine AW_iret hX hE dX7_about_33 rfl (Nat.le_refl _) (Nat.le_refl _) ?_
      have e : spAbout (kp, yd, qk, pm, pg, (n, ks, ht, p, s, stp, fl, m, hd), w) (nI q) (nI k) = (ab ks hd m q k, (kp, yd, qk, pm, pg, (n, ks, ht, p, s, stp, fl, m, hd), w)) := by
        show (cif _ _ _, _) = _
        rw [cif_pos ⟨q, hq, rfl⟩, cif_pos ⟨k, by omega, rfl⟩, cN_nI (by omega), cN_nI (by omega)]
      rw [e] at hK
      exact hK h ⟨I, sd, hh, F, g, r⟩ (fr_rf _ _ _)
    · refine AW_if_eq 22 31 hX dX7_about_19 rfl (by decide) (fun c19 => ?_) (fun c19 => absurd rfl c19)
      refine AW_bipush 33 hX dX7_about_31 rfl bp_m102 ?_
      refine AW_iret hX hE dX7_about_33 rfl (Nat.le_refl _) (Nat.le_refl _) ?_
      have e : spAbout (kp, yd, qk, pm, pg, (n, ks, ht, p, s, stp, fl, m, hd), w) (nI q) y = (-102, (kp, yd, qk, pm, pg, (n, ks, ht, p, s, stp, fl, m, hd), w)) := by
        show (cif _ _ _, _) = _
        rw [cif_pos ⟨q, hq, rfl⟩, cif_neg (isP_nx (N := 5) (by decide) w1)]
      rw [e] at hK
      exact hK h ⟨I, sd, hh, F, g, r⟩ (fr_rf _ _ _)
  · refine AW_if_ne 8 13 hX dX7_about_5 rfl (by decide) (fun c5 => absurd rfl c5) (fun c5 => ?_)
    refine AW_bipush 10 hX dX7_about_8 rfl bp_m101 ?_
    refine AW_goto 33 hX dX7_about_10 (by decide) ?_
    refine AW_iret hX hE dX7_about_33 rfl (Nat.le_refl _) (Nat.le_refl _) ?_
    have e : spAbout (kp, yd, qk, pm, pg, (n, ks, ht, p, s, stp, fl, m, hd), w) x y = (-101, (kp, yd, qk, pm, pg, (n, ks, ht, p, s, stp, fl, m, hd), w)) := by
      show (cif _ _ _, _) = _
      rw [cif_neg (fun ⟨q, hq, eq⟩ => hno q hq eq)]
    rw [e] at hK
    exact hK h ⟨I, sd, hh, F, g, r⟩ (fr_rf _ _ _)
