set_option maxRecDepth 100000 in
set_option maxHeartbeats 4000000 in
theorem M_quickNow {h : AH} {K : Option Value → AH → Prop} {kp yd qk pm n ht p s : Nat} {pg ks : Nat → Nat} {stp fl : Int32} {m : Nat} {hd : HD} {w : SV} {I : Nat → Int32} {sd hh : Int64} {F : AF} (g : MH h I sd hh F) (r : MR (kp, yd, qk, pm, pg, (n, ks, ht, p, s, stp, fl, m, hd), w) I F) (ok : Sok (kp, yd, qk, pm, pg, (n, ks, ht, p, s, stp, fl, m, hd), w)) (hn : 0 < n) (x : Int32) (hx : x = 0 ∨ ∃ c, 10 ≤ c ∧ c ≤ 13 ∧ x = nI c) (hK : ∀ (h' : AH) (F' : AF), MH h' I sd hh F' → MR (kp, yd, qk, pm, pg, (n, ks, ht, p, s, stp, fl, m, hd), w) I F' → fr h h' 34 47 → K (some (.int (cif (x = 0) (dA (DD n ks (12 - ht) (12 * p + s))) (lA n ks (12 - ht) (12 * p + s) (cN x - 9))))) h') : aX7_quickNow 5 [.ref 34, .int x] h K := by
  obtain ⟨g0, a0, a1, a2, a3, a4, a5, a6, a7, a8, a9, a10, a11⟩ := id g
  obtain ⟨⟨e0, e1, e3, e4, e5, e6, e7, e8, e13, e14⟩, rk, rh, rp, rkp, rk0⟩ := id r
  obtain ⟨⟨ok1, ok2, ok3, ok4, ok5, ok6, ok7, ok8⟩, okp, okw, okq, okpm, okpg, oky⟩ := id ok
  have hp12 : p < 12 := by
    rcases Nat.eq_zero_or_pos n with e | e
    · have := ok8 e; omega
    · have := ok7 e; omega
  have okn := ok7 hn
  have hu : 12 * p + s < 144 := by omega
  have hB : 12 - ht ≤ 11 := by omega
  refine AM.of [some (.ref 34), some (.int x), none, none, none, none, none] pn_X7_quickNow rfl (Nat.le_of_ble_eq_true rfl) (fun X hX hE => ?_)
  have way : ∀ (h2 : AH) (F2 : AF) (d2 : Nat → Nat) (c : Nat), x = nI c → 10 ≤ c → c ≤ 13 → MH h2 I sd hh F2 → (∀ k, k ≠ 6 → F2 k = F k) → (∀ j, j < 144 → F2 6 j = nI (d2 j)) → vD n ks (12 - ht) d2 → (∀ u, u < 144 → u / 12 + 1 < n → u % 12 ≤ 12 - ht → fx n ks (12 - ht) d2 u) → fr h h2 34 47 → d2 (12 * p + s) ≤ 40 → DD n ks (12 - ht) (12 * p + s) = d2 (12 * p + s) → ∀ e i, i + e = c - 9 → ∀ (P Q : Nat) (t : Int32), P < n → Q ≤ 12 - ht → PT n ks (12 - ht) i (d2 (12 * p + s)) (12 * p + s) (12 * P + Q) → d2 (12 * P + Q) + i = d2 (12 * p + s) → (0 < i → ∃ y, t = nI y ∧ LWy n ks (12 - ht) (d2 (12 * p + s)) (12 * p + s) i y) → AW X 0 0 65 [some (.ref 34), some (.int (nI c)), some (.int (nI (d2 (12 * p + s)))), some (.int (nI P)), some (.int (nI Q)), some (.int t), some (.int (nI i))] [] h2 := by
    intro h2 F2 d2 c ex hc1 hc2 g2 ef2 hF2 hv2 hfx2 hfr2 hd40 hDD e
    have hfin := hK h2 F2 g2 (MR_F r ef2) hfr2
    rw [cif_neg (show ¬ x = 0 from fun q => by rw [ex] at q; have := iEq (b := 0) q; omega), ex, cN_nI (by omega)] at hfin
    obtain ⟨b0, c0, c1, c2, c3, c4, c5, c6, -⟩ := id g2
    have rk2 : ∀ j, j < n → F2 0 j = nI (ks j) := fun j hj => by rw [ef2 0 (by decide)]; exact rk j hj
    induction e with
    | zero =>
      intro i hi P Q t hP hQ hpt hsum hL
      obtain ⟨y, et, hy⟩ := hL (by omega)
      have hyl := LWy_le _ _ _ _ hy
      refine AW_iload 67 hX dX7_quickNow_65 rfl rfl ?_
      refine AW_iload_n 68 hX dX7_quickNow_67 rfl rfl ?_
      refine AW_bipush 70 hX dX7_quickNow_68 rfl bp_10 ?_
      refine AW_isub 71 hX dX7_quickNow_70 rfl ?_
      rw [show (10 : Int32) = nI 10 from rfl, pk_sub (by omega)]
      refine AW_icmp_gt 74 149 hX dX7_quickNow_71 rfl (by decide) (fun c71 => ?_) (fun c71 => absurd (nI_lt (by omega) (by omega)) c71)
      refine AW_iload_n 150 hX dX7_quickNow_149 rfl rfl ?_
      refine AW_bipush 152 hX dX7_quickNow_150 rfl bp_10 ?_
      refine AW_isub 153 hX dX7_quickNow_152 rfl ?_
      refine AW_iload_n 154 hX dX7_quickNow_153 rfl rfl ?_
      rw [show (10 : Int32) = nI 10 from rfl, pk_sub (by omega)]
      refine AW_icmp_ge 157 162 hX dX7_quickNow_154 rfl (by decide) (fun c154 => absurd c154 (nI_ge (by omega) (by omega))) (fun c154 => ?_)
      refine AW_iload 159 hX dX7_quickNow_157 rfl rfl ?_
      refine AW_goto 163 hX dX7_quickNow_159 (by decide) ?_
      refine AW_iret hX hE dX7_quickNow_163 rfl (Nat.le_refl _) (Nat.le_refl _) ?_
      rw [lA_yes hDD hd40 (show LWy n ks (12 - ht) (d2 (12 * p + s)) (12 * p + s) (c - 9) y by rw [← show i = c - 9 by omega]; exact hy)] at hfin
      rw [et]
      exact hfin
    | succ e ih =>
      intro i hi P Q t hP hQ hpt hsum hL
      have hv : 12 * P + Q < 144 := by omega
      have eu1 : (12 * P + Q) / 12 = P := by omega
      have eu2 : (12 * P + Q) % 12 = Q := by omega
      have inner : P + 1 < n → ∀ cs, (vm n ks (12 - ht) (12 * P + Q) cs ∧ d2 (tv ks (12 * P + Q) cs) + 1 = d2 (12 * P + Q)) → ∀ f c', c' + f = cs → (∀ c'', c'' < c' → ¬ (vm n ks (12 - ht) (12 * P + Q) c'' ∧ d2 (tv ks (12 * P + Q) c'') + 1 = d2 (12 * P + Q))) → AW X 0 0 87 [some (.ref 34), some (.int (nI c)), some (.int (nI (d2 (12 * p + s)))), some (.int (nI P)), some (.int (nI Q)), some (.int (nI c')), some (.int (nI i))] [] h2 := by
        intro hP1 cs hcs f
        have hd2v : d2 (12 * P + Q) ≤ 40 := by omega
        have hk : d2 (12 * P + Q) = d2 (12 * p + s) - i - 1 + 1 := by omega
        have hvm : ∀ {c'}, (vm n ks (12 - ht) (12 * P + Q) c' ∧ can n ks (12 - ht) (d2 (12 * p + s) - i - 1) (tv ks (12 * P + Q) c')) ↔ (vm n ks (12 - ht) (12 * P + Q) c' ∧ d2 (tv ks (12 * P + Q) c') = d2 (12 * p + s) - i - 1) := bf_fst hB ok1 hv2 hfx2 hv (by omega) (by omega) hk (by omega)
        have found : ∀ c', vm n ks (12 - ht) (12 * P + Q) c' → d2 (tv ks (12 * P + Q) c') + 1 = d2 (12 * P + Q) → (∀ c'', c'' < c' → ¬ (vm n ks (12 - ht) (12 * P + Q) c'' ∧ d2 (tv ks (12 * P + Q) c'') + 1 = d2 (12 * P + Q))) → AW X 0 0 124 [some (.ref 34), some (.int (nI c)), some (.int (nI (d2 (12 * p + s)))), some (.int (nI P)), some (.int (nI Q)), some (.int (nI c')), some (.int (nI i))] [] h2 := by
          intro c' hm hd hno
          have hm0 := hm.1
          have hm1 := hm.2.1
          have hm2 := hm.2.2
          rw [eu1] at hm1
          rw [eu1, eu2] at hm2
          have hf1 : fst1 n ks (12 - ht) (d2 (12 * p + s) - i - 1) (12 * P + Q) c' := ⟨hm, (hvm.mpr ⟨hm, by omega⟩).2, fun c'' hc'' q => by
            obtain ⟨q1, q2⟩ := hvm.mp q
            exact hno c'' hc'' ⟨q1, by omega⟩⟩
          obtain ⟨t1, t2⟩ := PT_snoc i _ _ _ c' hpt (by omega) hf1
          have etv : tv ks (12 * P + Q) c' = 12 * (P + c') + sa (ks (P + c')) Q c' := by simp only [tv, eu1, eu2]
          rw [etv] at t1 hd
          refine AW_aload_n 125 hX dX7_quickNow_124 rfl rfl ?_
          refine AW_iload_n 126 hX dX7_quickNow_125 rfl rfl ?_
          refine AW_iload 128 hX dX7_quickNow_126 rfl rfl ?_
          refine AW_iadd 129 hX dX7_quickNow_128 rfl ?_
          refine AW_iload 131 hX dX7_quickNow_129 rfl rfl ?_
          refine AW_iload 133 hX dX7_quickNow_131 rfl rfl ?_
          rw [nI_add]
          refine AW_cV (As := [_, _, _]) 136 hX dX7_quickNow_133 rfl ml_X7_97 mw_X7_swayBy (by first | assumption | exact hset_eq | exact (hset_ne (by omega)).trans (by first | assumption | exact hset_eq | exact (hset_ne (by omega)).trans (by first | assumption | exact hset_eq | exact (hset_ne (by omega)).trans (by first | assumption | exact hset_eq | exact (hset_ne (by omega)).trans (by first | assumption | exact hset_eq))))) (by decide) rfl rfl rfl (Nat.le_of_ble_eq_true rfl) (by decide) ⟨(Nat.le_refl _), (Nat.le_refl _)⟩ (M_swayBy g2 (p := P + c') (by omega) (rk2 _ hm1) (ok2 _ hm1) c' Q (by omega) (by omega) ?_)
          refine AW_istore 138 hX dX7_quickNow_136 rfl (Nat.le_of_ble_eq_true rfl) rfl ?_
          refine AW_iload_n 139 hX dX7_quickNow_138 rfl rfl ?_
          refine AW_iload 141 hX dX7_quickNow_139 rfl rfl ?_
          refine AW_iadd 142 hX dX7_quickNow_141 rfl ?_
          refine AW_istore_n 143 hX dX7_quickNow_142 rfl (Nat.le_of_ble_eq_true rfl) rfl ?_
          refine AW_iinc 146 hX dX7_quickNow_143 rfl rfl (iincp ic_1) (Nat.le_of_ble_eq_true rfl) rfl ?_
          refine AW_goto 65 hX dX7_quickNow_146 (by decide) ?_
          rw [nI_add, nI_1]
          exact ih (i + 1) (by omega) (P + c') _ _ hm1 hm2 t1 (by omega) (fun _ => ⟨c', rfl, t2⟩)
        induction f with
        | zero =>
          intro c' hc hno
          have ecs : c' = cs := by omega
          subst ecs
          have hc3 := hcs.1.1
          refine AW_aload_n 88 hX dX7_quickNow_87 rfl rfl ?_
          refine AW_iload_n 89 hX dX7_quickNow_88 rfl rfl ?_
          refine AW_iload 91 hX dX7_quickNow_89 rfl rfl ?_
          refine AW_iload 93 hX dX7_quickNow_91 rfl rfl ?_
          refine AW_aload_n 94 hX dX7_quickNow_93 rfl rfl ?_
          refine AW_get 97 hX dX7_quickNow_94 rfl fl_X7_76 (by first | assumption | exact hset_eq | exact (hset_ne (by omega)).trans (by first | assumption | exact hset_eq | exact (hset_ne (by omega)).trans (by first | assumption | exact hset_eq | exact (hset_ne (by omega)).trans (by first | assumption | exact hset_eq | exact (hset_ne (by omega)).trans (by first | assumption | exact hset_eq))))) rfl ?_
          rw [e3]
          refine AW_cS (As := [_]) 100 hX dX7_quickNow_97 rfl ml_X7_112 mw_X7_bears rfl rfl (Nat.le_of_ble_eq_true rfl) (by decide) ⟨(Nat.le_refl _), (Nat.le_refl _)⟩ (M_bears ht (by omega) ?_)
          refine AW_cV (As := [_, _, _, _]) 103 hX dX7_quickNow_100 rfl ml_X7_119 mw_X7_fewBy (by first | assumption | exact hset_eq | exact (hset_ne (by omega)).trans (by first | assumption | exact hset_eq | exact (hset_ne (by omega)).trans (by first | assumption | exact hset_eq | exact (hset_ne (by omega)).trans (by first | assumption | exact hset_eq | exact (hset_ne (by omega)).trans (by first | assumption | exact hset_eq))))) (by decide) rfl rfl rfl (Nat.le_of_ble_eq_true rfl) (by decide) ⟨(Nat.le_refl _), (Nat.le_refl _)⟩ (M_fewBy g2 e1 ok1 rk2 ok2 hF2 hv2.1 hB P Q c' hP hQ hc3 (fun hm => ?_) (fun hm => absurd hcs.1 hm))
          refine AW_aload_n 104 hX dX7_quickNow_103 rfl rfl ?_
          refine AW_get 107 hX dX7_quickNow_104 rfl fl_X7_29 (by first | assumption | exact hset_eq | exact (hset_ne (by omega)).trans (by first | assumption | exact hset_eq | exact (hset_ne (by omega)).trans (by first | assumption | exact hset_eq | exact (hset_ne (by omega)).trans (by first | assumption | exact hset_eq | exact (hset_ne (by omega)).trans (by first | assumption | exact hset_eq))))) rfl ?_
          refine AW_bipush 109 hX dX7_quickNow_107 rfl bp_12 ?_
          refine AW_iload_n 110 hX dX7_quickNow_109 rfl rfl ?_
          refine AW_imul 111 hX dX7_quickNow_110 rfl ?_
          refine AW_iload 113 hX dX7_quickNow_111 rfl rfl ?_
          refine AW_iadd 114 hX dX7_quickNow_113 rfl ?_
          rw [show (12 : Int32) = nI 12 from rfl, pk_mul, nI_add]
          refine AW_iald 115 hX dX7_quickNow_114 rfl (by first | assumption | exact hset_eq | exact (hset_ne (by omega)).trans (by first | assumption | exact hset_eq | exact (hset_ne (by omega)).trans (by first | assumption | exact hset_eq | exact (hset_ne (by omega)).trans (by first | assumption | exact hset_eq | exact (hset_ne (by omega)).trans (by first | assumption | exact hset_eq))))) (j := 12 * P + Q) hv rfl ?_
          rw [hF2 _ hv]
          refine AW_icmp_eq 118 124 hX dX7_quickNow_115 rfl (by decide) (fun c115 => ?_) (fun c115 => absurd (by rw [hcs.2]) c115)
          exact found c' hcs.1 hcs.2 hno
        | succ f ihf =>
          intro c' hc hno
          have hc3 : c' ≤ 3 := by have := hcs.1.1; omega
          refine AW_aload_n 88 hX dX7_quickNow_87 rfl rfl ?_
          refine AW_iload_n 89 hX dX7_quickNow_88 rfl rfl ?_
          refine AW_iload 91 hX dX7_quickNow_89 rfl rfl ?_
          refine AW_iload 93 hX dX7_quickNow_91 rfl rfl ?_
          refine AW_aload_n 94 hX dX7_quickNow_93 rfl rfl ?_
          refine AW_get 97 hX dX7_quickNow_94 rfl fl_X7_76 (by first | assumption | exact hset_eq | exact (hset_ne (by omega)).trans (by first | assumption | exact hset_eq | exact (hset_ne (by omega)).trans (by first | assumption | exact hset_eq | exact (hset_ne (by omega)).trans (by first | assumption | exact hset_eq | exact (hset_ne (by omega)).trans (by first | assumption | exact hset_eq))))) rfl ?_
          rw [e3]
          refine AW_cS (As := [_]) 100 hX dX7_quickNow_97 rfl ml_X7_112 mw_X7_bears rfl rfl (Nat.le_of_ble_eq_true rfl) (by decide) ⟨(Nat.le_refl _), (Nat.le_refl _)⟩ (M_bears ht (by omega) ?_)
          refine AW_cV (As := [_, _, _, _]) 103 hX dX7_quickNow_100 rfl ml_X7_119 mw_X7_fewBy (by first | assumption | exact hset_eq | exact (hset_ne (by omega)).trans (by first | assumption | exact hset_eq | exact (hset_ne (by omega)).trans (by first | assumption | exact hset_eq | exact (hset_ne (by omega)).trans (by first | assumption | exact hset_eq | exact (hset_ne (by omega)).trans (by first | assumption | exact hset_eq))))) (by decide) rfl rfl rfl (Nat.le_of_ble_eq_true rfl) (by decide) ⟨(Nat.le_refl _), (Nat.le_refl _)⟩ (M_fewBy g2 e1 ok1 rk2 ok2 hF2 hv2.1 hB P Q c' hP hQ hc3 (fun hm => ?_) (fun hm => ?_))
          · have hdl := hv2.1 _ (vm_in hB ok1 hm).1
            refine AW_aload_n 104 hX dX7_quickNow_103 rfl rfl ?_
            refine AW_get 107 hX dX7_quickNow_104 rfl fl_X7_29 (by first | assumption | exact hset_eq | exact (hset_ne (by omega)).trans (by first | assumption | exact hset_eq | exact (hset_ne (by omega)).trans (by first | assumption | exact hset_eq | exact (hset_ne (by omega)).trans (by first | assumption | exact hset_eq | exact (hset_ne (by omega)).trans (by first | assumption | exact hset_eq))))) rfl ?_
            refine AW_bipush 109 hX dX7_quickNow_107 rfl bp_12 ?_
            refine AW_iload_n 110 hX dX7_quickNow_109 rfl rfl ?_
            refine AW_imul 111 hX dX7_quickNow_110 rfl ?_
            refine AW_iload 113 hX dX7_quickNow_111 rfl rfl ?_
            refine AW_iadd 114 hX dX7_quickNow_113 rfl ?_
            rw [show (12 : Int32) = nI 12 from rfl, pk_mul, nI_add]
            refine AW_iald 115 hX dX7_quickNow_114 rfl (by first | assumption | exact hset_eq | exact (hset_ne (by omega)).trans (by first | assumption | exact hset_eq | exact (hset_ne (by omega)).trans (by first | assumption | exact hset_eq | exact (hset_ne (by omega)).trans (by first | assumption | exact hset_eq | exact (hset_ne (by omega)).trans (by first | assumption | exact hset_eq))))) (j := 12 * P + Q) hv rfl ?_
            rw [hF2 _ hv]
            refine AW_icmp_eq 118 124 hX dX7_quickNow_115 rfl (by decide) (fun c115 => ?_) (fun c115 => ?_)
            · exact found c' hm (iEq c115) hno
            · refine AW_iinc 121 hX dX7_quickNow_118 rfl rfl (iincp ic_1) (Nat.le_of_ble_eq_true rfl) rfl ?_
              refine AW_goto 87 hX dX7_quickNow_121 (by decide) ?_
              rw [nI_1]
              exact ihf (c' + 1) (by omega) (fun c'' h1 q => by
                by_cases e9 : c'' = c'
                · subst e9; exact c115 (by rw [q.2])
                · exact hno c'' (by omega) q)
          · refine AW_aload_n 104 hX dX7_quickNow_103 rfl rfl ?_
            refine AW_get 107 hX dX7_quickNow_104 rfl fl_X7_29 (by first | assumption | exact hset_eq | exact (hset_ne (by omega)).trans (by first | assumption | exact hset_eq | exact (hset_ne (by omega)).trans (by first | assumption | exact hset_eq | exact (hset_ne (by omega)).trans (by first | assumption | exact hset_eq | exact (hset_ne (by omega)).trans (by first | assumption | exact hset_eq))))) rfl ?_
            refine AW_bipush 109 hX dX7_quickNow_107 rfl bp_12 ?_
            refine AW_iload_n 110 hX dX7_quickNow_109 rfl rfl ?_
            refine AW_imul 111 hX dX7_quickNow_110 rfl ?_
            refine AW_iload 113 hX dX7_quickNow_111 rfl rfl ?_
            refine AW_iadd 114 hX dX7_quickNow_113 rfl ?_
            rw [show (12 : Int32) = nI 12 from rfl, pk_mul, nI_add]
            refine AW_iald 115 hX dX7_quickNow_114 rfl (by first | assumption | exact hset_eq | exact (hset_ne (by omega)).trans (by first | assumption | exact hset_eq | exact (hset_ne (by omega)).trans (by first | assumption | exact hset_eq | exact (hset_ne (by omega)).trans (by first | assumption | exact hset_eq | exact (hset_ne (by omega)).trans (by first | assumption | exact hset_eq))))) (j := 12 * P + Q) hv rfl ?_
            rw [hF2 _ hv]
            refine AW_icmp_eq 118 124 hX dX7_quickNow_115 rfl (by decide) (fun c115 => ?_) (fun c115 => ?_)
            · exact absurd (iEq (a := 268435456) c115) (by omega)
            · refine AW_iinc 121 hX dX7_quickNow_118 rfl rfl (iincp ic_1) (Nat.le_of_ble_eq_true rfl) rfl ?_
              refine AW_goto 87 hX dX7_quickNow_121 (by decide) ?_
              rw [nI_1]
              exact ihf (c' + 1) (by omega) (fun c'' h1 q => by
                by_cases e9 : c'' = c'
                · subst e9; exact hm q.1
                · exact hno c'' (by omega) q)
      refine AW_iload 67 hX dX7_quickNow_65 rfl rfl ?_
      refine AW_iload_n 68 hX dX7_quickNow_67 rfl rfl ?_
      refine AW_bipush 70 hX dX7_quickNow_68 rfl bp_10 ?_
      refine AW_isub 71 hX dX7_quickNow_70 rfl ?_
      rw [show (10 : Int32) = nI 10 from rfl, pk_sub (by omega)]
      refine AW_icmp_gt 74 149 hX dX7_quickNow_71 rfl (by decide) (fun c71 => absurd c71 (nI_nlt (by omega) (by omega))) (fun c71 => ?_)
      refine AW_iload_n 75 hX dX7_quickNow_74 rfl rfl ?_
      refine AW_aload_n 76 hX dX7_quickNow_75 rfl rfl ?_
      refine AW_get 79 hX dX7_quickNow_76 rfl fl_X7_73 (by first | assumption | exact hset_eq | exact (hset_ne (by omega)).trans (by first | assumption | exact hset_eq | exact (hset_ne (by omega)).trans (by first | assumption | exact hset_eq | exact (hset_ne (by omega)).trans (by first | assumption | exact hset_eq | exact (hset_ne (by omega)).trans (by first | assumption | exact hset_eq))))) rfl ?_
      refine AW_iconst 80 hX dX7_quickNow_79 rfl ic_1 ?_
      refine AW_isub 81 hX dX7_quickNow_80 rfl ?_
      rw [e1, show (1 : Int32) = nI 1 from rfl, pk_sub (by omega)]
      refine AW_icmp_ge 84 149 hX dX7_quickNow_81 rfl (by decide) (fun c81 => ?_) (fun c81 => ?_)
      · refine AW_iload_n 150 hX dX7_quickNow_149 rfl rfl ?_
        refine AW_bipush 152 hX dX7_quickNow_150 rfl bp_10 ?_
        refine AW_isub 153 hX dX7_quickNow_152 rfl ?_
        refine AW_iload_n 154 hX dX7_quickNow_153 rfl rfl ?_
        have hP9 := iLe c81
        have hz : d2 (12 * P + Q) = 0 := hv2.2.2 _ hv (by omega)
        rw [show (10 : Int32) = nI 10 from rfl, pk_sub (by omega)]
        refine AW_icmp_ge 157 162 hX dX7_quickNow_154 rfl (by decide) (fun c154 => ?_) (fun c154 => absurd (nI_le (by omega) (by omega)) c154)
        refine AW_iconst 163 hX dX7_quickNow_162 rfl ic_m1 ?_
        refine AW_iret hX hE dX7_quickNow_163 rfl (Nat.le_refl _) (Nat.le_refl _) ?_
        rw [lA_no (fun _ => by omega)] at hfin
        exact hfin
      · refine AW_iconst 85 hX dX7_quickNow_84 rfl ic_0 ?_
        refine AW_istore 87 hX dX7_quickNow_85 rfl (Nat.le_of_ble_eq_true rfl) rfl ?_
        have hP9 := iNle c81
        have hcan := hv2.2.1 (12 * P + Q) hv (by omega)
        have hpos : 0 < d2 (12 * P + Q) := Nat.pos_of_ne_zero fun q => by
          rw [q] at hcan
          have : (12 * P + Q) / 12 = n - 1 := hcan
          omega
        obtain ⟨k9, ek9⟩ : ∃ k9, d2 (12 * P + Q) = k9 + 1 := ⟨d2 (12 * P + Q) - 1, by omega⟩
        rw [ek9] at hcan
        obtain ⟨cs, hm9, hc9⟩ := hcan
        have h9 := (bf_fst hB ok1 hv2 hfx2 hv (by omega) (by omega) ek9 (by omega)).mp ⟨hm9, hc9⟩
        exact inner (by omega) cs ⟨hm9, by rw [h9.2, ek9]⟩ cs 0 (by omega) (fun c'' hc'' => by omega)
  refine AW_aload_n 1 hX dX7_quickNow_0 rfl rfl ?_
  refine AW_aload_n 2 hX dX7_quickNow_1 rfl rfl ?_
  refine AW_get 5 hX dX7_quickNow_2 rfl fl_X7_76 (by first | assumption | exact hset_eq | exact (hset_ne (by omega)).trans (by first | assumption | exact hset_eq | exact (hset_ne (by omega)).trans (by first | assumption | exact hset_eq | exact (hset_ne (by omega)).trans (by first | assumption | exact hset_eq | exact (hset_ne (by omega)).trans (by first | assumption | exact hset_eq))))) rfl ?_
  rw [e3]
  refine AW_cV (As := [_]) 8 hX dX7_quickNow_5 rfl ml_X7_126 mw_X7_layFew (by first | assumption | exact hset_eq | exact (hset_ne (by omega)).trans (by first | assumption | exact hset_eq | exact (hset_ne (by omega)).trans (by first | assumption | exact hset_eq | exact (hset_ne (by omega)).trans (by first | assumption | exact hset_eq | exact (hset_ne (by omega)).trans (by first | assumption | exact hset_eq))))) (by decide) rfl rfl rfl (Nat.le_of_ble_eq_true rfl) (by decide) ⟨(Nat.le_refl _), (Nat.le_refl _)⟩ (M_layFew g e1 ok1 hn rk ok2 ht okn.2 (by omega) (fun h2 F2 d2 g2 ef2 hF2 hv2 hfx2 hfr2 => ?_))
  obtain ⟨b0, c0, c1, c2, c3, c4, c5, c6, -⟩ := id g2
  have hd0 := hv2.1 _ hu
  have hbf := bf_DD hB ok1 hv2 hfx2 (u := 12 * p + s) hu (by omega) (by omega)
  have hfin := hK h2 F2 g2 (MR_F r ef2) hfr2
  refine AW_aload_n 9 hX dX7_quickNow_8 rfl rfl ?_
  refine AW_get 12 hX dX7_quickNow_9 rfl fl_X7_29 (by first | assumption | exact hset_eq | exact (hset_ne (by omega)).trans (by first | assumption | exact hset_eq | exact (hset_ne (by omega)).trans (by first | assumption | exact hset_eq | exact (hset_ne (by omega)).trans (by first | assumption | exact hset_eq | exact (hset_ne (by omega)).trans (by first | assumption | exact hset_eq))))) rfl ?_
  refine AW_bipush 14 hX dX7_quickNow_12 rfl bp_12 ?_
  refine AW_aload_n 15 hX dX7_quickNow_14 rfl rfl ?_
  refine AW_get 18 hX dX7_quickNow_15 rfl fl_X7_82 (by first | assumption | exact hset_eq | exact (hset_ne (by omega)).trans (by first | assumption | exact hset_eq | exact (hset_ne (by omega)).trans (by first | assumption | exact hset_eq | exact (hset_ne (by omega)).trans (by first | assumption | exact hset_eq | exact (hset_ne (by omega)).trans (by first | assumption | exact hset_eq))))) rfl ?_
  refine AW_imul 19 hX dX7_quickNow_18 rfl ?_
  refine AW_aload_n 20 hX dX7_quickNow_19 rfl rfl ?_
  refine AW_get 23 hX dX7_quickNow_20 rfl fl_X7_85 (by first | assumption | exact hset_eq | exact (hset_ne (by omega)).trans (by first | assumption | exact hset_eq | exact (hset_ne (by omega)).trans (by first | assumption | exact hset_eq | exact (hset_ne (by omega)).trans (by first | assumption | exact hset_eq | exact (hset_ne (by omega)).trans (by first | assumption | exact hset_eq))))) rfl ?_
  refine AW_iadd 24 hX dX7_quickNow_23 rfl ?_
  rw [e4, e5, show (12 : Int32) = nI 12 from rfl, pk_mul, nI_add]
  refine AW_iald 25 hX dX7_quickNow_24 rfl (by first | assumption | exact hset_eq | exact (hset_ne (by omega)).trans (by first | assumption | exact hset_eq | exact (hset_ne (by omega)).trans (by first | assumption | exact hset_eq | exact (hset_ne (by omega)).trans (by first | assumption | exact hset_eq | exact (hset_ne (by omega)).trans (by first | assumption | exact hset_eq))))) (j := 12 * p + s) hu rfl ?_
  rw [hF2 _ hu]
  refine AW_istore_n 26 hX dX7_quickNow_25 rfl (Nat.le_of_ble_eq_true rfl) rfl ?_
  refine AW_iload_n 27 hX dX7_quickNow_26 rfl rfl ?_
  refine AW_bipush 29 hX dX7_quickNow_27 rfl bp_40 ?_
  refine AW_icmp_gt 32 36 hX dX7_quickNow_29 rfl (by decide) (fun c29 => ?_) (fun c29 => ?_)
  · refine AW_iload_n 37 hX dX7_quickNow_36 rfl rfl ?_
    refine AW_bipush 39 hX dX7_quickNow_37 rfl bp_40 ?_
    refine AW_icmp_le 42 46 hX dX7_quickNow_39 rfl (by decide) (fun c39 => ?_) (fun c39 => ?_)
    · refine AW_iload_n 47 hX dX7_quickNow_46 rfl rfl ?_
      refine AW_iret hX hE dX7_quickNow_47 rfl (Nat.le_refl _) (Nat.le_refl _) ?_
      exact absurd (iLe (b := 40) c39) (by have := iLt (a := 40) c29; omega)
    · refine AW_iconst 43 hX dX7_quickNow_42 rfl ic_m1 ?_
      refine AW_goto 47 hX dX7_quickNow_43 (by decide) ?_
      refine AW_iret hX hE dX7_quickNow_47 rfl (Nat.le_refl _) (Nat.le_refl _) ?_
      have hgt := iLt (a := 40) c29
      by_cases hx0 : x = 0
      · rw [cif_pos hx0, dA_n (by have := hbf.2 hgt; omega)] at hfin
        exact hfin
      · rw [cif_neg hx0, lA_no (fun q => by have := hbf.2 hgt; omega)] at hfin
        exact hfin
  · refine AW_iload_n 33 hX dX7_quickNow_32 rfl rfl ?_
    refine AW_if_ne 36 48 hX dX7_quickNow_33 rfl (by decide) (fun c33 => ?_) (fun c33 => ?_)
    · refine AW_aload_n 49 hX dX7_quickNow_48 rfl rfl ?_
      refine AW_get 52 hX dX7_quickNow_49 rfl fl_X7_82 (by first | assumption | exact hset_eq | exact (hset_ne (by omega)).trans (by first | assumption | exact hset_eq | exact (hset_ne (by omega)).trans (by first | assumption | exact hset_eq | exact (hset_ne (by omega)).trans (by first | assumption | exact hset_eq | exact (hset_ne (by omega)).trans (by first | assumption | exact hset_eq))))) rfl ?_
      rw [e4]
      refine AW_istore_n 53 hX dX7_quickNow_52 rfl (Nat.le_of_ble_eq_true rfl) rfl ?_
      refine AW_aload_n 54 hX dX7_quickNow_53 rfl rfl ?_
      refine AW_get 57 hX dX7_quickNow_54 rfl fl_X7_85 (by first | assumption | exact hset_eq | exact (hset_ne (by omega)).trans (by first | assumption | exact hset_eq | exact (hset_ne (by omega)).trans (by first | assumption | exact hset_eq | exact (hset_ne (by omega)).trans (by first | assumption | exact hset_eq | exact (hset_ne (by omega)).trans (by first | assumption | exact hset_eq))))) rfl ?_
      rw [e5]
      refine AW_istore 59 hX dX7_quickNow_57 rfl (Nat.le_of_ble_eq_true rfl) rfl ?_
      refine AW_iconst 60 hX dX7_quickNow_59 rfl ic_m1 ?_
      refine AW_istore 62 hX dX7_quickNow_60 rfl (Nat.le_of_ble_eq_true rfl) rfl ?_
      refine AW_iconst 63 hX dX7_quickNow_62 rfl ic_0 ?_
      refine AW_istore 65 hX dX7_quickNow_63 rfl (Nat.le_of_ble_eq_true rfl) rfl ?_
      have hle := iNlt (a := 40) (b := d2 (12 * p + s)) c29
      rcases hx with hx | ⟨c, hc1, hc2, hx⟩
      · exact absurd hx c33
      · rw [hx]
        exact way h2 F2 d2 c hx hc1 hc2 g2 ef2 hF2 hv2 hfx2 hfr2 (by omega) (hbf.1 (by omega)) (c - 9) 0 (by omega) p s (-1) okn.1 ok4 rfl (by omega) (fun q => by omega)
    · refine AW_iload_n 37 hX dX7_quickNow_36 rfl rfl ?_
      refine AW_bipush 39 hX dX7_quickNow_37 rfl bp_40 ?_
      refine AW_icmp_le 42 46 hX dX7_quickNow_39 rfl (by decide) (fun c39 => ?_) (fun c39 => ?_)
      · refine AW_iload_n 47 hX dX7_quickNow_46 rfl rfl ?_
        refine AW_iret hX hE dX7_quickNow_47 rfl (Nat.le_refl _) (Nat.le_refl _) ?_
        have hle := iLe (b := 40) c39
        rw [cif_pos c33, hbf.1 hle, dA_y hle] at hfin
        exact hfin
      · refine AW_iconst 43 hX dX7_quickNow_42 rfl ic_m1 ?_
        refine AW_goto 47 hX dX7_quickNow_43 (by decide) ?_
        refine AW_iret hX hE dX7_quickNow_47 rfl (Nat.le_refl _) (Nat.le_refl _) ?_
        exact absurd (iNle (b := 40) c39) (by have := iNlt (a := 40) (b := d2 (12 * p + s)) c29; omega)
set_option maxRecDepth 100000 in
set_option maxHeartbeats 4000000 in
theorem D_quick {h : AH} {K : Option Value → AH → Prop} {kp yd qk pm n ht p s : Nat} {pg ks : Nat → Nat} {stp fl : Int32} {m : Nat} {hd : HD} {w : SV} {I : Nat → Int32} {sd hh : Int64} {F : AF} (g : MH h I sd hh F) (r : MR (kp, yd, qk, pm, pg, (n, ks, ht, p, s, stp, fl, m, hd), w) I F) (ok : Sok (kp, yd, qk, pm, pg, (n, ks, ht, p, s, stp, fl, m, hd), w)) (x : Int32) (hK : ∀ h' : AH, MJ h' (spQuick (kp, yd, qk, pm, pg, (n, ks, ht, p, s, stp, fl, m, hd), w) x).2 → fr h h' 34 47 → K (some (.int (spQuick (kp, yd, qk, pm, pg, (n, ks, ht, p, s, stp, fl, m, hd), w) x).1)) h') : aX7_quick 6 [.ref 34, .int x] h K := by
  obtain ⟨g0, a0, a1, a2, a3, a4, a5, a6, a7, a8, a9, a10, a11⟩ := id g
  obtain ⟨⟨e0, e1, e3, e4, e5, e6, e7, e8, e13, e14⟩, rk, rh, rp, rkp, rk0⟩ := id r
  obtain ⟨⟨ok1, ok2, ok3, ok4, ok5, ok6, ok7, ok8⟩, okp, okw, okq, okpm, okpg, oky⟩ := id ok
  have hp12 : p < 12 := by
    rcases Nat.eq_zero_or_pos n with e | e
    · have := ok8 e; omega
    · have := ok7 e; omega
  refine AM.of [some (.ref 34), some (.int x)] pn_X7_quick rfl (Nat.le_of_ble_eq_true rfl) (fun X hX hE => ?_)
  have body : (x = 0 ∨ ∃ c, 10 ≤ c ∧ c ≤ 13 ∧ x = nI c) → ¬ (x ≠ 0 ∧ (x < 10 ∨ 13 < x)) → AW X 0 0 18 [some (.ref 34), some (.int x)] [] h := by
    intro hx hnx
    refine AW_aload_n 19 hX dX7_quick_18 rfl rfl ?_
    refine AW_get 22 hX dX7_quick_19 rfl fl_X7_73 (by first | assumption | exact hset_eq | exact (hset_ne (by omega)).trans (by first | assumption | exact hset_eq | exact (hset_ne (by omega)).trans (by first | assumption | exact hset_eq | exact (hset_ne (by omega)).trans (by first | assumption | exact hset_eq | exact (hset_ne (by omega)).trans (by first | assumption | exact hset_eq))))) rfl ?_
    rw [e1]
    refine AW_if_eq 25 34 hX dX7_quick_22 rfl (by decide) (fun c22 => ?_) (fun c22 => ?_)
    · refine AW_bipush 36 hX dX7_quick_34 rfl bp_m103 ?_
      refine AW_iret hX hE dX7_quick_36 rfl (Nat.le_refl _) (Nat.le_refl _) ?_
      have e : spQuick (kp, yd, qk, pm, pg, (n, ks, ht, p, s, stp, fl, m, hd), w) x = (-103, (kp, yd, qk, pm, pg, (n, ks, ht, p, s, stp, fl, m, hd), w)) := by
        show cif _ _ _ = _
        rw [cif_neg hnx, cif_pos (Or.inl (iEq (b := 0) c22))]
      rw [e] at hK
      exact hK h ⟨I, sd, hh, F, g, r⟩ (fr_rf _ _ _)
    · refine AW_aload_n 26 hX dX7_quick_25 rfl rfl ?_
      refine AW_get 29 hX dX7_quick_26 rfl fl_X7_130 (by first | assumption | exact hset_eq | exact (hset_ne (by omega)).trans (by first | assumption | exact hset_eq | exact (hset_ne (by omega)).trans (by first | assumption | exact hset_eq | exact (hset_ne (by omega)).trans (by first | assumption | exact hset_eq | exact (hset_ne (by omega)).trans (by first | assumption | exact hset_eq))))) rfl ?_
      refine AW_bipush 31 hX dX7_quick_29 rfl bp_40 ?_
      rw [e13]
      refine AW_icmp_ne 34 37 hX dX7_quick_31 rfl (by decide) (fun c31 => ?_) (fun c31 => ?_)
      · refine AW_aload_n 38 hX dX7_quick_37 rfl rfl ?_
        refine AW_dup 39 hX dX7_quick_38 rfl rfl ?_
        refine AW_get 42 hX dX7_quick_39 rfl fl_X7_130 (by first | assumption | exact hset_eq | exact (hset_ne (by omega)).trans (by first | assumption | exact hset_eq | exact (hset_ne (by omega)).trans (by first | assumption | exact hset_eq | exact (hset_ne (by omega)).trans (by first | assumption | exact hset_eq | exact (hset_ne (by omega)).trans (by first | assumption | exact hset_eq))))) rfl ?_
        refine AW_iconst 43 hX dX7_quick_42 rfl ic_1 ?_
        refine AW_iadd 44 hX dX7_quick_43 rfl ?_
        refine AW_put 47 hX dX7_quick_44 rfl fl_X7_130 (by first | assumption | exact hset_eq | exact (hset_ne (by omega)).trans (by first | assumption | exact hset_eq | exact (hset_ne (by omega)).trans (by first | assumption | exact hset_eq | exact (hset_ne (by omega)).trans (by first | assumption | exact hset_eq | exact (hset_ne (by omega)).trans (by first | assumption | exact hset_eq))))) rfl (fun _ => rfl) (fun _ => rfl) (Nat.le_of_ble_eq_true rfl) ?_
        rw [mo_set13]
        try rw [hset_hset]
        refine AW_aload_n 48 hX dX7_quick_47 rfl rfl ?_
        refine AW_iload_n 49 hX dX7_quick_48 rfl rfl ?_
        refine AW_cV (As := [_]) 52 hX dX7_quick_49 rfl ml_X7_133 mw_X7_quickNow (by first | assumption | exact hset_eq | exact (hset_ne (by omega)).trans (by first | assumption | exact hset_eq | exact (hset_ne (by omega)).trans (by first | assumption | exact hset_eq | exact (hset_ne (by omega)).trans (by first | assumption | exact hset_eq | exact (hset_ne (by omega)).trans (by first | assumption | exact hset_eq))))) (by decide) rfl rfl rfl (Nat.le_of_ble_eq_true rfl) (by decide) ⟨(Nat.le_refl _), (Nat.le_refl _)⟩ (M_quickNow (I := upd I 13 (I 13 + 1)) (MH_obj g) (show MR (kp, yd, qk + 1, pm, pg, (n, ks, ht, p, s, stp, fl, m, hd), w) (upd I 13 (I 13 + 1)) F from ⟨⟨e0, e1, e3, e4, e5, e6, e7, e8, (show I 13 + 1 = nI (qk + 1) by rw [e13, nI_1]), e14⟩, rk, rh, rp, rkp, rk0⟩) (show Sok (kp, yd, qk + 1, pm, pg, (n, ks, ht, p, s, stp, fl, m, hd), w) from ⟨⟨ok1, ok2, ok3, ok4, ok5, ok6, ok7, ok8⟩, okp, okw, (by have := iNe (b := 40) c31; omega), okpm, okpg, oky⟩) (by have := iNe (b := 0) c22; omega) x hx (fun h2 F2 g2 r2 hfr2 => ?_))
        refine AW_iret hX hE dX7_quick_52 rfl (Nat.le_refl _) (Nat.le_refl _) ?_
        have e : spQuick (kp, yd, qk, pm, pg, (n, ks, ht, p, s, stp, fl, m, hd), w) x = ((cif (x = 0) (dA (DD n ks (12 - ht) (12 * p + s))) (lA n ks (12 - ht) (12 * p + s) (cN x - 9))), (kp, yd, qk + 1, pm, pg, (n, ks, ht, p, s, stp, fl, m, hd), w)) := by
          show cif _ _ _ = _
          rw [cif_neg hnx, cif_neg (fun q => by have := iNe (b := 40) c31; have := iNe (b := 0) c22; omega)]
        rw [e] at hK
        exact hK h2 ⟨_, _, _, _, g2, r2⟩ (fr_tr (fr_set (by omega) (by omega)) hfr2)
      · refine AW_bipush 36 hX dX7_quick_34 rfl bp_m103 ?_
        refine AW_iret hX hE dX7_quick_36 rfl (Nat.le_refl _) (Nat.le_refl _) ?_
        have e : spQuick (kp, yd, qk, pm, pg, (n, ks, ht, p, s, stp, fl, m, hd), w) x = (-103, (kp, yd, qk, pm, pg, (n, ks, ht, p, s, stp, fl, m, hd), w)) := by
          show cif _ _ _ = _
          rw [cif_neg hnx, cif_pos (Or.inr (by have := iEq (b := 40) c31; omega))]
        rw [e] at hK
        exact hK h ⟨I, sd, hh, F, g, r⟩ (fr_rf _ _ _)
  refine AW_iload_n 1 hX dX7_quick_0 rfl rfl ?_
  refine AW_if_eq 4 18 hX dX7_quick_1 rfl (by decide) (fun c1 => ?_) (fun c1 => ?_)
  · exact body (Or.inl c1) (fun q => q.1 c1)
  · refine AW_iload_n 5 hX dX7_quick_4 rfl rfl ?_
    refine AW_bipush 7 hX dX7_quick_5 rfl bp_10 ?_
    refine AW_bipush 9 hX dX7_quick_7 rfl bp_13 ?_
    refine AW_cS (As := [_, _, _]) 12 hX dX7_quick_9 rfl ml_X7_47 mw_X7_within rfl rfl (Nat.le_of_ble_eq_true rfl) (by decide) ⟨(Nat.le_refl _), (Nat.le_refl _)⟩ (M_within _ _ _ (fun w1 w2 => ?_) (fun w1 => ?_))
    · obtain ⟨c, hc1, hc2, ec⟩ := rg (x := x) 10 13 (by decide) (by decide) w1 w2
      refine AW_if_ne 15 18 hX dX7_quick_12 rfl (by decide) (fun c12 => ?_) (fun c12 => absurd c12 (by decide))
      exact body (Or.inr ⟨c, hc1, hc2, ec⟩) (fun q => q.2.elim w1 w2)
    · refine AW_if_ne 15 18 hX dX7_quick_12 rfl (by decide) (fun c12 => absurd rfl c12) (fun c12 => ?_)
      refine AW_bipush 17 hX dX7_quick_15 rfl bp_m102 ?_
      refine AW_iret hX hE dX7_quick_17 rfl (Nat.le_refl _) (Nat.le_refl _) ?_
      have e : spQuick (kp, yd, qk, pm, pg, (n, ks, ht, p, s, stp, fl, m, hd), w) x = (-102, (kp, yd, qk, pm, pg, (n, ks, ht, p, s, stp, fl, m, hd), w)) := by
        show cif _ _ _ = _
        rw [cif_pos ⟨c1, w1⟩]
      rw [e] at hK
      exact hK h ⟨I, sd, hh, F, g, r⟩ (fr_rf _ _ _)
set_option maxRecDepth 100000 in
set_option maxHeartbeats 4000000 in
theorem M_mix {h : AH} {K : Option Value → AH → Prop} {I : Nat → Int32} {sd hh : Int64} {F : AF} (g : MH h I sd hh F) (v : Int64) (hK : K none (hset h 34 (.inl (6, mo I sd (31 * hh + v))))) : aX7_mix 0 [.ref 34, .long v] h K := by
  have g0 := g.1
  refine AM.of [some (.ref 34), some (.long v), none] pn_X7_mix rfl (Nat.le_of_ble_eq_true rfl) (fun X hX hE => ?_)
  refine AW_aload_n 1 hX dX7_mix_0 rfl rfl ?_
  refine AW_ldc2 4 hX dX7_mix_1 rfl kc_X7_200 ?_
  refine AW_aload_n 5 hX dX7_mix_4 rfl rfl ?_
  refine AW_get 8 hX dX7_mix_5 rfl fl_X7_202 (by first | assumption | exact hset_eq | exact (hset_ne (by omega)).trans (by first | assumption | exact hset_eq | exact (hset_ne (by omega)).trans (by first | assumption | exact hset_eq | exact (hset_ne (by omega)).trans (by first | assumption | exact hset_eq | exact (hset_ne (by omega)).trans (by first | assumption | exact hset_eq))))) rfl ?_
  refine AW_lmul 9 hX dX7_mix_8 rfl ?_
  refine AW_lload_n 10 hX dX7_mix_9 rfl rfl ?_
  refine AW_ladd 11 hX dX7_mix_10 rfl ?_
  refine AW_put 14 hX dX7_mix_11 rfl fl_X7_202 (by first | assumption | exact hset_eq | exact (hset_ne (by omega)).trans (by first | assumption | exact hset_eq | exact (hset_ne (by omega)).trans (by first | assumption | exact hset_eq | exact (hset_ne (by omega)).trans (by first | assumption | exact hset_eq | exact (hset_ne (by omega)).trans (by first | assumption | exact hset_eq))))) rfl (fun _ => rfl) (fun _ => rfl) (Nat.le_of_ble_eq_true rfl) ?_
  rw [mo_set33]
  try rw [hset_hset]
  refine AW_vret hX hE dX7_mix_14 (Nat.le_refl _) (Nat.le_refl _) ?_
  exact hK
set_option maxRecDepth 100000 in
set_option maxHeartbeats 4000000 in
theorem D_digest {h : AH} {K : Option Value → AH → Prop} {kp yd qk pm n ht p s : Nat} {pg ks : Nat → Nat} {stp fl : Int32} {m : Nat} {hd : HD} {w : SV} {I : Nat → Int32} {sd hh : Int64} {F : AF} (g : MH h I sd hh F) (r : MR (kp, yd, qk, pm, pg, (n, ks, ht, p, s, stp, fl, m, hd), w) I F) (ok : Sok (kp, yd, qk, pm, pg, (n, ks, ht, p, s, stp, fl, m, hd), w)) (hK : ∀ h' : AH, MJ h' (kp, yd, qk, pm, pg, (n, ks, ht, p, s, stp, fl, m, hd), w) → fr h h' 34 47 → K (some (.long (dgA (kp, yd, qk, pm, pg, (n, ks, ht, p, s, stp, fl, m, hd), w)))) h') : aX7_digest 7 [.ref 34] h K := by
  obtain ⟨g0, a0, a1, a2, a3, a4, a5, a6, a7, a8, a9, a10, a11⟩ := id g
  obtain ⟨⟨e0, e1, e3, e4, e5, e6, e7, e8, e13, e14⟩, rk, rh, rp, rkp, rk0⟩ := id r
  obtain ⟨⟨ok1, ok2, ok3, ok4, ok5, ok6, ok7, ok8⟩, okp, okw, okq, okpm, okpg, oky⟩ := id ok
  have hp12 : p < 12 := by
    rcases Nat.eq_zero_or_pos n with e | e
    · have := ok8 e; omega
    · have := ok7 e; omega
  refine AM.of [some (.ref 34), none, none] pn_X7_digest rfl (Nat.le_of_ble_eq_true rfl) (fun X hX hE => ?_)
  have cts : ∀ d i, i + d = 12 → ∀ (h' : AH) (z0 : Int64) (F' : AF) (q : Option Value), MH h' I sd (dgC (kp, yd, qk, pm, pg, (n, ks, ht, p, s, stp, fl, m, hd), w) z0 i) F' → MR (kp, yd, qk, pm, pg, (n, ks, ht, p, s, stp, fl, m, hd), w) I F' → fr h h' 34 47 → dgC (kp, yd, qk, pm, pg, (n, ks, ht, p, s, stp, fl, m, hd), w) z0 12 = dgA (kp, yd, qk, pm, pg, (n, ks, ht, p, s, stp, fl, m, hd), w) → AW X 0 0 140 [some (.ref 34), some (.int (nI i)), q] [] h' := by
    intro d
    induction d with
    | zero =>
      intro i hi h' z0 F' q g' r' hfr e
      have b0 := g'.1
      refine AW_iload_n 141 hX dX7_digest_140 rfl rfl ?_
      refine AW_bipush 143 hX dX7_digest_141 rfl bp_12 ?_
      refine AW_icmp_ge 146 162 hX dX7_digest_143 rfl (by decide) (fun c143 => ?_) (fun c143 => absurd (nI_le (a := 12) (b := i) (by omega) (by omega)) c143)
      refine AW_aload_n 163 hX dX7_digest_162 rfl rfl ?_
      refine AW_get 166 hX dX7_digest_163 rfl fl_X7_202 (by first | assumption | exact hset_eq | exact (hset_ne (by omega)).trans (by first | assumption | exact hset_eq | exact (hset_ne (by omega)).trans (by first | assumption | exact hset_eq | exact (hset_ne (by omega)).trans (by first | assumption | exact hset_eq | exact (hset_ne (by omega)).trans (by first | assumption | exact hset_eq))))) rfl ?_
      refine AW_lret hX hE dX7_digest_166 (Nat.le_refl _) (Nat.le_refl _) ?_
      rw [show i = 12 by omega, e]
      exact hK h' ⟨_, _, _, _, g', r'⟩ hfr
    | succ d ih =>
      intro i hi h' z0 F' q g' r' hfr e
      have b0 := g'.1
      refine AW_iload_n 141 hX dX7_digest_140 rfl rfl ?_
      refine AW_bipush 143 hX dX7_digest_141 rfl bp_12 ?_
      refine AW_icmp_ge 146 162 hX dX7_digest_143 rfl (by decide) (fun c143 => absurd c143 (nI_ge (a := i) (b := 12) (by omega) (by decide))) (fun c143 => ?_)
      refine AW_aload_n 147 hX dX7_digest_146 rfl rfl ?_
      refine AW_aload_n 148 hX dX7_digest_147 rfl rfl ?_
      refine AW_iload_n 149 hX dX7_digest_148 rfl rfl ?_
      refine AW_cV (As := [_]) 152 hX dX7_digest_149 rfl ml_X7_197 mw_X7_howMany (by first | assumption | exact hset_eq | exact (hset_ne (by omega)).trans (by first | assumption | exact hset_eq | exact (hset_ne (by omega)).trans (by first | assumption | exact hset_eq | exact (hset_ne (by omega)).trans (by first | assumption | exact hset_eq | exact (hset_ne (by omega)).trans (by first | assumption | exact hset_eq))))) (by decide) rfl rfl rfl (Nat.le_of_ble_eq_true rfl) (by decide) ⟨(Nat.le_refl _), (Nat.le_refl _)⟩ (M_howMany g' r' ok i (by omega) ?_)
      refine AW_i2l 153 hX dX7_digest_152 rfl ?_
      refine AW_cV (As := [_]) 156 hX dX7_digest_153 rfl ml_X7_207 mw_X7_mix (by first | assumption | exact hset_eq | exact (hset_ne (by omega)).trans (by first | assumption | exact hset_eq | exact (hset_ne (by omega)).trans (by first | assumption | exact hset_eq | exact (hset_ne (by omega)).trans (by first | assumption | exact hset_eq | exact (hset_ne (by omega)).trans (by first | assumption | exact hset_eq))))) (by decide) rfl rfl rfl (Nat.le_of_ble_eq_true rfl) (by decide) ⟨(Nat.le_refl _), (Nat.le_refl _)⟩ (M_mix g' _ ?_)
      refine AW_iinc 159 hX dX7_digest_156 rfl rfl (iincp ic_1) (Nat.le_of_ble_eq_true rfl) rfl ?_
      refine AW_goto 140 hX dX7_digest_159 (by decide) ?_
      rw [nI_1]
      exact ih (i + 1) (by omega) _ z0 F' q (MH_obj g') r' (fr_tr hfr (fr_set (by omega) (by omega))) e
  have lets : ∀ d i, i + d = pm → ∀ (h' : AH) (F' : AF) (q : Option Value), MH h' I sd (dgL pg (dgY (kp, yd, qk, pm, pg, (n, ks, ht, p, s, stp, fl, m, hd), w)) i) F' → MR (kp, yd, qk, pm, pg, (n, ks, ht, p, s, stp, fl, m, hd), w) I F' → fr h h' 34 47 → AW X 0 0 113 [some (.ref 34), some (.int (nI i)), q] [] h' := by
    intro d
    induction d with
    | zero =>
      intro i hi h' F' q g' r' hfr
      have b0 := g'.1
      refine AW_iload_n 114 hX dX7_digest_113 rfl rfl ?_
      refine AW_aload_n 115 hX dX7_digest_114 rfl rfl ?_
      refine AW_get 118 hX dX7_digest_115 rfl fl_X7_51 (by first | assumption | exact hset_eq | exact (hset_ne (by omega)).trans (by first | assumption | exact hset_eq | exact (hset_ne (by omega)).trans (by first | assumption | exact hset_eq | exact (hset_ne (by omega)).trans (by first | assumption | exact hset_eq | exact (hset_ne (by omega)).trans (by first | assumption | exact hset_eq))))) rfl ?_
      rw [e14]
      refine AW_icmp_ge 121 138 hX dX7_digest_118 rfl (by decide) (fun c118 => ?_) (fun c118 => absurd (nI_le (by omega) (by omega)) c118)
      refine AW_iconst 139 hX dX7_digest_138 rfl ic_0 ?_
      refine AW_istore_n 140 hX dX7_digest_139 rfl (Nat.le_of_ble_eq_true rfl) rfl ?_
      refine cts 12 0 (by omega) h' (dgL pg (dgY (kp, yd, qk, pm, pg, (n, ks, ht, p, s, stp, fl, m, hd), w)) pm) F' q ?_ r' hfr rfl
      rw [show i = pm by omega] at g'
      exact g'
    | succ d ih =>
      intro i hi h' F' q g' r' hfr
      obtain ⟨b0, c0, c1, c2, c3, c4, c5, c6, -⟩ := id g'
      have hpi := r'.2.2.2.1 i (by omega)
      refine AW_iload_n 114 hX dX7_digest_113 rfl rfl ?_
      refine AW_aload_n 115 hX dX7_digest_114 rfl rfl ?_
      refine AW_get 118 hX dX7_digest_115 rfl fl_X7_51 (by first | assumption | exact hset_eq | exact (hset_ne (by omega)).trans (by first | assumption | exact hset_eq | exact (hset_ne (by omega)).trans (by first | assumption | exact hset_eq | exact (hset_ne (by omega)).trans (by first | assumption | exact hset_eq | exact (hset_ne (by omega)).trans (by first | assumption | exact hset_eq))))) rfl ?_
      rw [e14]
      refine AW_icmp_ge 121 138 hX dX7_digest_118 rfl (by decide) (fun c118 => absurd c118 (nI_ge (by omega) (by omega))) (fun c118 => ?_)
      refine AW_aload_n 122 hX dX7_digest_121 rfl rfl ?_
      refine AW_aload_n 123 hX dX7_digest_122 rfl rfl ?_
      refine AW_get 126 hX dX7_digest_123 rfl fl_X7_25 (by first | assumption | exact hset_eq | exact (hset_ne (by omega)).trans (by first | assumption | exact hset_eq | exact (hset_ne (by omega)).trans (by first | assumption | exact hset_eq | exact (hset_ne (by omega)).trans (by first | assumption | exact hset_eq | exact (hset_ne (by omega)).trans (by first | assumption | exact hset_eq))))) rfl ?_
      refine AW_iload_n 127 hX dX7_digest_126 rfl rfl ?_
      refine AW_bald 128 hX dX7_digest_127 rfl (by first | assumption | exact hset_eq | exact (hset_ne (by omega)).trans (by first | assumption | exact hset_eq | exact (hset_ne (by omega)).trans (by first | assumption | exact hset_eq | exact (hset_ne (by omega)).trans (by first | assumption | exact hset_eq | exact (hset_ne (by omega)).trans (by first | assumption | exact hset_eq))))) (j := i) (by omega) rfl ?_
      rw [hpi]
      refine AW_i2l 129 hX dX7_digest_128 rfl ?_
      refine AW_cV (As := [_]) 132 hX dX7_digest_129 rfl ml_X7_207 mw_X7_mix (by first | assumption | exact hset_eq | exact (hset_ne (by omega)).trans (by first | assumption | exact hset_eq | exact (hset_ne (by omega)).trans (by first | assumption | exact hset_eq | exact (hset_ne (by omega)).trans (by first | assumption | exact hset_eq | exact (hset_ne (by omega)).trans (by first | assumption | exact hset_eq))))) (by decide) rfl rfl rfl (Nat.le_of_ble_eq_true rfl) (by decide) ⟨(Nat.le_refl _), (Nat.le_refl _)⟩ (M_mix g' _ ?_)
      refine AW_iinc 135 hX dX7_digest_132 rfl rfl (iincp ic_1) (Nat.le_of_ble_eq_true rfl) rfl ?_
      refine AW_goto 113 hX dX7_digest_135 (by decide) ?_
      rw [nI_1]
      exact ih (i + 1) (by omega) _ F' q (MH_obj g') r' (fr_tr hfr (fr_set (by omega) (by omega)))
  have mid : ∀ (h' : AH) (q1 q2 : Option Value), MH h' I sd (dgP ks hd m n) F → fr h h' 34 47 → AW X 0 0 48 [some (.ref 34), q1, q2] [] h' := by
    intro h' q1 q2 g' hfr
    obtain ⟨b0, c0, -⟩ := id g'
    have hend : ∀ (h2 : AH) (F2 : AF) (z : Int64) (q : Option Value), MH h2 I sd z F2 → MR (kp, yd, qk, pm, pg, (n, ks, ht, p, s, stp, fl, m, hd), w) I F2 → fr h h2 34 47 → dgY (kp, yd, qk, pm, pg, (n, ks, ht, p, s, stp, fl, m, hd), w) = z → AW X 0 0 111 [some (.ref 34), q, q2] [] h2 := by
      intro h2 F2 z q g2 r2 hfr2 ez
      subst ez
      refine AW_iconst 112 hX dX7_digest_111 rfl ic_0 ?_
      refine AW_istore_n 113 hX dX7_digest_112 rfl (Nat.le_of_ble_eq_true rfl) rfl ?_
      exact lets pm 0 (by omega) h2 F2 q2 g2 r2 hfr2
    refine AW_aload_n 49 hX dX7_digest_48 rfl rfl ?_
    refine AW_get 52 hX dX7_digest_49 rfl fl_X7_73 (by first | assumption | exact hset_eq | exact (hset_ne (by omega)).trans (by first | assumption | exact hset_eq | exact (hset_ne (by omega)).trans (by first | assumption | exact hset_eq | exact (hset_ne (by omega)).trans (by first | assumption | exact hset_eq | exact (hset_ne (by omega)).trans (by first | assumption | exact hset_eq))))) rfl ?_
    rw [e1]
    refine AW_if_le 55 111 hX dX7_digest_52 rfl (by decide) (fun c52 => ?_) (fun c52 => ?_)
    · exact hend h' F _ q1 g' r hfr (cif_pos (iLe (b := 0) c52 |> Nat.le_zero.mp))
    · refine AW_aload_n 56 hX dX7_digest_55 rfl rfl ?_
      refine AW_aload_n 57 hX dX7_digest_56 rfl rfl ?_
      refine AW_aload_n 58 hX dX7_digest_57 rfl rfl ?_
      have hn : 0 < n := iNle (b := 0) c52
      have hpn := ok7 hn
      have rkp9 := rk p hpn.1
      have okp9 := ok2 p hpn.1
      refine AW_get 61 hX dX7_digest_58 rfl fl_X7_82 (by first | assumption | exact hset_eq | exact (hset_ne (by omega)).trans (by first | assumption | exact hset_eq | exact (hset_ne (by omega)).trans (by first | assumption | exact hset_eq | exact (hset_ne (by omega)).trans (by first | assumption | exact hset_eq | exact (hset_ne (by omega)).trans (by first | assumption | exact hset_eq))))) rfl ?_
      refine AW_iconst 62 hX dX7_digest_61 rfl ic_0 ?_
      refine AW_aload_n 63 hX dX7_digest_62 rfl rfl ?_
      refine AW_get 66 hX dX7_digest_63 rfl fl_X7_85 (by first | assumption | exact hset_eq | exact (hset_ne (by omega)).trans (by first | assumption | exact hset_eq | exact (hset_ne (by omega)).trans (by first | assumption | exact hset_eq | exact (hset_ne (by omega)).trans (by first | assumption | exact hset_eq | exact (hset_ne (by omega)).trans (by first | assumption | exact hset_eq))))) rfl ?_
      rw [e4, e5]
      refine AW_cV (As := [_, _, _]) 69 hX dX7_digest_66 rfl ml_X7_97 mw_X7_swayBy (by first | assumption | exact hset_eq | exact (hset_ne (by omega)).trans (by first | assumption | exact hset_eq | exact (hset_ne (by omega)).trans (by first | assumption | exact hset_eq | exact (hset_ne (by omega)).trans (by first | assumption | exact hset_eq | exact (hset_ne (by omega)).trans (by first | assumption | exact hset_eq))))) (by decide) rfl rfl rfl (Nat.le_of_ble_eq_true rfl) (by decide) ⟨(Nat.le_refl _), (Nat.le_refl _)⟩ (M_swayBy g' (p := p) (by omega) (rk p hpn.1) (ok2 p hpn.1) 0 s (by omega) (by omega) ?_)
      refine AW_i2l 70 hX dX7_digest_69 rfl ?_
      refine AW_cV (As := [_]) 73 hX dX7_digest_70 rfl ml_X7_207 mw_X7_mix (by first | assumption | exact hset_eq | exact (hset_ne (by omega)).trans (by first | assumption | exact hset_eq | exact (hset_ne (by omega)).trans (by first | assumption | exact hset_eq | exact (hset_ne (by omega)).trans (by first | assumption | exact hset_eq | exact (hset_ne (by omega)).trans (by first | assumption | exact hset_eq))))) (by decide) rfl rfl rfl (Nat.le_of_ble_eq_true rfl) (by decide) ⟨(Nat.le_refl _), (Nat.le_refl _)⟩ (M_mix g' _ ?_)
      have ga := MH_obj (I' := I) (sd' := sd) (hh' := 31 * dgP ks hd m n + (nI (sa (ks p) s 0)).toInt64) g'
      refine AW_aload_n 74 hX dX7_digest_73 rfl rfl ?_
      refine AW_aload_n 75 hX dX7_digest_74 rfl rfl ?_
      refine AW_cV (As := []) 78 hX dX7_digest_75 rfl ml_X7_139 mw_X7_highNow (by first | assumption | exact hset_eq | exact (hset_ne (by omega)).trans (by first | assumption | exact hset_eq | exact (hset_ne (by omega)).trans (by first | assumption | exact hset_eq | exact (hset_ne (by omega)).trans (by first | assumption | exact hset_eq | exact (hset_ne (by omega)).trans (by first | assumption | exact hset_eq))))) (by decide) rfl rfl rfl (Nat.le_of_ble_eq_true rfl) (by decide) ⟨(Nat.le_refl _), (Nat.le_refl _)⟩ (M_highNow ga r ok hn (fun h3 F3 g3 r3 hfr3 => ?_))
      have b3 := g3.1
      refine AW_i2l 79 hX dX7_digest_78 rfl ?_
      refine AW_cV (As := [_]) 82 hX dX7_digest_79 rfl ml_X7_207 mw_X7_mix (by first | assumption | exact hset_eq | exact (hset_ne (by omega)).trans (by first | assumption | exact hset_eq | exact (hset_ne (by omega)).trans (by first | assumption | exact hset_eq | exact (hset_ne (by omega)).trans (by first | assumption | exact hset_eq | exact (hset_ne (by omega)).trans (by first | assumption | exact hset_eq))))) (by decide) rfl rfl rfl (Nat.le_of_ble_eq_true rfl) (by decide) ⟨(Nat.le_refl _), (Nat.le_refl _)⟩ (M_mix g3 _ ?_)
      have gb := MH_obj (I' := I) (sd' := sd) (hh' := 31 * (31 * dgP ks hd m n + (nI (sa (ks p) s 0)).toInt64) + (hiF n ks 9).toInt64) g3
      refine AW_aload_n 83 hX dX7_digest_82 rfl rfl ?_
      refine AW_aload_n 84 hX dX7_digest_83 rfl rfl ?_
      refine AW_iconst 85 hX dX7_digest_84 rfl ic_0 ?_
      refine AW_cV (As := [_]) 88 hX dX7_digest_85 rfl ml_X7_142 mw_X7_mendNow (by first | assumption | exact hset_eq | exact (hset_ne (by omega)).trans (by first | assumption | exact hset_eq | exact (hset_ne (by omega)).trans (by first | assumption | exact hset_eq | exact (hset_ne (by omega)).trans (by first | assumption | exact hset_eq | exact (hset_ne (by omega)).trans (by first | assumption | exact hset_eq))))) (by decide) rfl rfl rfl (Nat.le_of_ble_eq_true rfl) (by decide) ⟨(Nat.le_refl _), (Nat.le_refl _)⟩ (M_mendNow gb r3 ok hn 0 (fun h4 F4 g4 r4 hfr4 => ?_))
      have b4 := g4.1
      rw [cif_pos (rfl : (0 : Int32) = 0)]
      refine AW_i2l 89 hX dX7_digest_88 rfl ?_
      refine AW_cV (As := [_]) 92 hX dX7_digest_89 rfl ml_X7_207 mw_X7_mix (by first | assumption | exact hset_eq | exact (hset_ne (by omega)).trans (by first | assumption | exact hset_eq | exact (hset_ne (by omega)).trans (by first | assumption | exact hset_eq | exact (hset_ne (by omega)).trans (by first | assumption | exact hset_eq | exact (hset_ne (by omega)).trans (by first | assumption | exact hset_eq))))) (by decide) rfl rfl rfl (Nat.le_of_ble_eq_true rfl) (by decide) ⟨(Nat.le_refl _), (Nat.le_refl _)⟩ (M_mix g4 _ ?_)
      have gc := MH_obj (I' := I) (sd' := sd) (hh' := 31 * (31 * (31 * dgP ks hd m n + (nI (sa (ks p) s 0)).toInt64) + (hiF n ks 9).toInt64) + ((mnF n ks (12 - ht) n).1).toInt64) g4
      refine AW_aload_n 93 hX dX7_digest_92 rfl rfl ?_
      refine AW_aload_n 94 hX dX7_digest_93 rfl rfl ?_
      refine AW_iconst 95 hX dX7_digest_94 rfl ic_1 ?_
      refine AW_cV (As := [_]) 98 hX dX7_digest_95 rfl ml_X7_142 mw_X7_mendNow (by first | assumption | exact hset_eq | exact (hset_ne (by omega)).trans (by first | assumption | exact hset_eq | exact (hset_ne (by omega)).trans (by first | assumption | exact hset_eq | exact (hset_ne (by omega)).trans (by first | assumption | exact hset_eq | exact (hset_ne (by omega)).trans (by first | assumption | exact hset_eq))))) (by decide) rfl rfl rfl (Nat.le_of_ble_eq_true rfl) (by decide) ⟨(Nat.le_refl _), (Nat.le_refl _)⟩ (M_mendNow gc r4 ok hn 1 (fun h5 F5 g5 r5 hfr5 => ?_))
      have b5 := g5.1
      rw [cif_neg (show ¬ (1 : Int32) = 0 by decide)]
      refine AW_i2l 99 hX dX7_digest_98 rfl ?_
      refine AW_cV (As := [_]) 102 hX dX7_digest_99 rfl ml_X7_207 mw_X7_mix (by first | assumption | exact hset_eq | exact (hset_ne (by omega)).trans (by first | assumption | exact hset_eq | exact (hset_ne (by omega)).trans (by first | assumption | exact hset_eq | exact (hset_ne (by omega)).trans (by first | assumption | exact hset_eq | exact (hset_ne (by omega)).trans (by first | assumption | exact hset_eq))))) (by decide) rfl rfl rfl (Nat.le_of_ble_eq_true rfl) (by decide) ⟨(Nat.le_refl _), (Nat.le_refl _)⟩ (M_mix g5 _ ?_)
      have gd := MH_obj (I' := I) (sd' := sd) (hh' := 31 * (31 * (31 * (31 * dgP ks hd m n + (nI (sa (ks p) s 0)).toInt64) + (hiF n ks 9).toInt64) + ((mnF n ks (12 - ht) n).1).toInt64) + (mnS (mnF n ks (12 - ht) n)).toInt64) g5
      refine AW_aload_n 103 hX dX7_digest_102 rfl rfl ?_
      refine AW_aload_n 104 hX dX7_digest_103 rfl rfl ?_
      refine AW_cV (As := []) 107 hX dX7_digest_104 rfl ml_X7_145 mw_X7_heightsNow (by first | assumption | exact hset_eq | exact (hset_ne (by omega)).trans (by first | assumption | exact hset_eq | exact (hset_ne (by omega)).trans (by first | assumption | exact hset_eq | exact (hset_ne (by omega)).trans (by first | assumption | exact hset_eq | exact (hset_ne (by omega)).trans (by first | assumption | exact hset_eq))))) (by decide) rfl rfl rfl (Nat.le_of_ble_eq_true rfl) (by decide) ⟨(Nat.le_refl _), (Nat.le_refl _)⟩ (M_heightsNow gd r5 ok ?_)
      refine AW_i2l 108 hX dX7_digest_107 rfl ?_
      refine AW_cV (As := [_]) 111 hX dX7_digest_108 rfl ml_X7_207 mw_X7_mix (by first | assumption | exact hset_eq | exact (hset_ne (by omega)).trans (by first | assumption | exact hset_eq | exact (hset_ne (by omega)).trans (by first | assumption | exact hset_eq | exact (hset_ne (by omega)).trans (by first | assumption | exact hset_eq | exact (hset_ne (by omega)).trans (by first | assumption | exact hset_eq))))) (by decide) rfl rfl rfl (Nat.le_of_ble_eq_true rfl) (by decide) ⟨(Nat.le_refl _), (Nat.le_refl _)⟩ (M_mix gd _ ?_)
      exact hend _ F5 _ q1 (MH_obj gd) r5 (fr_tr (fr_tr (fr_tr (fr_tr (fr_tr (fr_tr (fr_tr (fr_tr hfr (fr_set (by omega) (by omega))) hfr3) (fr_set (by omega) (by omega))) hfr4) (fr_set (by omega) (by omega))) hfr5) (fr_set (by omega) (by omega))) (fr_set (by omega) (by omega))) (cif_neg (by omega))
  have pls : ∀ d i, i + d = n → ∀ (h' : AH) (q : Option Value), MH h' I sd (dgP ks hd m i) F → fr h h' 34 47 → AW X 0 0 9 [some (.ref 34), some (.int (nI i)), q] [] h' := by
    intro d
    induction d with
    | zero =>
      intro i hi h' q g' hfr
      have b0 := g'.1
      refine AW_iload_n 10 hX dX7_digest_9 rfl rfl ?_
      refine AW_aload_n 11 hX dX7_digest_10 rfl rfl ?_
      refine AW_get 14 hX dX7_digest_11 rfl fl_X7_73 (by first | assumption | exact hset_eq | exact (hset_ne (by omega)).trans (by first | assumption | exact hset_eq | exact (hset_ne (by omega)).trans (by first | assumption | exact hset_eq | exact (hset_ne (by omega)).trans (by first | assumption | exact hset_eq | exact (hset_ne (by omega)).trans (by first | assumption | exact hset_eq))))) rfl ?_
      rw [e1]
      refine AW_icmp_ge 17 48 hX dX7_digest_14 rfl (by decide) (fun c14 => ?_) (fun c14 => absurd (nI_le (by omega) (by omega)) c14)
      rw [show i = n by omega] at g'
      exact mid h' _ q g' hfr
    | succ d ih =>
      intro i hi h' q g' hfr
      have inner : ∀ e k, k + e = 6 → ∀ (h2 : AH), MH h2 I sd (dg6 ks hd m i (dgP ks hd m i) k) F → fr h h2 34 47 → AW X 0 0 19 [some (.ref 34), some (.int (nI i)), some (.int (nI k))] [] h2 := by
        intro e
        induction e with
        | zero =>
          intro k hk h2 g2 hfr2
          refine AW_iload_n 20 hX dX7_digest_19 rfl rfl ?_
          refine AW_bipush 22 hX dX7_digest_20 rfl bp_6 ?_
          refine AW_icmp_ge 25 42 hX dX7_digest_22 rfl (by decide) (fun c22 => ?_) (fun c22 => absurd (nI_le (a := 6) (b := k) (by omega) (by omega)) c22)
          refine AW_iinc 45 hX dX7_digest_42 rfl rfl (iincp ic_1) (Nat.le_of_ble_eq_true rfl) rfl ?_
          refine AW_goto 9 hX dX7_digest_45 (by decide) ?_
          rw [nI_1]
          rw [show k = 6 by omega] at g2 ⊢
          exact ih (i + 1) (by omega) h2 _ g2 hfr2
        | succ e ihe =>
          intro k hk h2 g2 hfr2
          have b02 := g2.1
          refine AW_iload_n 20 hX dX7_digest_19 rfl rfl ?_
          refine AW_bipush 22 hX dX7_digest_20 rfl bp_6 ?_
          refine AW_icmp_ge 25 42 hX dX7_digest_22 rfl (by decide) (fun c22 => absurd c22 (nI_ge (a := k) (b := 6) (by omega) (by decide))) (fun c22 => ?_)
          refine AW_aload_n 26 hX dX7_digest_25 rfl rfl ?_
          refine AW_aload_n 27 hX dX7_digest_26 rfl rfl ?_
          refine AW_iload_n 28 hX dX7_digest_27 rfl rfl ?_
          refine AW_iload_n 29 hX dX7_digest_28 rfl rfl ?_
          refine AW_cV (As := [_, _]) 32 hX dX7_digest_29 rfl ml_X7_108 mw_X7_placeNow (by first | assumption | exact hset_eq | exact (hset_ne (by omega)).trans (by first | assumption | exact hset_eq | exact (hset_ne (by omega)).trans (by first | assumption | exact hset_eq | exact (hset_ne (by omega)).trans (by first | assumption | exact hset_eq | exact (hset_ne (by omega)).trans (by first | assumption | exact hset_eq))))) (by decide) rfl rfl rfl (Nat.le_of_ble_eq_true rfl) (by decide) ⟨(Nat.le_refl _), (Nat.le_refl _)⟩ (M_placeNow g2 r ok i k (by omega) (by omega) ?_)
          refine AW_i2l 33 hX dX7_digest_32 rfl ?_
          refine AW_cV (As := [_]) 36 hX dX7_digest_33 rfl ml_X7_207 mw_X7_mix (by first | assumption | exact hset_eq | exact (hset_ne (by omega)).trans (by first | assumption | exact hset_eq | exact (hset_ne (by omega)).trans (by first | assumption | exact hset_eq | exact (hset_ne (by omega)).trans (by first | assumption | exact hset_eq | exact (hset_ne (by omega)).trans (by first | assumption | exact hset_eq))))) (by decide) rfl rfl rfl (Nat.le_of_ble_eq_true rfl) (by decide) ⟨(Nat.le_refl _), (Nat.le_refl _)⟩ (M_mix g2 _ ?_)
          refine AW_iinc 39 hX dX7_digest_36 rfl rfl (iincp ic_1) (Nat.le_of_ble_eq_true rfl) rfl ?_
          refine AW_goto 19 hX dX7_digest_39 (by decide) ?_
          rw [nI_1]
          exact ihe (k + 1) (by omega) _ (MH_obj g2) (fr_tr hfr2 (fr_set (by omega) (by omega)))
      have b0 := g'.1
      refine AW_iload_n 10 hX dX7_digest_9 rfl rfl ?_
      refine AW_aload_n 11 hX dX7_digest_10 rfl rfl ?_
      refine AW_get 14 hX dX7_digest_11 rfl fl_X7_73 (by first | assumption | exact hset_eq | exact (hset_ne (by omega)).trans (by first | assumption | exact hset_eq | exact (hset_ne (by omega)).trans (by first | assumption | exact hset_eq | exact (hset_ne (by omega)).trans (by first | assumption | exact hset_eq | exact (hset_ne (by omega)).trans (by first | assumption | exact hset_eq))))) rfl ?_
      rw [e1]
      refine AW_icmp_ge 17 48 hX dX7_digest_14 rfl (by decide) (fun c14 => absurd c14 (nI_ge (by omega) (by omega))) (fun c14 => ?_)
      refine AW_iconst 18 hX dX7_digest_17 rfl ic_0 ?_
      refine AW_istore_n 19 hX dX7_digest_18 rfl (Nat.le_of_ble_eq_true rfl) rfl ?_
      exact inner 6 0 (by omega) h' g' hfr
  refine AW_aload_n 1 hX dX7_digest_0 rfl rfl ?_
  refine AW_ldc2 4 hX dX7_digest_1 rfl kc_X7_205 ?_
  refine AW_put 7 hX dX7_digest_4 rfl fl_X7_202 (by first | assumption | exact hset_eq | exact (hset_ne (by omega)).trans (by first | assumption | exact hset_eq | exact (hset_ne (by omega)).trans (by first | assumption | exact hset_eq | exact (hset_ne (by omega)).trans (by first | assumption | exact hset_eq | exact (hset_ne (by omega)).trans (by first | assumption | exact hset_eq))))) rfl (fun _ => rfl) (fun _ => rfl) (Nat.le_of_ble_eq_true rfl) ?_
  rw [mo_set33]
  try rw [hset_hset]
  refine AW_iconst 8 hX dX7_digest_7 rfl ic_0 ?_
  refine AW_istore_n 9 hX dX7_digest_8 rfl (Nat.le_of_ble_eq_true rfl) rfl ?_
  exact pls n 0 (by omega) _ none (MH_obj g) (fr_set (by omega) (by omega))
