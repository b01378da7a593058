theorem few_yes {n : Nat} {ks : Nat → Nat} {B st N : Nat} {Qs par cb dp : Nat → Nat} (hI : BI n ks B st N Qs par cb dp) (hd : ∀ t, t < N → dp t ≤ 40) (hE : Qs (N - 1) / 12 = n - 1) (hL : ∀ t, t < N - 1 → Qs t / 12 ≠ n - 1) : DD n ks B st = dp (N - 1) ∧ dp (N - 1) ≤ 40 := by
  have h := bfs_yes hI hE hL
  have h40 := hd (N - 1) (by have := hI.1.1; omega)
  exact ⟨DD_yes h40 h.1 h.2.1, h40⟩
set_option maxRecDepth 100000 in
set_option maxHeartbeats 4000000 in
theorem C_greatest {h : AH} {K : Option Value → AH → Prop} {kp yd qk pm n ht p s : Nat} {pg ks : Nat → Nat} {stp fl : Int32} {m : Nat} {hd : HD} {w : SV} {mp ms : Int32} (g : CJ h (kp, yd, qk, pm, pg, (n, ks, ht, p, s, stp, fl, m, hd), w) mp ms) (ok : Sok (kp, yd, qk, pm, pg, (n, ks, ht, p, s, stp, fl, m, hd), w)) (hn : 0 < n) (hK : ∀ h' : AH, CJ h' (kp, yd, qk, pm, pg, (n, ks, ht, p, s, stp, fl, m, hd), w) mp ms → fr h h' 29 34 → K (some (.int (hiF n ks 9))) h') : aX6_greatestHeight 5 [.ref 0] h K := by
  obtain ⟨h0, hpg, hsc, ⟨u, hk, hku⟩, ⟨u2, hrc⟩, ⟨nm, fm, hme⟩, hro⟩ := id g
  obtain ⟨h3, ⟨f, hgr, hks⟩, hhe⟩ := id hsc
  obtain ⟨⟨ok1, ok2, ok3, ok4, ok5, ok6, ok7, ok8⟩, okp, okw, okq, okpm, okpg, oky⟩ := id ok
  have h1 := hpg.1
  have h4 := hgr.1
  have h6 := hhe.1
  have h29 : ∃ a, h 29 = some (.inl (3, a)) := by
    obtain ⟨x, y, q1, q2, q3, q4, a0, -⟩ := hro
    exact ⟨_, a0⟩
  obtain ⟨l29, h29⟩ := h29
  unfold yO at h0
  refine AM.of [some (.ref 0), none] pn_X6_greatestHeight rfl (Nat.le_of_ble_eq_true rfl) (fun X hX hE => ?_)
  have loop : ∀ H, H ≤ 9 → hiF n ks 9 = hiF n ks H → ∀ h' : AH, CJ h' (kp, yd, qk, pm, pg, (n, ks, ht, p, s, stp, fl, m, hd), w) mp ms → fr h h' 29 34 → AW X 0 0 3 [some (.ref 0), some (.int (nI H))] [] h' := by
    intro H
    induction H with
    | zero =>
      intro hH e h' g' hfr
      refine AW_iload_n 4 hX dX6_greatestHeight_3 rfl rfl ?_
      refine AW_iconst 5 hX dX6_greatestHeight_4 rfl ic_1 ?_
      refine AW_icmp_lt 8 37 hX dX6_greatestHeight_5 rfl (by decide) (fun c5 => ?_) (fun c5 => absurd (by decide) c5)
      refine AW_iconst 38 hX dX6_greatestHeight_37 rfl ic_m1 ?_
      refine AW_iret hX hE dX6_greatestHeight_38 rfl (Nat.le_refl _) (Nat.le_refl _) ?_
      rw [e] at hK
      exact hK h' g' hfr
    | succ H ih =>
      intro hH e h' g' hfr
      obtain ⟨h0', hpg', hsc', -, -, -, hro'⟩ := id g'
      unfold yO at h0'
      obtain ⟨h3', ⟨f', hgr', hks'⟩, hhe'⟩ := id hsc'
      have h29' := (show ∃ a, h' 29 = some (.inl (3, a)) by obtain ⟨x, y, q1, q2, q3, q4, a0, -⟩ := hro'; exact ⟨_, a0⟩)
      obtain ⟨l29', h29'⟩ := h29'
      refine AW_iload_n 4 hX dX6_greatestHeight_3 rfl rfl ?_
      refine AW_iconst 5 hX dX6_greatestHeight_4 rfl ic_1 ?_
      refine AW_icmp_lt 8 37 hX dX6_greatestHeight_5 rfl (by decide) (fun c5 => absurd c5 (nI_nlt (a := H + 1) (b := 1) (by omega) (by omega))) (fun c5 => ?_)
      refine AW_aload_n 9 hX dX6_greatestHeight_8 rfl rfl ?_
      refine AW_get 12 hX dX6_greatestHeight_9 rfl fl_X6_39 (by first | assumption | exact hset_eq | exact (hset_ne (by omega)).trans (by first | assumption | exact hset_eq | exact (hset_ne (by omega)).trans (by first | assumption | exact hset_eq | exact (hset_ne (by omega)).trans (by first | assumption | exact hset_eq | exact (hset_ne (by omega)).trans (by first | assumption | exact hset_eq))))) rfl ?_
      refine AW_aload_n 13 hX dX6_greatestHeight_12 rfl rfl ?_
      refine AW_get 16 hX dX6_greatestHeight_13 rfl fl_X6_19 (by first | assumption | exact hset_eq | exact (hset_ne (by omega)).trans (by first | assumption | exact hset_eq | exact (hset_ne (by omega)).trans (by first | assumption | exact hset_eq | exact (hset_ne (by omega)).trans (by first | assumption | exact hset_eq | exact (hset_ne (by omega)).trans (by first | assumption | exact hset_eq))))) rfl ?_
      refine AW_get 19 hX dX6_greatestHeight_16 rfl fl_X6_82 (by first | assumption | exact hset_eq | exact (hset_ne (by omega)).trans (by first | assumption | exact hset_eq | exact (hset_ne (by omega)).trans (by first | assumption | exact hset_eq | exact (hset_ne (by omega)).trans (by first | assumption | exact hset_eq | exact (hset_ne (by omega)).trans (by first | assumption | exact hset_eq))))) rfl ?_
      refine AW_iload_n 20 hX dX6_greatestHeight_19 rfl rfl ?_
      refine AW_iconst 21 hX dX6_greatestHeight_20 rfl ic_0 ?_
      refine AW_iconst 22 hX dX6_greatestHeight_21 rfl ic_0 ?_
      refine AW_cV (As := [_, _, _, _]) 25 hX dX6_greatestHeight_22 rfl ml_X6_148 mw_X4_fewest (by first | assumption | exact hset_eq | exact (hset_ne (by omega)).trans (by first | assumption | exact hset_eq | exact (hset_ne (by omega)).trans (by first | assumption | exact hset_eq | exact (hset_ne (by omega)).trans (by first | assumption | exact hset_eq | exact (hset_ne (by omega)).trans (by first | assumption | exact hset_eq))))) (by decide) rfl rfl rfl (Nat.le_of_ble_eq_true rfl) (by decide) ⟨(Nat.le_refl _), (Nat.le_refl _)⟩ (c_fewest hro' hgr' hks' ok2 (by omega) hn (H + 1) 0 0 (by omega) (by omega) hn (Nat.zero_le _) (fun h2 N Qs par cb dp hr2 hI2 hd2 hl2 hE2 hL2 hfr2 => ?_) (fun h2 N Qs par cb dp hr2 hno2 hfr2 => ?_))
      · have hD := few_yes hI2 hd2 hE2 hL2
        refine AW_iconst 26 hX dX6_greatestHeight_25 rfl ic_m1 ?_
        refine AW_icmp_eq 29 31 hX dX6_greatestHeight_26 rfl (by decide) (fun c26 => absurd c26 (m1n _ (by omega))) (fun c26 => ?_)
        refine AW_iload_n 30 hX dX6_greatestHeight_29 rfl rfl ?_
        refine AW_iret hX hE dX6_greatestHeight_30 rfl (Nat.le_refl _) (Nat.le_refl _) ?_
        rw [e, hiF, cif_pos (show DD n ks (12 - (H + 1)) 0 ≤ 40 by have := hD.1; rw [show 12 * 0 + 0 = 0 from rfl] at this; omega)] at hK
        exact hK h2 (CJ_route g' (rtC_A hr2) hfr2) (fr_tr hfr hfr2)
      · refine AW_iconst 26 hX dX6_greatestHeight_25 rfl ic_m1 ?_
        refine AW_icmp_eq 29 31 hX dX6_greatestHeight_26 rfl (by decide) (fun c26 => ?_) (fun c26 => absurd rfl c26)
        refine AW_iinc 34 hX dX6_greatestHeight_31 rfl rfl (iincp ic_m1) (Nat.le_of_ble_eq_true rfl) rfl ?_
        refine AW_goto 3 hX dX6_greatestHeight_34 (by decide) ?_
        rw [pk_m1]
        have hD : DD n ks (12 - (H + 1)) 0 = 41 := DD_no hno2
        have e' : hiF n ks (H + 1) = hiF n ks H := by rw [hiF, cif_neg (by omega)]
        exact ih (by omega) (e.trans e') h2 (CJ_route g' (rtC_A hr2) hfr2) (fr_tr hfr hfr2)
  refine AW_bipush 2 hX dX6_greatestHeight_0 rfl bp_9 ?_
  refine AW_istore_n 3 hX dX6_greatestHeight_2 rfl (Nat.le_of_ble_eq_true rfl) rfl ?_
  exact loop 9 (by omega) rfl h g (fr_rf _ _ _)
theorem lsF_le (P : Nat → Prop) : ∀ d k, lsF P d k ≤ k + d
  | 0, k => Nat.le_refl _
  | d + 1, k => by
    by_cases c : P k
    · rw [lsF, cif_pos c]; omega
    · rw [lsF, cif_neg c]
      have := lsF_le P d (k + 1)
      omega
theorem DD_le (n : Nat) (ks : Nat → Nat) (B u : Nat) : DD n ks B u ≤ 41 := by
  have := lsF_le (fun k => can n ks B k u) 41 0
  simp only [DD]
  omega
theorem dA_y {d : Nat} (h : d ≤ 40) : dA d = nI d := cif_pos h
theorem dA_n {d : Nat} (h : ¬ d ≤ 40) : dA d = -1 := cif_neg h
theorem mnF_le (n : Nat) (ks : Nat → Nat) (B : Nat) : ∀ i, (mnF n ks B i).2 ≤ 41 ∧ ((mnF n ks B i).1 = -1 ∨ ∃ j, j < i ∧ (mnF n ks B i).1 = nI j)
  | 0 => ⟨DD_le n ks B 0, Or.inl rfl⟩
  | i + 1 => by
    obtain ⟨h1, h2⟩ := mnF_le n ks B i
    by_cases c : DD n (kz ks i) B 0 < (mnF n ks B i).2
    · rw [mnF, cif_pos c]
      exact ⟨by show DD _ _ _ _ ≤ 41; omega, Or.inr ⟨i, by omega, rfl⟩⟩
    · rw [mnF, cif_neg c]
      refine ⟨h1, h2.imp id (fun ⟨j, hj, e⟩ => ⟨j, by omega, e⟩)⟩
set_option maxRecDepth 100000 in
set_option maxHeartbeats 4000000 in
theorem C_findMend {h : AH} {K : Option Value → AH → Prop} {kp yd qk pm n ht p s : Nat} {pg ks : Nat → Nat} {stp fl : Int32} {m : Nat} {hd : HD} {w : SV} {mp ms : Int32} (g : CJ h (kp, yd, qk, pm, pg, (n, ks, ht, p, s, stp, fl, m, hd), w) mp ms) (ok : Sok (kp, yd, qk, pm, pg, (n, ks, ht, p, s, stp, fl, m, hd), w)) (hn : 0 < n) (hK : ∀ h' : AH, CJ h' (kp, yd, qk, pm, pg, (n, ks, ht, p, s, stp, fl, m, hd), w) (mnF n ks (12 - ht) n).1 (mnS (mnF n ks (12 - ht) n)) → fr h h' 0 34 → K none h') : aX6_findMend 5 [.ref 0] h K := by
  obtain ⟨h0, hpg, hsc, ⟨u, hk, hku⟩, ⟨u2, hrc⟩, ⟨nm, fm, hme⟩, hro⟩ := id g
  obtain ⟨h3, ⟨f, hgr, hks⟩, hhe⟩ := id hsc
  obtain ⟨⟨ok1, ok2, ok3, ok4, ok5, ok6, ok7, ok8⟩, okp, okw, okq, okpm, okpg, oky⟩ := id ok
  have h1 := hpg.1
  have h4 := hgr.1
  have h6 := hhe.1
  have h29 : ∃ a, h 29 = some (.inl (3, a)) := by
    obtain ⟨x, y, q1, q2, q3, q4, a0, -⟩ := hro
    exact ⟨_, a0⟩
  obtain ⟨l29, h29⟩ := h29
  unfold yO at h0
  obtain ⟨hme1, hme2, hme3⟩ := id hme
  obtain ⟨okpn, okh1⟩ := ok7 hn
  refine AM.of [some (.ref 0), none, none, none, none] pn_X6_findMend rfl (Nat.le_of_ble_eq_true rfl) (fun X hX hE => ?_)
  have loop : ∀ d i, i + d = n → ∀ (h' : AH) (f' : Nat → Int32) (z1 z2 : Option Value), CJ h' (kp, yd, qk, pm, pg, (n, ks, ht, p, s, stp, fl, m, hd), w) (mnF n ks (12 - ht) i).1 (mnS (mnF n ks (12 - ht) i)) → gr h' 27 n f' → (∀ j, j < n → f' j = nI (ks j)) → fr h h' 0 34 → AW X 0 0 50 [some (.ref 0), some (.int (dA (mnF n ks (12 - ht) i).2)), some (.int (nI i)), z1, z2] [] h' := by
    intro d
    induction d with
    | zero =>
      intro i hi h' f' z1 z2 g' hm' hf' hfr
      have h0' := g'.1
      unfold yO at h0'
      have hm1' := hm'.1
      refine AW_iload_n 51 hX dX6_findMend_50 rfl rfl ?_
      refine AW_aload_n 52 hX dX6_findMend_51 rfl rfl ?_
      refine AW_get 55 hX dX6_findMend_52 rfl fl_X6_32 (by first | assumption | exact hset_eq | exact (hset_ne (by omega)).trans (by first | assumption | exact hset_eq | exact (hset_ne (by omega)).trans (by first | assumption | exact hset_eq | exact (hset_ne (by omega)).trans (by first | assumption | exact hset_eq | exact (hset_ne (by omega)).trans (by first | assumption | exact hset_eq))))) rfl ?_
      refine AW_cV (As := []) 58 hX dX6_findMend_55 rfl ml_X6_85 mw_X0_places (by first | assumption | exact hset_eq | exact (hset_ne (by omega)).trans (by first | assumption | exact hset_eq | exact (hset_ne (by omega)).trans (by first | assumption | exact hset_eq | exact (hset_ne (by omega)).trans (by first | assumption | exact hset_eq | exact (hset_ne (by omega)).trans (by first | assumption | exact hset_eq))))) (by decide) rfl rfl rfl (Nat.le_of_ble_eq_true rfl) (by decide) ⟨(Nat.le_refl _), (Nat.le_refl _)⟩ (c_places hm1' ?_)
      refine AW_icmp_ge 61 140 hX dX6_findMend_58 rfl (by decide) (fun c58 => ?_) (fun c58 => absurd (nI_le (by omega) (by omega)) c58)
      refine AW_vret hX hE dX6_findMend_140 (Nat.le_refl _) (Nat.le_refl _) ?_
      rw [show n = i by omega] at hK
      rw [show n = i by omega] at g'
      exact hK h' g' hfr
    | succ d ih =>
      intro i hi h' f' z1 z2 g' hm' hf' hfr
      obtain ⟨h0', hpg', hsc', -, -, -, hro'⟩ := id g'
      unfold yO at h0'
      obtain ⟨h3', -⟩ := id hsc'
      have hm1' := hm'.1
      have hin : i < n := by omega
      have hb41 := (mnF_le n ks (12 - ht) i).1
      have e2 : fr h' (hset h' 28 (.inr (0, 12, upd f' i 0))) 27 29 := fr_set (by omega) (by omega)
      have hm2 : gr (hset h' 28 (.inr (0, 12, upd f' i 0))) 27 n (upd f' i 0) := ⟨(hset_ne (by omega)).trans hm1', hset_eq, hm'.2.2⟩
      have hf2 : ∀ j, j < n → upd f' i 0 j = nI (kz ks i j) := fun j hj => by
        simp only [upd, kz]
        split
        · rfl
        · exact hf' j hj
      have hkz : ∀ j, j < n → kz ks i j ≤ 4 := fun j hj => by
        simp only [kz]
        split
        · omega
        · exact ok2 j hj
      have g2 := CJ_mend g' hm2 e2
      have h02 := g2.1
      unfold yO at h02
      have h32 := g2.2.2.1.1
      have hro2 := g2.2.2.2.2.2.2
      have h292 := (show ∃ a, (hset h' 28 (.inr (0, 12, upd f' i 0))) 29 = some (.inl (3, a)) by obtain ⟨x, y, q1, q2, q3, q4, a0, -⟩ := hro2; exact ⟨_, a0⟩)
      obtain ⟨l292, h292⟩ := h292
      -- behind the search: the place as it was
      have rest : ∀ (h3a : AH) (fe : Int32), CJ h3a (kp, yd, qk, pm, pg, (n, ks, ht, p, s, stp, fl, m, hd), w) (mnF n ks (12 - ht) i).1 (mnS (mnF n ks (12 - ht) i)) → gr h3a 27 n (upd f' i 0) → fr h h3a 0 34 → fe = dA (DD n (kz ks i) (12 - ht) 0) → AW X 0 0 91 [some (.ref 0), some (.int (dA (mnF n ks (12 - ht) i).2)), some (.int (nI i)), some (.int (nI (ks i))), z2] [.int fe] h3a := by
        intro h3a fe g3 hm3 hfr3 efe
        have hdk := DD_le n (kz ks i) (12 - ht) 0
        have h03 := g3.1
        unfold yO at h03
        have hm31 := hm3.1
        have e4 : fr h3a (hset h3a 28 (.inr (0, 12, upd (upd f' i 0) i (nI (ks i))))) 27 29 := fr_set (by omega) (by omega)
        have hm4 : gr (hset h3a 28 (.inr (0, 12, upd (upd f' i 0) i (nI (ks i))))) 27 n (upd (upd f' i 0) i (nI (ks i))) := ⟨(hset_ne (by omega)).trans hm31, hset_eq, hm'.2.2⟩
        have hf4 : ∀ j, j < n → upd (upd f' i 0) i (nI (ks i)) j = nI (ks j) := fun j hj => by
          by_cases e : j = i
          · subst e; exact pk_us
          · rw [pk_un e, pk_un e]; exact hf' j hj
        have g4 := CJ_mend g3 hm4 e4
        have h04 := g4.1
        unfold yO at h04
        refine AW_istore 93 hX dX6_findMend_91 rfl (Nat.le_of_ble_eq_true rfl) rfl ?_
        refine AW_aload_n 94 hX dX6_findMend_93 rfl rfl ?_
        refine AW_get 97 hX dX6_findMend_94 rfl fl_X6_32 (by first | assumption | exact hset_eq | exact (hset_ne (by omega)).trans (by first | assumption | exact hset_eq | exact (hset_ne (by omega)).trans (by first | assumption | exact hset_eq | exact (hset_ne (by omega)).trans (by first | assumption | exact hset_eq | exact (hset_ne (by omega)).trans (by first | assumption | exact hset_eq))))) rfl ?_
        refine AW_iload_n 98 hX dX6_findMend_97 rfl rfl ?_
        refine AW_iload_n 99 hX dX6_findMend_98 rfl rfl ?_
        refine AW_cV (As := [_, _]) 102 hX dX6_findMend_99 rfl ml_X6_121 mw_X0_put (by first | assumption | exact hset_eq | exact (hset_ne (by omega)).trans (by first | assumption | exact hset_eq | exact (hset_ne (by omega)).trans (by first | assumption | exact hset_eq | exact (hset_ne (by omega)).trans (by first | assumption | exact hset_eq | exact (hset_ne (by omega)).trans (by first | assumption | exact hset_eq))))) (by decide) rfl rfl rfl (Nat.le_of_ble_eq_true rfl) (by decide) ⟨(Nat.le_refl _), (Nat.le_refl _)⟩ (c_put hm3 hin ?_)
        refine AW_pop 103 hX dX6_findMend_102 rfl rfl ?_
        refine AW_iload 105 hX dX6_findMend_103 rfl rfl ?_
        refine AW_iconst 106 hX dX6_findMend_105 rfl ic_m1 ?_
        refine AW_icmp_eq 109 134 hX dX6_findMend_106 rfl (by decide) (fun c106 => ?_) (fun c106 => ?_)
        · refine AW_iinc 137 hX dX6_findMend_134 rfl rfl (iincp ic_1) (Nat.le_of_ble_eq_true rfl) rfl ?_
          refine AW_goto 50 hX dX6_findMend_137 (by decide) ?_
          rw [nI_1]
          have hb : ¬ DD n (kz ks i) (12 - ht) 0 ≤ 40 := fun q => by rw [efe, dA_y q] at c106; exact m1n _ (by omega) c106
          have em : mnF n ks (12 - ht) (i + 1) = mnF n ks (12 - ht) i := by rw [mnF, cif_neg (by omega)]
          have := ih (i + 1) (by omega) _ _ (some (.int (nI (ks i)))) (some (.int fe)) (by rw [em]; exact g4) hm4 hf4 (fr_tr hfr3 (fr_set (by omega) (by omega)))
          rw [em] at this
          exact this
        · refine AW_iload_n 110 hX dX6_findMend_109 rfl rfl ?_
          refine AW_iconst 111 hX dX6_findMend_110 rfl ic_m1 ?_
          refine AW_icmp_eq 114 120 hX dX6_findMend_111 rfl (by decide) (fun c111 => ?_) (fun c111 => ?_)
          · refine AW_iload 122 hX dX6_findMend_120 rfl rfl ?_
            refine AW_istore_n 123 hX dX6_findMend_122 rfl (Nat.le_of_ble_eq_true rfl) rfl ?_
            refine AW_aload_n 124 hX dX6_findMend_123 rfl rfl ?_
            refine AW_iload_n 125 hX dX6_findMend_124 rfl rfl ?_
            refine AW_put 128 hX dX6_findMend_125 rfl fl_X6_54 (by first | assumption | exact hset_eq | exact (hset_ne (by omega)).trans (by first | assumption | exact hset_eq | exact (hset_ne (by omega)).trans (by first | assumption | exact hset_eq | exact (hset_ne (by omega)).trans (by first | assumption | exact hset_eq | exact (hset_ne (by omega)).trans (by first | assumption | exact hset_eq))))) rfl (fun _ => rfl) (fun _ => rfl) (Nat.le_of_ble_eq_true rfl) ?_
            try rw [hset_hset]
            refine AW_aload_n 129 hX dX6_findMend_128 rfl rfl ?_
            refine AW_iload 131 hX dX6_findMend_129 rfl rfl ?_
            refine AW_put 134 hX dX6_findMend_131 rfl fl_X6_57 (by first | assumption | exact hset_eq | exact (hset_ne (by omega)).trans (by first | assumption | exact hset_eq | exact (hset_ne (by omega)).trans (by first | assumption | exact hset_eq | exact (hset_ne (by omega)).trans (by first | assumption | exact hset_eq | exact (hset_ne (by omega)).trans (by first | assumption | exact hset_eq))))) rfl (fun _ => rfl) (fun _ => rfl) (Nat.le_of_ble_eq_true rfl) ?_
            try rw [hset_hset]
            refine AW_iinc 137 hX dX6_findMend_134 rfl rfl (iincp ic_1) (Nat.le_of_ble_eq_true rfl) rfl ?_
            refine AW_goto 50 hX dX6_findMend_137 (by decide) ?_
            rw [nI_1]
            have hb : DD n (kz ks i) (12 - ht) 0 ≤ 40 := Classical.byContradiction fun q => c106 (by rw [efe, dA_n q])
            have hb2 : ¬ (mnF n ks (12 - ht) i).2 ≤ 40 := fun q => by rw [dA_y q] at c111; exact m1n _ (by omega) c111
            have em : mnF n ks (12 - ht) (i + 1) = (nI i, DD n (kz ks i) (12 - ht) 0) := by rw [mnF, cif_pos (by omega)]
            have es : mnS (nI i, DD n (kz ks i) (12 - ht) 0) = nI (DD n (kz ks i) (12 - ht) 0) := cif_neg (m1n i (by omega))
            rw [dA_y hb] at efe
            have := ih (i + 1) (by omega) _ _ (some (.int (nI (ks i)))) (some (.int fe)) (by rw [em, es]; exact CJ_obj (kp' := kp) (yd' := yd) (qk' := qk) (mp' := nI i) (ms' := nI (DD n (kz ks i) (12 - ht) 0)) (fun q => q) g4) (gr_fr hm4 (fr_set (lo := 0) (hi := 1) (by omega) (by omega)) (by omega)) hf4 (fr_tr hfr3 (fr_tr (fr_set (by omega) (by omega)) (fr_set (by omega) (by omega))))
            rw [em] at this
            rw [show dA ((nI i, DD n (kz ks i) (12 - ht) 0) : Int32 × Nat).2 = fe by rw [efe]; exact dA_y hb] at this
            rw [← efe] at this
            exact this
          · refine AW_iload 116 hX dX6_findMend_114 rfl rfl ?_
            refine AW_iload_n 117 hX dX6_findMend_116 rfl rfl ?_
            refine AW_icmp_ge 120 134 hX dX6_findMend_117 rfl (by decide) (fun c117 => ?_) (fun c117 => ?_)
            · refine AW_iinc 137 hX dX6_findMend_134 rfl rfl (iincp ic_1) (Nat.le_of_ble_eq_true rfl) rfl ?_
              refine AW_goto 50 hX dX6_findMend_137 (by decide) ?_
              rw [nI_1]
              have hb : DD n (kz ks i) (12 - ht) 0 ≤ 40 := Classical.byContradiction fun q => c106 (by rw [efe, dA_n q])
              have hb2 : (mnF n ks (12 - ht) i).2 ≤ 40 := Classical.byContradiction fun q => c111 (dA_n q)
              rw [efe, dA_y hb, dA_y hb2] at c117
              have hge := iLe c117
              have em : mnF n ks (12 - ht) (i + 1) = mnF n ks (12 - ht) i := by rw [mnF, cif_neg (by omega)]
              have := ih (i + 1) (by omega) _ _ (some (.int (nI (ks i)))) (some (.int fe)) (by rw [em]; exact g4) hm4 hf4 (fr_tr hfr3 (fr_set (by omega) (by omega)))
              rw [em] at this
              exact this
            · refine AW_iload 122 hX dX6_findMend_120 rfl rfl ?_
              refine AW_istore_n 123 hX dX6_findMend_122 rfl (Nat.le_of_ble_eq_true rfl) rfl ?_
              refine AW_aload_n 124 hX dX6_findMend_123 rfl rfl ?_
              refine AW_iload_n 125 hX dX6_findMend_124 rfl rfl ?_
              refine AW_put 128 hX dX6_findMend_125 rfl fl_X6_54 (by first | assumption | exact hset_eq | exact (hset_ne (by omega)).trans (by first | assumption | exact hset_eq | exact (hset_ne (by omega)).trans (by first | assumption | exact hset_eq | exact (hset_ne (by omega)).trans (by first | assumption | exact hset_eq | exact (hset_ne (by omega)).trans (by first | assumption | exact hset_eq))))) rfl (fun _ => rfl) (fun _ => rfl) (Nat.le_of_ble_eq_true rfl) ?_
              try rw [hset_hset]
              refine AW_aload_n 129 hX dX6_findMend_128 rfl rfl ?_
              refine AW_iload 131 hX dX6_findMend_129 rfl rfl ?_
              refine AW_put 134 hX dX6_findMend_131 rfl fl_X6_57 (by first | assumption | exact hset_eq | exact (hset_ne (by omega)).trans (by first | assumption | exact hset_eq | exact (hset_ne (by omega)).trans (by first | assumption | exact hset_eq | exact (hset_ne (by omega)).trans (by first | assumption | exact hset_eq | exact (hset_ne (by omega)).trans (by first | assumption | exact hset_eq))))) rfl (fun _ => rfl) (fun _ => rfl) (Nat.le_of_ble_eq_true rfl) ?_
              try rw [hset_hset]
              refine AW_iinc 137 hX dX6_findMend_134 rfl rfl (iincp ic_1) (Nat.le_of_ble_eq_true rfl) rfl ?_
              refine AW_goto 50 hX dX6_findMend_137 (by decide) ?_
              rw [nI_1]
              have hb : DD n (kz ks i) (12 - ht) 0 ≤ 40 := Classical.byContradiction fun q => c106 (by rw [efe, dA_n q])
              have hb2 : (mnF n ks (12 - ht) i).2 ≤ 40 := Classical.byContradiction fun q => c111 (dA_n q)
              rw [efe, dA_y hb, dA_y hb2] at c117
              have hge := iNle c117
              have em : mnF n ks (12 - ht) (i + 1) = (nI i, DD n (kz ks i) (12 - ht) 0) := by rw [mnF, cif_pos (by omega)]
              have es : mnS (nI i, DD n (kz ks i) (12 - ht) 0) = nI (DD n (kz ks i) (12 - ht) 0) := cif_neg (m1n i (by omega))
              rw [dA_y hb] at efe
              have := ih (i + 1) (by omega) _ _ (some (.int (nI (ks i)))) (some (.int fe)) (by rw [em, es]; exact CJ_obj (kp' := kp) (yd' := yd) (qk' := qk) (mp' := nI i) (ms' := nI (DD n (kz ks i) (12 - ht) 0)) (fun q => q) g4) (gr_fr hm4 (fr_set (lo := 0) (hi := 1) (by omega) (by omega)) (by omega)) hf4 (fr_tr hfr3 (fr_tr (fr_set (by omega) (by omega)) (fr_set (by omega) (by omega))))
              rw [em] at this
              rw [show dA ((nI i, DD n (kz ks i) (12 - ht) 0) : Int32 × Nat).2 = fe by rw [efe]; exact dA_y hb] at this
              rw [← efe] at this
              exact this
      refine AW_iload_n 51 hX dX6_findMend_50 rfl rfl ?_
      refine AW_aload_n 52 hX dX6_findMend_51 rfl rfl ?_
      refine AW_get 55 hX dX6_findMend_52 rfl fl_X6_32 (by first | assumption | exact hset_eq | exact (hset_ne (by omega)).trans (by first | assumption | exact hset_eq | exact (hset_ne (by omega)).trans (by first | assumption | exact hset_eq | exact (hset_ne (by omega)).trans (by first | assumption | exact hset_eq | exact (hset_ne (by omega)).trans (by first | assumption | exact hset_eq))))) rfl ?_
      refine AW_cV (As := []) 58 hX dX6_findMend_55 rfl ml_X6_85 mw_X0_places (by first | assumption | exact hset_eq | exact (hset_ne (by omega)).trans (by first | assumption | exact hset_eq | exact (hset_ne (by omega)).trans (by first | assumption | exact hset_eq | exact (hset_ne (by omega)).trans (by first | assumption | exact hset_eq | exact (hset_ne (by omega)).trans (by first | assumption | exact hset_eq))))) (by decide) rfl rfl rfl (Nat.le_of_ble_eq_true rfl) (by decide) ⟨(Nat.le_refl _), (Nat.le_refl _)⟩ (c_places hm1' ?_)
      refine AW_icmp_ge 61 140 hX dX6_findMend_58 rfl (by decide) (fun c58 => absurd c58 (nI_ge (by omega) (by omega))) (fun c58 => ?_)
      refine AW_aload_n 62 hX dX6_findMend_61 rfl rfl ?_
      refine AW_get 65 hX dX6_findMend_62 rfl fl_X6_32 (by first | assumption | exact hset_eq | exact (hset_ne (by omega)).trans (by first | assumption | exact hset_eq | exact (hset_ne (by omega)).trans (by first | assumption | exact hset_eq | exact (hset_ne (by omega)).trans (by first | assumption | exact hset_eq | exact (hset_ne (by omega)).trans (by first | assumption | exact hset_eq))))) rfl ?_
      refine AW_iload_n 66 hX dX6_findMend_65 rfl rfl ?_
      refine AW_iconst 67 hX dX6_findMend_66 rfl ic_0 ?_
      refine AW_cV (As := [_, _]) 70 hX dX6_findMend_67 rfl ml_X6_121 mw_X0_put (by first | assumption | exact hset_eq | exact (hset_ne (by omega)).trans (by first | assumption | exact hset_eq | exact (hset_ne (by omega)).trans (by first | assumption | exact hset_eq | exact (hset_ne (by omega)).trans (by first | assumption | exact hset_eq | exact (hset_ne (by omega)).trans (by first | assumption | exact hset_eq))))) (by decide) rfl rfl rfl (Nat.le_of_ble_eq_true rfl) (by decide) ⟨(Nat.le_refl _), (Nat.le_refl _)⟩ (c_put hm' hin ?_)
      rw [hf' i hin]
      refine AW_istore_n 71 hX dX6_findMend_70 rfl (Nat.le_of_ble_eq_true rfl) rfl ?_
      refine AW_aload_n 72 hX dX6_findMend_71 rfl rfl ?_
      refine AW_get 75 hX dX6_findMend_72 rfl fl_X6_39 (by first | assumption | exact hset_eq | exact (hset_ne (by omega)).trans (by first | assumption | exact hset_eq | exact (hset_ne (by omega)).trans (by first | assumption | exact hset_eq | exact (hset_ne (by omega)).trans (by first | assumption | exact hset_eq | exact (hset_ne (by omega)).trans (by first | assumption | exact hset_eq))))) rfl ?_
      refine AW_aload_n 76 hX dX6_findMend_75 rfl rfl ?_
      refine AW_get 79 hX dX6_findMend_76 rfl fl_X6_32 (by first | assumption | exact hset_eq | exact (hset_ne (by omega)).trans (by first | assumption | exact hset_eq | exact (hset_ne (by omega)).trans (by first | assumption | exact hset_eq | exact (hset_ne (by omega)).trans (by first | assumption | exact hset_eq | exact (hset_ne (by omega)).trans (by first | assumption | exact hset_eq))))) rfl ?_
      refine AW_aload_n 80 hX dX6_findMend_79 rfl rfl ?_
      refine AW_get 83 hX dX6_findMend_80 rfl fl_X6_19 (by first | assumption | exact hset_eq | exact (hset_ne (by omega)).trans (by first | assumption | exact hset_eq | exact (hset_ne (by omega)).trans (by first | assumption | exact hset_eq | exact (hset_ne (by omega)).trans (by first | assumption | exact hset_eq | exact (hset_ne (by omega)).trans (by first | assumption | exact hset_eq))))) rfl ?_
      refine AW_get 86 hX dX6_findMend_83 rfl fl_X6_142 (by first | assumption | exact hset_eq | exact (hset_ne (by omega)).trans (by first | assumption | exact hset_eq | exact (hset_ne (by omega)).trans (by first | assumption | exact hset_eq | exact (hset_ne (by omega)).trans (by first | assumption | exact hset_eq | exact (hset_ne (by omega)).trans (by first | assumption | exact hset_eq))))) rfl ?_
      refine AW_iconst 87 hX dX6_findMend_86 rfl ic_0 ?_
      refine AW_iconst 88 hX dX6_findMend_87 rfl ic_0 ?_
      refine AW_cV (As := [_, _, _, _]) 91 hX dX6_findMend_88 rfl ml_X6_148 mw_X4_fewest (by first | assumption | exact hset_eq | exact (hset_ne (by omega)).trans (by first | assumption | exact hset_eq | exact (hset_ne (by omega)).trans (by first | assumption | exact hset_eq | exact (hset_ne (by omega)).trans (by first | assumption | exact hset_eq | exact (hset_ne (by omega)).trans (by first | assumption | exact hset_eq))))) (by decide) rfl rfl rfl (Nat.le_of_ble_eq_true rfl) (by decide) ⟨(Nat.le_refl _), (Nat.le_refl _)⟩ (c_fewest hro2 hm2 hf2 hkz (by omega) hn ht 0 0 (by omega) (by omega) hn (Nat.zero_le _) (fun h5 N Qs par cb dp hr5 hI5 hd5 hl5 hE5 hL5 hfr5 => ?_) (fun h5 N Qs par cb dp hr5 hno5 hfr5 => ?_))
      · have hD := few_yes hI5 hd5 hE5 hL5
        exact rest h5 _ (CJ_route g2 (rtC_A hr5) hfr5) (gr_fr hm2 hfr5 (by omega)) (fr_tr (fr_tr hfr (fr_wide e2 (by omega) (by omega))) (fr_wide hfr5 (by omega) (by omega))) (by rw [show 12 * 0 + 0 = 0 from rfl] at hD; rw [hD.1, dA_y hD.2])
      · exact rest h5 _ (CJ_route g2 (rtC_A hr5) hfr5) (gr_fr hm2 hfr5 (by omega)) (fr_tr (fr_tr hfr (fr_wide e2 (by omega) (by omega))) (fr_wide hfr5 (by omega) (by omega))) (by rw [show DD n (kz ks i) (12 - ht) 0 = 41 from DD_no hno5, dA_n (by omega)])
  have gs := CJ_obj (kp' := kp) (yd' := yd) (qk' := qk) (mp' := -1) (ms' := -1) (fun q => q) g
  have hss := gs.2.2.1
  obtain ⟨h3s, ⟨fs, hgrs, hkss⟩, -⟩ := id hss
  have hros := gs.2.2.2.2.2.2
  have behind : ∀ (h5 : AH) (fe : Int32), rtA h5 29 → fr (hset h 0 (yO kp yd qk (-1) (-1))) h5 29 34 → fe = dA (DD n ks (12 - ht) 0) → AW X 0 0 33 [some (.ref 0), none, none, none, none] [.int fe] h5 := by
    intro h5 fe hr5 hfr5 efe
    have g5 := CJ_route gs hr5 hfr5
    have h05 := g5.1
    unfold yO at h05
    obtain ⟨h35, ⟨f5, hgr5, hks5⟩, -⟩ := id g5.2.2.1
    obtain ⟨n6, f6, hme5⟩ := g5.2.2.2.2.2.1
    have hm15 := hme5.1
    refine AW_istore_n 34 hX dX6_findMend_33 rfl (Nat.le_of_ble_eq_true rfl) rfl ?_
    refine AW_aload_n 35 hX dX6_findMend_34 rfl rfl ?_
    refine AW_get 38 hX dX6_findMend_35 rfl fl_X6_32 (by first | assumption | exact hset_eq | exact (hset_ne (by omega)).trans (by first | assumption | exact hset_eq | exact (hset_ne (by omega)).trans (by first | assumption | exact hset_eq | exact (hset_ne (by omega)).trans (by first | assumption | exact hset_eq | exact (hset_ne (by omega)).trans (by first | assumption | exact hset_eq))))) rfl ?_
    refine AW_aload_n 39 hX dX6_findMend_38 rfl rfl ?_
    refine AW_get 42 hX dX6_findMend_39 rfl fl_X6_19 (by first | assumption | exact hset_eq | exact (hset_ne (by omega)).trans (by first | assumption | exact hset_eq | exact (hset_ne (by omega)).trans (by first | assumption | exact hset_eq | exact (hset_ne (by omega)).trans (by first | assumption | exact hset_eq | exact (hset_ne (by omega)).trans (by first | assumption | exact hset_eq))))) rfl ?_
    refine AW_get 45 hX dX6_findMend_42 rfl fl_X6_82 (by first | assumption | exact hset_eq | exact (hset_ne (by omega)).trans (by first | assumption | exact hset_eq | exact (hset_ne (by omega)).trans (by first | assumption | exact hset_eq | exact (hset_ne (by omega)).trans (by first | assumption | exact hset_eq | exact (hset_ne (by omega)).trans (by first | assumption | exact hset_eq))))) rfl ?_
    refine AW_cV (As := [_]) 48 hX dX6_findMend_45 rfl ml_X6_208 mw_X0_copyFrom (by first | assumption | exact hset_eq | exact (hset_ne (by omega)).trans (by first | assumption | exact hset_eq | exact (hset_ne (by omega)).trans (by first | assumption | exact hset_eq | exact (hset_ne (by omega)).trans (by first | assumption | exact hset_eq | exact (hset_ne (by omega)).trans (by first | assumption | exact hset_eq))))) (by decide) rfl rfl rfl (Nat.le_of_ble_eq_true rfl) (by decide) ⟨(Nat.le_refl _), (Nat.le_refl _)⟩ (c_gcopy hme5 hgr5 (by omega) (fun h7 f7 hg7 hf7 hfr7 => ?_))
    refine AW_iconst 49 hX dX6_findMend_48 rfl ic_0 ?_
    refine AW_istore_n 50 hX dX6_findMend_49 rfl (Nat.le_of_ble_eq_true rfl) rfl ?_
    rw [efe]
    refine loop n 0 (by omega) h7 f7 none none ?_ hg7 (fun j hj => (hf7 j hj).trans (hks5 j hj)) (fr_tr (fr_tr (fr_set (by omega) (by omega)) (fr_wide hfr5 (by omega) (by omega))) (fr_wide hfr7 (by omega) (by omega)))
    rw [show mnS (mnF n ks (12 - ht) 0) = -1 from cif_pos rfl]
    exact CJ_mend g5 hg7 (fr_wide hfr7 (by omega) (by omega))
  refine AW_aload_n 1 hX dX6_findMend_0 rfl rfl ?_
  refine AW_iconst 2 hX dX6_findMend_1 rfl ic_m1 ?_
  refine AW_put 5 hX dX6_findMend_2 rfl fl_X6_54 (by first | assumption | exact hset_eq | exact (hset_ne (by omega)).trans (by first | assumption | exact hset_eq | exact (hset_ne (by omega)).trans (by first | assumption | exact hset_eq | exact (hset_ne (by omega)).trans (by first | assumption | exact hset_eq | exact (hset_ne (by omega)).trans (by first | assumption | exact hset_eq))))) rfl (fun _ => rfl) (fun _ => rfl) (Nat.le_of_ble_eq_true rfl) ?_
  try rw [hset_hset]
  refine AW_aload_n 6 hX dX6_findMend_5 rfl rfl ?_
  refine AW_iconst 7 hX dX6_findMend_6 rfl ic_m1 ?_
  refine AW_put 10 hX dX6_findMend_7 rfl fl_X6_57 (by first | assumption | exact hset_eq | exact (hset_ne (by omega)).trans (by first | assumption | exact hset_eq | exact (hset_ne (by omega)).trans (by first | assumption | exact hset_eq | exact (hset_ne (by omega)).trans (by first | assumption | exact hset_eq | exact (hset_ne (by omega)).trans (by first | assumption | exact hset_eq))))) rfl (fun _ => rfl) (fun _ => rfl) (Nat.le_of_ble_eq_true rfl) ?_
  try rw [hset_hset]
  refine AW_aload_n 11 hX dX6_findMend_10 rfl rfl ?_
  refine AW_get 14 hX dX6_findMend_11 rfl fl_X6_39 (by first | assumption | exact hset_eq | exact (hset_ne (by omega)).trans (by first | assumption | exact hset_eq | exact (hset_ne (by omega)).trans (by first | assumption | exact hset_eq | exact (hset_ne (by omega)).trans (by first | assumption | exact hset_eq | exact (hset_ne (by omega)).trans (by first | assumption | exact hset_eq))))) rfl ?_
  refine AW_aload_n 15 hX dX6_findMend_14 rfl rfl ?_
  refine AW_get 18 hX dX6_findMend_15 rfl fl_X6_19 (by first | assumption | exact hset_eq | exact (hset_ne (by omega)).trans (by first | assumption | exact hset_eq | exact (hset_ne (by omega)).trans (by first | assumption | exact hset_eq | exact (hset_ne (by omega)).trans (by first | assumption | exact hset_eq | exact (hset_ne (by omega)).trans (by first | assumption | exact hset_eq))))) rfl ?_
  refine AW_get 21 hX dX6_findMend_18 rfl fl_X6_82 (by first | assumption | exact hset_eq | exact (hset_ne (by omega)).trans (by first | assumption | exact hset_eq | exact (hset_ne (by omega)).trans (by first | assumption | exact hset_eq | exact (hset_ne (by omega)).trans (by first | assumption | exact hset_eq | exact (hset_ne (by omega)).trans (by first | assumption | exact hset_eq))))) rfl ?_
  refine AW_aload_n 22 hX dX6_findMend_21 rfl rfl ?_
  refine AW_get 25 hX dX6_findMend_22 rfl fl_X6_19 (by first | assumption | exact hset_eq | exact (hset_ne (by omega)).trans (by first | assumption | exact hset_eq | exact (hset_ne (by omega)).trans (by first | assumption | exact hset_eq | exact (hset_ne (by omega)).trans (by first | assumption | exact hset_eq | exact (hset_ne (by omega)).trans (by first | assumption | exact hset_eq))))) rfl ?_
  refine AW_get 28 hX dX6_findMend_25 rfl fl_X6_142 (by first | assumption | exact hset_eq | exact (hset_ne (by omega)).trans (by first | assumption | exact hset_eq | exact (hset_ne (by omega)).trans (by first | assumption | exact hset_eq | exact (hset_ne (by omega)).trans (by first | assumption | exact hset_eq | exact (hset_ne (by omega)).trans (by first | assumption | exact hset_eq))))) rfl ?_
  refine AW_iconst 29 hX dX6_findMend_28 rfl ic_0 ?_
  refine AW_iconst 30 hX dX6_findMend_29 rfl ic_0 ?_
  refine AW_cV (As := [_, _, _, _]) 33 hX dX6_findMend_30 rfl ml_X6_148 mw_X4_fewest (by first | assumption | exact hset_eq | exact (hset_ne (by omega)).trans (by first | assumption | exact hset_eq | exact (hset_ne (by omega)).trans (by first | assumption | exact hset_eq | exact (hset_ne (by omega)).trans (by first | assumption | exact hset_eq | exact (hset_ne (by omega)).trans (by first | assumption | exact hset_eq))))) (by decide) rfl rfl rfl (Nat.le_of_ble_eq_true rfl) (by decide) ⟨(Nat.le_refl _), (Nat.le_refl _)⟩ (c_fewest hros hgrs hkss ok2 (by omega) hn ht 0 0 (by omega) (by omega) hn (Nat.zero_le _) (fun h5 N Qs par cb dp hr5 hI5 hd5 hl5 hE5 hL5 hfr5 => ?_) (fun h5 N Qs par cb dp hr5 hno5 hfr5 => ?_))
  · have hD := few_yes hI5 hd5 hE5 hL5
    exact behind h5 _ (rtC_A hr5) hfr5 (by rw [show 12 * 0 + 0 = 0 from rfl] at hD; rw [hD.1, dA_y hD.2])
  · exact behind h5 _ (rtC_A hr5) hfr5 (by rw [show DD n ks (12 - ht) 0 = 41 from DD_no hno5, dA_n (by omega)])
set_option maxRecDepth 100000 in
set_option maxHeartbeats 4000000 in
theorem C_high {h : AH} {K : Option Value → AH → Prop} {kp yd qk pm n ht p s : Nat} {pg ks : Nat → Nat} {stp fl : Int32} {m : Nat} {hd : HD} {w : SV} {mp ms : Int32} (g : CJ h (kp, yd, qk, pm, pg, (n, ks, ht, p, s, stp, fl, m, hd), w) mp ms) (ok : Sok (kp, yd, qk, pm, pg, (n, ks, ht, p, s, stp, fl, m, hd), w)) (hK : ∀ h' : AH, CI h' (spHigh (kp, yd, qk, pm, pg, (n, ks, ht, p, s, stp, fl, m, hd), w)).2 → fr h h' 0 34 → K (some (.int (spHigh (kp, yd, qk, pm, pg, (n, ks, ht, p, s, stp, fl, m, hd), w)).1)) h') : aX6_high 6 [.ref 0] h K := by
  obtain ⟨h0, hpg, hsc, ⟨u, hk, hku⟩, ⟨u2, hrc⟩, ⟨nm, fm, hme⟩, hro⟩ := id g
  obtain ⟨h3, ⟨f, hgr, hks⟩, hhe⟩ := id hsc
  obtain ⟨⟨ok1, ok2, ok3, ok4, ok5, ok6, ok7, ok8⟩, okp, okw, okq, okpm, okpg, oky⟩ := id ok
  have h1 := hpg.1
  have h4 := hgr.1
  have h6 := hhe.1
  have h29 : ∃ a, h 29 = some (.inl (3, a)) := by
    obtain ⟨x, y, q1, q2, q3, q4, a0, -⟩ := hro
    exact ⟨_, a0⟩
  obtain ⟨l29, h29⟩ := h29
  unfold yO at h0
  refine AM.of [some (.ref 0)] pn_X6_high rfl (Nat.le_of_ble_eq_true rfl) (fun X hX hE => ?_)
  refine AW_aload_n 1 hX dX6_high_0 rfl rfl ?_
  refine AW_cV (As := []) 4 hX dX6_high_1 rfl ml_X6_124 mw_X6_hasYard (by first | assumption | exact hset_eq | exact (hset_ne (by omega)).trans (by first | assumption | exact hset_eq | exact (hset_ne (by omega)).trans (by first | assumption | exact hset_eq | exact (hset_ne (by omega)).trans (by first | assumption | exact hset_eq | exact (hset_ne (by omega)).trans (by first | assumption | exact hset_eq))))) (by decide) rfl rfl rfl (Nat.le_of_ble_eq_true rfl) (by decide) ⟨(Nat.le_refl _), (Nat.le_refl _)⟩ (C_hasYard g ok (fun hn => ?_) (fun hn => ?_))
  · refine AW_if_eq 7 14 hX dX6_high_4 rfl (by decide) (fun c4 => absurd c4 (by decide)) (fun c4 => ?_)
    refine AW_aload_n 8 hX dX6_high_7 rfl rfl ?_
    refine AW_cV (As := []) 11 hX dX6_high_8 rfl ml_X6_155 mw_X6_greatestHeight (by first | assumption | exact hset_eq | exact (hset_ne (by omega)).trans (by first | assumption | exact hset_eq | exact (hset_ne (by omega)).trans (by first | assumption | exact hset_eq | exact (hset_ne (by omega)).trans (by first | assumption | exact hset_eq | exact (hset_ne (by omega)).trans (by first | assumption | exact hset_eq))))) (by decide) rfl rfl rfl (Nat.le_of_ble_eq_true rfl) (by decide) ⟨(Nat.le_refl _), (Nat.le_refl _)⟩ (C_greatest g ok hn (fun h2 g2 hfr2 => ?_))
    refine AW_goto 16 hX dX6_high_11 (by decide) ?_
    refine AW_iret hX hE dX6_high_16 rfl (Nat.le_refl _) (Nat.le_refl _) ?_
    have e : spHigh (kp, yd, qk, pm, pg, (n, ks, ht, p, s, stp, fl, m, hd), w) = (hiF n ks 9, (kp, yd, qk, pm, pg, (n, ks, ht, p, s, stp, fl, m, hd), w)) := by
      show (cif _ _ _, _) = _
      rw [cif_neg (by omega)]
    rw [e] at hK
    exact hK h2 ⟨mp, ms, g2⟩ (fr_wide hfr2 (by omega) (by omega))
  · refine AW_if_eq 7 14 hX dX6_high_4 rfl (by decide) (fun c4 => ?_) (fun c4 => absurd rfl c4)
    refine AW_bipush 16 hX dX6_high_14 rfl bp_m103 ?_
    refine AW_iret hX hE dX6_high_16 rfl (Nat.le_refl _) (Nat.le_refl _) ?_
    have e : spHigh (kp, yd, qk, pm, pg, (n, ks, ht, p, s, stp, fl, m, hd), w) = (-103, (kp, yd, qk, pm, pg, (n, ks, ht, p, s, stp, fl, m, hd), w)) := by
      show (cif _ _ _, _) = _
      rw [cif_pos hn]
    rw [e] at hK
    exact hK h ⟨mp, ms, g⟩ (fr_rf _ _ _)
set_option maxRecDepth 100000 in
set_option maxHeartbeats 4000000 in
theorem C_mend {h : AH} {K : Option Value → AH → Prop} {kp yd qk pm n ht p s : Nat} {pg ks : Nat → Nat} {stp fl : Int32} {m : Nat} {hd : HD} {w : SV} {mp ms : Int32} (g : CJ h (kp, yd, qk, pm, pg, (n, ks, ht, p, s, stp, fl, m, hd), w) mp ms) (ok : Sok (kp, yd, qk, pm, pg, (n, ks, ht, p, s, stp, fl, m, hd), w)) (x : Int32) (hK : ∀ h' : AH, CI h' (spMend (kp, yd, qk, pm, pg, (n, ks, ht, p, s, stp, fl, m, hd), w) x).2 → fr h h' 0 34 → K (some (.int (spMend (kp, yd, qk, pm, pg, (n, ks, ht, p, s, stp, fl, m, hd), w) x).1)) h') : aX6_mend 6 [.ref 0, .int x] h K := by
  obtain ⟨h0, hpg, hsc, ⟨u, hk, hku⟩, ⟨u2, hrc⟩, ⟨nm, fm, hme⟩, hro⟩ := id g
  obtain ⟨h3, ⟨f, hgr, hks⟩, hhe⟩ := id hsc
  obtain ⟨⟨ok1, ok2, ok3, ok4, ok5, ok6, ok7, ok8⟩, okp, okw, okq, okpm, okpg, oky⟩ := id ok
  have h1 := hpg.1
  have h4 := hgr.1
  have h6 := hhe.1
  have h29 : ∃ a, h 29 = some (.inl (3, a)) := by
    obtain ⟨x, y, q1, q2, q3, q4, a0, -⟩ := hro
    exact ⟨_, a0⟩
  obtain ⟨l29, h29⟩ := h29
  unfold yO at h0
  have main : isP 2 x → ∀ X, CxOk X yX6_mend cX6_mend 6 0 0 → Ex X (some .int) 0 0 K → AW X 0 0 12 [some (.ref 0), some (.int x)] [] h := by
    intro hx X hX hE
    refine AW_aload_n 13 hX dX6_mend_12 rfl rfl ?_
    refine AW_cV (As := []) 16 hX dX6_mend_13 rfl ml_X6_124 mw_X6_hasYard (by first | assumption | exact hset_eq | exact (hset_ne (by omega)).trans (by first | assumption | exact hset_eq | exact (hset_ne (by omega)).trans (by first | assumption | exact hset_eq | exact (hset_ne (by omega)).trans (by first | assumption | exact hset_eq | exact (hset_ne (by omega)).trans (by first | assumption | exact hset_eq))))) (by decide) rfl rfl rfl (Nat.le_of_ble_eq_true rfl) (by decide) ⟨(Nat.le_refl _), (Nat.le_refl _)⟩ (C_hasYard g ok (fun hn => ?_) (fun hn => ?_))
    · refine AW_if_ne 19 22 hX dX6_mend_16 rfl (by decide) (fun c16 => ?_) (fun c16 => absurd c16 (by decide))
      refine AW_aload_n 23 hX dX6_mend_22 rfl rfl ?_
      refine AW_cV (As := []) 26 hX dX6_mend_23 rfl ml_X6_158 mw_X6_findMend (by first | assumption | exact hset_eq | exact (hset_ne (by omega)).trans (by first | assumption | exact hset_eq | exact (hset_ne (by omega)).trans (by first | assumption | exact hset_eq | exact (hset_ne (by omega)).trans (by first | assumption | exact hset_eq | exact (hset_ne (by omega)).trans (by first | assumption | exact hset_eq))))) (by decide) rfl rfl rfl (Nat.le_of_ble_eq_true rfl) (by decide) ⟨(Nat.le_refl _), (Nat.le_refl _)⟩ (C_findMend g ok hn (fun h2 g2 hfr2 => ?_))
      have h02 := g2.1
      unfold yO at h02
      refine AW_iload_n 27 hX dX6_mend_26 rfl rfl ?_
      refine AW_if_ne 30 37 hX dX6_mend_27 rfl (by decide) (fun c27 => ?_) (fun c27 => ?_)
      · refine AW_aload_n 38 hX dX6_mend_37 rfl rfl ?_
        refine AW_get 41 hX dX6_mend_38 rfl fl_X6_57 (by first | assumption | exact hset_eq | exact (hset_ne (by omega)).trans (by first | assumption | exact hset_eq | exact (hset_ne (by omega)).trans (by first | assumption | exact hset_eq | exact (hset_ne (by omega)).trans (by first | assumption | exact hset_eq | exact (hset_ne (by omega)).trans (by first | assumption | exact hset_eq))))) rfl ?_
        refine AW_iret hX hE dX6_mend_41 rfl (Nat.le_refl _) (Nat.le_refl _) ?_
        have e : spMend (kp, yd, qk, pm, pg, (n, ks, ht, p, s, stp, fl, m, hd), w) x = (mnS (mnF n ks (12 - ht) n), (kp, yd, qk, pm, pg, (n, ks, ht, p, s, stp, fl, m, hd), w)) := by
          show (cif _ _ _, _) = _
          rw [cif_pos hx, cif_neg (by omega), cif_neg c27]
        rw [e] at hK
        exact hK h2 ⟨_, _, g2⟩ hfr2
      · refine AW_aload_n 31 hX dX6_mend_30 rfl rfl ?_
        refine AW_get 34 hX dX6_mend_31 rfl fl_X6_54 (by first | assumption | exact hset_eq | exact (hset_ne (by omega)).trans (by first | assumption | exact hset_eq | exact (hset_ne (by omega)).trans (by first | assumption | exact hset_eq | exact (hset_ne (by omega)).trans (by first | assumption | exact hset_eq | exact (hset_ne (by omega)).trans (by first | assumption | exact hset_eq))))) rfl ?_
        refine AW_goto 41 hX dX6_mend_34 (by decide) ?_
        refine AW_iret hX hE dX6_mend_41 rfl (Nat.le_refl _) (Nat.le_refl _) ?_
        have e : spMend (kp, yd, qk, pm, pg, (n, ks, ht, p, s, stp, fl, m, hd), w) x = ((mnF n ks (12 - ht) n).1, (kp, yd, qk, pm, pg, (n, ks, ht, p, s, stp, fl, m, hd), w)) := by
          show (cif _ _ _, _) = _
          rw [cif_pos hx, cif_neg (by omega), cif_pos c27]
        rw [e] at hK
        exact hK h2 ⟨_, _, g2⟩ hfr2
    · refine AW_if_ne 19 22 hX dX6_mend_16 rfl (by decide) (fun c16 => absurd rfl c16) (fun c16 => ?_)
      refine AW_bipush 21 hX dX6_mend_19 rfl bp_m103 ?_
      refine AW_iret hX hE dX6_mend_21 rfl (Nat.le_refl _) (Nat.le_refl _) ?_
      have e : spMend (kp, yd, qk, pm, pg, (n, ks, ht, p, s, stp, fl, m, hd), w) x = (-103, (kp, yd, qk, pm, pg, (n, ks, ht, p, s, stp, fl, m, hd), w)) := by
        show (cif _ _ _, _) = _
        rw [cif_pos hx, cif_pos hn]
      rw [e] at hK
      exact hK h ⟨mp, ms, g⟩ (fr_rf _ _ _)
  refine AM.of [some (.ref 0), some (.int x)] pn_X6_mend rfl (Nat.le_of_ble_eq_true rfl) (fun X hX hE => ?_)
  refine AW_iload_n 1 hX dX6_mend_0 rfl rfl ?_
  refine AW_if_eq 4 12 hX dX6_mend_1 rfl (by decide) (fun c1 => ?_) (fun c1 => ?_)
  · exact main ⟨0, by omega, c1⟩ X hX hE
  · refine AW_iload_n 5 hX dX6_mend_4 rfl rfl ?_
    refine AW_iconst 6 hX dX6_mend_5 rfl ic_1 ?_
    refine AW_icmp_eq 9 12 hX dX6_mend_6 rfl (by decide) (fun c6 => ?_) (fun c6 => ?_)
    · exact main ⟨1, by omega, c6⟩ X hX hE
    · refine AW_bipush 11 hX dX6_mend_9 rfl bp_m102 ?_
      refine AW_iret hX hE dX6_mend_11 rfl (Nat.le_refl _) (Nat.le_refl _) ?_
      have e : spMend (kp, yd, qk, pm, pg, (n, ks, ht, p, s, stp, fl, m, hd), w) x = (-102, (kp, yd, qk, pm, pg, (n, ks, ht, p, s, stp, fl, m, hd), w)) := by
        show (cif _ _ _, _) = _
        rw [cif_neg (show ¬ isP 2 x from fun ⟨q, hq, eq⟩ => by rcases (show q = 0 ∨ q = 1 by omega) with rfl | rfl; exact c1 eq; exact c6 eq)]
      rw [e] at hK
      exact hK h ⟨mp, ms, g⟩ (fr_rf _ _ _)
set_option maxRecDepth 100000 in
set_option maxHeartbeats 4000000 in
theorem C_quick {h : AH} {K : Option Value → AH → Prop} {kp yd qk pm n ht p s : Nat} {pg ks : Nat → Nat} {stp fl : Int32} {m : Nat} {hd : HD} {w : SV} {mp ms : Int32} (g : CJ h (kp, yd, qk, pm, pg, (n, ks, ht, p, s, stp, fl, m, hd), w) mp ms) (ok : Sok (kp, yd, qk, pm, pg, (n, ks, ht, p, s, stp, fl, m, hd), w)) (x : Int32) (hK : ∀ h' : AH, CI h' (spQuick (kp, yd, qk, pm, pg, (n, ks, ht, p, s, stp, fl, m, hd), w) x).2 → fr h h' 0 34 → K (some (.int (spQuick (kp, yd, qk, pm, pg, (n, ks, ht, p, s, stp, fl, m, hd), w) x).1)) h') : aX6_quick 5 [.ref 0, .int x] h K := by
  obtain ⟨h0, hpg, hsc, ⟨u, hk, hku⟩, ⟨u2, hrc⟩, ⟨nm, fm, hme⟩, hro⟩ := id g
  obtain ⟨h3, ⟨f, hgr, hks⟩, hhe⟩ := id hsc
  obtain ⟨⟨ok1, ok2, ok3, ok4, ok5, ok6, ok7, ok8⟩, okp, okw, okq, okpm, okpg, oky⟩ := id ok
  have h1 := hpg.1
  have h4 := hgr.1
  have h6 := hhe.1
  have h29 : ∃ a, h 29 = some (.inl (3, a)) := by
    obtain ⟨x, y, q1, q2, q3, q4, a0, -⟩ := hro
    exact ⟨_, a0⟩
  obtain ⟨l29, h29⟩ := h29
  unfold yO at h0
  have main : ¬ (x ≠ 0 ∧ (x < 10 ∨ 13 < x)) → ∀ X, CxOk X yX6_quick cX6_quick 5 0 0 → Ex X (some .int) 0 0 K → AW X 0 0 19 [some (.ref 0), some (.int x), none] [] h := by
    intro hx X hX hE
    have hxj : ¬ x = 0 → ∃ j, 1 ≤ j ∧ j ≤ 4 ∧ x - 9 = nI j ∧ cN x - 9 = j := fun hx0 => by
      obtain ⟨q, h1, h2, e⟩ := rg (x := x) 10 13 (by decide) (by decide) (fun q => hx ⟨hx0, Or.inl q⟩) (fun q => hx ⟨hx0, Or.inr q⟩)
      subst e
      refine ⟨q - 9, by omega, by omega, ?_, by rw [cN_nI (by omega)]⟩
      rw [show (9 : Int32) = nI 9 from rfl, pk_sub (by omega)]
    refine AW_aload_n 20 hX dX6_quick_19 rfl rfl ?_
    refine AW_cV (As := []) 23 hX dX6_quick_20 rfl ml_X6_124 mw_X6_hasYard (by first | assumption | exact hset_eq | exact (hset_ne (by omega)).trans (by first | assumption | exact hset_eq | exact (hset_ne (by omega)).trans (by first | assumption | exact hset_eq | exact (hset_ne (by omega)).trans (by first | assumption | exact hset_eq | exact (hset_ne (by omega)).trans (by first | assumption | exact hset_eq))))) (by decide) rfl rfl rfl (Nat.le_of_ble_eq_true rfl) (by decide) ⟨(Nat.le_refl _), (Nat.le_refl _)⟩ (C_hasYard g ok (fun hn => ?_) (fun hn => ?_))
    · refine AW_if_eq 26 35 hX dX6_quick_23 rfl (by decide) (fun c23 => absurd c23 (by decide)) (fun c23 => ?_)
      refine AW_aload_n 27 hX dX6_quick_26 rfl rfl ?_
      refine AW_get 30 hX dX6_quick_27 rfl fl_X6_51 (by first | assumption | exact hset_eq | exact (hset_ne (by omega)).trans (by first | assumption | exact hset_eq | exact (hset_ne (by omega)).trans (by first | assumption | exact hset_eq | exact (hset_ne (by omega)).trans (by first | assumption | exact hset_eq | exact (hset_ne (by omega)).trans (by first | assumption | exact hset_eq))))) rfl ?_
      refine AW_bipush 32 hX dX6_quick_30 rfl bp_40 ?_
      refine AW_icmp_lt 35 38 hX dX6_quick_32 rfl (by decide) (fun c32 => ?_) (fun c32 => ?_)
      · refine AW_aload_n 39 hX dX6_quick_38 rfl rfl ?_
        refine AW_dup 40 hX dX6_quick_39 rfl rfl ?_
        refine AW_get 43 hX dX6_quick_40 rfl fl_X6_51 (by first | assumption | exact hset_eq | exact (hset_ne (by omega)).trans (by first | assumption | exact hset_eq | exact (hset_ne (by omega)).trans (by first | assumption | exact hset_eq | exact (hset_ne (by omega)).trans (by first | assumption | exact hset_eq | exact (hset_ne (by omega)).trans (by first | assumption | exact hset_eq))))) rfl ?_
        refine AW_iconst 44 hX dX6_quick_43 rfl ic_1 ?_
        refine AW_iadd 45 hX dX6_quick_44 rfl ?_
        rw [nI_1]
        refine AW_put 48 hX dX6_quick_45 rfl fl_X6_51 (by first | assumption | exact hset_eq | exact (hset_ne (by omega)).trans (by first | assumption | exact hset_eq | exact (hset_ne (by omega)).trans (by first | assumption | exact hset_eq | exact (hset_ne (by omega)).trans (by first | assumption | exact hset_eq | exact (hset_ne (by omega)).trans (by first | assumption | exact hset_eq))))) rfl (fun _ => rfl) (fun _ => rfl) (Nat.le_of_ble_eq_true rfl) ?_
        try rw [hset_hset]
        have hq40 := iLt (b := 40) c32
        have gs := CJ_obj (kp' := kp) (yd' := yd) (qk' := qk + 1) (mp' := mp) (ms' := ms) (fun q => q) g
        obtain ⟨h3s, ⟨fs, hgrs, hkss⟩, -⟩ := id gs.2.2.1
        have hros := gs.2.2.2.2.2.2
        have hpn := ok7 hn
        refine AW_aload_n 49 hX dX6_quick_48 rfl rfl ?_
        refine AW_get 52 hX dX6_quick_49 rfl fl_X6_39 (by first | assumption | exact hset_eq | exact (hset_ne (by omega)).trans (by first | assumption | exact hset_eq | exact (hset_ne (by omega)).trans (by first | assumption | exact hset_eq | exact (hset_ne (by omega)).trans (by first | assumption | exact hset_eq | exact (hset_ne (by omega)).trans (by first | assumption | exact hset_eq))))) rfl ?_
        refine AW_aload_n 53 hX dX6_quick_52 rfl rfl ?_
        refine AW_get 56 hX dX6_quick_53 rfl fl_X6_19 (by first | assumption | exact hset_eq | exact (hset_ne (by omega)).trans (by first | assumption | exact hset_eq | exact (hset_ne (by omega)).trans (by first | assumption | exact hset_eq | exact (hset_ne (by omega)).trans (by first | assumption | exact hset_eq | exact (hset_ne (by omega)).trans (by first | assumption | exact hset_eq))))) rfl ?_
        refine AW_get 59 hX dX6_quick_56 rfl fl_X6_82 (by first | assumption | exact hset_eq | exact (hset_ne (by omega)).trans (by first | assumption | exact hset_eq | exact (hset_ne (by omega)).trans (by first | assumption | exact hset_eq | exact (hset_ne (by omega)).trans (by first | assumption | exact hset_eq | exact (hset_ne (by omega)).trans (by first | assumption | exact hset_eq))))) rfl ?_
        refine AW_aload_n 60 hX dX6_quick_59 rfl rfl ?_
        refine AW_get 63 hX dX6_quick_60 rfl fl_X6_19 (by first | assumption | exact hset_eq | exact (hset_ne (by omega)).trans (by first | assumption | exact hset_eq | exact (hset_ne (by omega)).trans (by first | assumption | exact hset_eq | exact (hset_ne (by omega)).trans (by first | assumption | exact hset_eq | exact (hset_ne (by omega)).trans (by first | assumption | exact hset_eq))))) rfl ?_
        refine AW_get 66 hX dX6_quick_63 rfl fl_X6_142 (by first | assumption | exact hset_eq | exact (hset_ne (by omega)).trans (by first | assumption | exact hset_eq | exact (hset_ne (by omega)).trans (by first | assumption | exact hset_eq | exact (hset_ne (by omega)).trans (by first | assumption | exact hset_eq | exact (hset_ne (by omega)).trans (by first | assumption | exact hset_eq))))) rfl ?_
        refine AW_aload_n 67 hX dX6_quick_66 rfl rfl ?_
        refine AW_get 70 hX dX6_quick_67 rfl fl_X6_19 (by first | assumption | exact hset_eq | exact (hset_ne (by omega)).trans (by first | assumption | exact hset_eq | exact (hset_ne (by omega)).trans (by first | assumption | exact hset_eq | exact (hset_ne (by omega)).trans (by first | assumption | exact hset_eq | exact (hset_ne (by omega)).trans (by first | assumption | exact hset_eq))))) rfl ?_
        refine AW_get 73 hX dX6_quick_70 rfl fl_X6_136 (by first | assumption | exact hset_eq | exact (hset_ne (by omega)).trans (by first | assumption | exact hset_eq | exact (hset_ne (by omega)).trans (by first | assumption | exact hset_eq | exact (hset_ne (by omega)).trans (by first | assumption | exact hset_eq | exact (hset_ne (by omega)).trans (by first | assumption | exact hset_eq))))) rfl ?_
        refine AW_aload_n 74 hX dX6_quick_73 rfl rfl ?_
        refine AW_get 77 hX dX6_quick_74 rfl fl_X6_19 (by first | assumption | exact hset_eq | exact (hset_ne (by omega)).trans (by first | assumption | exact hset_eq | exact (hset_ne (by omega)).trans (by first | assumption | exact hset_eq | exact (hset_ne (by omega)).trans (by first | assumption | exact hset_eq | exact (hset_ne (by omega)).trans (by first | assumption | exact hset_eq))))) rfl ?_
        refine AW_get 80 hX dX6_quick_77 rfl fl_X6_145 (by first | assumption | exact hset_eq | exact (hset_ne (by omega)).trans (by first | assumption | exact hset_eq | exact (hset_ne (by omega)).trans (by first | assumption | exact hset_eq | exact (hset_ne (by omega)).trans (by first | assumption | exact hset_eq | exact (hset_ne (by omega)).trans (by first | assumption | exact hset_eq))))) rfl ?_
        refine AW_cV (As := [_, _, _, _]) 83 hX dX6_quick_80 rfl ml_X6_148 mw_X4_fewest (by first | assumption | exact hset_eq | exact (hset_ne (by omega)).trans (by first | assumption | exact hset_eq | exact (hset_ne (by omega)).trans (by first | assumption | exact hset_eq | exact (hset_ne (by omega)).trans (by first | assumption | exact hset_eq | exact (hset_ne (by omega)).trans (by first | assumption | exact hset_eq))))) (by decide) rfl rfl rfl (Nat.le_of_ble_eq_true rfl) (by decide) ⟨(Nat.le_refl _), (Nat.le_refl _)⟩ (c_fewest hros hgrs hkss ok2 (by omega) hn ht p s hpn.2 (by omega) hpn.1 ok4 (fun h5 N Qs par cb dp hr5 hI5 hd5 hl5 hE5 hL5 hfr5 => ?_) (fun h5 N Qs par cb dp hr5 hno5 hfr5 => ?_))
        · have hD := few_yes hI5 hd5 hE5 hL5
          have g5 := CJ_route gs (rtC_A hr5) hfr5
          have h05 := g5.1
          unfold yO at h05
          have h295 := hr5.1
          refine AW_istore_n 84 hX dX6_quick_83 rfl (Nat.le_of_ble_eq_true rfl) rfl ?_
          refine AW_iload_n 85 hX dX6_quick_84 rfl rfl ?_
          refine AW_if_ne 88 92 hX dX6_quick_85 rfl (by decide) (fun c85 => ?_) (fun c85 => ?_)
          · refine AW_aload_n 93 hX dX6_quick_92 rfl rfl ?_
            refine AW_get 96 hX dX6_quick_93 rfl fl_X6_39 (by first | assumption | exact hset_eq | exact (hset_ne (by omega)).trans (by first | assumption | exact hset_eq | exact (hset_ne (by omega)).trans (by first | assumption | exact hset_eq | exact (hset_ne (by omega)).trans (by first | assumption | exact hset_eq | exact (hset_ne (by omega)).trans (by first | assumption | exact hset_eq))))) rfl ?_
            refine AW_iload_n 97 hX dX6_quick_96 rfl rfl ?_
            refine AW_bipush 99 hX dX6_quick_97 rfl bp_9 ?_
            refine AW_isub 100 hX dX6_quick_99 rfl ?_
            obtain ⟨j, hj1, hj4, ej, ec⟩ := hxj c85
            rw [ej]
            refine AW_cV (As := [_]) 103 hX dX6_quick_100 rfl ml_X6_152 mw_X4_farOfStep (by first | assumption | exact hset_eq | exact (hset_ne (by omega)).trans (by first | assumption | exact hset_eq | exact (hset_ne (by omega)).trans (by first | assumption | exact hset_eq | exact (hset_ne (by omega)).trans (by first | assumption | exact hset_eq | exact (hset_ne (by omega)).trans (by first | assumption | exact hset_eq))))) (by decide) rfl rfl rfl (Nat.le_of_ble_eq_true rfl) (by decide) ⟨(Nat.le_refl _), (Nat.le_refl _)⟩ (c_farOfStep hr5 hI5 hd5 hl5 j hj1 hj4 (fun hle => ?_) (fun hgt => ?_))
            · refine AW_iret hX hE dX6_quick_103 rfl (Nat.le_refl _) (Nat.le_refl _) ?_
              have e : spQuick (kp, yd, qk, pm, pg, (n, ks, ht, p, s, stp, fl, m, hd), w) x = (lA n ks (12 - ht) (12 * p + s) (cN x - 9), (kp, yd, qk + 1, pm, pg, (n, ks, ht, p, s, stp, fl, m, hd), w)) := by
                show cif _ _ _ = _
                rw [cif_neg hx, cif_neg (by omega), cif_neg c85]
              rw [e] at hK
              rw [ec, lA_yes hD.1 hD.2 ((bfs_yes hI5 hE5 hL5).2.2 j hj1 hle)] at hK
              exact hK h5 ⟨mp, ms, g5⟩ (fr_tr (fr_set (by omega) (by omega)) (fr_wide hfr5 (by omega) (by omega)))
            · refine AW_iret hX hE dX6_quick_103 rfl (Nat.le_refl _) (Nat.le_refl _) ?_
              have e : spQuick (kp, yd, qk, pm, pg, (n, ks, ht, p, s, stp, fl, m, hd), w) x = (lA n ks (12 - ht) (12 * p + s) (cN x - 9), (kp, yd, qk + 1, pm, pg, (n, ks, ht, p, s, stp, fl, m, hd), w)) := by
                show cif _ _ _ = _
                rw [cif_neg hx, cif_neg (by omega), cif_neg c85]
              rw [e] at hK
              rw [ec, lA_no (fun _ => by rw [hD.1]; exact hgt)] at hK
              exact hK h5 ⟨mp, ms, g5⟩ (fr_tr (fr_set (by omega) (by omega)) (fr_wide hfr5 (by omega) (by omega)))
          · refine AW_iload_n 89 hX dX6_quick_88 rfl rfl ?_
            refine AW_goto 103 hX dX6_quick_89 (by decide) ?_
            refine AW_iret hX hE dX6_quick_103 rfl (Nat.le_refl _) (Nat.le_refl _) ?_
            have e : spQuick (kp, yd, qk, pm, pg, (n, ks, ht, p, s, stp, fl, m, hd), w) x = (dA (DD n ks (12 - ht) (12 * p + s)), (kp, yd, qk + 1, pm, pg, (n, ks, ht, p, s, stp, fl, m, hd), w)) := by
              show cif _ _ _ = _
              rw [cif_neg hx, cif_neg (by omega), cif_pos c85]
            rw [e] at hK
            rw [hD.1, dA_y hD.2] at hK
            exact hK h5 ⟨mp, ms, g5⟩ (fr_tr (fr_set (by omega) (by omega)) (fr_wide hfr5 (by omega) (by omega)))
        · have hD : DD n ks (12 - ht) (12 * p + s) = 41 := DD_no hno5
          have g5 := CJ_route gs (rtC_A hr5) hfr5
          have h05 := g5.1
          unfold yO at h05
          have h295 := hr5.1
          refine AW_istore_n 84 hX dX6_quick_83 rfl (Nat.le_of_ble_eq_true rfl) rfl ?_
          refine AW_iload_n 85 hX dX6_quick_84 rfl rfl ?_
          refine AW_if_ne 88 92 hX dX6_quick_85 rfl (by decide) (fun c85 => ?_) (fun c85 => ?_)
          · refine AW_aload_n 93 hX dX6_quick_92 rfl rfl ?_
            refine AW_get 96 hX dX6_quick_93 rfl fl_X6_39 (by first | assumption | exact hset_eq | exact (hset_ne (by omega)).trans (by first | assumption | exact hset_eq | exact (hset_ne (by omega)).trans (by first | assumption | exact hset_eq | exact (hset_ne (by omega)).trans (by first | assumption | exact hset_eq | exact (hset_ne (by omega)).trans (by first | assumption | exact hset_eq))))) rfl ?_
            refine AW_iload_n 97 hX dX6_quick_96 rfl rfl ?_
            refine AW_bipush 99 hX dX6_quick_97 rfl bp_9 ?_
            refine AW_isub 100 hX dX6_quick_99 rfl ?_
            obtain ⟨j, hj1, hj4, ej, ec⟩ := hxj c85
            rw [ej]
            refine AW_cV (As := [_]) 103 hX dX6_quick_100 rfl ml_X6_152 mw_X4_farOfStep (by first | assumption | exact hset_eq | exact (hset_ne (by omega)).trans (by first | assumption | exact hset_eq | exact (hset_ne (by omega)).trans (by first | assumption | exact hset_eq | exact (hset_ne (by omega)).trans (by first | assumption | exact hset_eq | exact (hset_ne (by omega)).trans (by first | assumption | exact hset_eq))))) (by decide) rfl rfl rfl (Nat.le_of_ble_eq_true rfl) (by decide) ⟨(Nat.le_refl _), (Nat.le_refl _)⟩ (c_farOfStepN hr5 j hj1 hj4 ?_)
            refine AW_iret hX hE dX6_quick_103 rfl (Nat.le_refl _) (Nat.le_refl _) ?_
            have e : spQuick (kp, yd, qk, pm, pg, (n, ks, ht, p, s, stp, fl, m, hd), w) x = (lA n ks (12 - ht) (12 * p + s) (cN x - 9), (kp, yd, qk + 1, pm, pg, (n, ks, ht, p, s, stp, fl, m, hd), w)) := by
              show cif _ _ _ = _
              rw [cif_neg hx, cif_neg (by omega), cif_neg c85]
            rw [e] at hK
            rw [ec, lA_no (fun q => by omega)] at hK
            exact hK h5 ⟨mp, ms, g5⟩ (fr_tr (fr_set (by omega) (by omega)) (fr_wide hfr5 (by omega) (by omega)))
          · refine AW_iload_n 89 hX dX6_quick_88 rfl rfl ?_
            refine AW_goto 103 hX dX6_quick_89 (by decide) ?_
            refine AW_iret hX hE dX6_quick_103 rfl (Nat.le_refl _) (Nat.le_refl _) ?_
            have e : spQuick (kp, yd, qk, pm, pg, (n, ks, ht, p, s, stp, fl, m, hd), w) x = (dA (DD n ks (12 - ht) (12 * p + s)), (kp, yd, qk + 1, pm, pg, (n, ks, ht, p, s, stp, fl, m, hd), w)) := by
              show cif _ _ _ = _
              rw [cif_neg hx, cif_neg (by omega), cif_pos c85]
            rw [e] at hK
            rw [hD, dA_n (by omega)] at hK
            exact hK h5 ⟨mp, ms, g5⟩ (fr_tr (fr_set (by omega) (by omega)) (fr_wide hfr5 (by omega) (by omega)))
      · refine AW_bipush 37 hX dX6_quick_35 rfl bp_m103 ?_
        refine AW_iret hX hE dX6_quick_37 rfl (Nat.le_refl _) (Nat.le_refl _) ?_
        have e : spQuick (kp, yd, qk, pm, pg, (n, ks, ht, p, s, stp, fl, m, hd), w) x = (-103, (kp, yd, qk, pm, pg, (n, ks, ht, p, s, stp, fl, m, hd), w)) := by
          show cif _ _ _ = _
          rw [cif_neg hx, cif_pos (Or.inr (iNlt (b := 40) c32))]
        rw [e] at hK
        exact hK h ⟨mp, ms, g⟩ (fr_rf _ _ _)
    · refine AW_if_eq 26 35 hX dX6_quick_23 rfl (by decide) (fun c23 => ?_) (fun c23 => absurd rfl c23)
      refine AW_bipush 37 hX dX6_quick_35 rfl bp_m103 ?_
      refine AW_iret hX hE dX6_quick_37 rfl (Nat.le_refl _) (Nat.le_refl _) ?_
      have e : spQuick (kp, yd, qk, pm, pg, (n, ks, ht, p, s, stp, fl, m, hd), w) x = (-103, (kp, yd, qk, pm, pg, (n, ks, ht, p, s, stp, fl, m, hd), w)) := by
        show cif _ _ _ = _
        rw [cif_neg hx, cif_pos (Or.inl hn)]
      rw [e] at hK
      exact hK h ⟨mp, ms, g⟩ (fr_rf _ _ _)
  refine AM.of [some (.ref 0), some (.int x), none] pn_X6_quick rfl (Nat.le_of_ble_eq_true rfl) (fun X hX hE => ?_)
  refine AW_iload_n 1 hX dX6_quick_0 rfl rfl ?_
  refine AW_if_eq 4 19 hX dX6_quick_1 rfl (by decide) (fun c1 => ?_) (fun c1 => ?_)
  · exact main (fun q => q.1 c1) X hX hE
  · refine AW_iload_n 5 hX dX6_quick_4 rfl rfl ?_
    refine AW_bipush 7 hX dX6_quick_5 rfl bp_10 ?_
    refine AW_icmp_lt 10 16 hX dX6_quick_7 rfl (by decide) (fun c7 => ?_) (fun c7 => ?_)
    · refine AW_bipush 18 hX dX6_quick_16 rfl bp_m102 ?_
      refine AW_iret hX hE dX6_quick_18 rfl (Nat.le_refl _) (Nat.le_refl _) ?_
      have e : spQuick (kp, yd, qk, pm, pg, (n, ks, ht, p, s, stp, fl, m, hd), w) x = (-102, (kp, yd, qk, pm, pg, (n, ks, ht, p, s, stp, fl, m, hd), w)) := by
        show cif _ _ _ = _
        rw [cif_pos ⟨c1, Or.inl c7⟩]
      rw [e] at hK
      exact hK h ⟨mp, ms, g⟩ (fr_rf _ _ _)
    · refine AW_iload_n 11 hX dX6_quick_10 rfl rfl ?_
      refine AW_bipush 13 hX dX6_quick_11 rfl bp_13 ?_
      refine AW_icmp_le 16 19 hX dX6_quick_13 rfl (by decide) (fun c13 => ?_) (fun c13 => ?_)
      · exact main (fun q => q.2.elim c7 (fun q => absurd q (Int32.not_lt.mpr c13))) X hX hE
      · refine AW_bipush 18 hX dX6_quick_16 rfl bp_m102 ?_
        refine AW_iret hX hE dX6_quick_18 rfl (Nat.le_refl _) (Nat.le_refl _) ?_
        have e : spQuick (kp, yd, qk, pm, pg, (n, ks, ht, p, s, stp, fl, m, hd), w) x = (-102, (kp, yd, qk, pm, pg, (n, ks, ht, p, s, stp, fl, m, hd), w)) := by
          show cif _ _ _ = _
          rw [cif_pos ⟨c1, Or.inr (Int32.not_le.mp c13)⟩]
        rw [e] at hK
        exact hK h ⟨mp, ms, g⟩ (fr_rf _ _ _)
theorem cntP_eq {f : Nat → Int32} {ks : Nat → Nat} : ∀ {n : Nat}, (∀ j, j < n → f j = nI (ks j)) → cntP f n = cntP (fun j => nI (ks j)) n
  | 0, _ => rfl
  | n + 1, h => by
    simp only [cntP]
    rw [cntP_eq (fun j hj => h j (by omega)), h n (by omega)]
set_option maxRecDepth 100000 in
set_option maxHeartbeats 4000000 in
theorem C_count {h : AH} {K : Option Value → AH → Prop} {kp yd qk pm n ht p s : Nat} {pg ks : Nat → Nat} {stp fl : Int32} {m : Nat} {hd : HD} {w : SV} {mp ms : Int32} (g : CJ h (kp, yd, qk, pm, pg, (n, ks, ht, p, s, stp, fl, m, hd), w) mp ms) (ok : Sok (kp, yd, qk, pm, pg, (n, ks, ht, p, s, stp, fl, m, hd), w)) (x : Int32) (hK : ∀ h' : AH, CI h' (spCount (kp, yd, qk, pm, pg, (n, ks, ht, p, s, stp, fl, m, hd), w) x).2 → fr h h' 0 34 → K (some (.int (spCount (kp, yd, qk, pm, pg, (n, ks, ht, p, s, stp, fl, m, hd), w) x).1)) h') : aX6_count 3 [.ref 0, .int x] h K := by
  obtain ⟨h0, hpg, hsc, ⟨u, hk, hku⟩, ⟨u2, hrc⟩, ⟨nm, fm, hme⟩, hro⟩ := id g
  obtain ⟨h3, ⟨f, hgr, hks⟩, hhe⟩ := id hsc
  obtain ⟨⟨ok1, ok2, ok3, ok4, ok5, ok6, ok7, ok8⟩, okp, okw, okq, okpm, okpg, oky⟩ := id ok
  have h1 := hpg.1
  have h4 := hgr.1
  have h6 := hhe.1
  have h29 : ∃ a, h 29 = some (.inl (3, a)) := by
    obtain ⟨x, y, q1, q2, q3, q4, a0, -⟩ := hro
    exact ⟨_, a0⟩
  obtain ⟨l29, h29⟩ := h29
  unfold yO at h0
  refine AM.of [some (.ref 0), some (.int x)] pn_X6_count rfl (Nat.le_of_ble_eq_true rfl) (fun X hX hE => ?_)
  rcases i0 x 12 (by decide) with hx | hx
  · obtain ⟨k, hk12, ek⟩ := hx
    subst ek
    refine AW_iload_n 1 hX dX6_count_0 rfl rfl ?_
    rcases (show k = 0 ∨ k = 1 ∨ k = 2 ∨ k = 3 ∨ k = 4 ∨ k = 5 ∨ k = 6 ∨ k = 7 ∨ k = 8 ∨ k = 9 ∨ k = 10 ∨ k = 11 by omega) with rfl | rfl | rfl | rfl | rfl | rfl | rfl | rfl | rfl | rfl | rfl | rfl
    · refine AW_tab (off := 63) 64 hX dX6_count_1 (by decide) (by decide) (by decide) (by decide) ?_
      refine AW_aload_n 65 hX dX6_count_64 rfl rfl ?_
      refine AW_get 68 hX dX6_count_65 rfl fl_X6_19 (by first | assumption | exact hset_eq | exact (hset_ne (by omega)).trans (by first | assumption | exact hset_eq | exact (hset_ne (by omega)).trans (by first | assumption | exact hset_eq | exact (hset_ne (by omega)).trans (by first | assumption | exact hset_eq | exact (hset_ne (by omega)).trans (by first | assumption | exact hset_eq))))) rfl ?_
      refine AW_get 71 hX dX6_count_68 rfl fl_X6_82 (by first | assumption | exact hset_eq | exact (hset_ne (by omega)).trans (by first | assumption | exact hset_eq | exact (hset_ne (by omega)).trans (by first | assumption | exact hset_eq | exact (hset_ne (by omega)).trans (by first | assumption | exact hset_eq | exact (hset_ne (by omega)).trans (by first | assumption | exact hset_eq))))) rfl ?_
      refine AW_cV (As := []) 74 hX dX6_count_71 rfl ml_X6_85 mw_X0_places (by first | assumption | exact hset_eq | exact (hset_ne (by omega)).trans (by first | assumption | exact hset_eq | exact (hset_ne (by omega)).trans (by first | assumption | exact hset_eq | exact (hset_ne (by omega)).trans (by first | assumption | exact hset_eq | exact (hset_ne (by omega)).trans (by first | assumption | exact hset_eq))))) (by decide) rfl rfl rfl (Nat.le_of_ble_eq_true rfl) (by decide) ⟨(Nat.le_refl _), (Nat.le_refl _)⟩ (c_places h4 ?_)
      refine AW_iret hX hE dX6_count_74 rfl (Nat.le_refl _) (Nat.le_refl _) ?_
      have e : spCount (kp, yd, qk, pm, pg, (n, ks, ht, p, s, stp, fl, m, hd), w) (nI 0) = (ctA (kp, yd, qk, pm, pg, (n, ks, ht, p, s, stp, fl, m, hd), w) 0, (kp, yd, qk, pm, pg, (n, ks, ht, p, s, stp, fl, m, hd), w)) := by
        show (cif _ _ _, _) = _
        rw [cif_pos ⟨0, by omega, rfl⟩, cN_nI (by omega)]
      rw [e] at hK
      exact hK h ⟨mp, ms, g⟩ (fr_rf _ _ _)
    · refine AW_tab (off := 74) 75 hX dX6_count_1 (by decide) (by decide) (by decide) (by decide) ?_
      refine AW_aload_n 76 hX dX6_count_75 rfl rfl ?_
      refine AW_get 79 hX dX6_count_76 rfl fl_X6_19 (by first | assumption | exact hset_eq | exact (hset_ne (by omega)).trans (by first | assumption | exact hset_eq | exact (hset_ne (by omega)).trans (by first | assumption | exact hset_eq | exact (hset_ne (by omega)).trans (by first | assumption | exact hset_eq | exact (hset_ne (by omega)).trans (by first | assumption | exact hset_eq))))) rfl ?_
      refine AW_get 82 hX dX6_count_79 rfl fl_X6_142 (by first | assumption | exact hset_eq | exact (hset_ne (by omega)).trans (by first | assumption | exact hset_eq | exact (hset_ne (by omega)).trans (by first | assumption | exact hset_eq | exact (hset_ne (by omega)).trans (by first | assumption | exact hset_eq | exact (hset_ne (by omega)).trans (by first | assumption | exact hset_eq))))) rfl ?_
      refine AW_iret hX hE dX6_count_82 rfl (Nat.le_refl _) (Nat.le_refl _) ?_
      have e : spCount (kp, yd, qk, pm, pg, (n, ks, ht, p, s, stp, fl, m, hd), w) (nI 1) = (ctA (kp, yd, qk, pm, pg, (n, ks, ht, p, s, stp, fl, m, hd), w) 1, (kp, yd, qk, pm, pg, (n, ks, ht, p, s, stp, fl, m, hd), w)) := by
        show (cif _ _ _, _) = _
        rw [cif_pos ⟨1, by omega, rfl⟩, cN_nI (by omega)]
      rw [e] at hK
      exact hK h ⟨mp, ms, g⟩ (fr_rf _ _ _)
    · refine AW_tab (off := 82) 83 hX dX6_count_1 (by decide) (by decide) (by decide) (by decide) ?_
      refine AW_aload_n 84 hX dX6_count_83 rfl rfl ?_
      refine AW_get 87 hX dX6_count_84 rfl fl_X6_19 (by first | assumption | exact hset_eq | exact (hset_ne (by omega)).trans (by first | assumption | exact hset_eq | exact (hset_ne (by omega)).trans (by first | assumption | exact hset_eq | exact (hset_ne (by omega)).trans (by first | assumption | exact hset_eq | exact (hset_ne (by omega)).trans (by first | assumption | exact hset_eq))))) rfl ?_
      refine AW_get 90 hX dX6_count_87 rfl fl_X6_136 (by first | assumption | exact hset_eq | exact (hset_ne (by omega)).trans (by first | assumption | exact hset_eq | exact (hset_ne (by omega)).trans (by first | assumption | exact hset_eq | exact (hset_ne (by omega)).trans (by first | assumption | exact hset_eq | exact (hset_ne (by omega)).trans (by first | assumption | exact hset_eq))))) rfl ?_
      refine AW_iret hX hE dX6_count_90 rfl (Nat.le_refl _) (Nat.le_refl _) ?_
      have e : spCount (kp, yd, qk, pm, pg, (n, ks, ht, p, s, stp, fl, m, hd), w) (nI 2) = (ctA (kp, yd, qk, pm, pg, (n, ks, ht, p, s, stp, fl, m, hd), w) 2, (kp, yd, qk, pm, pg, (n, ks, ht, p, s, stp, fl, m, hd), w)) := by
        show (cif _ _ _, _) = _
        rw [cif_pos ⟨2, by omega, rfl⟩, cN_nI (by omega)]
      rw [e] at hK
      exact hK h ⟨mp, ms, g⟩ (fr_rf _ _ _)
    · refine AW_tab (off := 90) 91 hX dX6_count_1 (by decide) (by decide) (by decide) (by decide) ?_
      refine AW_aload_n 92 hX dX6_count_91 rfl rfl ?_
      refine AW_get 95 hX dX6_count_92 rfl fl_X6_19 (by first | assumption | exact hset_eq | exact (hset_ne (by omega)).trans (by first | assumption | exact hset_eq | exact (hset_ne (by omega)).trans (by first | assumption | exact hset_eq | exact (hset_ne (by omega)).trans (by first | assumption | exact hset_eq | exact (hset_ne (by omega)).trans (by first | assumption | exact hset_eq))))) rfl ?_
      refine AW_get 98 hX dX6_count_95 rfl fl_X6_145 (by first | assumption | exact hset_eq | exact (hset_ne (by omega)).trans (by first | assumption | exact hset_eq | exact (hset_ne (by omega)).trans (by first | assumption | exact hset_eq | exact (hset_ne (by omega)).trans (by first | assumption | exact hset_eq | exact (hset_ne (by omega)).trans (by first | assumption | exact hset_eq))))) rfl ?_
      refine AW_iret hX hE dX6_count_98 rfl (Nat.le_refl _) (Nat.le_refl _) ?_
      have e : spCount (kp, yd, qk, pm, pg, (n, ks, ht, p, s, stp, fl, m, hd), w) (nI 3) = (ctA (kp, yd, qk, pm, pg, (n, ks, ht, p, s, stp, fl, m, hd), w) 3, (kp, yd, qk, pm, pg, (n, ks, ht, p, s, stp, fl, m, hd), w)) := by
        show (cif _ _ _, _) = _
        rw [cif_pos ⟨3, by omega, rfl⟩, cN_nI (by omega)]
      rw [e] at hK
      exact hK h ⟨mp, ms, g⟩ (fr_rf _ _ _)
    · refine AW_tab (off := 98) 99 hX dX6_count_1 (by decide) (by decide) (by decide) (by decide) ?_
      refine AW_aload_n 100 hX dX6_count_99 rfl rfl ?_
      refine AW_get 103 hX dX6_count_100 rfl fl_X6_19 (by first | assumption | exact hset_eq | exact (hset_ne (by omega)).trans (by first | assumption | exact hset_eq | exact (hset_ne (by omega)).trans (by first | assumption | exact hset_eq | exact (hset_ne (by omega)).trans (by first | assumption | exact hset_eq | exact (hset_ne (by omega)).trans (by first | assumption | exact hset_eq))))) rfl ?_
      refine AW_get 106 hX dX6_count_103 rfl fl_X6_180 (by first | assumption | exact hset_eq | exact (hset_ne (by omega)).trans (by first | assumption | exact hset_eq | exact (hset_ne (by omega)).trans (by first | assumption | exact hset_eq | exact (hset_ne (by omega)).trans (by first | assumption | exact hset_eq | exact (hset_ne (by omega)).trans (by first | assumption | exact hset_eq))))) rfl ?_
      refine AW_iret hX hE dX6_count_106 rfl (Nat.le_refl _) (Nat.le_refl _) ?_
      have e : spCount (kp, yd, qk, pm, pg, (n, ks, ht, p, s, stp, fl, m, hd), w) (nI 4) = (ctA (kp, yd, qk, pm, pg, (n, ks, ht, p, s, stp, fl, m, hd), w) 4, (kp, yd, qk, pm, pg, (n, ks, ht, p, s, stp, fl, m, hd), w)) := by
        show (cif _ _ _, _) = _
        rw [cif_pos ⟨4, by omega, rfl⟩, cN_nI (by omega)]
      rw [e] at hK
      exact hK h ⟨mp, ms, g⟩ (fr_rf _ _ _)
    · refine AW_tab (off := 106) 107 hX dX6_count_1 (by decide) (by decide) (by decide) (by decide) ?_
      refine AW_aload_n 108 hX dX6_count_107 rfl rfl ?_
      refine AW_get 111 hX dX6_count_108 rfl fl_X6_19 (by first | assumption | exact hset_eq | exact (hset_ne (by omega)).trans (by first | assumption | exact hset_eq | exact (hset_ne (by omega)).trans (by first | assumption | exact hset_eq | exact (hset_ne (by omega)).trans (by first | assumption | exact hset_eq | exact (hset_ne (by omega)).trans (by first | assumption | exact hset_eq))))) rfl ?_
      refine AW_get 114 hX dX6_count_111 rfl fl_X6_177 (by first | assumption | exact hset_eq | exact (hset_ne (by omega)).trans (by first | assumption | exact hset_eq | exact (hset_ne (by omega)).trans (by first | assumption | exact hset_eq | exact (hset_ne (by omega)).trans (by first | assumption | exact hset_eq | exact (hset_ne (by omega)).trans (by first | assumption | exact hset_eq))))) rfl ?_
      refine AW_iret hX hE dX6_count_114 rfl (Nat.le_refl _) (Nat.le_refl _) ?_
      have e : spCount (kp, yd, qk, pm, pg, (n, ks, ht, p, s, stp, fl, m, hd), w) (nI 5) = (ctA (kp, yd, qk, pm, pg, (n, ks, ht, p, s, stp, fl, m, hd), w) 5, (kp, yd, qk, pm, pg, (n, ks, ht, p, s, stp, fl, m, hd), w)) := by
        show (cif _ _ _, _) = _
        rw [cif_pos ⟨5, by omega, rfl⟩, cN_nI (by omega)]
      rw [e] at hK
      exact hK h ⟨mp, ms, g⟩ (fr_rf _ _ _)
    · refine AW_tab (off := 114) 115 hX dX6_count_1 (by decide) (by decide) (by decide) (by decide) ?_
      refine AW_aload_n 116 hX dX6_count_115 rfl rfl ?_
      refine AW_cV (As := []) 119 hX dX6_count_116 rfl ml_X6_124 mw_X6_hasYard (by first | assumption | exact hset_eq | exact (hset_ne (by omega)).trans (by first | assumption | exact hset_eq | exact (hset_ne (by omega)).trans (by first | assumption | exact hset_eq | exact (hset_ne (by omega)).trans (by first | assumption | exact hset_eq | exact (hset_ne (by omega)).trans (by first | assumption | exact hset_eq))))) (by decide) rfl rfl rfl (Nat.le_of_ble_eq_true rfl) (by decide) ⟨(Nat.le_refl _), (Nat.le_refl _)⟩ (C_hasYard g ok (fun hn => ?_) (fun hn => ?_))
      · refine AW_if_eq 122 135 hX dX6_count_119 rfl (by decide) (fun c119 => absurd c119 (by decide)) (fun c119 => ?_)
        refine AW_aload_n 123 hX dX6_count_122 rfl rfl ?_
        refine AW_get 126 hX dX6_count_123 rfl fl_X6_19 (by first | assumption | exact hset_eq | exact (hset_ne (by omega)).trans (by first | assumption | exact hset_eq | exact (hset_ne (by omega)).trans (by first | assumption | exact hset_eq | exact (hset_ne (by omega)).trans (by first | assumption | exact hset_eq | exact (hset_ne (by omega)).trans (by first | assumption | exact hset_eq))))) rfl ?_
        refine AW_get 129 hX dX6_count_126 rfl fl_X6_142 (by first | assumption | exact hset_eq | exact (hset_ne (by omega)).trans (by first | assumption | exact hset_eq | exact (hset_ne (by omega)).trans (by first | assumption | exact hset_eq | exact (hset_ne (by omega)).trans (by first | assumption | exact hset_eq | exact (hset_ne (by omega)).trans (by first | assumption | exact hset_eq))))) rfl ?_
        refine AW_cS (As := [_]) 132 hX dX6_count_129 rfl ml_X6_183 mw_X6_bearable rfl rfl (Nat.le_of_ble_eq_true rfl) (by decide) ⟨(Nat.le_refl _), (Nat.le_refl _)⟩ (c_bearable ht (by omega) ?_)
        refine AW_goto 136 hX dX6_count_132 (by decide) ?_
        refine AW_iret hX hE dX6_count_136 rfl (Nat.le_refl _) (Nat.le_refl _) ?_
        have e : spCount (kp, yd, qk, pm, pg, (n, ks, ht, p, s, stp, fl, m, hd), w) (nI 6) = (ctA (kp, yd, qk, pm, pg, (n, ks, ht, p, s, stp, fl, m, hd), w) 6, (kp, yd, qk, pm, pg, (n, ks, ht, p, s, stp, fl, m, hd), w)) := by
          show (cif _ _ _, _) = _
          rw [cif_pos ⟨6, by omega, rfl⟩, cN_nI (by omega)]
        rw [e] at hK
        rw [show ctA (kp, yd, qk, pm, pg, (n, ks, ht, p, s, stp, fl, m, hd), w) 6 = nI (12 - ht) from if_neg (by omega)] at hK
        exact hK h ⟨mp, ms, g⟩ (fr_rf _ _ _)
      · refine AW_if_eq 122 135 hX dX6_count_119 rfl (by decide) (fun c119 => ?_) (fun c119 => absurd rfl c119)
        refine AW_iconst 136 hX dX6_count_135 rfl ic_0 ?_
        refine AW_iret hX hE dX6_count_136 rfl (Nat.le_refl _) (Nat.le_refl _) ?_
        have e : spCount (kp, yd, qk, pm, pg, (n, ks, ht, p, s, stp, fl, m, hd), w) (nI 6) = (ctA (kp, yd, qk, pm, pg, (n, ks, ht, p, s, stp, fl, m, hd), w) 6, (kp, yd, qk, pm, pg, (n, ks, ht, p, s, stp, fl, m, hd), w)) := by
          show (cif _ _ _, _) = _
          rw [cif_pos ⟨6, by omega, rfl⟩, cN_nI (by omega)]
        rw [e] at hK
        rw [show ctA (kp, yd, qk, pm, pg, (n, ks, ht, p, s, stp, fl, m, hd), w) 6 = 0 from if_pos hn] at hK
        exact hK h ⟨mp, ms, g⟩ (fr_rf _ _ _)
    · refine AW_tab (off := 136) 137 hX dX6_count_1 (by decide) (by decide) (by decide) (by decide) ?_
      refine AW_aload_n 138 hX dX6_count_137 rfl rfl ?_
      refine AW_get 141 hX dX6_count_138 rfl fl_X6_19 (by first | assumption | exact hset_eq | exact (hset_ne (by omega)).trans (by first | assumption | exact hset_eq | exact (hset_ne (by omega)).trans (by first | assumption | exact hset_eq | exact (hset_ne (by omega)).trans (by first | assumption | exact hset_eq | exact (hset_ne (by omega)).trans (by first | assumption | exact hset_eq))))) rfl ?_
      refine AW_get 144 hX dX6_count_141 rfl fl_X6_82 (by first | assumption | exact hset_eq | exact (hset_ne (by omega)).trans (by first | assumption | exact hset_eq | exact (hset_ne (by omega)).trans (by first | assumption | exact hset_eq | exact (hset_ne (by omega)).trans (by first | assumption | exact hset_eq | exact (hset_ne (by omega)).trans (by first | assumption | exact hset_eq))))) rfl ?_
      refine AW_cV (As := []) 147 hX dX6_count_144 rfl ml_X6_186 mw_X0_plainPlaces (by first | assumption | exact hset_eq | exact (hset_ne (by omega)).trans (by first | assumption | exact hset_eq | exact (hset_ne (by omega)).trans (by first | assumption | exact hset_eq | exact (hset_ne (by omega)).trans (by first | assumption | exact hset_eq | exact (hset_ne (by omega)).trans (by first | assumption | exact hset_eq))))) (by decide) rfl rfl rfl (Nat.le_of_ble_eq_true rfl) (by decide) ⟨(Nat.le_refl _), (Nat.le_refl _)⟩ (c_plainPlaces hgr ?_)
      refine AW_iret hX hE dX6_count_147 rfl (Nat.le_refl _) (Nat.le_refl _) ?_
      have e : spCount (kp, yd, qk, pm, pg, (n, ks, ht, p, s, stp, fl, m, hd), w) (nI 7) = (ctA (kp, yd, qk, pm, pg, (n, ks, ht, p, s, stp, fl, m, hd), w) 7, (kp, yd, qk, pm, pg, (n, ks, ht, p, s, stp, fl, m, hd), w)) := by
        show (cif _ _ _, _) = _
        rw [cif_pos ⟨7, by omega, rfl⟩, cN_nI (by omega)]
      rw [e] at hK
      rw [cntP_eq hks]
      exact hK h ⟨mp, ms, g⟩ (fr_rf _ _ _)
    · refine AW_tab (off := 147) 148 hX dX6_count_1 (by decide) (by decide) (by decide) (by decide) ?_
      refine AW_aload_n 149 hX dX6_count_148 rfl rfl ?_
      refine AW_get 152 hX dX6_count_149 rfl fl_X6_19 (by first | assumption | exact hset_eq | exact (hset_ne (by omega)).trans (by first | assumption | exact hset_eq | exact (hset_ne (by omega)).trans (by first | assumption | exact hset_eq | exact (hset_ne (by omega)).trans (by first | assumption | exact hset_eq | exact (hset_ne (by omega)).trans (by first | assumption | exact hset_eq))))) rfl ?_
      refine AW_get 155 hX dX6_count_152 rfl fl_X6_100 (by first | assumption | exact hset_eq | exact (hset_ne (by omega)).trans (by first | assumption | exact hset_eq | exact (hset_ne (by omega)).trans (by first | assumption | exact hset_eq | exact (hset_ne (by omega)).trans (by first | assumption | exact hset_eq | exact (hset_ne (by omega)).trans (by first | assumption | exact hset_eq))))) rfl ?_
      refine AW_cV (As := []) 158 hX dX6_count_155 rfl ml_X6_164 mw_X1_size (by first | assumption | exact hset_eq | exact (hset_ne (by omega)).trans (by first | assumption | exact hset_eq | exact (hset_ne (by omega)).trans (by first | assumption | exact hset_eq | exact (hset_ne (by omega)).trans (by first | assumption | exact hset_eq | exact (hset_ne (by omega)).trans (by first | assumption | exact hset_eq))))) (by decide) rfl rfl rfl (Nat.le_of_ble_eq_true rfl) (by decide) ⟨(Nat.le_refl _), (Nat.le_refl _)⟩ (c_hsize hhe ?_)
      refine AW_iret hX hE dX6_count_158 rfl (Nat.le_refl _) (Nat.le_refl _) ?_
      have e : spCount (kp, yd, qk, pm, pg, (n, ks, ht, p, s, stp, fl, m, hd), w) (nI 8) = (ctA (kp, yd, qk, pm, pg, (n, ks, ht, p, s, stp, fl, m, hd), w) 8, (kp, yd, qk, pm, pg, (n, ks, ht, p, s, stp, fl, m, hd), w)) := by
        show (cif _ _ _, _) = _
        rw [cif_pos ⟨8, by omega, rfl⟩, cN_nI (by omega)]
      rw [e] at hK
      exact hK h ⟨mp, ms, g⟩ (fr_rf _ _ _)
    · refine AW_tab (off := 158) 159 hX dX6_count_1 (by decide) (by decide) (by decide) (by decide) ?_
      refine AW_aload_n 160 hX dX6_count_159 rfl rfl ?_
      refine AW_get 163 hX dX6_count_160 rfl fl_X6_10 (by first | assumption | exact hset_eq | exact (hset_ne (by omega)).trans (by first | assumption | exact hset_eq | exact (hset_ne (by omega)).trans (by first | assumption | exact hset_eq | exact (hset_ne (by omega)).trans (by first | assumption | exact hset_eq | exact (hset_ne (by omega)).trans (by first | assumption | exact hset_eq))))) rfl ?_
      refine AW_cV (As := []) 166 hX dX6_count_163 rfl ml_X6_64 mw_X3_size (by first | assumption | exact hset_eq | exact (hset_ne (by omega)).trans (by first | assumption | exact hset_eq | exact (hset_ne (by omega)).trans (by first | assumption | exact hset_eq | exact (hset_ne (by omega)).trans (by first | assumption | exact hset_eq | exact (hset_ne (by omega)).trans (by first | assumption | exact hset_eq))))) (by decide) rfl rfl rfl (Nat.le_of_ble_eq_true rfl) (by decide) ⟨(Nat.le_refl _), (Nat.le_refl _)⟩ (c_psize hpg ?_)
      refine AW_iret hX hE dX6_count_166 rfl (Nat.le_refl _) (Nat.le_refl _) ?_
      have e : spCount (kp, yd, qk, pm, pg, (n, ks, ht, p, s, stp, fl, m, hd), w) (nI 9) = (ctA (kp, yd, qk, pm, pg, (n, ks, ht, p, s, stp, fl, m, hd), w) 9, (kp, yd, qk, pm, pg, (n, ks, ht, p, s, stp, fl, m, hd), w)) := by
        show (cif _ _ _, _) = _
        rw [cif_pos ⟨9, by omega, rfl⟩, cN_nI (by omega)]
      rw [e] at hK
      exact hK h ⟨mp, ms, g⟩ (fr_rf _ _ _)
    · refine AW_tab (off := 166) 167 hX dX6_count_1 (by decide) (by decide) (by decide) (by decide) ?_
      refine AW_aload_n 168 hX dX6_count_167 rfl rfl ?_
      refine AW_get 171 hX dX6_count_168 rfl fl_X6_47 (by first | assumption | exact hset_eq | exact (hset_ne (by omega)).trans (by first | assumption | exact hset_eq | exact (hset_ne (by omega)).trans (by first | assumption | exact hset_eq | exact (hset_ne (by omega)).trans (by first | assumption | exact hset_eq | exact (hset_ne (by omega)).trans (by first | assumption | exact hset_eq))))) rfl ?_
      refine AW_iret hX hE dX6_count_171 rfl (Nat.le_refl _) (Nat.le_refl _) ?_
      have e : spCount (kp, yd, qk, pm, pg, (n, ks, ht, p, s, stp, fl, m, hd), w) (nI 10) = (ctA (kp, yd, qk, pm, pg, (n, ks, ht, p, s, stp, fl, m, hd), w) 10, (kp, yd, qk, pm, pg, (n, ks, ht, p, s, stp, fl, m, hd), w)) := by
        show (cif _ _ _, _) = _
        rw [cif_pos ⟨10, by omega, rfl⟩, cN_nI (by omega)]
      rw [e] at hK
      exact hK h ⟨mp, ms, g⟩ (fr_rf _ _ _)
    · refine AW_tab (off := 171) 172 hX dX6_count_1 (by decide) (by decide) (by decide) (by decide) ?_
      refine AW_aload_n 173 hX dX6_count_172 rfl rfl ?_
      refine AW_get 176 hX dX6_count_173 rfl fl_X6_51 (by first | assumption | exact hset_eq | exact (hset_ne (by omega)).trans (by first | assumption | exact hset_eq | exact (hset_ne (by omega)).trans (by first | assumption | exact hset_eq | exact (hset_ne (by omega)).trans (by first | assumption | exact hset_eq | exact (hset_ne (by omega)).trans (by first | assumption | exact hset_eq))))) rfl ?_
      refine AW_iret hX hE dX6_count_176 rfl (Nat.le_refl _) (Nat.le_refl _) ?_
      have e : spCount (kp, yd, qk, pm, pg, (n, ks, ht, p, s, stp, fl, m, hd), w) (nI 11) = (ctA (kp, yd, qk, pm, pg, (n, ks, ht, p, s, stp, fl, m, hd), w) 11, (kp, yd, qk, pm, pg, (n, ks, ht, p, s, stp, fl, m, hd), w)) := by
        show (cif _ _ _, _) = _
        rw [cif_pos ⟨11, by omega, rfl⟩, cN_nI (by omega)]
      rw [e] at hK
      exact hK h ⟨mp, ms, g⟩ (fr_rf _ _ _)
  · refine AW_iload_n 1 hX dX6_count_0 rfl rfl ?_
    refine AW_tabO 177 hX dX6_count_1 ?_ (by decide) ?_
    · rcases Int.lt_or_le x.toInt 0 with q | q
      · exact Or.inl q
      · refine Or.inr ?_
        rcases Int.lt_or_le 11 x.toInt with r | r
        · exact r
        · exact absurd ⟨x.toInt.toNat, by omega, Int32.toInt_inj.mp (by rw [nI_toInt (by omega)]; omega)⟩ hx
    refine AW_bipush 179 hX dX6_count_177 rfl bp_m102 ?_
    refine AW_iret hX hE dX6_count_179 rfl (Nat.le_refl _) (Nat.le_refl _) ?_
    have e : spCount (kp, yd, qk, pm, pg, (n, ks, ht, p, s, stp, fl, m, hd), w) x = (-102, (kp, yd, qk, pm, pg, (n, ks, ht, p, s, stp, fl, m, hd), w)) := by
      show (cif _ _ _, _) = _
      rw [cif_neg hx]
    rw [e] at hK
    exact hK h ⟨mp, ms, g⟩ (fr_rf _ _ _)
set_option maxRecDepth 100000 in
set_option maxHeartbeats 4000000 in
theorem C_would0 {h : AH} {K : Option Value → AH → Prop} {kp yd qk pm n ht p s : Nat} {pg ks : Nat → Nat} {stp fl : Int32} {m : Nat} {hd : HD} {w : SV} {mp ms : Int32} (g : CJ h (kp, yd, qk, pm, pg, (n, ks, ht, p, s, stp, fl, m, hd), w) mp ms) (ok : Sok (kp, yd, qk, pm, pg, (n, ks, ht, p, s, stp, fl, m, hd), w)) (hn : 0 < n) (hK : K (some (.int (nI (sa (ks p) s 0)))) h) : aX6_would 3 [.ref 0, .int 0] h K := by
  obtain ⟨h0, hpg, hsc, ⟨u, hk, hku⟩, ⟨u2, hrc⟩, ⟨nm, fm, hme⟩, hro⟩ := id g
  obtain ⟨h3, ⟨f, hgr, hks⟩, hhe⟩ := id hsc
  obtain ⟨⟨ok1, ok2, ok3, ok4, ok5, ok6, ok7, ok8⟩, okp, okw, okq, okpm, okpg, oky⟩ := id ok
  have h1 := hpg.1
  have h4 := hgr.1
  have h6 := hhe.1
  have h29 : ∃ a, h 29 = some (.inl (3, a)) := by
    obtain ⟨x, y, q1, q2, q3, q4, a0, -⟩ := hro
    exact ⟨_, a0⟩
  obtain ⟨l29, h29⟩ := h29
  unfold yO at h0
  have hpn := ok7 hn
  refine AM.of [some (.ref 0), some (.int 0), none] pn_X6_would rfl (Nat.le_of_ble_eq_true rfl) (fun X hX hE => ?_)
  refine AW_aload_n 1 hX dX6_would_0 rfl rfl ?_
  refine AW_iload_n 2 hX dX6_would_1 rfl rfl ?_
  refine AW_cV (As := [_]) 5 hX dX6_would_2 rfl ml_X6_130 mw_X6_refusalOfStep (by first | assumption | exact hset_eq | exact (hset_ne (by omega)).trans (by first | assumption | exact hset_eq | exact (hset_ne (by omega)).trans (by first | assumption | exact hset_eq | exact (hset_ne (by omega)).trans (by first | assumption | exact hset_eq | exact (hset_ne (by omega)).trans (by first | assumption | exact hset_eq))))) (by decide) rfl rfl rfl (Nat.le_of_ble_eq_true rfl) (by decide) ⟨(Nat.le_refl _), (Nat.le_refl _)⟩ (C_refusal g ok 0 (fun hno => absurd ⟨0, by omega, rfl⟩ hno) (fun far hf ef hno => absurd (show p + far < n by have : far = 0 := (iEq (a := 0) ef).symm; omega) hno) (fun far hf ef hy => ?_))
  refine AW_istore_n 6 hX dX6_would_5 rfl (Nat.le_of_ble_eq_true rfl) rfl ?_
  refine AW_iload_n 7 hX dX6_would_6 rfl rfl ?_
  refine AW_if_eq 10 14 hX dX6_would_7 rfl (by decide) (fun c7 => ?_) (fun c7 => absurd rfl c7)
  refine AW_aload_n 15 hX dX6_would_14 rfl rfl ?_
  refine AW_get 18 hX dX6_would_15 rfl fl_X6_19 (by first | assumption | exact hset_eq | exact (hset_ne (by omega)).trans (by first | assumption | exact hset_eq | exact (hset_ne (by omega)).trans (by first | assumption | exact hset_eq | exact (hset_ne (by omega)).trans (by first | assumption | exact hset_eq | exact (hset_ne (by omega)).trans (by first | assumption | exact hset_eq))))) rfl ?_
  refine AW_iload_n 19 hX dX6_would_18 rfl rfl ?_
  refine AW_cV (As := [_]) 22 hX dX6_would_19 rfl ml_X6_139 mw_X5_swayBy (by first | assumption | exact hset_eq | exact (hset_ne (by omega)).trans (by first | assumption | exact hset_eq | exact (hset_ne (by omega)).trans (by first | assumption | exact hset_eq | exact (hset_ne (by omega)).trans (by first | assumption | exact hset_eq | exact (hset_ne (by omega)).trans (by first | assumption | exact hset_eq))))) (by decide) rfl rfl rfl (Nat.le_of_ble_eq_true rfl) (by decide) ⟨(Nat.le_refl _), (Nat.le_refl _)⟩ (c_sswayBy hsc ok2 (by omega) 0 (by omega) (by omega) ?_)
  refine AW_iret hX hE dX6_would_22 rfl (Nat.le_refl _) (Nat.le_refl _) ?_
  exact hK
set_option maxRecDepth 100000 in
set_option maxHeartbeats 4000000 in
theorem C_heights1 {h : AH} {K : Option Value → AH → Prop} {kp yd qk pm n ht p s : Nat} {pg ks : Nat → Nat} {stp fl : Int32} {m : Nat} {hd : HD} {w : SV} {mp ms : Int32} (g : CJ h (kp, yd, qk, pm, pg, (n, ks, ht, p, s, stp, fl, m, hd), w) mp ms) (ok : Sok (kp, yd, qk, pm, pg, (n, ks, ht, p, s, stp, fl, m, hd), w)) (hn : 0 < n) (hK : K (some (.int (hB ks hd m))) h) : aX6_heights 4 [.ref 0] h K := by
  obtain ⟨h0, hpg, hsc, ⟨u, hk, hku⟩, ⟨u2, hrc⟩, ⟨nm, fm, hme⟩, hro⟩ := id g
  obtain ⟨h3, ⟨f, hgr, hks⟩, hhe⟩ := id hsc
  obtain ⟨⟨ok1, ok2, ok3, ok4, ok5, ok6, ok7, ok8⟩, okp, okw, okq, okpm, okpg, oky⟩ := id ok
  have h1 := hpg.1
  have h4 := hgr.1
  have h6 := hhe.1
  have h29 : ∃ a, h 29 = some (.inl (3, a)) := by
    obtain ⟨x, y, q1, q2, q3, q4, a0, -⟩ := hro
    exact ⟨_, a0⟩
  obtain ⟨l29, h29⟩ := h29
  unfold yO at h0
  refine AM.of [some (.ref 0)] pn_X6_heights rfl (Nat.le_of_ble_eq_true rfl) (fun X hX hE => ?_)
  refine AW_aload_n 1 hX dX6_heights_0 rfl rfl ?_
  refine AW_cV (As := []) 4 hX dX6_heights_1 rfl ml_X6_124 mw_X6_hasYard (by first | assumption | exact hset_eq | exact (hset_ne (by omega)).trans (by first | assumption | exact hset_eq | exact (hset_ne (by omega)).trans (by first | assumption | exact hset_eq | exact (hset_ne (by omega)).trans (by first | assumption | exact hset_eq | exact (hset_ne (by omega)).trans (by first | assumption | exact hset_eq))))) (by decide) rfl rfl rfl (Nat.le_of_ble_eq_true rfl) (by decide) ⟨(Nat.le_refl _), (Nat.le_refl _)⟩ (C_hasYard g ok (fun _ => ?_) (fun hn0 => by omega))
  refine AW_if_eq 7 27 hX dX6_heights_4 rfl (by decide) (fun c4 => absurd c4 (by decide)) (fun c4 => ?_)
  refine AW_aload_n 8 hX dX6_heights_7 rfl rfl ?_
  refine AW_get 11 hX dX6_heights_8 rfl fl_X6_19 (by first | assumption | exact hset_eq | exact (hset_ne (by omega)).trans (by first | assumption | exact hset_eq | exact (hset_ne (by omega)).trans (by first | assumption | exact hset_eq | exact (hset_ne (by omega)).trans (by first | assumption | exact hset_eq | exact (hset_ne (by omega)).trans (by first | assumption | exact hset_eq))))) rfl ?_
  refine AW_get 14 hX dX6_heights_11 rfl fl_X6_100 (by first | assumption | exact hset_eq | exact (hset_ne (by omega)).trans (by first | assumption | exact hset_eq | exact (hset_ne (by omega)).trans (by first | assumption | exact hset_eq | exact (hset_ne (by omega)).trans (by first | assumption | exact hset_eq | exact (hset_ne (by omega)).trans (by first | assumption | exact hset_eq))))) rfl ?_
  refine AW_aload_n 15 hX dX6_heights_14 rfl rfl ?_
  refine AW_get 18 hX dX6_heights_15 rfl fl_X6_19 (by first | assumption | exact hset_eq | exact (hset_ne (by omega)).trans (by first | assumption | exact hset_eq | exact (hset_ne (by omega)).trans (by first | assumption | exact hset_eq | exact (hset_ne (by omega)).trans (by first | assumption | exact hset_eq | exact (hset_ne (by omega)).trans (by first | assumption | exact hset_eq))))) rfl ?_
  refine AW_get 21 hX dX6_heights_18 rfl fl_X6_82 (by first | assumption | exact hset_eq | exact (hset_ne (by omega)).trans (by first | assumption | exact hset_eq | exact (hset_ne (by omega)).trans (by first | assumption | exact hset_eq | exact (hset_ne (by omega)).trans (by first | assumption | exact hset_eq | exact (hset_ne (by omega)).trans (by first | assumption | exact hset_eq))))) rfl ?_
  refine AW_cV (As := [_]) 24 hX dX6_heights_21 rfl ml_X6_166 mw_X1_heightBits (by first | assumption | exact hset_eq | exact (hset_ne (by omega)).trans (by first | assumption | exact hset_eq | exact (hset_ne (by omega)).trans (by first | assumption | exact hset_eq | exact (hset_ne (by omega)).trans (by first | assumption | exact hset_eq | exact (hset_ne (by omega)).trans (by first | assumption | exact hset_eq))))) (by decide) rfl rfl rfl (Nat.le_of_ble_eq_true rfl) (by decide) ⟨(Nat.le_refl _), (Nat.le_refl _)⟩ (c_heightBits hgr hks ok2 hhe ok5 ?_)
  refine AW_goto 29 hX dX6_heights_24 (by decide) ?_
  refine AW_iret hX hE dX6_heights_29 rfl (Nat.le_refl _) (Nat.le_refl _) ?_
  exact hK
set_option maxRecDepth 100000 in
set_option maxHeartbeats 4000000 in
theorem C_about1 {h : AH} {K : Option Value → AH → Prop} {kp yd qk pm n ht p s : Nat} {pg ks : Nat → Nat} {stp fl : Int32} {m : Nat} {hd : HD} {w : SV} {mp ms : Int32} (g : CJ h (kp, yd, qk, pm, pg, (n, ks, ht, p, s, stp, fl, m, hd), w) mp ms) (ok : Sok (kp, yd, qk, pm, pg, (n, ks, ht, p, s, stp, fl, m, hd), w)) {q k : Nat} (hq : q < n) (hk6 : k < 6) (hK : K (some (.int (ab ks hd m q k))) h) : aX6_about 5 [.ref 0, .int (nI q), .int (nI k)] h K := by
  obtain ⟨h0, hpg, hsc, ⟨u, hk, hku⟩, ⟨u2, hrc⟩, ⟨nm, fm, hme⟩, hro⟩ := id g
  obtain ⟨h3, ⟨f, hgr, hks⟩, hhe⟩ := id hsc
  obtain ⟨⟨ok1, ok2, ok3, ok4, ok5, ok6, ok7, ok8⟩, okp, okw, okq, okpm, okpg, oky⟩ := id ok
  have h1 := hpg.1
  have h4 := hgr.1
  have h6 := hhe.1
  have h29 : ∃ a, h 29 = some (.inl (3, a)) := by
    obtain ⟨x, y, q1, q2, q3, q4, a0, -⟩ := hro
    exact ⟨_, a0⟩
  obtain ⟨l29, h29⟩ := h29
  unfold yO at h0
  refine AM.of [some (.ref 0), some (.int (nI q)), some (.int (nI k)), none] pn_X6_about rfl (Nat.le_of_ble_eq_true rfl) (fun X hX hE => ?_)
  refine AW_aload_n 1 hX dX6_about_0 rfl rfl ?_
  refine AW_get 4 hX dX6_about_1 rfl fl_X6_19 (by first | assumption | exact hset_eq | exact (hset_ne (by omega)).trans (by first | assumption | exact hset_eq | exact (hset_ne (by omega)).trans (by first | assumption | exact hset_eq | exact (hset_ne (by omega)).trans (by first | assumption | exact hset_eq | exact (hset_ne (by omega)).trans (by first | assumption | exact hset_eq))))) rfl ?_
  refine AW_get 7 hX dX6_about_4 rfl fl_X6_82 (by first | assumption | exact hset_eq | exact (hset_ne (by omega)).trans (by first | assumption | exact hset_eq | exact (hset_ne (by omega)).trans (by first | assumption | exact hset_eq | exact (hset_ne (by omega)).trans (by first | assumption | exact hset_eq | exact (hset_ne (by omega)).trans (by first | assumption | exact hset_eq))))) rfl ?_
  refine AW_iload_n 8 hX dX6_about_7 rfl rfl ?_
  refine AW_cV (As := [_]) 11 hX dX6_about_8 rfl ml_X6_88 mw_X0_has (by first | assumption | exact hset_eq | exact (hset_ne (by omega)).trans (by first | assumption | exact hset_eq | exact (hset_ne (by omega)).trans (by first | assumption | exact hset_eq | exact (hset_ne (by omega)).trans (by first | assumption | exact hset_eq | exact (hset_ne (by omega)).trans (by first | assumption | exact hset_eq))))) (by decide) rfl rfl rfl (Nat.le_of_ble_eq_true rfl) (by decide) ⟨(Nat.le_refl _), (Nat.le_refl _)⟩ (c_has hgr (nI q) (fun q2 hq2 eq2 => ?_) (fun hno => absurd rfl (hno q hq)))
  refine AW_if_ne 14 17 hX dX6_about_11 rfl (by decide) (fun c11 => ?_) (fun c11 => absurd c11 (by decide))
  refine AW_iload_n 18 hX dX6_about_17 rfl rfl ?_
  refine AW_if_lt 21 27 hX dX6_about_18 rfl (by decide) (fun c18 => absurd c18 (nI_pos (by omega))) (fun c18 => ?_)
  refine AW_iload_n 22 hX dX6_about_21 rfl rfl ?_
  refine AW_bipush 24 hX dX6_about_22 rfl bp_6 ?_
  refine AW_icmp_lt 27 30 hX dX6_about_24 rfl (by decide) (fun c24 => ?_) (fun c24 => absurd (nI_lt (a := k) (b := 6) hk6 (by decide)) c24)
  refine AW_aload_n 31 hX dX6_about_30 rfl rfl ?_
  refine AW_get 34 hX dX6_about_31 rfl fl_X6_19 (by first | assumption | exact hset_eq | exact (hset_ne (by omega)).trans (by first | assumption | exact hset_eq | exact (hset_ne (by omega)).trans (by first | assumption | exact hset_eq | exact (hset_ne (by omega)).trans (by first | assumption | exact hset_eq | exact (hset_ne (by omega)).trans (by first | assumption | exact hset_eq))))) rfl ?_
  refine AW_get 37 hX dX6_about_34 rfl fl_X6_82 (by first | assumption | exact hset_eq | exact (hset_ne (by omega)).trans (by first | assumption | exact hset_eq | exact (hset_ne (by omega)).trans (by first | assumption | exact hset_eq | exact (hset_ne (by omega)).trans (by first | assumption | exact hset_eq | exact (hset_ne (by omega)).trans (by first | assumption | exact hset_eq))))) rfl ?_
  refine AW_iload_n 38 hX dX6_about_37 rfl rfl ?_
  refine AW_cV (As := [_]) 41 hX dX6_about_38 rfl ml_X6_91 mw_X0_kindAt (by first | assumption | exact hset_eq | exact (hset_ne (by omega)).trans (by first | assumption | exact hset_eq | exact (hset_ne (by omega)).trans (by first | assumption | exact hset_eq | exact (hset_ne (by omega)).trans (by first | assumption | exact hset_eq | exact (hset_ne (by omega)).trans (by first | assumption | exact hset_eq))))) (by decide) rfl rfl rfl (Nat.le_of_ble_eq_true rfl) (by decide) ⟨(Nat.le_refl _), (Nat.le_refl _)⟩ (c_kindAt hgr hq ?_)
  rw [hks q hq]
  refine AW_istore_n 42 hX dX6_about_41 rfl (Nat.le_of_ble_eq_true rfl) rfl ?_
  refine AW_iload_n 43 hX dX6_about_42 rfl rfl ?_
  rcases (show k = 0 ∨ k = 1 ∨ k = 2 ∨ k = 3 ∨ k = 4 ∨ k = 5 by omega) with rfl | rfl | rfl | rfl | rfl | rfl
  · refine AW_look (off := 33) 76 hX dX6_about_43 (by decide) (by decide) (by decide) ?_
    refine AW_iload_n 77 hX dX6_about_76 rfl rfl ?_
    refine AW_iret hX hE dX6_about_77 rfl (Nat.le_refl _) (Nat.le_refl _) ?_
    exact hK
  · refine AW_look (off := 61) 104 hX dX6_about_43 (by decide) (by decide) (by decide) ?_
    refine AW_iload_n 105 hX dX6_about_104 rfl rfl ?_
    refine AW_iload_n 106 hX dX6_about_105 rfl rfl ?_
    refine AW_cS (As := [_, _]) 109 hX dX6_about_106 rfl ml_X6_110 mw_X2_growth rfl rfl (Nat.le_of_ble_eq_true rfl) (by decide) ⟨(Nat.le_refl _), (Nat.le_refl _)⟩ (c_growth (ks q) _ (ok2 q hq) ?_)
    refine AW_iret hX hE dX6_about_109 rfl (Nat.le_refl _) (Nat.le_refl _) ?_
    exact hK
  · refine AW_look (off := 61) 104 hX dX6_about_43 (by decide) (by decide) (by decide) ?_
    refine AW_iload_n 105 hX dX6_about_104 rfl rfl ?_
    refine AW_iload_n 106 hX dX6_about_105 rfl rfl ?_
    refine AW_cS (As := [_, _]) 109 hX dX6_about_106 rfl ml_X6_110 mw_X2_growth rfl rfl (Nat.le_of_ble_eq_true rfl) (by decide) ⟨(Nat.le_refl _), (Nat.le_refl _)⟩ (c_growth (ks q) _ (ok2 q hq) ?_)
    refine AW_iret hX hE dX6_about_109 rfl (Nat.le_refl _) (Nat.le_refl _) ?_
    exact hK
  · refine AW_look (off := 61) 104 hX dX6_about_43 (by decide) (by decide) (by decide) ?_
    refine AW_iload_n 105 hX dX6_about_104 rfl rfl ?_
    refine AW_iload_n 106 hX dX6_about_105 rfl rfl ?_
    refine AW_cS (As := [_, _]) 109 hX dX6_about_106 rfl ml_X6_110 mw_X2_growth rfl rfl (Nat.le_of_ble_eq_true rfl) (by decide) ⟨(Nat.le_refl _), (Nat.le_refl _)⟩ (c_growth (ks q) _ (ok2 q hq) ?_)
    refine AW_iret hX hE dX6_about_109 rfl (Nat.le_refl _) (Nat.le_refl _) ?_
    exact hK
  · refine AW_look (off := 35) 78 hX dX6_about_43 (by decide) (by decide) (by decide) ?_
    refine AW_iload_n 79 hX dX6_about_78 rfl rfl ?_
    refine AW_cS (As := [_]) 82 hX dX6_about_79 rfl ml_X6_95 mw_X2_onSpot rfl rfl (Nat.le_of_ble_eq_true rfl) (by decide) ⟨(Nat.le_refl _), (Nat.le_refl _)⟩ (c_onSpot _ (ok2 q hq) ?_)
    refine AW_iconst 83 hX dX6_about_82 rfl ic_2 ?_
    refine AW_iadd 84 hX dX6_about_83 rfl ?_
    refine AW_iret hX hE dX6_about_84 rfl (Nat.le_refl _) (Nat.le_refl _) ?_
    exact hK
  · refine AW_look (off := 42) 85 hX dX6_about_43 (by decide) (by decide) (by decide) ?_
    refine AW_aload_n 86 hX dX6_about_85 rfl rfl ?_
    refine AW_get 89 hX dX6_about_86 rfl fl_X6_19 (by first | assumption | exact hset_eq | exact (hset_ne (by omega)).trans (by first | assumption | exact hset_eq | exact (hset_ne (by omega)).trans (by first | assumption | exact hset_eq | exact (hset_ne (by omega)).trans (by first | assumption | exact hset_eq | exact (hset_ne (by omega)).trans (by first | assumption | exact hset_eq))))) rfl ?_
    refine AW_get 92 hX dX6_about_89 rfl fl_X6_100 (by first | assumption | exact hset_eq | exact (hset_ne (by omega)).trans (by first | assumption | exact hset_eq | exact (hset_ne (by omega)).trans (by first | assumption | exact hset_eq | exact (hset_ne (by omega)).trans (by first | assumption | exact hset_eq | exact (hset_ne (by omega)).trans (by first | assumption | exact hset_eq))))) rfl ?_
    refine AW_aload_n 93 hX dX6_about_92 rfl rfl ?_
    refine AW_get 96 hX dX6_about_93 rfl fl_X6_19 (by first | assumption | exact hset_eq | exact (hset_ne (by omega)).trans (by first | assumption | exact hset_eq | exact (hset_ne (by omega)).trans (by first | assumption | exact hset_eq | exact (hset_ne (by omega)).trans (by first | assumption | exact hset_eq | exact (hset_ne (by omega)).trans (by first | assumption | exact hset_eq))))) rfl ?_
    refine AW_get 99 hX dX6_about_96 rfl fl_X6_82 (by first | assumption | exact hset_eq | exact (hset_ne (by omega)).trans (by first | assumption | exact hset_eq | exact (hset_ne (by omega)).trans (by first | assumption | exact hset_eq | exact (hset_ne (by omega)).trans (by first | assumption | exact hset_eq | exact (hset_ne (by omega)).trans (by first | assumption | exact hset_eq))))) rfl ?_
    refine AW_iload_n 100 hX dX6_about_99 rfl rfl ?_
    refine AW_cV (As := [_, _]) 103 hX dX6_about_100 rfl ml_X6_104 mw_X1_bestTry (by first | assumption | exact hset_eq | exact (hset_ne (by omega)).trans (by first | assumption | exact hset_eq | exact (hset_ne (by omega)).trans (by first | assumption | exact hset_eq | exact (hset_ne (by omega)).trans (by first | assumption | exact hset_eq | exact (hset_ne (by omega)).trans (by first | assumption | exact hset_eq))))) (by decide) rfl rfl rfl (Nat.le_of_ble_eq_true rfl) (by decide) ⟨(Nat.le_refl _), (Nat.le_refl _)⟩ (c_bestTry hgr hks ok2 hhe ok5 q hq ?_)
    refine AW_iret hX hE dX6_about_103 rfl (Nat.le_refl _) (Nat.le_refl _) ?_
    exact hK
set_option maxRecDepth 100000 in
set_option maxHeartbeats 4000000 in
theorem C_digest {h : AH} {K : Option Value → AH → Prop} {kp yd qk pm n ht p s : Nat} {pg ks : Nat → Nat} {stp fl : Int32} {m : Nat} {hd : HD} {w : SV} {mp ms : Int32} (g : CJ h (kp, yd, qk, pm, pg, (n, ks, ht, p, s, stp, fl, m, hd), w) mp ms) (ok : Sok (kp, yd, qk, pm, pg, (n, ks, ht, p, s, stp, fl, m, hd), w)) (hK : ∀ h' : AH, CI h' (kp, yd, qk, pm, pg, (n, ks, ht, p, s, stp, fl, m, hd), w) → fr h h' 0 34 → K (some (.long (dgA (kp, yd, qk, pm, pg, (n, ks, ht, p, s, stp, fl, m, hd), w)))) h') : aX6_digest 7 [.ref 0] h K := by
  obtain ⟨h0, hpg, hsc, ⟨u, hk, hku⟩, ⟨u2, hrc⟩, ⟨nm, fm, hme⟩, hro⟩ := id g
  obtain ⟨h3, ⟨f, hgr, hks⟩, hhe⟩ := id hsc
  obtain ⟨⟨ok1, ok2, ok3, ok4, ok5, ok6, ok7, ok8⟩, okp, okw, okq, okpm, okpg, oky⟩ := id ok
  have h1 := hpg.1
  have h4 := hgr.1
  have h6 := hhe.1
  have h29 : ∃ a, h 29 = some (.inl (3, a)) := by
    obtain ⟨x, y, q1, q2, q3, q4, a0, -⟩ := hro
    exact ⟨_, a0⟩
  obtain ⟨l29, h29⟩ := h29
  unfold yO at h0
  refine AM.of [some (.ref 0), none, none, none, none] pn_X6_digest rfl (Nat.le_of_ble_eq_true rfl) (fun X hX hE => ?_)
  -- the counts
  have cts : ∀ d i, i + d = 12 → ∀ (h' : AH) (mp' ms' : Int32) (z0 : Int64) (q : Option Value), CJ h' (kp, yd, qk, pm, pg, (n, ks, ht, p, s, stp, fl, m, hd), w) mp' ms' → fr h h' 0 34 → dgC (kp, yd, qk, pm, pg, (n, ks, ht, p, s, stp, fl, m, hd), w) z0 12 = dgA (kp, yd, qk, pm, pg, (n, ks, ht, p, s, stp, fl, m, hd), w) → AW X 0 0 166 [some (.ref 0), some (.long (dgC (kp, yd, qk, pm, pg, (n, ks, ht, p, s, stp, fl, m, hd), w) z0 i)), none, some (.int (nI i)), q] [] h' := by
    intro d
    induction d with
    | zero =>
      intro i hi h' mp' ms' z0 q g' hfr e
      refine AW_iload_n 167 hX dX6_digest_166 rfl rfl ?_
      refine AW_bipush 169 hX dX6_digest_167 rfl bp_12 ?_
      refine AW_icmp_ge 172 191 hX dX6_digest_169 rfl (by decide) (fun c169 => ?_) (fun c169 => absurd (nI_le (a := 12) (b := i) (by omega) (by omega)) c169)
      refine AW_lload_n 192 hX dX6_digest_191 rfl rfl ?_
      refine AW_lret hX hE dX6_digest_192 (Nat.le_refl _) (Nat.le_refl _) ?_
      rw [show i = 12 by omega, e]
      exact hK h' ⟨mp', ms', g'⟩ hfr
    | succ d ih =>
      intro i hi h' mp' ms' z0 q g' hfr e
      have h0' := g'.1
      unfold yO at h0'
      refine AW_iload_n 167 hX dX6_digest_166 rfl rfl ?_
      refine AW_bipush 169 hX dX6_digest_167 rfl bp_12 ?_
      refine AW_icmp_ge 172 191 hX dX6_digest_169 rfl (by decide) (fun c169 => absurd c169 (nI_ge (a := i) (b := 12) (by omega) (by decide))) (fun c169 => ?_)
      refine AW_ldc2 175 hX dX6_digest_172 rfl kc_X6_191 ?_
      refine AW_lload_n 176 hX dX6_digest_175 rfl rfl ?_
      refine AW_lmul 177 hX dX6_digest_176 rfl ?_
      refine AW_aload_n 178 hX dX6_digest_177 rfl rfl ?_
      refine AW_iload_n 179 hX dX6_digest_178 rfl rfl ?_
      refine AW_cV (As := [_]) 182 hX dX6_digest_179 rfl ml_X6_205 mw_X6_count (by first | assumption | exact hset_eq | exact (hset_ne (by omega)).trans (by first | assumption | exact hset_eq | exact (hset_ne (by omega)).trans (by first | assumption | exact hset_eq | exact (hset_ne (by omega)).trans (by first | assumption | exact hset_eq | exact (hset_ne (by omega)).trans (by first | assumption | exact hset_eq))))) (by decide) rfl rfl rfl (Nat.le_of_ble_eq_true rfl) (by decide) ⟨(Nat.le_refl _), (Nat.le_refl _)⟩ (C_count g' ok (nI i) (fun h2 ⟨mp2, ms2, g2⟩ hfr2 => ?_))
      rw [show (spCount (kp, yd, qk, pm, pg, (n, ks, ht, p, s, stp, fl, m, hd), w) (nI i)).1 = ctA (kp, yd, qk, pm, pg, (n, ks, ht, p, s, stp, fl, m, hd), w) i from by show cif _ _ _ = _; rw [cif_pos ⟨i, by omega, rfl⟩, cN_nI (by omega)]]
      refine AW_i2l 183 hX dX6_digest_182 rfl ?_
      refine AW_ladd 184 hX dX6_digest_183 rfl ?_
      refine AW_lstore_n 185 hX dX6_digest_184 rfl (Nat.le_of_ble_eq_true rfl) rfl ?_
      refine AW_iinc 188 hX dX6_digest_185 rfl rfl (iincp ic_1) (Nat.le_of_ble_eq_true rfl) rfl ?_
      refine AW_goto 166 hX dX6_digest_188 (by decide) ?_
      rw [nI_1]
      exact ih (i + 1) (by omega) h2 mp2 ms2 z0 q g2 (fr_tr hfr hfr2) e
  have lets : ∀ d i, i + d = pm → ∀ (h' : AH) (mp' ms' : Int32) (q : Option Value), CJ h' (kp, yd, qk, pm, pg, (n, ks, ht, p, s, stp, fl, m, hd), w) mp' ms' → fr h h' 0 34 → AW X 0 0 131 [some (.ref 0), some (.long (dgL pg (dgY (kp, yd, qk, pm, pg, (n, ks, ht, p, s, stp, fl, m, hd), w)) i)), none, some (.int (nI i)), q] [] h' := by
    intro d
    induction d with
    | zero =>
      intro i hi h' mp' ms' q g' hfr
      have h0' := g'.1
      unfold yO at h0'
      have hpg' := g'.2.1
      have h1' := hpg'.1
      refine AW_iload_n 132 hX dX6_digest_131 rfl rfl ?_
      refine AW_aload_n 133 hX dX6_digest_132 rfl rfl ?_
      refine AW_get 136 hX dX6_digest_133 rfl fl_X6_10 (by first | assumption | exact hset_eq | exact (hset_ne (by omega)).trans (by first | assumption | exact hset_eq | exact (hset_ne (by omega)).trans (by first | assumption | exact hset_eq | exact (hset_ne (by omega)).trans (by first | assumption | exact hset_eq | exact (hset_ne (by omega)).trans (by first | assumption | exact hset_eq))))) rfl ?_
      refine AW_cV (As := []) 139 hX dX6_digest_136 rfl ml_X6_64 mw_X3_size (by first | assumption | exact hset_eq | exact (hset_ne (by omega)).trans (by first | assumption | exact hset_eq | exact (hset_ne (by omega)).trans (by first | assumption | exact hset_eq | exact (hset_ne (by omega)).trans (by first | assumption | exact hset_eq | exact (hset_ne (by omega)).trans (by first | assumption | exact hset_eq))))) (by decide) rfl rfl rfl (Nat.le_of_ble_eq_true rfl) (by decide) ⟨(Nat.le_refl _), (Nat.le_refl _)⟩ (c_psize hpg' ?_)
      refine AW_icmp_ge 142 164 hX dX6_digest_139 rfl (by decide) (fun c139 => ?_) (fun c139 => absurd (nI_le (by omega) (by omega)) c139)
      refine AW_iconst 165 hX dX6_digest_164 rfl ic_0 ?_
      refine AW_istore_n 166 hX dX6_digest_165 rfl (Nat.le_of_ble_eq_true rfl) rfl ?_
      rw [show i = pm by omega]
      exact cts 12 0 (by omega) h' mp' ms' _ q g' hfr rfl
    | succ d ih =>
      intro i hi h' mp' ms' q g' hfr
      have h0' := g'.1
      unfold yO at h0'
      have hpg' := g'.2.1
      have h1' := hpg'.1
      refine AW_iload_n 132 hX dX6_digest_131 rfl rfl ?_
      refine AW_aload_n 133 hX dX6_digest_132 rfl rfl ?_
      refine AW_get 136 hX dX6_digest_133 rfl fl_X6_10 (by first | assumption | exact hset_eq | exact (hset_ne (by omega)).trans (by first | assumption | exact hset_eq | exact (hset_ne (by omega)).trans (by first | assumption | exact hset_eq | exact (hset_ne (by omega)).trans (by first | assumption | exact hset_eq | exact (hset_ne (by omega)).trans (by first | assumption | exact hset_eq))))) rfl ?_
      refine AW_cV (As := []) 139 hX dX6_digest_136 rfl ml_X6_64 mw_X3_size (by first | assumption | exact hset_eq | exact (hset_ne (by omega)).trans (by first | assumption | exact hset_eq | exact (hset_ne (by omega)).trans (by first | assumption | exact hset_eq | exact (hset_ne (by omega)).trans (by first | assumption | exact hset_eq | exact (hset_ne (by omega)).trans (by first | assumption | exact hset_eq))))) (by decide) rfl rfl rfl (Nat.le_of_ble_eq_true rfl) (by decide) ⟨(Nat.le_refl _), (Nat.le_refl _)⟩ (c_psize hpg' ?_)
      refine AW_icmp_ge 142 164 hX dX6_digest_139 rfl (by decide) (fun c139 => absurd c139 (nI_ge (by omega) (by omega))) (fun c139 => ?_)
      refine AW_ldc2 145 hX dX6_digest_142 rfl kc_X6_191 ?_
      refine AW_lload_n 146 hX dX6_digest_145 rfl rfl ?_
      refine AW_lmul 147 hX dX6_digest_146 rfl ?_
      refine AW_aload_n 148 hX dX6_digest_147 rfl rfl ?_
      refine AW_get 151 hX dX6_digest_148 rfl fl_X6_10 (by first | assumption | exact hset_eq | exact (hset_ne (by omega)).trans (by first | assumption | exact hset_eq | exact (hset_ne (by omega)).trans (by first | assumption | exact hset_eq | exact (hset_ne (by omega)).trans (by first | assumption | exact hset_eq | exact (hset_ne (by omega)).trans (by first | assumption | exact hset_eq))))) rfl ?_
      refine AW_iload_n 152 hX dX6_digest_151 rfl rfl ?_
      refine AW_cV (As := [_]) 155 hX dX6_digest_152 rfl ml_X6_202 mw_X3_codeAt (by first | assumption | exact hset_eq | exact (hset_ne (by omega)).trans (by first | assumption | exact hset_eq | exact (hset_ne (by omega)).trans (by first | assumption | exact hset_eq | exact (hset_ne (by omega)).trans (by first | assumption | exact hset_eq | exact (hset_ne (by omega)).trans (by first | assumption | exact hset_eq))))) (by decide) rfl rfl rfl (Nat.le_of_ble_eq_true rfl) (by decide) ⟨(Nat.le_refl _), (Nat.le_refl _)⟩ (c_codeAt hpg' i (by omega) ?_)
      rw [show pAt pm pg i = pg i from if_pos (by omega)]
      refine AW_i2l 156 hX dX6_digest_155 rfl ?_
      refine AW_ladd 157 hX dX6_digest_156 rfl ?_
      refine AW_lstore_n 158 hX dX6_digest_157 rfl (Nat.le_of_ble_eq_true rfl) rfl ?_
      refine AW_iinc 161 hX dX6_digest_158 rfl rfl (iincp ic_1) (Nat.le_of_ble_eq_true rfl) rfl ?_
      refine AW_goto 131 hX dX6_digest_161 (by decide) ?_
      rw [nI_1]
      exact ih (i + 1) (by omega) h' mp' ms' q g' hfr
  have mid : ∀ (h' : AH) (q1 q2 : Option Value), CJ h' (kp, yd, qk, pm, pg, (n, ks, ht, p, s, stp, fl, m, hd), w) mp ms → fr h h' 0 34 → AW X 0 0 57 [some (.ref 0), some (.long (dgP ks hd m n)), none, q1, q2] [] h' := by
    intro h' q1 q2 g' hfr
    have h0' := g'.1
    unfold yO at h0'
    refine AW_aload_n 58 hX dX6_digest_57 rfl rfl ?_
    refine AW_cV (As := []) 61 hX dX6_digest_58 rfl ml_X6_124 mw_X6_hasYard (by first | assumption | exact hset_eq | exact (hset_ne (by omega)).trans (by first | assumption | exact hset_eq | exact (hset_ne (by omega)).trans (by first | assumption | exact hset_eq | exact (hset_ne (by omega)).trans (by first | assumption | exact hset_eq | exact (hset_ne (by omega)).trans (by first | assumption | exact hset_eq))))) (by decide) rfl rfl rfl (Nat.le_of_ble_eq_true rfl) (by decide) ⟨(Nat.le_refl _), (Nat.le_refl _)⟩ (C_hasYard g' ok (fun hn => ?_) (fun hn => ?_))
    · refine AW_if_eq 64 129 hX dX6_digest_61 rfl (by decide) (fun c61 => absurd c61 (by decide)) (fun c61 => ?_)
      refine AW_aload_n 65 hX dX6_digest_64 rfl rfl ?_
      refine AW_cV (As := []) 68 hX dX6_digest_65 rfl ml_X6_158 mw_X6_findMend (by first | assumption | exact hset_eq | exact (hset_ne (by omega)).trans (by first | assumption | exact hset_eq | exact (hset_ne (by omega)).trans (by first | assumption | exact hset_eq | exact (hset_ne (by omega)).trans (by first | assumption | exact hset_eq | exact (hset_ne (by omega)).trans (by first | assumption | exact hset_eq))))) (by decide) rfl rfl rfl (Nat.le_of_ble_eq_true rfl) (by decide) ⟨(Nat.le_refl _), (Nat.le_refl _)⟩ (C_findMend g' ok hn (fun h2 g2 hfr2 => ?_))
      have h02 := g2.1
      unfold yO at h02
      have hpn := ok7 hn
      refine AW_ldc2 71 hX dX6_digest_68 rfl kc_X6_191 ?_
      refine AW_lload_n 72 hX dX6_digest_71 rfl rfl ?_
      refine AW_lmul 73 hX dX6_digest_72 rfl ?_
      refine AW_aload_n 74 hX dX6_digest_73 rfl rfl ?_
      refine AW_iconst 75 hX dX6_digest_74 rfl ic_0 ?_
      refine AW_cV (As := [_]) 78 hX dX6_digest_75 rfl ml_X6_196 mw_X6_would (by first | assumption | exact hset_eq | exact (hset_ne (by omega)).trans (by first | assumption | exact hset_eq | exact (hset_ne (by omega)).trans (by first | assumption | exact hset_eq | exact (hset_ne (by omega)).trans (by first | assumption | exact hset_eq | exact (hset_ne (by omega)).trans (by first | assumption | exact hset_eq))))) (by decide) rfl rfl rfl (Nat.le_of_ble_eq_true rfl) (by decide) ⟨(Nat.le_refl _), (Nat.le_refl _)⟩ (C_would0 g2 ok hn ?_)
      refine AW_i2l 79 hX dX6_digest_78 rfl ?_
      refine AW_ladd 80 hX dX6_digest_79 rfl ?_
      refine AW_lstore_n 81 hX dX6_digest_80 rfl (Nat.le_of_ble_eq_true rfl) rfl ?_
      refine AW_ldc2 84 hX dX6_digest_81 rfl kc_X6_191 ?_
      refine AW_lload_n 85 hX dX6_digest_84 rfl rfl ?_
      refine AW_lmul 86 hX dX6_digest_85 rfl ?_
      refine AW_aload_n 87 hX dX6_digest_86 rfl rfl ?_
      refine AW_cV (As := []) 90 hX dX6_digest_87 rfl ml_X6_155 mw_X6_greatestHeight (by first | assumption | exact hset_eq | exact (hset_ne (by omega)).trans (by first | assumption | exact hset_eq | exact (hset_ne (by omega)).trans (by first | assumption | exact hset_eq | exact (hset_ne (by omega)).trans (by first | assumption | exact hset_eq | exact (hset_ne (by omega)).trans (by first | assumption | exact hset_eq))))) (by decide) rfl rfl rfl (Nat.le_of_ble_eq_true rfl) (by decide) ⟨(Nat.le_refl _), (Nat.le_refl _)⟩ (C_greatest g2 ok hn (fun h4a g4 hfr4 => ?_))
      have h04 := g4.1
      unfold yO at h04
      refine AW_i2l 91 hX dX6_digest_90 rfl ?_
      refine AW_ladd 92 hX dX6_digest_91 rfl ?_
      refine AW_lstore_n 93 hX dX6_digest_92 rfl (Nat.le_of_ble_eq_true rfl) rfl ?_
      refine AW_ldc2 96 hX dX6_digest_93 rfl kc_X6_191 ?_
      refine AW_lload_n 97 hX dX6_digest_96 rfl rfl ?_
      refine AW_lmul 98 hX dX6_digest_97 rfl ?_
      refine AW_aload_n 99 hX dX6_digest_98 rfl rfl ?_
      refine AW_get 102 hX dX6_digest_99 rfl fl_X6_54 (by first | assumption | exact hset_eq | exact (hset_ne (by omega)).trans (by first | assumption | exact hset_eq | exact (hset_ne (by omega)).trans (by first | assumption | exact hset_eq | exact (hset_ne (by omega)).trans (by first | assumption | exact hset_eq | exact (hset_ne (by omega)).trans (by first | assumption | exact hset_eq))))) rfl ?_
      refine AW_i2l 103 hX dX6_digest_102 rfl ?_
      refine AW_ladd 104 hX dX6_digest_103 rfl ?_
      refine AW_lstore_n 105 hX dX6_digest_104 rfl (Nat.le_of_ble_eq_true rfl) rfl ?_
      refine AW_ldc2 108 hX dX6_digest_105 rfl kc_X6_191 ?_
      refine AW_lload_n 109 hX dX6_digest_108 rfl rfl ?_
      refine AW_lmul 110 hX dX6_digest_109 rfl ?_
      refine AW_aload_n 111 hX dX6_digest_110 rfl rfl ?_
      refine AW_get 114 hX dX6_digest_111 rfl fl_X6_57 (by first | assumption | exact hset_eq | exact (hset_ne (by omega)).trans (by first | assumption | exact hset_eq | exact (hset_ne (by omega)).trans (by first | assumption | exact hset_eq | exact (hset_ne (by omega)).trans (by first | assumption | exact hset_eq | exact (hset_ne (by omega)).trans (by first | assumption | exact hset_eq))))) rfl ?_
      refine AW_i2l 115 hX dX6_digest_114 rfl ?_
      refine AW_ladd 116 hX dX6_digest_115 rfl ?_
      refine AW_lstore_n 117 hX dX6_digest_116 rfl (Nat.le_of_ble_eq_true rfl) rfl ?_
      refine AW_ldc2 120 hX dX6_digest_117 rfl kc_X6_191 ?_
      refine AW_lload_n 121 hX dX6_digest_120 rfl rfl ?_
      refine AW_lmul 122 hX dX6_digest_121 rfl ?_
      refine AW_aload_n 123 hX dX6_digest_122 rfl rfl ?_
      refine AW_cV (As := []) 126 hX dX6_digest_123 rfl ml_X6_199 mw_X6_heights (by first | assumption | exact hset_eq | exact (hset_ne (by omega)).trans (by first | assumption | exact hset_eq | exact (hset_ne (by omega)).trans (by first | assumption | exact hset_eq | exact (hset_ne (by omega)).trans (by first | assumption | exact hset_eq | exact (hset_ne (by omega)).trans (by first | assumption | exact hset_eq))))) (by decide) rfl rfl rfl (Nat.le_of_ble_eq_true rfl) (by decide) ⟨(Nat.le_refl _), (Nat.le_refl _)⟩ (C_heights1 g4 ok hn ?_)
      refine AW_i2l 127 hX dX6_digest_126 rfl ?_
      refine AW_ladd 128 hX dX6_digest_127 rfl ?_
      refine AW_lstore_n 129 hX dX6_digest_128 rfl (Nat.le_of_ble_eq_true rfl) rfl ?_
      refine AW_iconst 130 hX dX6_digest_129 rfl ic_0 ?_
      refine AW_istore_n 131 hX dX6_digest_130 rfl (Nat.le_of_ble_eq_true rfl) rfl ?_
      refine cast ?_ (lets pm 0 (by omega) h4a _ _ q2 g4 (fr_tr (fr_tr hfr hfr2) (fr_wide hfr4 (by omega) (by omega))))
      rw [show dgL pg (dgY (kp, yd, qk, pm, pg, (n, ks, ht, p, s, stp, fl, m, hd), w)) 0 = dgY (kp, yd, qk, pm, pg, (n, ks, ht, p, s, stp, fl, m, hd), w) from rfl, show dgY (kp, yd, qk, pm, pg, (n, ks, ht, p, s, stp, fl, m, hd), w) = 31 * (31 * (31 * (31 * (31 * dgP ks hd m n + (nI (sa (ks p) s 0)).toInt64) + (hiF n ks 9).toInt64) + ((mnF n ks (12 - ht) n).1).toInt64) + (mnS (mnF n ks (12 - ht) n)).toInt64) + (hB ks hd m).toInt64 from cif_neg (by omega)]
      rfl
    · refine AW_if_eq 64 129 hX dX6_digest_61 rfl (by decide) (fun c61 => ?_) (fun c61 => absurd rfl c61)
      refine AW_iconst 130 hX dX6_digest_129 rfl ic_0 ?_
      refine AW_istore_n 131 hX dX6_digest_130 rfl (Nat.le_of_ble_eq_true rfl) rfl ?_
      have := lets pm 0 (by omega) h' mp ms q2 g' hfr
      rw [show dgL pg (dgY (kp, yd, qk, pm, pg, (n, ks, ht, p, s, stp, fl, m, hd), w)) 0 = dgY (kp, yd, qk, pm, pg, (n, ks, ht, p, s, stp, fl, m, hd), w) from rfl, show dgY (kp, yd, qk, pm, pg, (n, ks, ht, p, s, stp, fl, m, hd), w) = dgP ks hd m n from cif_pos hn] at this
      exact this
  have pls : ∀ d i, i + d = n → ∀ (h' : AH) (q : Option Value), CJ h' (kp, yd, qk, pm, pg, (n, ks, ht, p, s, stp, fl, m, hd), w) mp ms → fr h h' 0 34 → AW X 0 0 6 [some (.ref 0), some (.long (dgP ks hd m i)), none, some (.int (nI i)), q] [] h' := by
    intro d
    induction d with
    | zero =>
      intro i hi h' q g' hfr
      have h0' := g'.1
      unfold yO at h0'
      obtain ⟨h3', ⟨f', hgr', hks'⟩, -⟩ := id g'.2.2.1
      have h4' := hgr'.1
      refine AW_iload_n 7 hX dX6_digest_6 rfl rfl ?_
      refine AW_aload_n 8 hX dX6_digest_7 rfl rfl ?_
      refine AW_get 11 hX dX6_digest_8 rfl fl_X6_19 (by first | assumption | exact hset_eq | exact (hset_ne (by omega)).trans (by first | assumption | exact hset_eq | exact (hset_ne (by omega)).trans (by first | assumption | exact hset_eq | exact (hset_ne (by omega)).trans (by first | assumption | exact hset_eq | exact (hset_ne (by omega)).trans (by first | assumption | exact hset_eq))))) rfl ?_
      refine AW_get 14 hX dX6_digest_11 rfl fl_X6_82 (by first | assumption | exact hset_eq | exact (hset_ne (by omega)).trans (by first | assumption | exact hset_eq | exact (hset_ne (by omega)).trans (by first | assumption | exact hset_eq | exact (hset_ne (by omega)).trans (by first | assumption | exact hset_eq | exact (hset_ne (by omega)).trans (by first | assumption | exact hset_eq))))) rfl ?_
      refine AW_cV (As := []) 17 hX dX6_digest_14 rfl ml_X6_85 mw_X0_places (by first | assumption | exact hset_eq | exact (hset_ne (by omega)).trans (by first | assumption | exact hset_eq | exact (hset_ne (by omega)).trans (by first | assumption | exact hset_eq | exact (hset_ne (by omega)).trans (by first | assumption | exact hset_eq | exact (hset_ne (by omega)).trans (by first | assumption | exact hset_eq))))) (by decide) rfl rfl rfl (Nat.le_of_ble_eq_true rfl) (by decide) ⟨(Nat.le_refl _), (Nat.le_refl _)⟩ (c_places h4' ?_)
      refine AW_icmp_ge 20 57 hX dX6_digest_17 rfl (by decide) (fun c17 => ?_) (fun c17 => absurd (nI_le (by omega) (by omega)) c17)
      rw [show i = n by omega]
      exact mid h' _ q g' hfr
    | succ d ih =>
      intro i hi h' q g' hfr
      have inner : ∀ e k, k + e = 6 → ∀ (h2 : AH), CJ h2 (kp, yd, qk, pm, pg, (n, ks, ht, p, s, stp, fl, m, hd), w) mp ms → fr h h2 0 34 → AW X 0 0 23 [some (.ref 0), some (.long (dg6 ks hd m i (dgP ks hd m i) k)), none, some (.int (nI i)), some (.int (nI k))] [] h2 := by
        intro e
        induction e with
        | zero =>
          intro k hk h2 g2 hfr2
          refine AW_iload 25 hX dX6_digest_23 rfl rfl ?_
          refine AW_bipush 27 hX dX6_digest_25 rfl bp_6 ?_
          refine AW_icmp_ge 30 51 hX dX6_digest_27 rfl (by decide) (fun c27 => ?_) (fun c27 => absurd (nI_le (a := 6) (b := k) (by omega) (by omega)) c27)
          refine AW_iinc 54 hX dX6_digest_51 rfl rfl (iincp ic_1) (Nat.le_of_ble_eq_true rfl) rfl ?_
          refine AW_goto 6 hX dX6_digest_54 (by decide) ?_
          rw [nI_1]
          rw [show k = 6 by omega]
          exact ih (i + 1) (by omega) h2 _ g2 hfr2
        | succ e ihe =>
          intro k hk h2 g2 hfr2
          have h02 := g2.1
          unfold yO at h02
          refine AW_iload 25 hX dX6_digest_23 rfl rfl ?_
          refine AW_bipush 27 hX dX6_digest_25 rfl bp_6 ?_
          refine AW_icmp_ge 30 51 hX dX6_digest_27 rfl (by decide) (fun c27 => absurd c27 (nI_ge (a := k) (b := 6) (by omega) (by decide))) (fun c27 => ?_)
          refine AW_ldc2 33 hX dX6_digest_30 rfl kc_X6_191 ?_
          refine AW_lload_n 34 hX dX6_digest_33 rfl rfl ?_
          refine AW_lmul 35 hX dX6_digest_34 rfl ?_
          refine AW_aload_n 36 hX dX6_digest_35 rfl rfl ?_
          refine AW_iload_n 37 hX dX6_digest_36 rfl rfl ?_
          refine AW_iload 39 hX dX6_digest_37 rfl rfl ?_
          refine AW_cV (As := [_, _]) 42 hX dX6_digest_39 rfl ml_X6_193 mw_X6_about (by first | assumption | exact hset_eq | exact (hset_ne (by omega)).trans (by first | assumption | exact hset_eq | exact (hset_ne (by omega)).trans (by first | assumption | exact hset_eq | exact (hset_ne (by omega)).trans (by first | assumption | exact hset_eq | exact (hset_ne (by omega)).trans (by first | assumption | exact hset_eq))))) (by decide) rfl rfl rfl (Nat.le_of_ble_eq_true rfl) (by decide) ⟨(Nat.le_refl _), (Nat.le_refl _)⟩ (C_about1 g2 ok (by omega) (by omega) ?_)
          refine AW_i2l 43 hX dX6_digest_42 rfl ?_
          refine AW_ladd 44 hX dX6_digest_43 rfl ?_
          refine AW_lstore_n 45 hX dX6_digest_44 rfl (Nat.le_of_ble_eq_true rfl) rfl ?_
          refine AW_iinc 48 hX dX6_digest_45 rfl rfl (iincp ic_1) (Nat.le_of_ble_eq_true rfl) rfl ?_
          refine AW_goto 23 hX dX6_digest_48 (by decide) ?_
          rw [nI_1]
          exact ihe (k + 1) (by omega) h2 g2 hfr2
      have h0' := g'.1
      unfold yO at h0'
      obtain ⟨h3', ⟨f', hgr', hks'⟩, -⟩ := id g'.2.2.1
      have h4' := hgr'.1
      refine AW_iload_n 7 hX dX6_digest_6 rfl rfl ?_
      refine AW_aload_n 8 hX dX6_digest_7 rfl rfl ?_
      refine AW_get 11 hX dX6_digest_8 rfl fl_X6_19 (by first | assumption | exact hset_eq | exact (hset_ne (by omega)).trans (by first | assumption | exact hset_eq | exact (hset_ne (by omega)).trans (by first | assumption | exact hset_eq | exact (hset_ne (by omega)).trans (by first | assumption | exact hset_eq | exact (hset_ne (by omega)).trans (by first | assumption | exact hset_eq))))) rfl ?_
      refine AW_get 14 hX dX6_digest_11 rfl fl_X6_82 (by first | assumption | exact hset_eq | exact (hset_ne (by omega)).trans (by first | assumption | exact hset_eq | exact (hset_ne (by omega)).trans (by first | assumption | exact hset_eq | exact (hset_ne (by omega)).trans (by first | assumption | exact hset_eq | exact (hset_ne (by omega)).trans (by first | assumption | exact hset_eq))))) rfl ?_
      refine AW_cV (As := []) 17 hX dX6_digest_14 rfl ml_X6_85 mw_X0_places (by first | assumption | exact hset_eq | exact (hset_ne (by omega)).trans (by first | assumption | exact hset_eq | exact (hset_ne (by omega)).trans (by first | assumption | exact hset_eq | exact (hset_ne (by omega)).trans (by first | assumption | exact hset_eq | exact (hset_ne (by omega)).trans (by first | assumption | exact hset_eq))))) (by decide) rfl rfl rfl (Nat.le_of_ble_eq_true rfl) (by decide) ⟨(Nat.le_refl _), (Nat.le_refl _)⟩ (c_places h4' ?_)
      refine AW_icmp_ge 20 57 hX dX6_digest_17 rfl (by decide) (fun c17 => absurd c17 (nI_ge (by omega) (by omega))) (fun c17 => ?_)
      refine AW_iconst 21 hX dX6_digest_20 rfl ic_0 ?_
      refine AW_istore 23 hX dX6_digest_21 rfl (Nat.le_of_ble_eq_true rfl) rfl ?_
      exact inner 6 0 (by omega) h' g' hfr
  refine AW_ldc2 3 hX dX6_digest_0 rfl kc_X6_189 ?_
  refine AW_lstore_n 4 hX dX6_digest_3 rfl (Nat.le_of_ble_eq_true rfl) rfl ?_
  refine AW_iconst 5 hX dX6_digest_4 rfl ic_0 ?_
  refine AW_istore_n 6 hX dX6_digest_5 rfl (Nat.le_of_ble_eq_true rfl) rfl ?_
  exact pls n 0 (by omega) h none g (fr_rf _ _ _)
