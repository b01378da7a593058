/-! THE CLASS: its cells are 0 to 33 -/
def yO (kp yd qk : Nat) (mp ms : Int32) : AC := .inl (5, [.ref 1, .ref 3, .ref 11, .ref 19, .ref 27, .ref 29, .int (nI kp), .int (nI yd), .int (nI qk), .int mp, .int ms])
def CJ (h : AH) (S : ST) (mp ms : Int32) : Prop := match S with
  | (kp, yd, qk, pm, pg, v, w) => h 0 = some (yO kp yd qk mp ms) ∧ pgC h 1 pm pg ∧ sc h 3 v ∧ (∃ u, sc h 11 u ∧ (kp = 1 → u = w)) ∧ (∃ u, sc h 19 u) ∧ (∃ n f, gr h 27 n f) ∧ rtA h 29
def CI (h : AH) (S : ST) : Prop := ∃ mp ms, CJ h S mp ms
section CIS
variable {h h' : AH} {kp yd qk pm : Nat} {pg : Nat → Nat} {v w : SV} {mp ms : Int32}
theorem CJ_page {pm' : Nat} {pg' : Nat → Nat} (g : CJ h (kp, yd, qk, pm, pg, v, w) mp ms) (hp : pgC h' 1 pm' pg') (e : fr h h' 1 3) : CJ h' (kp, yd, qk, pm', pg', v, w) mp ms := by
  obtain ⟨g1, g2, g3, ⟨u, g4, g4'⟩, ⟨u2, g5⟩, ⟨n, f, g6⟩, g7⟩ := g
  exact ⟨(e 0 (by omega)).trans g1, hp, sc_fr g3 e (by omega), ⟨u, sc_fr g4 e (by omega), g4'⟩, ⟨u2, sc_fr g5 e (by omega)⟩, ⟨n, f, gr_fr g6 e (by omega)⟩, rtA_fr g7 e (by omega)⟩
theorem CJ_now {v' : SV} (g : CJ h (kp, yd, qk, pm, pg, v, w) mp ms) (hp : sc h' 3 v') (e : fr h h' 3 11) : CJ h' (kp, yd, qk, pm, pg, v', w) mp ms := by
  obtain ⟨g1, g2, g3, ⟨u, g4, g4'⟩, ⟨u2, g5⟩, ⟨n, f, g6⟩, g7⟩ := g
  exact ⟨(e 0 (by omega)).trans g1, pgC_fr g2 e (by omega), hp, ⟨u, sc_fr g4 e (by omega), g4'⟩, ⟨u2, sc_fr g5 e (by omega)⟩, ⟨n, f, gr_fr g6 e (by omega)⟩, rtA_fr g7 e (by omega)⟩
theorem CJ_obj {kp' yd' qk' : Nat} {mp' ms' : Int32} (hk : kp' = 1 → kp = 1) (g : CJ h (kp, yd, qk, pm, pg, v, w) mp ms) : CJ (hset h 0 (yO kp' yd' qk' mp' ms')) (kp', yd', qk', pm, pg, v, w) mp' ms' := by
  obtain ⟨g1, g2, g3, ⟨u, g4, g4'⟩, ⟨u2, g5⟩, ⟨n, f, g6⟩, g7⟩ := g
  have e : fr h (hset h 0 (yO kp' yd' qk' mp' ms')) 0 1 := fr_set (by omega) (by omega)
  exact ⟨hset_eq, pgC_fr g2 e (by omega), sc_fr g3 e (by omega), ⟨u, sc_fr g4 e (by omega), fun q => g4' (hk q)⟩, ⟨u2, sc_fr g5 e (by omega)⟩, ⟨n, f, gr_fr g6 e (by omega)⟩, rtA_fr g7 e (by omega)⟩
theorem CJ_kept {w' : SV} (g : CJ h (kp, yd, qk, pm, pg, v, w) mp ms) (hp : sc h' 11 w') (e : fr h h' 11 19) : CJ h' (kp, yd, qk, pm, pg, v, w') mp ms := by
  obtain ⟨g1, g2, g3, ⟨u, g4, g4'⟩, ⟨u2, g5⟩, ⟨n, f, g6⟩, g7⟩ := g
  exact ⟨(e 0 (by omega)).trans g1, pgC_fr g2 e (by omega), sc_fr g3 e (by omega), ⟨w', hp, fun _ => rfl⟩, ⟨u2, sc_fr g5 e (by omega)⟩, ⟨n, f, gr_fr g6 e (by omega)⟩, rtA_fr g7 e (by omega)⟩
theorem CJ_raced {u' : SV} (g : CJ h (kp, yd, qk, pm, pg, v, w) mp ms) (hp : sc h' 19 u') (e : fr h h' 19 27) : CJ h' (kp, yd, qk, pm, pg, v, w) mp ms := by
  obtain ⟨g1, g2, g3, ⟨u, g4, g4'⟩, ⟨u2, g5⟩, ⟨n, f, g6⟩, g7⟩ := g
  exact ⟨(e 0 (by omega)).trans g1, pgC_fr g2 e (by omega), sc_fr g3 e (by omega), ⟨u, sc_fr g4 e (by omega), g4'⟩, ⟨u', hp⟩, ⟨n, f, gr_fr g6 e (by omega)⟩, rtA_fr g7 e (by omega)⟩
theorem CJ_mend {n' : Nat} {f' : Nat → Int32} (g : CJ h (kp, yd, qk, pm, pg, v, w) mp ms) (hp : gr h' 27 n' f') (e : fr h h' 27 29) : CJ h' (kp, yd, qk, pm, pg, v, w) mp ms := by
  obtain ⟨g1, g2, g3, ⟨u, g4, g4'⟩, ⟨u2, g5⟩, ⟨n, f, g6⟩, g7⟩ := g
  exact ⟨(e 0 (by omega)).trans g1, pgC_fr g2 e (by omega), sc_fr g3 e (by omega), ⟨u, sc_fr g4 e (by omega), g4'⟩, ⟨u2, sc_fr g5 e (by omega)⟩, ⟨n', f', hp⟩, rtA_fr g7 e (by omega)⟩
theorem CJ_route (g : CJ h (kp, yd, qk, pm, pg, v, w) mp ms) (hp : rtA h' 29) (e : fr h h' 29 34) : CJ h' (kp, yd, qk, pm, pg, v, w) mp ms := by
  obtain ⟨g1, g2, g3, ⟨u, g4, g4'⟩, ⟨u2, g5⟩, ⟨n, f, g6⟩, g7⟩ := g
  exact ⟨(e 0 (by omega)).trans g1, pgC_fr g2 e (by omega), sc_fr g3 e (by omega), ⟨u, sc_fr g4 e (by omega), g4'⟩, ⟨u2, sc_fr g5 e (by omega)⟩, ⟨n, f, gr_fr g6 e (by omega)⟩, hp⟩
theorem CJ_fr {S : ST} (g : CJ h S mp ms) (e : fr h h' 34 47) : CJ h' S mp ms := by
  obtain ⟨kp, yd, qk, pm, pg, v, w⟩ := S
  obtain ⟨g1, g2, g3, ⟨u, g4, g4'⟩, ⟨u2, g5⟩, ⟨n, f, g6⟩, g7⟩ := g
  exact ⟨(e 0 (by omega)).trans g1, pgC_fr g2 e (by omega), sc_fr g3 e (by omega), ⟨u, sc_fr g4 e (by omega), g4'⟩, ⟨u2, sc_fr g5 e (by omega)⟩, ⟨n, f, gr_fr g6 e (by omega)⟩, rtA_fr g7 e (by omega)⟩
end CIS
theorem i0 (x : Int32) (n : Nat) (hn : n < 2 ^ 31) : isP n x ∨ ¬ isP n x := Classical.em _
set_option maxRecDepth 100000 in
set_option maxHeartbeats 4000000 in
theorem C_hasYard {h : AH} {K : Option Value → AH → Prop} {kp yd qk pm n ht p s : Nat} {pg ks : Nat → Nat} {stp fl : Int32} {m : Nat} {hd : HD} {w : SV} {mp ms : Int32} (g : CJ h (kp, yd, qk, pm, pg, (n, ks, ht, p, s, stp, fl, m, hd), w) mp ms) (ok : Sok (kp, yd, qk, pm, pg, (n, ks, ht, p, s, stp, fl, m, hd), w)) (hy : 0 < n → K (some (.int 1)) h) (hno : n = 0 → K (some (.int 0)) h) : aX6_hasYard 1 [.ref 0] h K := by
  obtain ⟨h0, hpg, hsc, ⟨u, hk, hku⟩, ⟨u2, hrc⟩, ⟨nm, fm, hme⟩, hro⟩ := id g
  obtain ⟨h3, ⟨f, hgr, hks⟩, hhe⟩ := id hsc
  obtain ⟨⟨ok1, ok2, ok3, ok4, ok5, ok6, ok7, ok8⟩, okp, okw, okq, okpm, okpg, oky⟩ := id ok
  have h1 := hpg.1
  have h4 := hgr.1
  have h6 := hhe.1
  unfold yO at h0
  refine AM.of [some (.ref 0)] pn_X6_hasYard rfl (Nat.le_of_ble_eq_true rfl) (fun X hX hE => ?_)
  refine AW_aload_n 1 hX dX6_hasYard_0 rfl rfl ?_
  refine AW_get 4 hX dX6_hasYard_1 rfl fl_X6_19 (by first | assumption | exact hset_eq | exact (hset_ne (by omega)).trans (by first | assumption | exact hset_eq | exact (hset_ne (by omega)).trans (by first | assumption | exact hset_eq | exact (hset_ne (by omega)).trans (by first | assumption | exact hset_eq | exact (hset_ne (by omega)).trans (by first | assumption | exact hset_eq))))) rfl ?_
  refine AW_get 7 hX dX6_hasYard_4 rfl fl_X6_82 (by first | assumption | exact hset_eq | exact (hset_ne (by omega)).trans (by first | assumption | exact hset_eq | exact (hset_ne (by omega)).trans (by first | assumption | exact hset_eq | exact (hset_ne (by omega)).trans (by first | assumption | exact hset_eq | exact (hset_ne (by omega)).trans (by first | assumption | exact hset_eq))))) rfl ?_
  refine AW_cV (As := []) 10 hX dX6_hasYard_7 rfl ml_X6_85 mw_X0_places (by first | assumption | exact hset_eq | exact (hset_ne (by omega)).trans (by first | assumption | exact hset_eq | exact (hset_ne (by omega)).trans (by first | assumption | exact hset_eq | exact (hset_ne (by omega)).trans (by first | assumption | exact hset_eq | exact (hset_ne (by omega)).trans (by first | assumption | exact hset_eq))))) (by decide) rfl rfl rfl (Nat.le_of_ble_eq_true rfl) (by decide) ⟨(Nat.le_refl _), (Nat.le_refl _)⟩ (c_places h4 ?_)
  refine AW_if_le 13 17 hX dX6_hasYard_10 rfl (by decide) (fun c10 => ?_) (fun c10 => ?_)
  · refine AW_iconst 18 hX dX6_hasYard_17 rfl ic_0 ?_
    refine AW_iret hX hE dX6_hasYard_18 rfl (Nat.le_refl _) (Nat.le_refl _) ?_
    exact hno (by have := iLe (b := 0) c10; omega)
  · refine AW_iconst 14 hX dX6_hasYard_13 rfl ic_1 ?_
    refine AW_goto 18 hX dX6_hasYard_14 (by decide) ?_
    refine AW_iret hX hE dX6_hasYard_18 rfl (Nat.le_refl _) (Nat.le_refl _) ?_
    exact hy (iNle (b := 0) c10)
set_option maxRecDepth 100000 in
set_option maxHeartbeats 4000000 in
theorem C_refusal {h : AH} {K : Option Value → AH → Prop} {kp yd qk pm n ht p s : Nat} {pg ks : Nat → Nat} {stp fl : Int32} {m : Nat} {hd : HD} {w : SV} {mp ms : Int32} (g : CJ h (kp, yd, qk, pm, pg, (n, ks, ht, p, s, stp, fl, m, hd), w) mp ms) (ok : Sok (kp, yd, qk, pm, pg, (n, ks, ht, p, s, stp, fl, m, hd), w)) (x : Int32) (hO : ¬ isP 4 x → K (some (.int (-102))) h) (hS : ∀ far, far ≤ 3 → x = nI far → ¬ p + far < n → K (some (.int (-103))) h) (hY : ∀ far, far ≤ 3 → x = nI far → p + far < n → K (some (.int 0)) h) : aX6_refusalOfStep 1 [.ref 0, .int x] h K := by
  obtain ⟨h0, hpg, hsc, ⟨u, hk, hku⟩, ⟨u2, hrc⟩, ⟨nm, fm, hme⟩, hro⟩ := id g
  obtain ⟨h3, ⟨f, hgr, hks⟩, hhe⟩ := id hsc
  obtain ⟨⟨ok1, ok2, ok3, ok4, ok5, ok6, ok7, ok8⟩, okp, okw, okq, okpm, okpg, oky⟩ := id ok
  have h1 := hpg.1
  have h4 := hgr.1
  have h6 := hhe.1
  unfold yO at h0
  have hp12 : p < 13 := by
    rcases Nat.eq_zero_or_pos n with e | e
    · have := ok8 e; omega
    · have := ok7 e; omega
  refine AM.of [some (.ref 0), some (.int x)] pn_X6_refusalOfStep rfl (Nat.le_of_ble_eq_true rfl) (fun X hX hE => ?_)
  refine AW_iload_n 1 hX dX6_refusalOfStep_0 rfl rfl ?_
  refine AW_if_lt 4 9 hX dX6_refusalOfStep_1 rfl (by decide) (fun c1 => ?_) (fun c1 => ?_)
  · refine AW_bipush 11 hX dX6_refusalOfStep_9 rfl bp_m102 ?_
    refine AW_iret hX hE dX6_refusalOfStep_11 rfl (Nat.le_refl _) (Nat.le_refl _) ?_
    exact hO (isP_no (by decide) (Or.inl c1))
  · refine AW_iload_n 5 hX dX6_refusalOfStep_4 rfl rfl ?_
    refine AW_iconst 6 hX dX6_refusalOfStep_5 rfl ic_3 ?_
    refine AW_icmp_le 9 12 hX dX6_refusalOfStep_6 rfl (by decide) (fun c6 => ?_) (fun c6 => ?_)
    · obtain ⟨far, hf, ef⟩ := nI_of2 (M := 3) (n := 3) (by decide) c1 c6
      subst ef
      refine AW_aload_n 13 hX dX6_refusalOfStep_12 rfl rfl ?_
      refine AW_get 16 hX dX6_refusalOfStep_13 rfl fl_X6_19 (by first | assumption | exact hset_eq | exact (hset_ne (by omega)).trans (by first | assumption | exact hset_eq | exact (hset_ne (by omega)).trans (by first | assumption | exact hset_eq | exact (hset_ne (by omega)).trans (by first | assumption | exact hset_eq | exact (hset_ne (by omega)).trans (by first | assumption | exact hset_eq))))) rfl ?_
      refine AW_get 19 hX dX6_refusalOfStep_16 rfl fl_X6_82 (by first | assumption | exact hset_eq | exact (hset_ne (by omega)).trans (by first | assumption | exact hset_eq | exact (hset_ne (by omega)).trans (by first | assumption | exact hset_eq | exact (hset_ne (by omega)).trans (by first | assumption | exact hset_eq | exact (hset_ne (by omega)).trans (by first | assumption | exact hset_eq))))) rfl ?_
      refine AW_aload_n 20 hX dX6_refusalOfStep_19 rfl rfl ?_
      refine AW_get 23 hX dX6_refusalOfStep_20 rfl fl_X6_19 (by first | assumption | exact hset_eq | exact (hset_ne (by omega)).trans (by first | assumption | exact hset_eq | exact (hset_ne (by omega)).trans (by first | assumption | exact hset_eq | exact (hset_ne (by omega)).trans (by first | assumption | exact hset_eq | exact (hset_ne (by omega)).trans (by first | assumption | exact hset_eq))))) rfl ?_
      refine AW_get 26 hX dX6_refusalOfStep_23 rfl fl_X6_136 (by first | assumption | exact hset_eq | exact (hset_ne (by omega)).trans (by first | assumption | exact hset_eq | exact (hset_ne (by omega)).trans (by first | assumption | exact hset_eq | exact (hset_ne (by omega)).trans (by first | assumption | exact hset_eq | exact (hset_ne (by omega)).trans (by first | assumption | exact hset_eq))))) rfl ?_
      refine AW_iload_n 27 hX dX6_refusalOfStep_26 rfl rfl ?_
      refine AW_iadd 28 hX dX6_refusalOfStep_27 rfl ?_
      rw [nI_add]
      refine AW_cV (As := [_]) 31 hX dX6_refusalOfStep_28 rfl ml_X6_88 mw_X0_has (by first | assumption | exact hset_eq | exact (hset_ne (by omega)).trans (by first | assumption | exact hset_eq | exact (hset_ne (by omega)).trans (by first | assumption | exact hset_eq | exact (hset_ne (by omega)).trans (by first | assumption | exact hset_eq | exact (hset_ne (by omega)).trans (by first | assumption | exact hset_eq))))) (by decide) rfl rfl rfl (Nat.le_of_ble_eq_true rfl) (by decide) ⟨(Nat.le_refl _), (Nat.le_refl _)⟩ (c_has hgr _ (fun q hq e => ?_) (fun hno => ?_))
      · refine AW_if_eq 34 38 hX dX6_refusalOfStep_31 rfl (by decide) (fun c31 => absurd c31 (by decide)) (fun c31 => ?_)
        refine AW_iconst 35 hX dX6_refusalOfStep_34 rfl ic_0 ?_
        refine AW_goto 40 hX dX6_refusalOfStep_35 (by decide) ?_
        refine AW_iret hX hE dX6_refusalOfStep_40 rfl (Nat.le_refl _) (Nat.le_refl _) ?_
        exact hY far hf rfl (by have := iEq e; omega)
      · refine AW_if_eq 34 38 hX dX6_refusalOfStep_31 rfl (by decide) (fun c31 => ?_) (fun c31 => absurd rfl c31)
        refine AW_bipush 40 hX dX6_refusalOfStep_38 rfl bp_m103 ?_
        refine AW_iret hX hE dX6_refusalOfStep_40 rfl (Nat.le_refl _) (Nat.le_refl _) ?_
        exact hS far hf rfl (fun q => hno _ q rfl)
    · refine AW_bipush 11 hX dX6_refusalOfStep_9 rfl bp_m102 ?_
      refine AW_iret hX hE dX6_refusalOfStep_11 rfl (Nat.le_refl _) (Nat.le_refl _) ?_
      exact hO (isP_no (n := 4) (by decide) (Or.inr (by have h1 := Int32.not_le.mp c6; exact Int32.le_iff_toInt_le.mpr (by have h2 := Int32.lt_iff_toInt_lt.mp h1; show (4 : Int) ≤ _; have h3 : (3 : Int32).toInt = 3 := rfl; rw [h3] at h2; omega))))
theorem isP_nx {N : Nat} {x : Int32} (hN : N + 1 < 2 ^ 31) (h : x < 0 ∨ nI N < x) : ¬ isP (N + 1) x := by
  rintro ⟨q, hq, rfl⟩
  rcases h with h | h
  · exact nI_pos (by omega) h
  · exact nI_nlt (a := N) (b := q) (by omega) (by omega) h
theorem rg {x : Int32} (lo hi : Nat) (hh : hi < 2 ^ 31) (hl : lo < 2 ^ 31) (h1 : ¬ x < nI lo) (h2 : ¬ nI hi < x) : ∃ q, lo ≤ q ∧ q ≤ hi ∧ x = nI q := by
  have e1 := Int32.le_iff_toInt_le.mp (Int32.not_lt.mp h1)
  have e2 := Int32.le_iff_toInt_le.mp (Int32.not_lt.mp h2)
  rw [nI_toInt hl] at e1
  rw [nI_toInt hh] at e2
  refine ⟨x.toInt.toNat, by omega, by omega, Int32.toInt_inj.mp ?_⟩
  rw [nI_toInt (by omega)]
  omega
theorem rgI {x : Int32} {lo hi q : Nat} (hh : hi < 2 ^ 31) (e : x = nI q) (h1 : lo ≤ q) (h2 : q ≤ hi) : ¬ (x < nI lo ∨ nI hi < x) := by
  subst e
  rintro (h | h)
  · exact nI_nlt h1 (by omega) h
  · exact nI_nlt h2 hh h
set_option maxRecDepth 100000 in
set_option maxHeartbeats 4000000 in
theorem C_letter {h : AH} {K : Option Value → AH → Prop} {kp yd qk pm n ht p s : Nat} {pg ks : Nat → Nat} {stp fl : Int32} {m : Nat} {hd : HD} {w : SV} {mp ms : Int32} (g : CJ h (kp, yd, qk, pm, pg, (n, ks, ht, p, s, stp, fl, m, hd), w) mp ms) (ok : Sok (kp, yd, qk, pm, pg, (n, ks, ht, p, s, stp, fl, m, hd), w)) (x : Int32) (hK : ∀ h' : AH, CI h' (spLetter (kp, yd, qk, pm, pg, (n, ks, ht, p, s, stp, fl, m, hd), w) x).2 → fr h h' 0 34 → K (some (.int (spLetter (kp, yd, qk, pm, pg, (n, ks, ht, p, s, stp, fl, m, hd), w) x).1)) h') : aX6_letter 1 [.ref 0, .int x] h K := by
  obtain ⟨h0, hpg, hsc, ⟨u, hk, hku⟩, ⟨u2, hrc⟩, ⟨nm, fm, hme⟩, hro⟩ := id g
  obtain ⟨h3, ⟨f, hgr, hks⟩, hhe⟩ := id hsc
  obtain ⟨⟨ok1, ok2, ok3, ok4, ok5, ok6, ok7, ok8⟩, okp, okw, okq, okpm, okpg, oky⟩ := id ok
  have h1 := hpg.1
  have h4 := hgr.1
  have h6 := hhe.1
  unfold yO at h0
  refine AM.of [some (.ref 0), some (.int x)] pn_X6_letter rfl (Nat.le_of_ble_eq_true rfl) (fun X hX hE => ?_)
  refine AW_iload_n 1 hX dX6_letter_0 rfl rfl ?_
  refine AW_bipush 3 hX dX6_letter_1 rfl bp_32 ?_
  refine AW_icmp_lt 6 12 hX dX6_letter_3 rfl (by decide) (fun c3 => ?_) (fun c3 => ?_)
  · refine AW_bipush 14 hX dX6_letter_12 rfl bp_m102 ?_
    refine AW_iret hX hE dX6_letter_14 rfl (Nat.le_refl _) (Nat.le_refl _) ?_
    have e : spLetter (kp, yd, qk, pm, pg, (n, ks, ht, p, s, stp, fl, m, hd), w) x = (-102, (kp, yd, qk, pm, pg, (n, ks, ht, p, s, stp, fl, m, hd), w)) := by
      show cif _ _ _ = _
      rw [cif_pos (Or.inl c3)]
    rw [e] at hK
    exact hK h ⟨mp, ms, g⟩ (fr_rf _ _ _)
  · refine AW_iload_n 7 hX dX6_letter_6 rfl rfl ?_
    refine AW_bipush 9 hX dX6_letter_7 rfl bp_126 ?_
    refine AW_icmp_le 12 15 hX dX6_letter_9 rfl (by decide) (fun c9 => ?_) (fun c9 => ?_)
    · obtain ⟨c, hc1, hc2, ec⟩ := rg (x := x) 32 126 (by decide) (by decide) c3 (Int32.not_lt.mpr c9)
      subst ec
      refine AW_aload_n 16 hX dX6_letter_15 rfl rfl ?_
      refine AW_get 19 hX dX6_letter_16 rfl fl_X6_10 (by first | assumption | exact hset_eq | exact (hset_ne (by omega)).trans (by first | assumption | exact hset_eq | exact (hset_ne (by omega)).trans (by first | assumption | exact hset_eq | exact (hset_ne (by omega)).trans (by first | assumption | exact hset_eq | exact (hset_ne (by omega)).trans (by first | assumption | exact hset_eq))))) rfl ?_
      refine AW_iload_n 20 hX dX6_letter_19 rfl rfl ?_
      refine AW_cV (As := [_]) 23 hX dX6_letter_20 rfl ml_X6_60 mw_X3_append (by first | assumption | exact hset_eq | exact (hset_ne (by omega)).trans (by first | assumption | exact hset_eq | exact (hset_ne (by omega)).trans (by first | assumption | exact hset_eq | exact (hset_ne (by omega)).trans (by first | assumption | exact hset_eq | exact (hset_ne (by omega)).trans (by first | assumption | exact hset_eq))))) (by decide) rfl rfl rfl (Nat.le_of_ble_eq_true rfl) (by decide) ⟨(Nat.le_refl _), (Nat.le_refl _)⟩ (c_pappend hpg c (by omega) (fun e16 => ?_) (fun h' hm16 hp' hfr' => ?_))
      · refine AW_if_eq 26 36 hX dX6_letter_23 rfl (by decide) (fun c23 => ?_) (fun c23 => absurd rfl c23)
        refine AW_bipush 38 hX dX6_letter_36 rfl bp_m104 ?_
        refine AW_iret hX hE dX6_letter_38 rfl (Nat.le_refl _) (Nat.le_refl _) ?_
        have e : spLetter (kp, yd, qk, pm, pg, (n, ks, ht, p, s, stp, fl, m, hd), w) (nI c) = (-104, (kp, yd, qk, pm, pg, (n, ks, ht, p, s, stp, fl, m, hd), w)) := by
          show cif _ _ _ = _
          rw [cif_neg (show ¬ (nI c < 32 ∨ 126 < nI c) from rgI (lo := 32) (hi := 126) (by decide) rfl hc1 hc2), cif_pos e16]
        rw [e] at hK
        exact hK h ⟨mp, ms, g⟩ (fr_rf _ _ _)
      · have h1' := hp'.1
        have h0' := (hfr' 0 (by omega)).trans h0
        refine AW_if_eq 26 36 hX dX6_letter_23 rfl (by decide) (fun c23 => absurd c23 (by decide)) (fun c23 => ?_)
        refine AW_aload_n 27 hX dX6_letter_26 rfl rfl ?_
        refine AW_get 30 hX dX6_letter_27 rfl fl_X6_10 (by first | assumption | exact hset_eq | exact (hset_ne (by omega)).trans (by first | assumption | exact hset_eq | exact (hset_ne (by omega)).trans (by first | assumption | exact hset_eq | exact (hset_ne (by omega)).trans (by first | assumption | exact hset_eq | exact (hset_ne (by omega)).trans (by first | assumption | exact hset_eq))))) rfl ?_
        refine AW_cV (As := []) 33 hX dX6_letter_30 rfl ml_X6_64 mw_X3_size (by first | assumption | exact hset_eq | exact (hset_ne (by omega)).trans (by first | assumption | exact hset_eq | exact (hset_ne (by omega)).trans (by first | assumption | exact hset_eq | exact (hset_ne (by omega)).trans (by first | assumption | exact hset_eq | exact (hset_ne (by omega)).trans (by first | assumption | exact hset_eq))))) (by decide) rfl rfl rfl (Nat.le_of_ble_eq_true rfl) (by decide) ⟨(Nat.le_refl _), (Nat.le_refl _)⟩ (c_psize hp' ?_)
        refine AW_goto 38 hX dX6_letter_33 (by decide) ?_
        refine AW_iret hX hE dX6_letter_38 rfl (Nat.le_refl _) (Nat.le_refl _) ?_
        have e : spLetter (kp, yd, qk, pm, pg, (n, ks, ht, p, s, stp, fl, m, hd), w) (nI c) = (nI (pm + 1), (kp, yd, qk, pm + 1, fun j => if j = pm then c else pg j, (n, ks, ht, p, s, stp, fl, m, hd), w)) := by
          show cif _ _ _ = _
          rw [cif_neg (show ¬ (nI c < 32 ∨ 126 < nI c) from rgI (lo := 32) (hi := 126) (by decide) rfl hc1 hc2), cif_neg (by omega), cN_nI (by omega)]
        rw [e] at hK
        exact hK h' ⟨mp, ms, CJ_page g hp' hfr'⟩ (fr_wide hfr' (by omega) (by omega))
    · refine AW_bipush 14 hX dX6_letter_12 rfl bp_m102 ?_
      refine AW_iret hX hE dX6_letter_14 rfl (Nat.le_refl _) (Nat.le_refl _) ?_
      have e : spLetter (kp, yd, qk, pm, pg, (n, ks, ht, p, s, stp, fl, m, hd), w) x = (-102, (kp, yd, qk, pm, pg, (n, ks, ht, p, s, stp, fl, m, hd), w)) := by
        show cif _ _ _ = _
        rw [cif_pos (Or.inr (Int32.not_le.mp c9))]
      rw [e] at hK
      exact hK h ⟨mp, ms, g⟩ (fr_rf _ _ _)
set_option maxRecDepth 100000 in
set_option maxHeartbeats 4000000 in
theorem C_blank {h : AH} {K : Option Value → AH → Prop} {kp yd qk pm n ht p s : Nat} {pg ks : Nat → Nat} {stp fl : Int32} {m : Nat} {hd : HD} {w : SV} {mp ms : Int32} (g : CJ h (kp, yd, qk, pm, pg, (n, ks, ht, p, s, stp, fl, m, hd), w) mp ms) (ok : Sok (kp, yd, qk, pm, pg, (n, ks, ht, p, s, stp, fl, m, hd), w)) (hK : ∀ h' : AH, CI h' (spBlank (kp, yd, qk, pm, pg, (n, ks, ht, p, s, stp, fl, m, hd), w)).2 → fr h h' 0 34 → K (some (.int (spBlank (kp, yd, qk, pm, pg, (n, ks, ht, p, s, stp, fl, m, hd), w)).1)) h') : aX6_blank 1 [.ref 0] h K := by
  obtain ⟨h0, hpg, hsc, ⟨u, hk, hku⟩, ⟨u2, hrc⟩, ⟨nm, fm, hme⟩, hro⟩ := id g
  obtain ⟨h3, ⟨f, hgr, hks⟩, hhe⟩ := id hsc
  obtain ⟨⟨ok1, ok2, ok3, ok4, ok5, ok6, ok7, ok8⟩, okp, okw, okq, okpm, okpg, oky⟩ := id ok
  have h1 := hpg.1
  have h4 := hgr.1
  have h6 := hhe.1
  unfold yO at h0
  refine AM.of [some (.ref 0)] pn_X6_blank rfl (Nat.le_of_ble_eq_true rfl) (fun X hX hE => ?_)
  refine AW_aload_n 1 hX dX6_blank_0 rfl rfl ?_
  refine AW_get 4 hX dX6_blank_1 rfl fl_X6_10 (by first | assumption | exact hset_eq | exact (hset_ne (by omega)).trans (by first | assumption | exact hset_eq | exact (hset_ne (by omega)).trans (by first | assumption | exact hset_eq | exact (hset_ne (by omega)).trans (by first | assumption | exact hset_eq | exact (hset_ne (by omega)).trans (by first | assumption | exact hset_eq))))) rfl ?_
  refine AW_cV (As := []) 7 hX dX6_blank_4 rfl ml_X6_68 mw_X3_clear (by first | assumption | exact hset_eq | exact (hset_ne (by omega)).trans (by first | assumption | exact hset_eq | exact (hset_ne (by omega)).trans (by first | assumption | exact hset_eq | exact (hset_ne (by omega)).trans (by first | assumption | exact hset_eq | exact (hset_ne (by omega)).trans (by first | assumption | exact hset_eq))))) (by decide) rfl rfl rfl (Nat.le_of_ble_eq_true rfl) (by decide) ⟨(Nat.le_refl _), (Nat.le_refl _)⟩ (c_pclear hpg (fun h' hp' hfr' => ?_))
  refine AW_iret hX hE dX6_blank_7 rfl (Nat.le_refl _) (Nat.le_refl _) ?_
  exact hK h' ⟨mp, ms, CJ_page g hp' hfr'⟩ (fr_wide hfr' (by omega) (by omega))
set_option maxRecDepth 100000 in
set_option maxHeartbeats 4000000 in
theorem C_fault {h : AH} {K : Option Value → AH → Prop} {kp yd qk pm n ht p s : Nat} {pg ks : Nat → Nat} {stp fl : Int32} {m : Nat} {hd : HD} {w : SV} {mp ms : Int32} (g : CJ h (kp, yd, qk, pm, pg, (n, ks, ht, p, s, stp, fl, m, hd), w) mp ms) (ok : Sok (kp, yd, qk, pm, pg, (n, ks, ht, p, s, stp, fl, m, hd), w)) (hK : ∀ h' : AH, CI h' (spFault (kp, yd, qk, pm, pg, (n, ks, ht, p, s, stp, fl, m, hd), w)).2 → fr h h' 0 34 → K (some (.int (spFault (kp, yd, qk, pm, pg, (n, ks, ht, p, s, stp, fl, m, hd), w)).1)) h') : aX6_fault 7 [.ref 0] h K := by
  obtain ⟨h0, hpg, hsc, ⟨u, hk, hku⟩, ⟨u2, hrc⟩, ⟨nm, fm, hme⟩, hro⟩ := id g
  obtain ⟨h3, ⟨f, hgr, hks⟩, hhe⟩ := id hsc
  obtain ⟨⟨ok1, ok2, ok3, ok4, ok5, ok6, ok7, ok8⟩, okp, okw, okq, okpm, okpg, oky⟩ := id ok
  have h1 := hpg.1
  have h4 := hgr.1
  have h6 := hhe.1
  unfold yO at h0
  refine AM.of [some (.ref 0)] pn_X6_fault rfl (Nat.le_of_ble_eq_true rfl) (fun X hX hE => ?_)
  refine AW_aload_n 1 hX dX6_fault_0 rfl rfl ?_
  refine AW_get 4 hX dX6_fault_1 rfl fl_X6_10 (by first | assumption | exact hset_eq | exact (hset_ne (by omega)).trans (by first | assumption | exact hset_eq | exact (hset_ne (by omega)).trans (by first | assumption | exact hset_eq | exact (hset_ne (by omega)).trans (by first | assumption | exact hset_eq | exact (hset_ne (by omega)).trans (by first | assumption | exact hset_eq))))) rfl ?_
  refine AW_cV (As := []) 7 hX dX6_fault_4 rfl ml_X6_71 mw_X3_firstWrong (by first | assumption | exact hset_eq | exact (hset_ne (by omega)).trans (by first | assumption | exact hset_eq | exact (hset_ne (by omega)).trans (by first | assumption | exact hset_eq | exact (hset_ne (by omega)).trans (by first | assumption | exact hset_eq | exact (hset_ne (by omega)).trans (by first | assumption | exact hset_eq))))) (by decide) rfl rfl rfl (Nat.le_of_ble_eq_true rfl) (by decide) ⟨(Nat.le_refl _), (Nat.le_refl _)⟩ (c_firstWrong hpg ?_)
  refine AW_iret hX hE dX6_fault_7 rfl (Nat.le_refl _) (Nat.le_refl _) ?_
  exact hK h ⟨mp, ms, g⟩ (fr_rf _ _ _)
set_option maxRecDepth 100000 in
set_option maxHeartbeats 4000000 in
theorem C_yard {h : AH} {K : Option Value → AH → Prop} {kp yd qk pm n ht p s : Nat} {pg ks : Nat → Nat} {stp fl : Int32} {m : Nat} {hd : HD} {w : SV} {mp ms : Int32} (g : CJ h (kp, yd, qk, pm, pg, (n, ks, ht, p, s, stp, fl, m, hd), w) mp ms) (ok : Sok (kp, yd, qk, pm, pg, (n, ks, ht, p, s, stp, fl, m, hd), w)) (hK : ∀ h' : AH, CI h' (spYard (kp, yd, qk, pm, pg, (n, ks, ht, p, s, stp, fl, m, hd), w)).2 → fr h h' 0 34 → K (some (.int (spYard (kp, yd, qk, pm, pg, (n, ks, ht, p, s, stp, fl, m, hd), w)).1)) h') : aX6_yard 8 [.ref 0] h K := by
  obtain ⟨h0, hpg, hsc, ⟨u, hk, hku⟩, ⟨u2, hrc⟩, ⟨nm, fm, hme⟩, hro⟩ := id g
  obtain ⟨h3, ⟨f, hgr, hks⟩, hhe⟩ := id hsc
  obtain ⟨⟨ok1, ok2, ok3, ok4, ok5, ok6, ok7, ok8⟩, okp, okw, okq, okpm, okpg, oky⟩ := id ok
  have h1 := hpg.1
  have h4 := hgr.1
  have h6 := hhe.1
  unfold yO at h0
  refine AM.of [some (.ref 0)] pn_X6_yard rfl (Nat.le_of_ble_eq_true rfl) (fun X hX hE => ?_)
  refine AW_aload_n 1 hX dX6_yard_0 rfl rfl ?_
  refine AW_get 4 hX dX6_yard_1 rfl fl_X6_10 (by first | assumption | exact hset_eq | exact (hset_ne (by omega)).trans (by first | assumption | exact hset_eq | exact (hset_ne (by omega)).trans (by first | assumption | exact hset_eq | exact (hset_ne (by omega)).trans (by first | assumption | exact hset_eq | exact (hset_ne (by omega)).trans (by first | assumption | exact hset_eq))))) rfl ?_
  refine AW_cV (As := []) 7 hX dX6_yard_4 rfl ml_X6_74 mw_X3_isWhole (by first | assumption | exact hset_eq | exact (hset_ne (by omega)).trans (by first | assumption | exact hset_eq | exact (hset_ne (by omega)).trans (by first | assumption | exact hset_eq | exact (hset_ne (by omega)).trans (by first | assumption | exact hset_eq | exact (hset_ne (by omega)).trans (by first | assumption | exact hset_eq))))) (by decide) rfl rfl rfl (Nat.le_of_ble_eq_true rfl) (by decide) ⟨(Nat.le_refl _), (Nat.le_refl _)⟩ (c_isWhole hpg (fun hw => ?_) (fun hw => ?_))
  · refine AW_if_ne 10 13 hX dX6_yard_7 rfl (by decide) (fun c7 => ?_) (fun c7 => absurd c7 (by decide))
    refine AW_aload_n 14 hX dX6_yard_13 rfl rfl ?_
    refine AW_get 17 hX dX6_yard_14 rfl fl_X6_19 (by first | assumption | exact hset_eq | exact (hset_ne (by omega)).trans (by first | assumption | exact hset_eq | exact (hset_ne (by omega)).trans (by first | assumption | exact hset_eq | exact (hset_ne (by omega)).trans (by first | assumption | exact hset_eq | exact (hset_ne (by omega)).trans (by first | assumption | exact hset_eq))))) rfl ?_
    refine AW_aload_n 18 hX dX6_yard_17 rfl rfl ?_
    refine AW_get 21 hX dX6_yard_18 rfl fl_X6_10 (by first | assumption | exact hset_eq | exact (hset_ne (by omega)).trans (by first | assumption | exact hset_eq | exact (hset_ne (by omega)).trans (by first | assumption | exact hset_eq | exact (hset_ne (by omega)).trans (by first | assumption | exact hset_eq | exact (hset_ne (by omega)).trans (by first | assumption | exact hset_eq))))) rfl ?_
    refine AW_cV (As := [_]) 24 hX dX6_yard_21 rfl ml_X6_78 mw_X5_begin (by first | assumption | exact hset_eq | exact (hset_ne (by omega)).trans (by first | assumption | exact hset_eq | exact (hset_ne (by omega)).trans (by first | assumption | exact hset_eq | exact (hset_ne (by omega)).trans (by first | assumption | exact hset_eq | exact (hset_ne (by omega)).trans (by first | assumption | exact hset_eq))))) (by decide) rfl rfl rfl (Nat.le_of_ble_eq_true rfl) (by decide) ⟨(Nat.le_refl _), (Nat.le_refl _)⟩ (c_begin hsc hpg hw (by omega) (fun h' hsc' hfr' => ?_))
    have g' := CJ_now g hsc' hfr'
    have hpg' := g'.2.1
    have h0' := (hfr' 0 (by omega)).trans h0
    have h1' := hpg'.1
    refine AW_aload_n 25 hX dX6_yard_24 rfl rfl ?_
    refine AW_get 28 hX dX6_yard_25 rfl fl_X6_10 (by first | assumption | exact hset_eq | exact (hset_ne (by omega)).trans (by first | assumption | exact hset_eq | exact (hset_ne (by omega)).trans (by first | assumption | exact hset_eq | exact (hset_ne (by omega)).trans (by first | assumption | exact hset_eq | exact (hset_ne (by omega)).trans (by first | assumption | exact hset_eq))))) rfl ?_
    refine AW_cV (As := []) 31 hX dX6_yard_28 rfl ml_X6_68 mw_X3_clear (by first | assumption | exact hset_eq | exact (hset_ne (by omega)).trans (by first | assumption | exact hset_eq | exact (hset_ne (by omega)).trans (by first | assumption | exact hset_eq | exact (hset_ne (by omega)).trans (by first | assumption | exact hset_eq | exact (hset_ne (by omega)).trans (by first | assumption | exact hset_eq))))) (by decide) rfl rfl rfl (Nat.le_of_ble_eq_true rfl) (by decide) ⟨(Nat.le_refl _), (Nat.le_refl _)⟩ (c_pclear hpg' (fun h2 hp2 hfr2 => ?_))
    have g2 := CJ_page g' hp2 hfr2
    have h02 := (hfr2 0 (by omega)).trans h0'
    obtain ⟨h32, ⟨f2, hgr2, hks2⟩, hhe2⟩ := id g2.2.2.1
    have h42 := hgr2.1
    refine AW_pop 32 hX dX6_yard_31 rfl rfl ?_
    refine AW_aload_n 33 hX dX6_yard_32 rfl rfl ?_
    refine AW_iconst 34 hX dX6_yard_33 rfl ic_0 ?_
    refine AW_put 37 hX dX6_yard_34 rfl fl_X6_43 (by first | assumption | exact hset_eq | exact (hset_ne (by omega)).trans (by first | assumption | exact hset_eq | exact (hset_ne (by omega)).trans (by first | assumption | exact hset_eq | exact (hset_ne (by omega)).trans (by first | assumption | exact hset_eq | exact (hset_ne (by omega)).trans (by first | assumption | exact hset_eq))))) rfl (fun _ => rfl) (fun _ => rfl) (Nat.le_of_ble_eq_true rfl) ?_
    try rw [hset_hset]
    refine AW_aload_n 38 hX dX6_yard_37 rfl rfl ?_
    refine AW_dup 39 hX dX6_yard_38 rfl rfl ?_
    refine AW_get 42 hX dX6_yard_39 rfl fl_X6_47 (by first | assumption | exact hset_eq | exact (hset_ne (by omega)).trans (by first | assumption | exact hset_eq | exact (hset_ne (by omega)).trans (by first | assumption | exact hset_eq | exact (hset_ne (by omega)).trans (by first | assumption | exact hset_eq | exact (hset_ne (by omega)).trans (by first | assumption | exact hset_eq))))) rfl ?_
    refine AW_iconst 43 hX dX6_yard_42 rfl ic_1 ?_
    refine AW_iadd 44 hX dX6_yard_43 rfl ?_
    refine AW_put 47 hX dX6_yard_44 rfl fl_X6_47 (by first | assumption | exact hset_eq | exact (hset_ne (by omega)).trans (by first | assumption | exact hset_eq | exact (hset_ne (by omega)).trans (by first | assumption | exact hset_eq | exact (hset_ne (by omega)).trans (by first | assumption | exact hset_eq | exact (hset_ne (by omega)).trans (by first | assumption | exact hset_eq))))) rfl (fun _ => rfl) (fun _ => rfl) (Nat.le_of_ble_eq_true rfl) ?_
    try rw [hset_hset]
    refine AW_aload_n 48 hX dX6_yard_47 rfl rfl ?_
    refine AW_get 51 hX dX6_yard_48 rfl fl_X6_19 (by first | assumption | exact hset_eq | exact (hset_ne (by omega)).trans (by first | assumption | exact hset_eq | exact (hset_ne (by omega)).trans (by first | assumption | exact hset_eq | exact (hset_ne (by omega)).trans (by first | assumption | exact hset_eq | exact (hset_ne (by omega)).trans (by first | assumption | exact hset_eq))))) rfl ?_
    refine AW_get 54 hX dX6_yard_51 rfl fl_X6_82 (by first | assumption | exact hset_eq | exact (hset_ne (by omega)).trans (by first | assumption | exact hset_eq | exact (hset_ne (by omega)).trans (by first | assumption | exact hset_eq | exact (hset_ne (by omega)).trans (by first | assumption | exact hset_eq | exact (hset_ne (by omega)).trans (by first | assumption | exact hset_eq))))) rfl ?_
    refine AW_cV (As := []) 57 hX dX6_yard_54 rfl ml_X6_85 mw_X0_places (by first | assumption | exact hset_eq | exact (hset_ne (by omega)).trans (by first | assumption | exact hset_eq | exact (hset_ne (by omega)).trans (by first | assumption | exact hset_eq | exact (hset_ne (by omega)).trans (by first | assumption | exact hset_eq | exact (hset_ne (by omega)).trans (by first | assumption | exact hset_eq))))) (by decide) rfl rfl rfl (Nat.le_of_ble_eq_true rfl) (by decide) ⟨(Nat.le_refl _), (Nat.le_refl _)⟩ (c_places ((hset_ne (by omega)).trans h42) ?_)
    refine AW_iret hX hE dX6_yard_57 rfl (Nat.le_refl _) (Nat.le_refl _) ?_
    have e : spYard (kp, yd, qk, pm, pg, (n, ks, ht, p, s, stp, fl, m, hd), w) = (nI (plc pm pg), (0, yd + 1, qk, 0, pg, (plc pm pg, fun j => kn (pAt pm pg j), pAt pm pg (pm - 1) - 48, 0, 0, 0, 0, 0, hd), w)) := by
      show cif _ _ _ = _
      rw [cif_pos hw]
    rw [e] at hK
    rw [nI_1]
    exact hK _ ⟨mp, ms, CJ_obj (kp' := 0) (yd' := yd + 1) (qk' := qk) (mp' := mp) (ms' := ms) (fun q => by omega) g2⟩ (fr_tr (fr_tr (fr_wide hfr' (by omega) (by omega)) (fr_wide hfr2 (by omega) (by omega))) (fr_set (by omega) (by omega)))
  · refine AW_if_ne 10 13 hX dX6_yard_7 rfl (by decide) (fun c7 => absurd rfl c7) (fun c7 => ?_)
    refine AW_bipush 12 hX dX6_yard_10 rfl bp_m103 ?_
    refine AW_iret hX hE dX6_yard_12 rfl (Nat.le_refl _) (Nat.le_refl _) ?_
    have e : spYard (kp, yd, qk, pm, pg, (n, ks, ht, p, s, stp, fl, m, hd), w) = (-103, (kp, yd, qk, pm, pg, (n, ks, ht, p, s, stp, fl, m, hd), w)) := by
      show cif _ _ _ = _
      rw [cif_neg hw]
    rw [e] at hK
    exact hK h ⟨mp, ms, g⟩ (fr_rf _ _ _)
set_option maxRecDepth 100000 in
set_option maxHeartbeats 4000000 in
theorem C_about {h : AH} {K : Option Value → AH → Prop} {kp yd qk pm n ht p s : Nat} {pg ks : Nat → Nat} {stp fl : Int32} {m : Nat} {hd : HD} {w : SV} {mp ms : Int32} (g : CJ h (kp, yd, qk, pm, pg, (n, ks, ht, p, s, stp, fl, m, hd), w) mp ms) (ok : Sok (kp, yd, qk, pm, pg, (n, ks, ht, p, s, stp, fl, m, hd), w)) (x y : Int32) (hK : ∀ h' : AH, CI h' (spAbout (kp, yd, qk, pm, pg, (n, ks, ht, p, s, stp, fl, m, hd), w) x y).2 → fr h h' 0 34 → K (some (.int (spAbout (kp, yd, qk, pm, pg, (n, ks, ht, p, s, stp, fl, m, hd), w) x y).1)) h') : aX6_about 5 [.ref 0, .int x, .int y] h K := by
  obtain ⟨h0, hpg, hsc, ⟨u, hk, hku⟩, ⟨u2, hrc⟩, ⟨nm, fm, hme⟩, hro⟩ := id g
  obtain ⟨h3, ⟨f, hgr, hks⟩, hhe⟩ := id hsc
  obtain ⟨⟨ok1, ok2, ok3, ok4, ok5, ok6, ok7, ok8⟩, okp, okw, okq, okpm, okpg, oky⟩ := id ok
  have h1 := hpg.1
  have h4 := hgr.1
  have h6 := hhe.1
  unfold yO at h0
  refine AM.of [some (.ref 0), some (.int x), some (.int y), none] pn_X6_about rfl (Nat.le_of_ble_eq_true rfl) (fun X hX hE => ?_)
  refine AW_aload_n 1 hX dX6_about_0 rfl rfl ?_
  refine AW_get 4 hX dX6_about_1 rfl fl_X6_19 (by first | assumption | exact hset_eq | exact (hset_ne (by omega)).trans (by first | assumption | exact hset_eq | exact (hset_ne (by omega)).trans (by first | assumption | exact hset_eq | exact (hset_ne (by omega)).trans (by first | assumption | exact hset_eq | exact (hset_ne (by omega)).trans (by first | assumption | exact hset_eq))))) rfl ?_
  refine AW_get 7 hX dX6_about_4 rfl fl_X6_82 (by first | assumption | exact hset_eq | exact (hset_ne (by omega)).trans (by first | assumption | exact hset_eq | exact (hset_ne (by omega)).trans (by first | assumption | exact hset_eq | exact (hset_ne (by omega)).trans (by first | assumption | exact hset_eq | exact (hset_ne (by omega)).trans (by first | assumption | exact hset_eq))))) rfl ?_
  refine AW_iload_n 8 hX dX6_about_7 rfl rfl ?_
  refine AW_cV (As := [_]) 11 hX dX6_about_8 rfl ml_X6_88 mw_X0_has (by first | assumption | exact hset_eq | exact (hset_ne (by omega)).trans (by first | assumption | exact hset_eq | exact (hset_ne (by omega)).trans (by first | assumption | exact hset_eq | exact (hset_ne (by omega)).trans (by first | assumption | exact hset_eq | exact (hset_ne (by omega)).trans (by first | assumption | exact hset_eq))))) (by decide) rfl rfl rfl (Nat.le_of_ble_eq_true rfl) (by decide) ⟨(Nat.le_refl _), (Nat.le_refl _)⟩ (c_has hgr x (fun q hq eq => ?_) (fun hno => ?_))
  · subst eq
    refine AW_if_ne 14 17 hX dX6_about_11 rfl (by decide) (fun c11 => ?_) (fun c11 => absurd c11 (by decide))
    refine AW_iload_n 18 hX dX6_about_17 rfl rfl ?_
    refine AW_if_lt 21 27 hX dX6_about_18 rfl (by decide) (fun c18 => ?_) (fun c18 => ?_)
    · refine AW_bipush 29 hX dX6_about_27 rfl bp_m102 ?_
      refine AW_iret hX hE dX6_about_29 rfl (Nat.le_refl _) (Nat.le_refl _) ?_
      have e : spAbout (kp, yd, qk, pm, pg, (n, ks, ht, p, s, stp, fl, m, hd), w) (nI q) y = (-102, (kp, yd, qk, pm, pg, (n, ks, ht, p, s, stp, fl, m, hd), w)) := by
        show (cif _ _ _, _) = _
        rw [cif_pos ⟨q, hq, rfl⟩, cif_neg (isP_no (by decide) (Or.inl c18))]
      rw [e] at hK
      exact hK h ⟨mp, ms, g⟩ (fr_rf _ _ _)
    · refine AW_iload_n 22 hX dX6_about_21 rfl rfl ?_
      refine AW_bipush 24 hX dX6_about_22 rfl bp_6 ?_
      refine AW_icmp_lt 27 30 hX dX6_about_24 rfl (by decide) (fun c24 => ?_) (fun c24 => ?_)
      · obtain ⟨k, hk6, ek⟩ := isP_of (n := 6) (by decide) c18 (Int32.not_le.mpr c24)
        subst ek
        refine AW_aload_n 31 hX dX6_about_30 rfl rfl ?_
        refine AW_get 34 hX dX6_about_31 rfl fl_X6_19 (by first | assumption | exact hset_eq | exact (hset_ne (by omega)).trans (by first | assumption | exact hset_eq | exact (hset_ne (by omega)).trans (by first | assumption | exact hset_eq | exact (hset_ne (by omega)).trans (by first | assumption | exact hset_eq | exact (hset_ne (by omega)).trans (by first | assumption | exact hset_eq))))) rfl ?_
        refine AW_get 37 hX dX6_about_34 rfl fl_X6_82 (by first | assumption | exact hset_eq | exact (hset_ne (by omega)).trans (by first | assumption | exact hset_eq | exact (hset_ne (by omega)).trans (by first | assumption | exact hset_eq | exact (hset_ne (by omega)).trans (by first | assumption | exact hset_eq | exact (hset_ne (by omega)).trans (by first | assumption | exact hset_eq))))) rfl ?_
        refine AW_iload_n 38 hX dX6_about_37 rfl rfl ?_
        refine AW_cV (As := [_]) 41 hX dX6_about_38 rfl ml_X6_91 mw_X0_kindAt (by first | assumption | exact hset_eq | exact (hset_ne (by omega)).trans (by first | assumption | exact hset_eq | exact (hset_ne (by omega)).trans (by first | assumption | exact hset_eq | exact (hset_ne (by omega)).trans (by first | assumption | exact hset_eq | exact (hset_ne (by omega)).trans (by first | assumption | exact hset_eq))))) (by decide) rfl rfl rfl (Nat.le_of_ble_eq_true rfl) (by decide) ⟨(Nat.le_refl _), (Nat.le_refl _)⟩ (c_kindAt hgr hq ?_)
        rw [hks q hq]
        refine AW_istore_n 42 hX dX6_about_41 rfl (Nat.le_of_ble_eq_true rfl) rfl ?_
        refine AW_iload_n 43 hX dX6_about_42 rfl rfl ?_
        rcases (show k = 0 ∨ k = 1 ∨ k = 2 ∨ k = 3 ∨ k = 4 ∨ k = 5 by omega) with rfl | rfl | rfl | rfl | rfl | rfl
        · refine AW_look (off := 33) 76 hX dX6_about_43 (by decide) (by decide) (by decide) ?_
          refine AW_iload_n 77 hX dX6_about_76 rfl rfl ?_
          refine AW_iret hX hE dX6_about_77 rfl (Nat.le_refl _) (Nat.le_refl _) ?_
          have e : spAbout (kp, yd, qk, pm, pg, (n, ks, ht, p, s, stp, fl, m, hd), w) (nI q) (nI 0) = (nI (ks q), (kp, yd, qk, pm, pg, (n, ks, ht, p, s, stp, fl, m, hd), w)) := by
            show (cif _ _ _, _) = _
            rw [cif_pos ⟨q, hq, rfl⟩, cif_pos ⟨0, by omega, rfl⟩, cN_nI (by omega), cN_nI (by omega)]
            rfl
          rw [e] at hK
          exact hK h ⟨mp, ms, g⟩ (fr_rf _ _ _)
        · refine AW_look (off := 61) 104 hX dX6_about_43 (by decide) (by decide) (by decide) ?_
          refine AW_iload_n 105 hX dX6_about_104 rfl rfl ?_
          refine AW_iload_n 106 hX dX6_about_105 rfl rfl ?_
          refine AW_cS (As := [_, _]) 109 hX dX6_about_106 rfl ml_X6_110 mw_X2_growth rfl rfl (Nat.le_of_ble_eq_true rfl) (by decide) ⟨(Nat.le_refl _), (Nat.le_refl _)⟩ (c_growth (ks q) _ (ok2 q hq) ?_)
          refine AW_iret hX hE dX6_about_109 rfl (Nat.le_refl _) (Nat.le_refl _) ?_
          have e : spAbout (kp, yd, qk, pm, pg, (n, ks, ht, p, s, stp, fl, m, hd), w) (nI q) (nI 1) = (nI (gw (ks q) 1), (kp, yd, qk, pm, pg, (n, ks, ht, p, s, stp, fl, m, hd), w)) := by
            show (cif _ _ _, _) = _
            rw [cif_pos ⟨q, hq, rfl⟩, cif_pos ⟨1, by omega, rfl⟩, cN_nI (by omega), cN_nI (by omega)]
            rfl
          rw [e] at hK
          exact hK h ⟨mp, ms, g⟩ (fr_rf _ _ _)
        · refine AW_look (off := 61) 104 hX dX6_about_43 (by decide) (by decide) (by decide) ?_
          refine AW_iload_n 105 hX dX6_about_104 rfl rfl ?_
          refine AW_iload_n 106 hX dX6_about_105 rfl rfl ?_
          refine AW_cS (As := [_, _]) 109 hX dX6_about_106 rfl ml_X6_110 mw_X2_growth rfl rfl (Nat.le_of_ble_eq_true rfl) (by decide) ⟨(Nat.le_refl _), (Nat.le_refl _)⟩ (c_growth (ks q) _ (ok2 q hq) ?_)
          refine AW_iret hX hE dX6_about_109 rfl (Nat.le_refl _) (Nat.le_refl _) ?_
          have e : spAbout (kp, yd, qk, pm, pg, (n, ks, ht, p, s, stp, fl, m, hd), w) (nI q) (nI 2) = (nI (gw (ks q) 2), (kp, yd, qk, pm, pg, (n, ks, ht, p, s, stp, fl, m, hd), w)) := by
            show (cif _ _ _, _) = _
            rw [cif_pos ⟨q, hq, rfl⟩, cif_pos ⟨2, by omega, rfl⟩, cN_nI (by omega), cN_nI (by omega)]
            rfl
          rw [e] at hK
          exact hK h ⟨mp, ms, g⟩ (fr_rf _ _ _)
        · refine AW_look (off := 61) 104 hX dX6_about_43 (by decide) (by decide) (by decide) ?_
          refine AW_iload_n 105 hX dX6_about_104 rfl rfl ?_
          refine AW_iload_n 106 hX dX6_about_105 rfl rfl ?_
          refine AW_cS (As := [_, _]) 109 hX dX6_about_106 rfl ml_X6_110 mw_X2_growth rfl rfl (Nat.le_of_ble_eq_true rfl) (by decide) ⟨(Nat.le_refl _), (Nat.le_refl _)⟩ (c_growth (ks q) _ (ok2 q hq) ?_)
          refine AW_iret hX hE dX6_about_109 rfl (Nat.le_refl _) (Nat.le_refl _) ?_
          have e : spAbout (kp, yd, qk, pm, pg, (n, ks, ht, p, s, stp, fl, m, hd), w) (nI q) (nI 3) = (nI (gw (ks q) 3), (kp, yd, qk, pm, pg, (n, ks, ht, p, s, stp, fl, m, hd), w)) := by
            show (cif _ _ _, _) = _
            rw [cif_pos ⟨q, hq, rfl⟩, cif_pos ⟨3, by omega, rfl⟩, cN_nI (by omega), cN_nI (by omega)]
            rfl
          rw [e] at hK
          exact hK h ⟨mp, ms, g⟩ (fr_rf _ _ _)
        · refine AW_look (off := 35) 78 hX dX6_about_43 (by decide) (by decide) (by decide) ?_
          refine AW_iload_n 79 hX dX6_about_78 rfl rfl ?_
          refine AW_cS (As := [_]) 82 hX dX6_about_79 rfl ml_X6_95 mw_X2_onSpot rfl rfl (Nat.le_of_ble_eq_true rfl) (by decide) ⟨(Nat.le_refl _), (Nat.le_refl _)⟩ (c_onSpot _ (ok2 q hq) ?_)
          refine AW_iconst 83 hX dX6_about_82 rfl ic_2 ?_
          refine AW_iadd 84 hX dX6_about_83 rfl ?_
          refine AW_iret hX hE dX6_about_84 rfl (Nat.le_refl _) (Nat.le_refl _) ?_
          have e : spAbout (kp, yd, qk, pm, pg, (n, ks, ht, p, s, stp, fl, m, hd), w) (nI q) (nI 4) = (onS (ks q) + 2, (kp, yd, qk, pm, pg, (n, ks, ht, p, s, stp, fl, m, hd), w)) := by
            show (cif _ _ _, _) = _
            rw [cif_pos ⟨q, hq, rfl⟩, cif_pos ⟨4, by omega, rfl⟩, cN_nI (by omega), cN_nI (by omega)]
            rfl
          rw [e] at hK
          exact hK h ⟨mp, ms, g⟩ (fr_rf _ _ _)
        · refine AW_look (off := 42) 85 hX dX6_about_43 (by decide) (by decide) (by decide) ?_
          refine AW_aload_n 86 hX dX6_about_85 rfl rfl ?_
          refine AW_get 89 hX dX6_about_86 rfl fl_X6_19 (by first | assumption | exact hset_eq | exact (hset_ne (by omega)).trans (by first | assumption | exact hset_eq | exact (hset_ne (by omega)).trans (by first | assumption | exact hset_eq | exact (hset_ne (by omega)).trans (by first | assumption | exact hset_eq | exact (hset_ne (by omega)).trans (by first | assumption | exact hset_eq))))) rfl ?_
          refine AW_get 92 hX dX6_about_89 rfl fl_X6_100 (by first | assumption | exact hset_eq | exact (hset_ne (by omega)).trans (by first | assumption | exact hset_eq | exact (hset_ne (by omega)).trans (by first | assumption | exact hset_eq | exact (hset_ne (by omega)).trans (by first | assumption | exact hset_eq | exact (hset_ne (by omega)).trans (by first | assumption | exact hset_eq))))) rfl ?_
          refine AW_aload_n 93 hX dX6_about_92 rfl rfl ?_
          refine AW_get 96 hX dX6_about_93 rfl fl_X6_19 (by first | assumption | exact hset_eq | exact (hset_ne (by omega)).trans (by first | assumption | exact hset_eq | exact (hset_ne (by omega)).trans (by first | assumption | exact hset_eq | exact (hset_ne (by omega)).trans (by first | assumption | exact hset_eq | exact (hset_ne (by omega)).trans (by first | assumption | exact hset_eq))))) rfl ?_
          refine AW_get 99 hX dX6_about_96 rfl fl_X6_82 (by first | assumption | exact hset_eq | exact (hset_ne (by omega)).trans (by first | assumption | exact hset_eq | exact (hset_ne (by omega)).trans (by first | assumption | exact hset_eq | exact (hset_ne (by omega)).trans (by first | assumption | exact hset_eq | exact (hset_ne (by omega)).trans (by first | assumption | exact hset_eq))))) rfl ?_
          refine AW_iload_n 100 hX dX6_about_99 rfl rfl ?_
          refine AW_cV (As := [_, _]) 103 hX dX6_about_100 rfl ml_X6_104 mw_X1_bestTry (by first | assumption | exact hset_eq | exact (hset_ne (by omega)).trans (by first | assumption | exact hset_eq | exact (hset_ne (by omega)).trans (by first | assumption | exact hset_eq | exact (hset_ne (by omega)).trans (by first | assumption | exact hset_eq | exact (hset_ne (by omega)).trans (by first | assumption | exact hset_eq))))) (by decide) rfl rfl rfl (Nat.le_of_ble_eq_true rfl) (by decide) ⟨(Nat.le_refl _), (Nat.le_refl _)⟩ (c_bestTry hgr hks ok2 hhe ok5 q hq ?_)
          refine AW_iret hX hE dX6_about_103 rfl (Nat.le_refl _) (Nat.le_refl _) ?_
          have e : spAbout (kp, yd, qk, pm, pg, (n, ks, ht, p, s, stp, fl, m, hd), w) (nI q) (nI 5) = (tryC ks hd m q, (kp, yd, qk, pm, pg, (n, ks, ht, p, s, stp, fl, m, hd), w)) := by
            show (cif _ _ _, _) = _
            rw [cif_pos ⟨q, hq, rfl⟩, cif_pos ⟨5, by omega, rfl⟩, cN_nI (by omega), cN_nI (by omega)]
            rfl
          rw [e] at hK
          exact hK h ⟨mp, ms, g⟩ (fr_rf _ _ _)
      · refine AW_bipush 29 hX dX6_about_27 rfl bp_m102 ?_
        refine AW_iret hX hE dX6_about_29 rfl (Nat.le_refl _) (Nat.le_refl _) ?_
        have e : spAbout (kp, yd, qk, pm, pg, (n, ks, ht, p, s, stp, fl, m, hd), w) (nI q) y = (-102, (kp, yd, qk, pm, pg, (n, ks, ht, p, s, stp, fl, m, hd), w)) := by
          show (cif _ _ _, _) = _
          rw [cif_pos ⟨q, hq, rfl⟩, cif_neg (isP_no (n := 6) (by decide) (Or.inr (Int32.not_lt.mp c24)))]
        rw [e] at hK
        exact hK h ⟨mp, ms, g⟩ (fr_rf _ _ _)
  · refine AW_if_ne 14 17 hX dX6_about_11 rfl (by decide) (fun c11 => absurd rfl c11) (fun c11 => ?_)
    refine AW_bipush 16 hX dX6_about_14 rfl bp_m101 ?_
    refine AW_iret hX hE dX6_about_16 rfl (Nat.le_refl _) (Nat.le_refl _) ?_
    have e : spAbout (kp, yd, qk, pm, pg, (n, ks, ht, p, s, stp, fl, m, hd), w) x y = (-101, (kp, yd, qk, pm, pg, (n, ks, ht, p, s, stp, fl, m, hd), w)) := by
      show (cif _ _ _, _) = _
      rw [cif_neg (fun ⟨q, hq, eq⟩ => hno q hq eq)]
    rw [e] at hK
    exact hK h ⟨mp, ms, g⟩ (fr_rf _ _ _)
set_option maxRecDepth 100000 in
set_option maxHeartbeats 4000000 in
theorem C_as {h : AH} {K : Option Value → AH → Prop} {kp yd qk pm n ht p s : Nat} {pg ks : Nat → Nat} {stp fl : Int32} {m : Nat} {hd : HD} {w : SV} {mp ms : Int32} (g : CJ h (kp, yd, qk, pm, pg, (n, ks, ht, p, s, stp, fl, m, hd), w) mp ms) (ok : Sok (kp, yd, qk, pm, pg, (n, ks, ht, p, s, stp, fl, m, hd), w)) (x y : Int32) (hK : ∀ h' : AH, CI h' (spAs (kp, yd, qk, pm, pg, (n, ks, ht, p, s, stp, fl, m, hd), w) x y).2 → fr h h' 0 34 → K (some (.int (spAs (kp, yd, qk, pm, pg, (n, ks, ht, p, s, stp, fl, m, hd), w) x y).1)) h') : aX6_as 2 [.ref 0, .int x, .int y] h K := by
  obtain ⟨h0, hpg, hsc, ⟨u, hk, hku⟩, ⟨u2, hrc⟩, ⟨nm, fm, hme⟩, hro⟩ := id g
  obtain ⟨h3, ⟨f, hgr, hks⟩, hhe⟩ := id hsc
  obtain ⟨⟨ok1, ok2, ok3, ok4, ok5, ok6, ok7, ok8⟩, okp, okw, okq, okpm, okpg, oky⟩ := id ok
  have h1 := hpg.1
  have h4 := hgr.1
  have h6 := hhe.1
  unfold yO at h0
  refine AM.of [some (.ref 0), some (.int x), some (.int y)] pn_X6_as rfl (Nat.le_of_ble_eq_true rfl) (fun X hX hE => ?_)
  refine AW_aload_n 1 hX dX6_as_0 rfl rfl ?_
  refine AW_get 4 hX dX6_as_1 rfl fl_X6_19 (by first | assumption | exact hset_eq | exact (hset_ne (by omega)).trans (by first | assumption | exact hset_eq | exact (hset_ne (by omega)).trans (by first | assumption | exact hset_eq | exact (hset_ne (by omega)).trans (by first | assumption | exact hset_eq | exact (hset_ne (by omega)).trans (by first | assumption | exact hset_eq))))) rfl ?_
  refine AW_get 7 hX dX6_as_4 rfl fl_X6_82 (by first | assumption | exact hset_eq | exact (hset_ne (by omega)).trans (by first | assumption | exact hset_eq | exact (hset_ne (by omega)).trans (by first | assumption | exact hset_eq | exact (hset_ne (by omega)).trans (by first | assumption | exact hset_eq | exact (hset_ne (by omega)).trans (by first | assumption | exact hset_eq))))) rfl ?_
  refine AW_iload_n 8 hX dX6_as_7 rfl rfl ?_
  refine AW_cV (As := [_]) 11 hX dX6_as_8 rfl ml_X6_88 mw_X0_has (by first | assumption | exact hset_eq | exact (hset_ne (by omega)).trans (by first | assumption | exact hset_eq | exact (hset_ne (by omega)).trans (by first | assumption | exact hset_eq | exact (hset_ne (by omega)).trans (by first | assumption | exact hset_eq | exact (hset_ne (by omega)).trans (by first | assumption | exact hset_eq))))) (by decide) rfl rfl rfl (Nat.le_of_ble_eq_true rfl) (by decide) ⟨(Nat.le_refl _), (Nat.le_refl _)⟩ (c_has hgr x (fun q hq eq => ?_) (fun hno => ?_))
  · subst eq
    refine AW_if_ne 14 17 hX dX6_as_11 rfl (by decide) (fun c11 => ?_) (fun c11 => absurd c11 (by decide))
    refine AW_iload_n 18 hX dX6_as_17 rfl rfl ?_
    refine AW_cS (As := [_]) 21 hX dX6_as_18 rfl ml_X6_114 mw_X2_isKind rfl rfl (Nat.le_of_ble_eq_true rfl) (by decide) ⟨(Nat.le_refl _), (Nat.le_refl _)⟩ (c_isKind y (fun k hk4 ek => ?_) (fun hno => ?_))
    · subst ek
      refine AW_if_ne 24 27 hX dX6_as_21 rfl (by decide) (fun c21 => ?_) (fun c21 => absurd c21 (by decide))
      refine AW_aload_n 28 hX dX6_as_27 rfl rfl ?_
      refine AW_get 31 hX dX6_as_28 rfl fl_X6_19 (by first | assumption | exact hset_eq | exact (hset_ne (by omega)).trans (by first | assumption | exact hset_eq | exact (hset_ne (by omega)).trans (by first | assumption | exact hset_eq | exact (hset_ne (by omega)).trans (by first | assumption | exact hset_eq | exact (hset_ne (by omega)).trans (by first | assumption | exact hset_eq))))) rfl ?_
      refine AW_get 34 hX dX6_as_31 rfl fl_X6_82 (by first | assumption | exact hset_eq | exact (hset_ne (by omega)).trans (by first | assumption | exact hset_eq | exact (hset_ne (by omega)).trans (by first | assumption | exact hset_eq | exact (hset_ne (by omega)).trans (by first | assumption | exact hset_eq | exact (hset_ne (by omega)).trans (by first | assumption | exact hset_eq))))) rfl ?_
      refine AW_iload_n 35 hX dX6_as_34 rfl rfl ?_
      refine AW_cV (As := [_]) 38 hX dX6_as_35 rfl ml_X6_91 mw_X0_kindAt (by first | assumption | exact hset_eq | exact (hset_ne (by omega)).trans (by first | assumption | exact hset_eq | exact (hset_ne (by omega)).trans (by first | assumption | exact hset_eq | exact (hset_ne (by omega)).trans (by first | assumption | exact hset_eq | exact (hset_ne (by omega)).trans (by first | assumption | exact hset_eq))))) (by decide) rfl rfl rfl (Nat.le_of_ble_eq_true rfl) (by decide) ⟨(Nat.le_refl _), (Nat.le_refl _)⟩ (c_kindAt hgr hq ?_)
      rw [hks q hq]
      refine AW_iload_n 39 hX dX6_as_38 rfl rfl ?_
      refine AW_cS (As := [_, _]) 42 hX dX6_as_39 rfl ml_X6_117 mw_X2_isA rfl rfl (Nat.le_of_ble_eq_true rfl) (by decide) ⟨(Nat.le_refl _), (Nat.le_refl _)⟩ (c_isA _ k (ok2 q hq) hk4 (fun ha => ?_) (fun ha => ?_))
      · refine AW_if_eq 45 49 hX dX6_as_42 rfl (by decide) (fun c42 => absurd c42 (by decide)) (fun c42 => ?_)
        refine AW_iload_n 46 hX dX6_as_45 rfl rfl ?_
        refine AW_goto 50 hX dX6_as_46 (by decide) ?_
        refine AW_iret hX hE dX6_as_50 rfl (Nat.le_refl _) (Nat.le_refl _) ?_
        have e : spAs (kp, yd, qk, pm, pg, (n, ks, ht, p, s, stp, fl, m, hd), w) (nI q) (nI k) = (nI q, (kp, yd, qk, pm, pg, (n, ks, ht, p, s, stp, fl, m, hd), w)) := by
          show (cif _ _ _, _) = _
          rw [cif_pos ⟨q, hq, rfl⟩, cif_pos ⟨k, by omega, rfl⟩, cN_nI (by omega), cN_nI (by omega), cif_pos ha]
        rw [e] at hK
        exact hK h ⟨mp, ms, g⟩ (fr_rf _ _ _)
      · refine AW_if_eq 45 49 hX dX6_as_42 rfl (by decide) (fun c42 => ?_) (fun c42 => absurd rfl c42)
        refine AW_iconst 50 hX dX6_as_49 rfl ic_m1 ?_
        refine AW_iret hX hE dX6_as_50 rfl (Nat.le_refl _) (Nat.le_refl _) ?_
        have e : spAs (kp, yd, qk, pm, pg, (n, ks, ht, p, s, stp, fl, m, hd), w) (nI q) (nI k) = (-1, (kp, yd, qk, pm, pg, (n, ks, ht, p, s, stp, fl, m, hd), w)) := by
          show (cif _ _ _, _) = _
          rw [cif_pos ⟨q, hq, rfl⟩, cif_pos ⟨k, by omega, rfl⟩, cN_nI (by omega), cN_nI (by omega), cif_neg ha]
        rw [e] at hK
        exact hK h ⟨mp, ms, g⟩ (fr_rf _ _ _)
    · refine AW_if_ne 24 27 hX dX6_as_21 rfl (by decide) (fun c21 => absurd rfl c21) (fun c21 => ?_)
      refine AW_bipush 26 hX dX6_as_24 rfl bp_m102 ?_
      refine AW_iret hX hE dX6_as_26 rfl (Nat.le_refl _) (Nat.le_refl _) ?_
      have e : spAs (kp, yd, qk, pm, pg, (n, ks, ht, p, s, stp, fl, m, hd), w) (nI q) y = (-102, (kp, yd, qk, pm, pg, (n, ks, ht, p, s, stp, fl, m, hd), w)) := by
        show (cif _ _ _, _) = _
        rw [cif_pos ⟨q, hq, rfl⟩, cif_neg (fun ⟨k, hk, ek⟩ => hno k (by omega) ek)]
      rw [e] at hK
      exact hK h ⟨mp, ms, g⟩ (fr_rf _ _ _)
  · refine AW_if_ne 14 17 hX dX6_as_11 rfl (by decide) (fun c11 => absurd rfl c11) (fun c11 => ?_)
    refine AW_bipush 16 hX dX6_as_14 rfl bp_m101 ?_
    refine AW_iret hX hE dX6_as_16 rfl (Nat.le_refl _) (Nat.le_refl _) ?_
    have e : spAs (kp, yd, qk, pm, pg, (n, ks, ht, p, s, stp, fl, m, hd), w) x y = (-101, (kp, yd, qk, pm, pg, (n, ks, ht, p, s, stp, fl, m, hd), w)) := by
      show (cif _ _ _, _) = _
      rw [cif_neg (fun ⟨q, hq, eq⟩ => hno q hq eq)]
    rw [e] at hK
    exact hK h ⟨mp, ms, g⟩ (fr_rf _ _ _)
set_option maxRecDepth 100000 in
set_option maxHeartbeats 4000000 in
theorem C_lay {h : AH} {K : Option Value → AH → Prop} {kp yd qk pm n ht p s : Nat} {pg ks : Nat → Nat} {stp fl : Int32} {m : Nat} {hd : HD} {w : SV} {mp ms : Int32} (g : CJ h (kp, yd, qk, pm, pg, (n, ks, ht, p, s, stp, fl, m, hd), w) mp ms) (ok : Sok (kp, yd, qk, pm, pg, (n, ks, ht, p, s, stp, fl, m, hd), w)) (x y : Int32) (hK : ∀ h' : AH, CI h' (spLay (kp, yd, qk, pm, pg, (n, ks, ht, p, s, stp, fl, m, hd), w) x y).2 → fr h h' 0 34 → K (some (.int (spLay (kp, yd, qk, pm, pg, (n, ks, ht, p, s, stp, fl, m, hd), w) x y).1)) h') : aX6_lay 2 [.ref 0, .int x, .int y] h K := by
  obtain ⟨h0, hpg, hsc, ⟨u, hk, hku⟩, ⟨u2, hrc⟩, ⟨nm, fm, hme⟩, hro⟩ := id g
  obtain ⟨h3, ⟨f, hgr, hks⟩, hhe⟩ := id hsc
  obtain ⟨⟨ok1, ok2, ok3, ok4, ok5, ok6, ok7, ok8⟩, okp, okw, okq, okpm, okpg, oky⟩ := id ok
  have h1 := hpg.1
  have h4 := hgr.1
  have h6 := hhe.1
  unfold yO at h0
  refine AM.of [some (.ref 0), some (.int x), some (.int y)] pn_X6_lay rfl (Nat.le_of_ble_eq_true rfl) (fun X hX hE => ?_)
  refine AW_aload_n 1 hX dX6_lay_0 rfl rfl ?_
  refine AW_get 4 hX dX6_lay_1 rfl fl_X6_19 (by first | assumption | exact hset_eq | exact (hset_ne (by omega)).trans (by first | assumption | exact hset_eq | exact (hset_ne (by omega)).trans (by first | assumption | exact hset_eq | exact (hset_ne (by omega)).trans (by first | assumption | exact hset_eq | exact (hset_ne (by omega)).trans (by first | assumption | exact hset_eq))))) rfl ?_
  refine AW_get 7 hX dX6_lay_4 rfl fl_X6_82 (by first | assumption | exact hset_eq | exact (hset_ne (by omega)).trans (by first | assumption | exact hset_eq | exact (hset_ne (by omega)).trans (by first | assumption | exact hset_eq | exact (hset_ne (by omega)).trans (by first | assumption | exact hset_eq | exact (hset_ne (by omega)).trans (by first | assumption | exact hset_eq))))) rfl ?_
  refine AW_iload_n 8 hX dX6_lay_7 rfl rfl ?_
  refine AW_cV (As := [_]) 11 hX dX6_lay_8 rfl ml_X6_88 mw_X0_has (by first | assumption | exact hset_eq | exact (hset_ne (by omega)).trans (by first | assumption | exact hset_eq | exact (hset_ne (by omega)).trans (by first | assumption | exact hset_eq | exact (hset_ne (by omega)).trans (by first | assumption | exact hset_eq | exact (hset_ne (by omega)).trans (by first | assumption | exact hset_eq))))) (by decide) rfl rfl rfl (Nat.le_of_ble_eq_true rfl) (by decide) ⟨(Nat.le_refl _), (Nat.le_refl _)⟩ (c_has hgr x (fun q hq eq => ?_) (fun hno => ?_))
  · subst eq
    refine AW_if_ne 14 17 hX dX6_lay_11 rfl (by decide) (fun c11 => ?_) (fun c11 => absurd c11 (by decide))
    refine AW_iload_n 18 hX dX6_lay_17 rfl rfl ?_
    refine AW_cS (As := [_]) 21 hX dX6_lay_18 rfl ml_X6_114 mw_X2_isKind rfl rfl (Nat.le_of_ble_eq_true rfl) (by decide) ⟨(Nat.le_refl _), (Nat.le_refl _)⟩ (c_isKind y (fun k hk4 ek => ?_) (fun hno => ?_))
    · subst ek
      refine AW_if_ne 24 27 hX dX6_lay_21 rfl (by decide) (fun c21 => ?_) (fun c21 => absurd c21 (by decide))
      refine AW_aload_n 28 hX dX6_lay_27 rfl rfl ?_
      refine AW_get 31 hX dX6_lay_28 rfl fl_X6_19 (by first | assumption | exact hset_eq | exact (hset_ne (by omega)).trans (by first | assumption | exact hset_eq | exact (hset_ne (by omega)).trans (by first | assumption | exact hset_eq | exact (hset_ne (by omega)).trans (by first | assumption | exact hset_eq | exact (hset_ne (by omega)).trans (by first | assumption | exact hset_eq))))) rfl ?_
      refine AW_get 34 hX dX6_lay_31 rfl fl_X6_82 (by first | assumption | exact hset_eq | exact (hset_ne (by omega)).trans (by first | assumption | exact hset_eq | exact (hset_ne (by omega)).trans (by first | assumption | exact hset_eq | exact (hset_ne (by omega)).trans (by first | assumption | exact hset_eq | exact (hset_ne (by omega)).trans (by first | assumption | exact hset_eq))))) rfl ?_
      refine AW_iload_n 35 hX dX6_lay_34 rfl rfl ?_
      refine AW_iload_n 36 hX dX6_lay_35 rfl rfl ?_
      refine AW_cV (As := [_, _]) 39 hX dX6_lay_36 rfl ml_X6_121 mw_X0_put (by first | assumption | exact hset_eq | exact (hset_ne (by omega)).trans (by first | assumption | exact hset_eq | exact (hset_ne (by omega)).trans (by first | assumption | exact hset_eq | exact (hset_ne (by omega)).trans (by first | assumption | exact hset_eq | exact (hset_ne (by omega)).trans (by first | assumption | exact hset_eq))))) (by decide) rfl rfl rfl (Nat.le_of_ble_eq_true rfl) (by decide) ⟨(Nat.le_refl _), (Nat.le_refl _)⟩ (c_put hgr hq ?_)
      rw [hks q hq]
      refine AW_iret hX hE dX6_lay_39 rfl (Nat.le_refl _) (Nat.le_refl _) ?_
      have e : spLay (kp, yd, qk, pm, pg, (n, ks, ht, p, s, stp, fl, m, hd), w) (nI q) (nI k) = (nI (ks q), (kp, yd, qk, pm, pg, (n, fun j => if j = q then k else ks j, ht, p, s, stp, fl, m, hd), w)) := by
        show cif _ _ _ = _
        rw [cif_pos ⟨q, hq, rfl⟩, cif_pos ⟨k, by omega, rfl⟩, cN_nI (by omega), cN_nI (by omega)]
      rw [e] at hK
      refine hK _ ⟨mp, ms, CJ_now g ⟨(hset_ne (by omega)).trans h3, ⟨upd f q (nI k), ⟨(hset_ne (by omega)).trans h4, hset_eq, hgr.2.2⟩, fun j hj => ?_⟩, heC_fr hhe (fr_set (lo := 5) (hi := 6) (by omega) (by omega)) (by omega)⟩ (fr_set (by omega) (by omega))⟩ (fr_set (by omega) (by omega))
      show (if j = q then nI k else f j) = nI (if j = q then k else ks j)
      split
      · rfl
      · exact hks j hj
    · refine AW_if_ne 24 27 hX dX6_lay_21 rfl (by decide) (fun c21 => absurd rfl c21) (fun c21 => ?_)
      refine AW_bipush 26 hX dX6_lay_24 rfl bp_m102 ?_
      refine AW_iret hX hE dX6_lay_26 rfl (Nat.le_refl _) (Nat.le_refl _) ?_
      have e : spLay (kp, yd, qk, pm, pg, (n, ks, ht, p, s, stp, fl, m, hd), w) (nI q) y = (-102, (kp, yd, qk, pm, pg, (n, ks, ht, p, s, stp, fl, m, hd), w)) := by
        show cif _ _ _ = _
        rw [cif_pos ⟨q, hq, rfl⟩, cif_neg (fun ⟨k, hk, ek⟩ => hno k (by omega) ek)]
      rw [e] at hK
      exact hK h ⟨mp, ms, g⟩ (fr_rf _ _ _)
  · refine AW_if_ne 14 17 hX dX6_lay_11 rfl (by decide) (fun c11 => absurd rfl c11) (fun c11 => ?_)
    refine AW_bipush 16 hX dX6_lay_14 rfl bp_m101 ?_
    refine AW_iret hX hE dX6_lay_16 rfl (Nat.le_refl _) (Nat.le_refl _) ?_
    have e : spLay (kp, yd, qk, pm, pg, (n, ks, ht, p, s, stp, fl, m, hd), w) x y = (-101, (kp, yd, qk, pm, pg, (n, ks, ht, p, s, stp, fl, m, hd), w)) := by
      show cif _ _ _ = _
      rw [cif_neg (fun ⟨q, hq, eq⟩ => hno q hq eq)]
    rw [e] at hK
    exact hK h ⟨mp, ms, g⟩ (fr_rf _ _ _)
set_option maxRecDepth 100000 in
set_option maxHeartbeats 4000000 in
theorem C_blocks {h : AH} {K : Option Value → AH → Prop} {kp yd qk pm n ht p s : Nat} {pg ks : Nat → Nat} {stp fl : Int32} {m : Nat} {hd : HD} {w : SV} {mp ms : Int32} (g : CJ h (kp, yd, qk, pm, pg, (n, ks, ht, p, s, stp, fl, m, hd), w) mp ms) (ok : Sok (kp, yd, qk, pm, pg, (n, ks, ht, p, s, stp, fl, m, hd), w)) (x : Int32) (hK : ∀ h' : AH, CI h' (spBlocks (kp, yd, qk, pm, pg, (n, ks, ht, p, s, stp, fl, m, hd), w) x).2 → fr h h' 0 34 → K (some (.int (spBlocks (kp, yd, qk, pm, pg, (n, ks, ht, p, s, stp, fl, m, hd), w) x).1)) h') : aX6_blocks 2 [.ref 0, .int x] h K := by
  obtain ⟨h0, hpg, hsc, ⟨u, hk, hku⟩, ⟨u2, hrc⟩, ⟨nm, fm, hme⟩, hro⟩ := id g
  obtain ⟨h3, ⟨f, hgr, hks⟩, hhe⟩ := id hsc
  obtain ⟨⟨ok1, ok2, ok3, ok4, ok5, ok6, ok7, ok8⟩, okp, okw, okq, okpm, okpg, oky⟩ := id ok
  have h1 := hpg.1
  have h4 := hgr.1
  have h6 := hhe.1
  unfold yO at h0
  refine AM.of [some (.ref 0), some (.int x)] pn_X6_blocks rfl (Nat.le_of_ble_eq_true rfl) (fun X hX hE => ?_)
  refine AW_iload_n 1 hX dX6_blocks_0 rfl rfl ?_
  refine AW_iconst 2 hX dX6_blocks_1 rfl ic_1 ?_
  refine AW_icmp_lt 5 11 hX dX6_blocks_2 rfl (by decide) (fun c2 => ?_) (fun c2 => ?_)
  · refine AW_bipush 13 hX dX6_blocks_11 rfl bp_m102 ?_
    refine AW_iret hX hE dX6_blocks_13 rfl (Nat.le_refl _) (Nat.le_refl _) ?_
    have e : spBlocks (kp, yd, qk, pm, pg, (n, ks, ht, p, s, stp, fl, m, hd), w) x = (-102, (kp, yd, qk, pm, pg, (n, ks, ht, p, s, stp, fl, m, hd), w)) := by
      show cif _ _ _ = _
      rw [cif_pos (Or.inl c2)]
    rw [e] at hK
    exact hK h ⟨mp, ms, g⟩ (fr_rf _ _ _)
  · refine AW_iload_n 6 hX dX6_blocks_5 rfl rfl ?_
    refine AW_bipush 8 hX dX6_blocks_6 rfl bp_9 ?_
    refine AW_icmp_le 11 14 hX dX6_blocks_8 rfl (by decide) (fun c8 => ?_) (fun c8 => ?_)
    · obtain ⟨c, hc1, hc2, ec⟩ := rg (x := x) 1 9 (by decide) (by decide) c2 (Int32.not_lt.mpr c8)
      subst ec
      refine AW_aload_n 15 hX dX6_blocks_14 rfl rfl ?_
      refine AW_cV (As := []) 18 hX dX6_blocks_15 rfl ml_X6_124 mw_X6_hasYard (by first | assumption | exact hset_eq | exact (hset_ne (by omega)).trans (by first | assumption | exact hset_eq | exact (hset_ne (by omega)).trans (by first | assumption | exact hset_eq | exact (hset_ne (by omega)).trans (by first | assumption | exact hset_eq | exact (hset_ne (by omega)).trans (by first | assumption | exact hset_eq))))) (by decide) rfl rfl rfl (Nat.le_of_ble_eq_true rfl) (by decide) ⟨(Nat.le_refl _), (Nat.le_refl _)⟩ (C_hasYard g ok (fun hn => ?_) (fun hn => ?_))
      · refine AW_if_ne 21 24 hX dX6_blocks_18 rfl (by decide) (fun c18 => ?_) (fun c18 => absurd c18 (by decide))
        refine AW_aload_n 25 hX dX6_blocks_24 rfl rfl ?_
        refine AW_get 28 hX dX6_blocks_25 rfl fl_X6_19 (by first | assumption | exact hset_eq | exact (hset_ne (by omega)).trans (by first | assumption | exact hset_eq | exact (hset_ne (by omega)).trans (by first | assumption | exact hset_eq | exact (hset_ne (by omega)).trans (by first | assumption | exact hset_eq | exact (hset_ne (by omega)).trans (by first | assumption | exact hset_eq))))) rfl ?_
        refine AW_iload_n 29 hX dX6_blocks_28 rfl rfl ?_
        refine AW_cV (As := [_]) 32 hX dX6_blocks_29 rfl ml_X6_127 mw_X5_changeHeight (by first | assumption | exact hset_eq | exact (hset_ne (by omega)).trans (by first | assumption | exact hset_eq | exact (hset_ne (by omega)).trans (by first | assumption | exact hset_eq | exact (hset_ne (by omega)).trans (by first | assumption | exact hset_eq | exact (hset_ne (by omega)).trans (by first | assumption | exact hset_eq))))) (by decide) rfl rfl rfl (Nat.le_of_ble_eq_true rfl) (by decide) ⟨(Nat.le_refl _), (Nat.le_refl _)⟩ (c_changeHeight hsc c (fun h' hsc' hfr' => ?_))
        refine AW_iret hX hE dX6_blocks_32 rfl (Nat.le_refl _) (Nat.le_refl _) ?_
        have e : spBlocks (kp, yd, qk, pm, pg, (n, ks, ht, p, s, stp, fl, m, hd), w) (nI c) = (nI ht, (kp, yd, qk, pm, pg, (n, ks, c, 0, 0, stp, fl, m, hd), w)) := by
          show cif _ _ _ = _
          rw [cif_neg (show ¬ (nI c < 1 ∨ 9 < nI c) from rgI (lo := 1) (hi := 9) (by decide) rfl hc1 hc2), cif_neg (by omega), cN_nI (by omega)]
        rw [e] at hK
        exact hK h' ⟨mp, ms, CJ_now g hsc' (fr_wide hfr' (by omega) (by omega))⟩ (fr_wide hfr' (by omega) (by omega))
      · refine AW_if_ne 21 24 hX dX6_blocks_18 rfl (by decide) (fun c18 => absurd rfl c18) (fun c18 => ?_)
        refine AW_bipush 23 hX dX6_blocks_21 rfl bp_m103 ?_
        refine AW_iret hX hE dX6_blocks_23 rfl (Nat.le_refl _) (Nat.le_refl _) ?_
        have e : spBlocks (kp, yd, qk, pm, pg, (n, ks, ht, p, s, stp, fl, m, hd), w) (nI c) = (-103, (kp, yd, qk, pm, pg, (n, ks, ht, p, s, stp, fl, m, hd), w)) := by
          show cif _ _ _ = _
          rw [cif_neg (show ¬ (nI c < 1 ∨ 9 < nI c) from rgI (lo := 1) (hi := 9) (by decide) rfl hc1 hc2), cif_pos hn]
        rw [e] at hK
        exact hK h ⟨mp, ms, g⟩ (fr_rf _ _ _)
    · refine AW_bipush 13 hX dX6_blocks_11 rfl bp_m102 ?_
      refine AW_iret hX hE dX6_blocks_13 rfl (Nat.le_refl _) (Nat.le_refl _) ?_
      have e : spBlocks (kp, yd, qk, pm, pg, (n, ks, ht, p, s, stp, fl, m, hd), w) x = (-102, (kp, yd, qk, pm, pg, (n, ks, ht, p, s, stp, fl, m, hd), w)) := by
        show cif _ _ _ = _
        rw [cif_pos (Or.inr (Int32.not_le.mp c8))]
      rw [e] at hK
      exact hK h ⟨mp, ms, g⟩ (fr_rf _ _ _)
set_option maxRecDepth 100000 in
set_option maxHeartbeats 4000000 in
theorem C_step {h : AH} {K : Option Value → AH → Prop} {kp yd qk pm n ht p s : Nat} {pg ks : Nat → Nat} {stp fl : Int32} {m : Nat} {hd : HD} {w : SV} {mp ms : Int32} (g : CJ h (kp, yd, qk, pm, pg, (n, ks, ht, p, s, stp, fl, m, hd), w) mp ms) (ok : Sok (kp, yd, qk, pm, pg, (n, ks, ht, p, s, stp, fl, m, hd), w)) (x : Int32) (hK : ∀ h' : AH, CI h' (spStep (kp, yd, qk, pm, pg, (n, ks, ht, p, s, stp, fl, m, hd), w) x).2 → fr h h' 0 34 → K (some (.int (spStep (kp, yd, qk, pm, pg, (n, ks, ht, p, s, stp, fl, m, hd), w) x).1)) h') : aX6_step 4 [.ref 0, .int x] h K := by
  obtain ⟨h0, hpg, hsc, ⟨u, hk, hku⟩, ⟨u2, hrc⟩, ⟨nm, fm, hme⟩, hro⟩ := id g
  obtain ⟨h3, ⟨f, hgr, hks⟩, hhe⟩ := id hsc
  obtain ⟨⟨ok1, ok2, ok3, ok4, ok5, ok6, ok7, ok8⟩, okp, okw, okq, okpm, okpg, oky⟩ := id ok
  have h1 := hpg.1
  have h4 := hgr.1
  have h6 := hhe.1
  unfold yO at h0
  refine AM.of [some (.ref 0), some (.int x), none] pn_X6_step rfl (Nat.le_of_ble_eq_true rfl) (fun X hX hE => ?_)
  refine AW_aload_n 1 hX dX6_step_0 rfl rfl ?_
  refine AW_iload_n 2 hX dX6_step_1 rfl rfl ?_
  refine AW_cV (As := [_]) 5 hX dX6_step_2 rfl ml_X6_130 mw_X6_refusalOfStep (by first | assumption | exact hset_eq | exact (hset_ne (by omega)).trans (by first | assumption | exact hset_eq | exact (hset_ne (by omega)).trans (by first | assumption | exact hset_eq | exact (hset_ne (by omega)).trans (by first | assumption | exact hset_eq | exact (hset_ne (by omega)).trans (by first | assumption | exact hset_eq))))) (by decide) rfl rfl rfl (Nat.le_of_ble_eq_true rfl) (by decide) ⟨(Nat.le_refl _), (Nat.le_refl _)⟩ (C_refusal g ok x (fun hno => ?_) (fun far hf ef hno => ?_) (fun far hf ef hy => ?_))
  · refine AW_istore_n 6 hX dX6_step_5 rfl (Nat.le_of_ble_eq_true rfl) rfl ?_
    refine AW_iload_n 7 hX dX6_step_6 rfl rfl ?_
    refine AW_if_eq 10 12 hX dX6_step_7 rfl (by decide) (fun c7 => absurd c7 (by decide)) (fun c7 => ?_)
    refine AW_iload_n 11 hX dX6_step_10 rfl rfl ?_
    refine AW_iret hX hE dX6_step_11 rfl (Nat.le_refl _) (Nat.le_refl _) ?_
    have e : spStep (kp, yd, qk, pm, pg, (n, ks, ht, p, s, stp, fl, m, hd), w) x = (-102, (kp, yd, qk, pm, pg, (n, ks, ht, p, s, stp, fl, m, hd), w)) := by
      show cif _ _ _ = _
      rw [cif_neg hno]
    rw [e] at hK
    exact hK h ⟨mp, ms, g⟩ (fr_rf _ _ _)
  · subst ef
    refine AW_istore_n 6 hX dX6_step_5 rfl (Nat.le_of_ble_eq_true rfl) rfl ?_
    refine AW_iload_n 7 hX dX6_step_6 rfl rfl ?_
    refine AW_if_eq 10 12 hX dX6_step_7 rfl (by decide) (fun c7 => absurd c7 (by decide)) (fun c7 => ?_)
    refine AW_iload_n 11 hX dX6_step_10 rfl rfl ?_
    refine AW_iret hX hE dX6_step_11 rfl (Nat.le_refl _) (Nat.le_refl _) ?_
    have e : spStep (kp, yd, qk, pm, pg, (n, ks, ht, p, s, stp, fl, m, hd), w) (nI far) = (-103, (kp, yd, qk, pm, pg, (n, ks, ht, p, s, stp, fl, m, hd), w)) := by
      show cif _ _ _ = _
      rw [cif_pos ⟨far, by omega, rfl⟩, cN_nI (by omega), cif_neg hno]
    rw [e] at hK
    exact hK h ⟨mp, ms, g⟩ (fr_rf _ _ _)
  · subst ef
    refine AW_istore_n 6 hX dX6_step_5 rfl (Nat.le_of_ble_eq_true rfl) rfl ?_
    refine AW_iload_n 7 hX dX6_step_6 rfl rfl ?_
    refine AW_if_eq 10 12 hX dX6_step_7 rfl (by decide) (fun c7 => ?_) (fun c7 => absurd rfl c7)
    refine AW_aload_n 13 hX dX6_step_12 rfl rfl ?_
    refine AW_get 16 hX dX6_step_13 rfl fl_X6_19 (by first | assumption | exact hset_eq | exact (hset_ne (by omega)).trans (by first | assumption | exact hset_eq | exact (hset_ne (by omega)).trans (by first | assumption | exact hset_eq | exact (hset_ne (by omega)).trans (by first | assumption | exact hset_eq | exact (hset_ne (by omega)).trans (by first | assumption | exact hset_eq))))) rfl ?_
    refine AW_iload_n 17 hX dX6_step_16 rfl rfl ?_
    refine AW_cV (As := [_]) 20 hX dX6_step_17 rfl ml_X6_133 mw_X5_go (by first | assumption | exact hset_eq | exact (hset_ne (by omega)).trans (by first | assumption | exact hset_eq | exact (hset_ne (by omega)).trans (by first | assumption | exact hset_eq | exact (hset_ne (by omega)).trans (by first | assumption | exact hset_eq | exact (hset_ne (by omega)).trans (by first | assumption | exact hset_eq))))) (by decide) rfl rfl rfl (Nat.le_of_ble_eq_true rfl) (by decide) ⟨(Nat.le_refl _), (Nat.le_refl _)⟩ (c_go hsc ok2 (by omega) (by omega) ok1 far hf hy (fun h' hfell hsc' hfr' => ?_) (fun h' hfell hsc' hfr' => ?_))
    · refine AW_if_eq 23 33 hX dX6_step_20 rfl (by decide) (fun c20 => ?_) (fun c20 => absurd rfl c20)
      refine AW_iconst 34 hX dX6_step_33 rfl ic_m1 ?_
      refine AW_iret hX hE dX6_step_34 rfl (Nat.le_refl _) (Nat.le_refl _) ?_
      have e : spStep (kp, yd, qk, pm, pg, (n, ks, ht, p, s, stp, fl, m, hd), w) (nI far) = (-1, (kp, yd, qk, pm, pg, (n, ks, ht, 0, 0, stp + 1, fl + 1, m, hd), w)) := by
        show cif _ _ _ = _
        rw [cif_pos ⟨far, by omega, rfl⟩, cN_nI (by omega), cif_pos hy, cif_pos hfell]
      rw [e] at hK
      exact hK h' ⟨mp, ms, CJ_now g hsc' (fr_wide hfr' (by omega) (by omega))⟩ (fr_wide hfr' (by omega) (by omega))
    · have h0' := (hfr' 0 (by omega)).trans h0
      have h3' := hsc'.1
      refine AW_if_eq 23 33 hX dX6_step_20 rfl (by decide) (fun c20 => absurd c20 (by decide)) (fun c20 => ?_)
      refine AW_aload_n 24 hX dX6_step_23 rfl rfl ?_
      refine AW_get 27 hX dX6_step_24 rfl fl_X6_19 (by first | assumption | exact hset_eq | exact (hset_ne (by omega)).trans (by first | assumption | exact hset_eq | exact (hset_ne (by omega)).trans (by first | assumption | exact hset_eq | exact (hset_ne (by omega)).trans (by first | assumption | exact hset_eq | exact (hset_ne (by omega)).trans (by first | assumption | exact hset_eq))))) rfl ?_
      refine AW_get 30 hX dX6_step_27 rfl fl_X6_136 (by first | assumption | exact hset_eq | exact (hset_ne (by omega)).trans (by first | assumption | exact hset_eq | exact (hset_ne (by omega)).trans (by first | assumption | exact hset_eq | exact (hset_ne (by omega)).trans (by first | assumption | exact hset_eq | exact (hset_ne (by omega)).trans (by first | assumption | exact hset_eq))))) rfl ?_
      refine AW_goto 34 hX dX6_step_30 (by decide) ?_
      refine AW_iret hX hE dX6_step_34 rfl (Nat.le_refl _) (Nat.le_refl _) ?_
      have e : spStep (kp, yd, qk, pm, pg, (n, ks, ht, p, s, stp, fl, m, hd), w) (nI far) = (nI (p + far), (kp, yd, qk, pm, pg, (n, ks, ht, p + far, sa (ks (p + far)) s far, stp + 1, fl, m, hd), w)) := by
        show cif _ _ _ = _
        rw [cif_pos ⟨far, by omega, rfl⟩, cN_nI (by omega), cif_pos hy, cif_neg hfell]
      rw [e] at hK
      exact hK h' ⟨mp, ms, CJ_now g hsc' (fr_wide hfr' (by omega) (by omega))⟩ (fr_wide hfr' (by omega) (by omega))
set_option maxRecDepth 100000 in
set_option maxHeartbeats 4000000 in
theorem C_would {h : AH} {K : Option Value → AH → Prop} {kp yd qk pm n ht p s : Nat} {pg ks : Nat → Nat} {stp fl : Int32} {m : Nat} {hd : HD} {w : SV} {mp ms : Int32} (g : CJ h (kp, yd, qk, pm, pg, (n, ks, ht, p, s, stp, fl, m, hd), w) mp ms) (ok : Sok (kp, yd, qk, pm, pg, (n, ks, ht, p, s, stp, fl, m, hd), w)) (x : Int32) (hK : ∀ h' : AH, CI h' (spWould (kp, yd, qk, pm, pg, (n, ks, ht, p, s, stp, fl, m, hd), w) x).2 → fr h h' 0 34 → K (some (.int (spWould (kp, yd, qk, pm, pg, (n, ks, ht, p, s, stp, fl, m, hd), w) x).1)) h') : aX6_would 3 [.ref 0, .int x] h K := by
  obtain ⟨h0, hpg, hsc, ⟨u, hk, hku⟩, ⟨u2, hrc⟩, ⟨nm, fm, hme⟩, hro⟩ := id g
  obtain ⟨h3, ⟨f, hgr, hks⟩, hhe⟩ := id hsc
  obtain ⟨⟨ok1, ok2, ok3, ok4, ok5, ok6, ok7, ok8⟩, okp, okw, okq, okpm, okpg, oky⟩ := id ok
  have h1 := hpg.1
  have h4 := hgr.1
  have h6 := hhe.1
  unfold yO at h0
  refine AM.of [some (.ref 0), some (.int x), none] pn_X6_would rfl (Nat.le_of_ble_eq_true rfl) (fun X hX hE => ?_)
  refine AW_aload_n 1 hX dX6_would_0 rfl rfl ?_
  refine AW_iload_n 2 hX dX6_would_1 rfl rfl ?_
  refine AW_cV (As := [_]) 5 hX dX6_would_2 rfl ml_X6_130 mw_X6_refusalOfStep (by first | assumption | exact hset_eq | exact (hset_ne (by omega)).trans (by first | assumption | exact hset_eq | exact (hset_ne (by omega)).trans (by first | assumption | exact hset_eq | exact (hset_ne (by omega)).trans (by first | assumption | exact hset_eq | exact (hset_ne (by omega)).trans (by first | assumption | exact hset_eq))))) (by decide) rfl rfl rfl (Nat.le_of_ble_eq_true rfl) (by decide) ⟨(Nat.le_refl _), (Nat.le_refl _)⟩ (C_refusal g ok x (fun hno => ?_) (fun far hf ef hno => ?_) (fun far hf ef hy => ?_))
  · refine AW_istore_n 6 hX dX6_would_5 rfl (Nat.le_of_ble_eq_true rfl) rfl ?_
    refine AW_iload_n 7 hX dX6_would_6 rfl rfl ?_
    refine AW_if_eq 10 14 hX dX6_would_7 rfl (by decide) (fun c7 => absurd c7 (by decide)) (fun c7 => ?_)
    refine AW_iload_n 11 hX dX6_would_10 rfl rfl ?_
    refine AW_goto 22 hX dX6_would_11 (by decide) ?_
    refine AW_iret hX hE dX6_would_22 rfl (Nat.le_refl _) (Nat.le_refl _) ?_
    have e : spWould (kp, yd, qk, pm, pg, (n, ks, ht, p, s, stp, fl, m, hd), w) x = (-102, (kp, yd, qk, pm, pg, (n, ks, ht, p, s, stp, fl, m, hd), w)) := by
      show (cif _ _ _, _) = _
      rw [cif_neg hno]
    rw [e] at hK
    exact hK h ⟨mp, ms, g⟩ (fr_rf _ _ _)
  · subst ef
    refine AW_istore_n 6 hX dX6_would_5 rfl (Nat.le_of_ble_eq_true rfl) rfl ?_
    refine AW_iload_n 7 hX dX6_would_6 rfl rfl ?_
    refine AW_if_eq 10 14 hX dX6_would_7 rfl (by decide) (fun c7 => absurd c7 (by decide)) (fun c7 => ?_)
    refine AW_iload_n 11 hX dX6_would_10 rfl rfl ?_
    refine AW_goto 22 hX dX6_would_11 (by decide) ?_
    refine AW_iret hX hE dX6_would_22 rfl (Nat.le_refl _) (Nat.le_refl _) ?_
    have e : spWould (kp, yd, qk, pm, pg, (n, ks, ht, p, s, stp, fl, m, hd), w) (nI far) = (-103, (kp, yd, qk, pm, pg, (n, ks, ht, p, s, stp, fl, m, hd), w)) := by
      show (cif _ _ _, _) = _
      rw [cif_pos ⟨far, by omega, rfl⟩, cN_nI (by omega), cif_neg hno]
    rw [e] at hK
    exact hK h ⟨mp, ms, g⟩ (fr_rf _ _ _)
  · subst ef
    refine AW_istore_n 6 hX dX6_would_5 rfl (Nat.le_of_ble_eq_true rfl) rfl ?_
    refine AW_iload_n 7 hX dX6_would_6 rfl rfl ?_
    refine AW_if_eq 10 14 hX dX6_would_7 rfl (by decide) (fun c7 => ?_) (fun c7 => absurd rfl c7)
    refine AW_aload_n 15 hX dX6_would_14 rfl rfl ?_
    refine AW_get 18 hX dX6_would_15 rfl fl_X6_19 (by first | assumption | exact hset_eq | exact (hset_ne (by omega)).trans (by first | assumption | exact hset_eq | exact (hset_ne (by omega)).trans (by first | assumption | exact hset_eq | exact (hset_ne (by omega)).trans (by first | assumption | exact hset_eq | exact (hset_ne (by omega)).trans (by first | assumption | exact hset_eq))))) rfl ?_
    refine AW_iload_n 19 hX dX6_would_18 rfl rfl ?_
    refine AW_cV (As := [_]) 22 hX dX6_would_19 rfl ml_X6_139 mw_X5_swayBy (by first | assumption | exact hset_eq | exact (hset_ne (by omega)).trans (by first | assumption | exact hset_eq | exact (hset_ne (by omega)).trans (by first | assumption | exact hset_eq | exact (hset_ne (by omega)).trans (by first | assumption | exact hset_eq | exact (hset_ne (by omega)).trans (by first | assumption | exact hset_eq))))) (by decide) rfl rfl rfl (Nat.le_of_ble_eq_true rfl) (by decide) ⟨(Nat.le_refl _), (Nat.le_refl _)⟩ (c_sswayBy hsc ok2 (by omega) far hf hy ?_)
    refine AW_iret hX hE dX6_would_22 rfl (Nat.le_refl _) (Nat.le_refl _) ?_
    have e : spWould (kp, yd, qk, pm, pg, (n, ks, ht, p, s, stp, fl, m, hd), w) (nI far) = (nI (sa (ks (p + far)) s far), (kp, yd, qk, pm, pg, (n, ks, ht, p, s, stp, fl, m, hd), w)) := by
      show (cif _ _ _, _) = _
      rw [cif_pos ⟨far, by omega, rfl⟩, cN_nI (by omega), cif_pos hy]
    rw [e] at hK
    exact hK h ⟨mp, ms, g⟩ (fr_rf _ _ _)
set_option maxRecDepth 100000 in
set_option maxHeartbeats 4000000 in
theorem C_hear {h : AH} {K : Option Value → AH → Prop} {kp yd qk pm n ht p s : Nat} {pg ks : Nat → Nat} {stp fl : Int32} {m : Nat} {hd : HD} {w : SV} {mp ms : Int32} (g : CJ h (kp, yd, qk, pm, pg, (n, ks, ht, p, s, stp, fl, m, hd), w) mp ms) (ok : Sok (kp, yd, qk, pm, pg, (n, ks, ht, p, s, stp, fl, m, hd), w)) (x y z : Int32) (b : Nat) (hb1 : b ≤ 1) (hK : ∀ h' : AH, CI h' (spHear (kp, yd, qk, pm, pg, (n, ks, ht, p, s, stp, fl, m, hd), w) x y z (nI b)).2 → fr h h' 0 34 → K (some (.int (spHear (kp, yd, qk, pm, pg, (n, ks, ht, p, s, stp, fl, m, hd), w) x y z (nI b)).1)) h') : aX6_hear 1 [.ref 0, .int x, .int y, .int z, .int (nI b)] h K := by
  obtain ⟨h0, hpg, hsc, ⟨u, hk, hku⟩, ⟨u2, hrc⟩, ⟨nm, fm, hme⟩, hro⟩ := id g
  obtain ⟨h3, ⟨f, hgr, hks⟩, hhe⟩ := id hsc
  obtain ⟨⟨ok1, ok2, ok3, ok4, ok5, ok6, ok7, ok8⟩, okp, okw, okq, okpm, okpg, oky⟩ := id ok
  have h1 := hpg.1
  have h4 := hgr.1
  have h6 := hhe.1
  unfold yO at h0
  refine AM.of [some (.ref 0), some (.int x), some (.int y), some (.int z), some (.int (nI b))] pn_X6_hear rfl (Nat.le_of_ble_eq_true rfl) (fun X hX hE => ?_)
  refine AW_aload_n 1 hX dX6_hear_0 rfl rfl ?_
  refine AW_get 4 hX dX6_hear_1 rfl fl_X6_19 (by first | assumption | exact hset_eq | exact (hset_ne (by omega)).trans (by first | assumption | exact hset_eq | exact (hset_ne (by omega)).trans (by first | assumption | exact hset_eq | exact (hset_ne (by omega)).trans (by first | assumption | exact hset_eq | exact (hset_ne (by omega)).trans (by first | assumption | exact hset_eq))))) rfl ?_
  refine AW_get 7 hX dX6_hear_4 rfl fl_X6_82 (by first | assumption | exact hset_eq | exact (hset_ne (by omega)).trans (by first | assumption | exact hset_eq | exact (hset_ne (by omega)).trans (by first | assumption | exact hset_eq | exact (hset_ne (by omega)).trans (by first | assumption | exact hset_eq | exact (hset_ne (by omega)).trans (by first | assumption | exact hset_eq))))) rfl ?_
  refine AW_iload_n 8 hX dX6_hear_7 rfl rfl ?_
  refine AW_cV (As := [_]) 11 hX dX6_hear_8 rfl ml_X6_88 mw_X0_has (by first | assumption | exact hset_eq | exact (hset_ne (by omega)).trans (by first | assumption | exact hset_eq | exact (hset_ne (by omega)).trans (by first | assumption | exact hset_eq | exact (hset_ne (by omega)).trans (by first | assumption | exact hset_eq | exact (hset_ne (by omega)).trans (by first | assumption | exact hset_eq))))) (by decide) rfl rfl rfl (Nat.le_of_ble_eq_true rfl) (by decide) ⟨(Nat.le_refl _), (Nat.le_refl _)⟩ (c_has hgr x (fun q hq eq => ?_) (fun hno => ?_))
  · subst eq
    refine AW_if_ne 14 17 hX dX6_hear_11 rfl (by decide) (fun c11 => ?_) (fun c11 => absurd c11 (by decide))
    refine AW_iload_n 18 hX dX6_hear_17 rfl rfl ?_
    refine AW_iconst 19 hX dX6_hear_18 rfl ic_1 ?_
    refine AW_icmp_lt 22 37 hX dX6_hear_19 rfl (by decide) (fun c19 => ?_) (fun c19 => ?_)
    · refine AW_bipush 39 hX dX6_hear_37 rfl bp_m102 ?_
      refine AW_iret hX hE dX6_hear_39 rfl (Nat.le_refl _) (Nat.le_refl _) ?_
      have e : spHear (kp, yd, qk, pm, pg, (n, ks, ht, p, s, stp, fl, m, hd), w) (nI q) y z (nI b) = (-102, (kp, yd, qk, pm, pg, (n, ks, ht, p, s, stp, fl, m, hd), w)) := by
        show cif _ _ _ = _
        rw [cif_pos ⟨q, hq, rfl⟩, cif_pos (Or.inl (Or.inl c19))]
      rw [e] at hK
      exact hK h ⟨mp, ms, g⟩ (fr_rf _ _ _)
    · refine AW_iload_n 23 hX dX6_hear_22 rfl rfl ?_
      refine AW_iconst 24 hX dX6_hear_23 rfl ic_3 ?_
      refine AW_icmp_gt 27 37 hX dX6_hear_24 rfl (by decide) (fun c24 => ?_) (fun c24 => ?_)
      · refine AW_bipush 39 hX dX6_hear_37 rfl bp_m102 ?_
        refine AW_iret hX hE dX6_hear_39 rfl (Nat.le_refl _) (Nat.le_refl _) ?_
        have e : spHear (kp, yd, qk, pm, pg, (n, ks, ht, p, s, stp, fl, m, hd), w) (nI q) y z (nI b) = (-102, (kp, yd, qk, pm, pg, (n, ks, ht, p, s, stp, fl, m, hd), w)) := by
          show cif _ _ _ = _
          rw [cif_pos ⟨q, hq, rfl⟩, cif_pos (Or.inl (Or.inr c24))]
        rw [e] at hK
        exact hK h ⟨mp, ms, g⟩ (fr_rf _ _ _)
      · refine AW_iload_n 28 hX dX6_hear_27 rfl rfl ?_
        refine AW_if_lt 31 37 hX dX6_hear_28 rfl (by decide) (fun c28 => ?_) (fun c28 => ?_)
        · refine AW_bipush 39 hX dX6_hear_37 rfl bp_m102 ?_
          refine AW_iret hX hE dX6_hear_39 rfl (Nat.le_refl _) (Nat.le_refl _) ?_
          have e : spHear (kp, yd, qk, pm, pg, (n, ks, ht, p, s, stp, fl, m, hd), w) (nI q) y z (nI b) = (-102, (kp, yd, qk, pm, pg, (n, ks, ht, p, s, stp, fl, m, hd), w)) := by
            show cif _ _ _ = _
            rw [cif_pos ⟨q, hq, rfl⟩, cif_pos (Or.inr (Or.inl c28))]
          rw [e] at hK
          exact hK h ⟨mp, ms, g⟩ (fr_rf _ _ _)
        · refine AW_iload_n 32 hX dX6_hear_31 rfl rfl ?_
          refine AW_bipush 34 hX dX6_hear_32 rfl bp_12 ?_
          refine AW_icmp_lt 37 40 hX dX6_hear_34 rfl (by decide) (fun c34 => ?_) (fun c34 => ?_)
          · obtain ⟨cy, hy1, hy2, ey⟩ := rg (x := y) 1 3 (by decide) (by decide) c19 c24
            obtain ⟨cz, hz1, hz2, ez⟩ := rg (x := z) 0 11 (by decide) (by decide) c28 (fun q => absurd c34 (Int32.not_lt.mpr (Int32.le_iff_toInt_le.mpr (by have e := Int32.lt_iff_toInt_lt.mp q; rw [show (nI 11).toInt = 11 from rfl] at e; show (12 : Int) ≤ _; omega))))
            subst ey
            subst ez
            refine AW_aload_n 41 hX dX6_hear_40 rfl rfl ?_
            refine AW_get 44 hX dX6_hear_41 rfl fl_X6_19 (by first | assumption | exact hset_eq | exact (hset_ne (by omega)).trans (by first | assumption | exact hset_eq | exact (hset_ne (by omega)).trans (by first | assumption | exact hset_eq | exact (hset_ne (by omega)).trans (by first | assumption | exact hset_eq | exact (hset_ne (by omega)).trans (by first | assumption | exact hset_eq))))) rfl ?_
            refine AW_get 47 hX dX6_hear_44 rfl fl_X6_100 (by first | assumption | exact hset_eq | exact (hset_ne (by omega)).trans (by first | assumption | exact hset_eq | exact (hset_ne (by omega)).trans (by first | assumption | exact hset_eq | exact (hset_ne (by omega)).trans (by first | assumption | exact hset_eq | exact (hset_ne (by omega)).trans (by first | assumption | exact hset_eq))))) rfl ?_
            refine AW_iload_n 48 hX dX6_hear_47 rfl rfl ?_
            refine AW_iload_n 49 hX dX6_hear_48 rfl rfl ?_
            refine AW_iload_n 50 hX dX6_hear_49 rfl rfl ?_
            refine AW_iload 52 hX dX6_hear_50 rfl rfl ?_
            refine AW_cV (As := [_, _, _, _]) 55 hX dX6_hear_52 rfl ml_X6_161 mw_X1_append (by first | assumption | exact hset_eq | exact (hset_ne (by omega)).trans (by first | assumption | exact hset_eq | exact (hset_ne (by omega)).trans (by first | assumption | exact hset_eq | exact (hset_ne (by omega)).trans (by first | assumption | exact hset_eq | exact (hset_ne (by omega)).trans (by first | assumption | exact hset_eq))))) (by decide) rfl rfl rfl (Nat.le_of_ble_eq_true rfl) (by decide) ⟨(Nat.le_refl _), (Nat.le_refl _)⟩ (c_happend hhe q cy cz b hb1 (fun e6 => ?_) (fun h' hm6 hhe' hfr' => ?_))
            · refine AW_if_eq 58 71 hX dX6_hear_55 rfl (by decide) (fun c55 => ?_) (fun c55 => absurd rfl c55)
              refine AW_bipush 73 hX dX6_hear_71 rfl bp_m104 ?_
              refine AW_iret hX hE dX6_hear_73 rfl (Nat.le_refl _) (Nat.le_refl _) ?_
              have e : spHear (kp, yd, qk, pm, pg, (n, ks, ht, p, s, stp, fl, m, hd), w) (nI q) (nI cy) (nI cz) (nI b) = (-104, (kp, yd, qk, pm, pg, (n, ks, ht, p, s, stp, fl, m, hd), w)) := by
                show cif _ _ _ = _
                rw [cif_pos ⟨q, hq, rfl⟩, cif_neg (fun q => q.elim (fun q => rgI (lo := 1) (hi := 3) (by decide) rfl hy1 hy2 q) (fun q => rgI (lo := 0) (hi := 11) (by decide) rfl hz1 hz2 q)), cif_pos e6]
              rw [e] at hK
              exact hK h ⟨mp, ms, g⟩ (fr_rf _ _ _)
            · have h0' := (hfr' 0 (by omega)).trans h0
              have h3' := (hfr' 3 (by omega)).trans h3
              have h6' := hhe'.1
              refine AW_if_eq 58 71 hX dX6_hear_55 rfl (by decide) (fun c55 => absurd c55 (by decide)) (fun c55 => ?_)
              refine AW_aload_n 59 hX dX6_hear_58 rfl rfl ?_
              refine AW_get 62 hX dX6_hear_59 rfl fl_X6_19 (by first | assumption | exact hset_eq | exact (hset_ne (by omega)).trans (by first | assumption | exact hset_eq | exact (hset_ne (by omega)).trans (by first | assumption | exact hset_eq | exact (hset_ne (by omega)).trans (by first | assumption | exact hset_eq | exact (hset_ne (by omega)).trans (by first | assumption | exact hset_eq))))) rfl ?_
              refine AW_get 65 hX dX6_hear_62 rfl fl_X6_100 (by first | assumption | exact hset_eq | exact (hset_ne (by omega)).trans (by first | assumption | exact hset_eq | exact (hset_ne (by omega)).trans (by first | assumption | exact hset_eq | exact (hset_ne (by omega)).trans (by first | assumption | exact hset_eq | exact (hset_ne (by omega)).trans (by first | assumption | exact hset_eq))))) rfl ?_
              refine AW_cV (As := []) 68 hX dX6_hear_65 rfl ml_X6_164 mw_X1_size (by first | assumption | exact hset_eq | exact (hset_ne (by omega)).trans (by first | assumption | exact hset_eq | exact (hset_ne (by omega)).trans (by first | assumption | exact hset_eq | exact (hset_ne (by omega)).trans (by first | assumption | exact hset_eq | exact (hset_ne (by omega)).trans (by first | assumption | exact hset_eq))))) (by decide) rfl rfl rfl (Nat.le_of_ble_eq_true rfl) (by decide) ⟨(Nat.le_refl _), (Nat.le_refl _)⟩ (c_hsize hhe' ?_)
              refine AW_goto 73 hX dX6_hear_68 (by decide) ?_
              refine AW_iret hX hE dX6_hear_73 rfl (Nat.le_refl _) (Nat.le_refl _) ?_
              have e : spHear (kp, yd, qk, pm, pg, (n, ks, ht, p, s, stp, fl, m, hd), w) (nI q) (nI cy) (nI cz) (nI b) = (nI (m + 1), (kp, yd, qk, pm, pg, (n, ks, ht, p, s, stp, fl, m + 1, fun j => if j = m then (q, cy, cz, b) else hd j), w)) := by
                show cif _ _ _ = _
                rw [cif_pos ⟨q, hq, rfl⟩, cif_neg (fun q => q.elim (fun q => rgI (lo := 1) (hi := 3) (by decide) rfl hy1 hy2 q) (fun q => rgI (lo := 0) (hi := 11) (by decide) rfl hz1 hz2 q)), cif_neg (by omega), cN_nI (by omega), cN_nI (by omega), cN_nI (by omega), cN_nI (by omega)]
              rw [e] at hK
              exact hK h' ⟨mp, ms, CJ_now g ⟨h3', ⟨f, gr_fr hgr hfr' (by omega), hks⟩, hhe'⟩ (fr_wide hfr' (by omega) (by omega))⟩ (fr_wide hfr' (by omega) (by omega))
          · refine AW_bipush 39 hX dX6_hear_37 rfl bp_m102 ?_
            refine AW_iret hX hE dX6_hear_39 rfl (Nat.le_refl _) (Nat.le_refl _) ?_
            have e : spHear (kp, yd, qk, pm, pg, (n, ks, ht, p, s, stp, fl, m, hd), w) (nI q) y z (nI b) = (-102, (kp, yd, qk, pm, pg, (n, ks, ht, p, s, stp, fl, m, hd), w)) := by
              show cif _ _ _ = _
              rw [cif_pos ⟨q, hq, rfl⟩, cif_pos (Or.inr (Or.inr (Int32.lt_iff_toInt_lt.mpr (by have e := Int32.le_iff_toInt_le.mp (Int32.not_lt.mp c34); rw [show (12 : Int32).toInt = 12 from rfl] at e; show (11 : Int) < _; omega))))]
            rw [e] at hK
            exact hK h ⟨mp, ms, g⟩ (fr_rf _ _ _)
  · refine AW_if_ne 14 17 hX dX6_hear_11 rfl (by decide) (fun c11 => absurd rfl c11) (fun c11 => ?_)
    refine AW_bipush 16 hX dX6_hear_14 rfl bp_m101 ?_
    refine AW_iret hX hE dX6_hear_16 rfl (Nat.le_refl _) (Nat.le_refl _) ?_
    have e : spHear (kp, yd, qk, pm, pg, (n, ks, ht, p, s, stp, fl, m, hd), w) x y z (nI b) = (-101, (kp, yd, qk, pm, pg, (n, ks, ht, p, s, stp, fl, m, hd), w)) := by
      show cif _ _ _ = _
      rw [cif_neg (fun ⟨q, hq, eq⟩ => hno q hq eq)]
    rw [e] at hK
    exact hK h ⟨mp, ms, g⟩ (fr_rf _ _ _)
set_option maxRecDepth 100000 in
set_option maxHeartbeats 4000000 in
theorem C_forget {h : AH} {K : Option Value → AH → Prop} {kp yd qk pm n ht p s : Nat} {pg ks : Nat → Nat} {stp fl : Int32} {m : Nat} {hd : HD} {w : SV} {mp ms : Int32} (g : CJ h (kp, yd, qk, pm, pg, (n, ks, ht, p, s, stp, fl, m, hd), w) mp ms) (ok : Sok (kp, yd, qk, pm, pg, (n, ks, ht, p, s, stp, fl, m, hd), w)) (hK : ∀ h' : AH, CI h' (spForget (kp, yd, qk, pm, pg, (n, ks, ht, p, s, stp, fl, m, hd), w)).2 → fr h h' 0 34 → K (some (.int (spForget (kp, yd, qk, pm, pg, (n, ks, ht, p, s, stp, fl, m, hd), w)).1)) h') : aX6_forget 1 [.ref 0] h K := by
  obtain ⟨h0, hpg, hsc, ⟨u, hk, hku⟩, ⟨u2, hrc⟩, ⟨nm, fm, hme⟩, hro⟩ := id g
  obtain ⟨h3, ⟨f, hgr, hks⟩, hhe⟩ := id hsc
  obtain ⟨⟨ok1, ok2, ok3, ok4, ok5, ok6, ok7, ok8⟩, okp, okw, okq, okpm, okpg, oky⟩ := id ok
  have h1 := hpg.1
  have h4 := hgr.1
  have h6 := hhe.1
  unfold yO at h0
  refine AM.of [some (.ref 0)] pn_X6_forget rfl (Nat.le_of_ble_eq_true rfl) (fun X hX hE => ?_)
  refine AW_aload_n 1 hX dX6_forget_0 rfl rfl ?_
  refine AW_get 4 hX dX6_forget_1 rfl fl_X6_19 (by first | assumption | exact hset_eq | exact (hset_ne (by omega)).trans (by first | assumption | exact hset_eq | exact (hset_ne (by omega)).trans (by first | assumption | exact hset_eq | exact (hset_ne (by omega)).trans (by first | assumption | exact hset_eq | exact (hset_ne (by omega)).trans (by first | assumption | exact hset_eq))))) rfl ?_
  refine AW_get 7 hX dX6_forget_4 rfl fl_X6_100 (by first | assumption | exact hset_eq | exact (hset_ne (by omega)).trans (by first | assumption | exact hset_eq | exact (hset_ne (by omega)).trans (by first | assumption | exact hset_eq | exact (hset_ne (by omega)).trans (by first | assumption | exact hset_eq | exact (hset_ne (by omega)).trans (by first | assumption | exact hset_eq))))) rfl ?_
  refine AW_cV (As := []) 10 hX dX6_forget_7 rfl ml_X6_165 mw_X1_clear (by first | assumption | exact hset_eq | exact (hset_ne (by omega)).trans (by first | assumption | exact hset_eq | exact (hset_ne (by omega)).trans (by first | assumption | exact hset_eq | exact (hset_ne (by omega)).trans (by first | assumption | exact hset_eq | exact (hset_ne (by omega)).trans (by first | assumption | exact hset_eq))))) (by decide) rfl rfl rfl (Nat.le_of_ble_eq_true rfl) (by decide) ⟨(Nat.le_refl _), (Nat.le_refl _)⟩ (c_hclear hhe (fun h' hhe' hfr' => ?_))
  refine AW_iret hX hE dX6_forget_10 rfl (Nat.le_refl _) (Nat.le_refl _) ?_
  exact hK h' ⟨mp, ms, CJ_now g ⟨(hfr' 3 (by omega)).trans h3, ⟨f, gr_fr hgr hfr' (by omega), hks⟩, hhe'⟩ (fr_wide hfr' (by omega) (by omega))⟩ (fr_wide hfr' (by omega) (by omega))
set_option maxRecDepth 100000 in
set_option maxHeartbeats 4000000 in
theorem C_heights {h : AH} {K : Option Value → AH → Prop} {kp yd qk pm n ht p s : Nat} {pg ks : Nat → Nat} {stp fl : Int32} {m : Nat} {hd : HD} {w : SV} {mp ms : Int32} (g : CJ h (kp, yd, qk, pm, pg, (n, ks, ht, p, s, stp, fl, m, hd), w) mp ms) (ok : Sok (kp, yd, qk, pm, pg, (n, ks, ht, p, s, stp, fl, m, hd), w)) (hK : ∀ h' : AH, CI h' (spHeights (kp, yd, qk, pm, pg, (n, ks, ht, p, s, stp, fl, m, hd), w)).2 → fr h h' 0 34 → K (some (.int (spHeights (kp, yd, qk, pm, pg, (n, ks, ht, p, s, stp, fl, m, hd), w)).1)) h') : aX6_heights 4 [.ref 0] h K := by
  obtain ⟨h0, hpg, hsc, ⟨u, hk, hku⟩, ⟨u2, hrc⟩, ⟨nm, fm, hme⟩, hro⟩ := id g
  obtain ⟨h3, ⟨f, hgr, hks⟩, hhe⟩ := id hsc
  obtain ⟨⟨ok1, ok2, ok3, ok4, ok5, ok6, ok7, ok8⟩, okp, okw, okq, okpm, okpg, oky⟩ := id ok
  have h1 := hpg.1
  have h4 := hgr.1
  have h6 := hhe.1
  unfold yO at h0
  refine AM.of [some (.ref 0)] pn_X6_heights rfl (Nat.le_of_ble_eq_true rfl) (fun X hX hE => ?_)
  refine AW_aload_n 1 hX dX6_heights_0 rfl rfl ?_
  refine AW_cV (As := []) 4 hX dX6_heights_1 rfl ml_X6_124 mw_X6_hasYard (by first | assumption | exact hset_eq | exact (hset_ne (by omega)).trans (by first | assumption | exact hset_eq | exact (hset_ne (by omega)).trans (by first | assumption | exact hset_eq | exact (hset_ne (by omega)).trans (by first | assumption | exact hset_eq | exact (hset_ne (by omega)).trans (by first | assumption | exact hset_eq))))) (by decide) rfl rfl rfl (Nat.le_of_ble_eq_true rfl) (by decide) ⟨(Nat.le_refl _), (Nat.le_refl _)⟩ (C_hasYard g ok (fun hn => ?_) (fun hn => ?_))
  · refine AW_if_eq 7 27 hX dX6_heights_4 rfl (by decide) (fun c4 => absurd c4 (by decide)) (fun c4 => ?_)
    refine AW_aload_n 8 hX dX6_heights_7 rfl rfl ?_
    refine AW_get 11 hX dX6_heights_8 rfl fl_X6_19 (by first | assumption | exact hset_eq | exact (hset_ne (by omega)).trans (by first | assumption | exact hset_eq | exact (hset_ne (by omega)).trans (by first | assumption | exact hset_eq | exact (hset_ne (by omega)).trans (by first | assumption | exact hset_eq | exact (hset_ne (by omega)).trans (by first | assumption | exact hset_eq))))) rfl ?_
    refine AW_get 14 hX dX6_heights_11 rfl fl_X6_100 (by first | assumption | exact hset_eq | exact (hset_ne (by omega)).trans (by first | assumption | exact hset_eq | exact (hset_ne (by omega)).trans (by first | assumption | exact hset_eq | exact (hset_ne (by omega)).trans (by first | assumption | exact hset_eq | exact (hset_ne (by omega)).trans (by first | assumption | exact hset_eq))))) rfl ?_
    refine AW_aload_n 15 hX dX6_heights_14 rfl rfl ?_
    refine AW_get 18 hX dX6_heights_15 rfl fl_X6_19 (by first | assumption | exact hset_eq | exact (hset_ne (by omega)).trans (by first | assumption | exact hset_eq | exact (hset_ne (by omega)).trans (by first | assumption | exact hset_eq | exact (hset_ne (by omega)).trans (by first | assumption | exact hset_eq | exact (hset_ne (by omega)).trans (by first | assumption | exact hset_eq))))) rfl ?_
    refine AW_get 21 hX dX6_heights_18 rfl fl_X6_82 (by first | assumption | exact hset_eq | exact (hset_ne (by omega)).trans (by first | assumption | exact hset_eq | exact (hset_ne (by omega)).trans (by first | assumption | exact hset_eq | exact (hset_ne (by omega)).trans (by first | assumption | exact hset_eq | exact (hset_ne (by omega)).trans (by first | assumption | exact hset_eq))))) rfl ?_
    refine AW_cV (As := [_]) 24 hX dX6_heights_21 rfl ml_X6_166 mw_X1_heightBits (by first | assumption | exact hset_eq | exact (hset_ne (by omega)).trans (by first | assumption | exact hset_eq | exact (hset_ne (by omega)).trans (by first | assumption | exact hset_eq | exact (hset_ne (by omega)).trans (by first | assumption | exact hset_eq | exact (hset_ne (by omega)).trans (by first | assumption | exact hset_eq))))) (by decide) rfl rfl rfl (Nat.le_of_ble_eq_true rfl) (by decide) ⟨(Nat.le_refl _), (Nat.le_refl _)⟩ (c_heightBits hgr hks ok2 hhe ok5 ?_)
    refine AW_goto 29 hX dX6_heights_24 (by decide) ?_
    refine AW_iret hX hE dX6_heights_29 rfl (Nat.le_refl _) (Nat.le_refl _) ?_
    have e : spHeights (kp, yd, qk, pm, pg, (n, ks, ht, p, s, stp, fl, m, hd), w) = (hB ks hd m, (kp, yd, qk, pm, pg, (n, ks, ht, p, s, stp, fl, m, hd), w)) := by
      show (cif _ _ _, _) = _
      rw [cif_neg (by omega)]
    rw [e] at hK
    exact hK h ⟨mp, ms, g⟩ (fr_rf _ _ _)
  · refine AW_if_eq 7 27 hX dX6_heights_4 rfl (by decide) (fun c4 => ?_) (fun c4 => absurd rfl c4)
    refine AW_bipush 29 hX dX6_heights_27 rfl bp_m103 ?_
    refine AW_iret hX hE dX6_heights_29 rfl (Nat.le_refl _) (Nat.le_refl _) ?_
    have e : spHeights (kp, yd, qk, pm, pg, (n, ks, ht, p, s, stp, fl, m, hd), w) = (-103, (kp, yd, qk, pm, pg, (n, ks, ht, p, s, stp, fl, m, hd), w)) := by
      show (cif _ _ _, _) = _
      rw [cif_pos hn]
    rw [e] at hK
    exact hK h ⟨mp, ms, g⟩ (fr_rf _ _ _)
set_option maxRecDepth 100000 in
set_option maxHeartbeats 4000000 in
theorem C_races {h : AH} {K : Option Value → AH → Prop} {kp yd qk pm n ht p s : Nat} {pg ks : Nat → Nat} {stp fl : Int32} {m : Nat} {hd : HD} {w : SV} {mp ms : Int32} (g : CJ h (kp, yd, qk, pm, pg, (n, ks, ht, p, s, stp, fl, m, hd), w) mp ms) (ok : Sok (kp, yd, qk, pm, pg, (n, ks, ht, p, s, stp, fl, m, hd), w)) (x y z : Int32) (hK : ∀ h' : AH, CI h' (spRaces (kp, yd, qk, pm, pg, (n, ks, ht, p, s, stp, fl, m, hd), w) x y z).2 → fr h h' 0 34 → K (some (.int (spRaces (kp, yd, qk, pm, pg, (n, ks, ht, p, s, stp, fl, m, hd), w) x y z).1)) h') : aX6_races 5 [.ref 0, .int x, .int y, .int z] h K := by
  obtain ⟨h0, hpg, hsc, ⟨u, hk, hku⟩, ⟨u2, hrc⟩, ⟨nm, fm, hme⟩, hro⟩ := id g
  obtain ⟨h3, ⟨f, hgr, hks⟩, hhe⟩ := id hsc
  obtain ⟨⟨ok1, ok2, ok3, ok4, ok5, ok6, ok7, ok8⟩, okp, okw, okq, okpm, okpg, oky⟩ := id ok
  have h1 := hpg.1
  have h4 := hgr.1
  have h6 := hhe.1
  unfold yO at h0
  obtain ⟨n0, ks0, ht0, p0, s0, stp0, fl0, m0, hd0⟩ := u2
  have h19 := hrc.1
  refine AM.of [some (.ref 0), some (.int x), some (.int y), some (.int z), none] pn_X6_races rfl (Nat.le_of_ble_eq_true rfl) (fun X hX hE => ?_)
  refine AW_iload_n 1 hX dX6_races_0 rfl rfl ?_
  refine AW_iconst 2 hX dX6_races_1 rfl ic_1 ?_
  refine AW_icmp_lt 5 24 hX dX6_races_2 rfl (by decide) (fun c2 => ?_) (fun c2 => ?_)
  · refine AW_bipush 26 hX dX6_races_24 rfl bp_m102 ?_
    refine AW_iret hX hE dX6_races_26 rfl (Nat.le_refl _) (Nat.le_refl _) ?_
    have e : spRaces (kp, yd, qk, pm, pg, (n, ks, ht, p, s, stp, fl, m, hd), w) x y z = (-102, (kp, yd, qk, pm, pg, (n, ks, ht, p, s, stp, fl, m, hd), w)) := by
      show (cif _ _ _, _) = _
      rw [cif_pos (Or.inl (Or.inl c2))]
    rw [e] at hK
    exact hK h ⟨mp, ms, g⟩ (fr_rf _ _ _)
  · refine AW_iload_n 6 hX dX6_races_5 rfl rfl ?_
    refine AW_bipush 8 hX dX6_races_6 rfl bp_60 ?_
    refine AW_icmp_gt 11 24 hX dX6_races_8 rfl (by decide) (fun c8 => ?_) (fun c8 => ?_)
    · refine AW_bipush 26 hX dX6_races_24 rfl bp_m102 ?_
      refine AW_iret hX hE dX6_races_26 rfl (Nat.le_refl _) (Nat.le_refl _) ?_
      have e : spRaces (kp, yd, qk, pm, pg, (n, ks, ht, p, s, stp, fl, m, hd), w) x y z = (-102, (kp, yd, qk, pm, pg, (n, ks, ht, p, s, stp, fl, m, hd), w)) := by
        show (cif _ _ _, _) = _
        rw [cif_pos (Or.inl (Or.inr c8))]
      rw [e] at hK
      exact hK h ⟨mp, ms, g⟩ (fr_rf _ _ _)
    · refine AW_iload_n 12 hX dX6_races_11 rfl rfl ?_
      refine AW_if_lt 15 24 hX dX6_races_12 rfl (by decide) (fun c12 => ?_) (fun c12 => ?_)
      · refine AW_bipush 26 hX dX6_races_24 rfl bp_m102 ?_
        refine AW_iret hX hE dX6_races_26 rfl (Nat.le_refl _) (Nat.le_refl _) ?_
        have e : spRaces (kp, yd, qk, pm, pg, (n, ks, ht, p, s, stp, fl, m, hd), w) x y z = (-102, (kp, yd, qk, pm, pg, (n, ks, ht, p, s, stp, fl, m, hd), w)) := by
          show (cif _ _ _, _) = _
          rw [cif_pos (Or.inr (Or.inl c12))]
        rw [e] at hK
        exact hK h ⟨mp, ms, g⟩ (fr_rf _ _ _)
      · refine AW_iload_n 16 hX dX6_races_15 rfl rfl ?_
        refine AW_if_lt 19 24 hX dX6_races_16 rfl (by decide) (fun c16 => ?_) (fun c16 => ?_)
        · refine AW_bipush 26 hX dX6_races_24 rfl bp_m102 ?_
          refine AW_iret hX hE dX6_races_26 rfl (Nat.le_refl _) (Nat.le_refl _) ?_
          have e : spRaces (kp, yd, qk, pm, pg, (n, ks, ht, p, s, stp, fl, m, hd), w) x y z = (-102, (kp, yd, qk, pm, pg, (n, ks, ht, p, s, stp, fl, m, hd), w)) := by
            show (cif _ _ _, _) = _
            rw [cif_pos (Or.inr (Or.inr (Or.inl c16)))]
          rw [e] at hK
          exact hK h ⟨mp, ms, g⟩ (fr_rf _ _ _)
        · refine AW_iload_n 20 hX dX6_races_19 rfl rfl ?_
          refine AW_iconst 21 hX dX6_races_20 rfl ic_2 ?_
          refine AW_icmp_le 24 27 hX dX6_races_21 rfl (by decide) (fun c21 => ?_) (fun c21 => ?_)
          · obtain ⟨cx, hx1, hx2, ex⟩ := rg (x := x) 1 60 (by decide) (by decide) c2 c8
            obtain ⟨cy, hy1, ey⟩ := nI_of c12
            obtain ⟨cz, hz1, ez⟩ := isP_of (n := 3) (x := z) (by decide) c16 (fun q => by have e1 := Int32.le_iff_toInt_le.mp c21; have e2 := Int32.le_iff_toInt_le.mp q; rw [show (2 : Int32).toInt = 2 from rfl] at e1; rw [show (nI 3).toInt = 3 from rfl] at e2; omega)
            subst ex
            subst ey
            subst ez
            refine AW_aload_n 28 hX dX6_races_27 rfl rfl ?_
            refine AW_cV (As := []) 31 hX dX6_races_28 rfl ml_X6_124 mw_X6_hasYard (by first | assumption | exact hset_eq | exact (hset_ne (by omega)).trans (by first | assumption | exact hset_eq | exact (hset_ne (by omega)).trans (by first | assumption | exact hset_eq | exact (hset_ne (by omega)).trans (by first | assumption | exact hset_eq | exact (hset_ne (by omega)).trans (by first | assumption | exact hset_eq))))) (by decide) rfl rfl rfl (Nat.le_of_ble_eq_true rfl) (by decide) ⟨(Nat.le_refl _), (Nat.le_refl _)⟩ (C_hasYard g ok (fun hn => ?_) (fun hn => ?_))
            · refine AW_if_ne 34 37 hX dX6_races_31 rfl (by decide) (fun c31 => ?_) (fun c31 => absurd c31 (by decide))
              refine AW_aload_n 38 hX dX6_races_37 rfl rfl ?_
              refine AW_get 41 hX dX6_races_38 rfl fl_X6_26 (by first | assumption | exact hset_eq | exact (hset_ne (by omega)).trans (by first | assumption | exact hset_eq | exact (hset_ne (by omega)).trans (by first | assumption | exact hset_eq | exact (hset_ne (by omega)).trans (by first | assumption | exact hset_eq | exact (hset_ne (by omega)).trans (by first | assumption | exact hset_eq))))) rfl ?_
              refine AW_aload_n 42 hX dX6_races_41 rfl rfl ?_
              refine AW_get 45 hX dX6_races_42 rfl fl_X6_19 (by first | assumption | exact hset_eq | exact (hset_ne (by omega)).trans (by first | assumption | exact hset_eq | exact (hset_ne (by omega)).trans (by first | assumption | exact hset_eq | exact (hset_ne (by omega)).trans (by first | assumption | exact hset_eq | exact (hset_ne (by omega)).trans (by first | assumption | exact hset_eq))))) rfl ?_
              refine AW_cV (As := [_]) 48 hX dX6_races_45 rfl ml_X6_170 mw_X5_copyFrom (by first | assumption | exact hset_eq | exact (hset_ne (by omega)).trans (by first | assumption | exact hset_eq | exact (hset_ne (by omega)).trans (by first | assumption | exact hset_eq | exact (hset_ne (by omega)).trans (by first | assumption | exact hset_eq | exact (hset_ne (by omega)).trans (by first | assumption | exact hset_eq))))) (by decide) rfl rfl rfl (Nat.le_of_ble_eq_true rfl) (by decide) ⟨(Nat.le_refl _), (Nat.le_refl _)⟩ (c_scopy hrc hsc (by omega) (fun h2 hsc2 hfr2 => ?_))
              have g2 := CJ_raced g hsc2 (fr_wide hfr2 (by omega) (by omega))
              have h02 := (hfr2 0 (by omega)).trans h0
              have h192 := hsc2.1
              refine AW_aload_n 49 hX dX6_races_48 rfl rfl ?_
              refine AW_get 52 hX dX6_races_49 rfl fl_X6_26 (by first | assumption | exact hset_eq | exact (hset_ne (by omega)).trans (by first | assumption | exact hset_eq | exact (hset_ne (by omega)).trans (by first | assumption | exact hset_eq | exact (hset_ne (by omega)).trans (by first | assumption | exact hset_eq | exact (hset_ne (by omega)).trans (by first | assumption | exact hset_eq))))) rfl ?_
              refine AW_iload_n 53 hX dX6_races_52 rfl rfl ?_
              refine AW_iload_n 54 hX dX6_races_53 rfl rfl ?_
              refine AW_cV (As := [_, _]) 57 hX dX6_races_54 rfl ml_X6_174 mw_X5_race (by first | assumption | exact hset_eq | exact (hset_ne (by omega)).trans (by first | assumption | exact hset_eq | exact (hset_ne (by omega)).trans (by first | assumption | exact hset_eq | exact (hset_ne (by omega)).trans (by first | assumption | exact hset_eq | exact (hset_ne (by omega)).trans (by first | assumption | exact hset_eq))))) (by decide) rfl rfl rfl (Nat.le_of_ble_eq_true rfl) (by decide) ⟨(Nat.le_refl _), (Nat.le_refl _)⟩ (c_race hsc2 ok2 (by omega) hn ok1 (ok7 hn).1 ok4 cx cy hx2 hy1 (fun h3a stp3 hsc3 hfr3 => ?_))
              have h03 := (hfr3 0 (by omega)).trans h02
              have h193 := hsc3.1
              have h33 := (hfr3 3 (by omega)).trans ((hfr2 3 (by omega)).trans h3)
              refine AW_istore 59 hX dX6_races_57 rfl (Nat.le_of_ble_eq_true rfl) rfl ?_
              refine AW_iload_n 60 hX dX6_races_59 rfl rfl ?_
              rcases (show cz = 0 ∨ cz = 1 ∨ cz = 2 by omega) with rfl | rfl | rfl
              · refine AW_look (off := 28) 88 hX dX6_races_60 (by decide) (by decide) (by decide) ?_
                refine AW_aload_n 89 hX dX6_races_88 rfl rfl ?_
                refine AW_get 92 hX dX6_races_89 rfl fl_X6_26 (by first | assumption | exact hset_eq | exact (hset_ne (by omega)).trans (by first | assumption | exact hset_eq | exact (hset_ne (by omega)).trans (by first | assumption | exact hset_eq | exact (hset_ne (by omega)).trans (by first | assumption | exact hset_eq | exact (hset_ne (by omega)).trans (by first | assumption | exact hset_eq))))) rfl ?_
                refine AW_get 95 hX dX6_races_92 rfl fl_X6_177 (by first | assumption | exact hset_eq | exact (hset_ne (by omega)).trans (by first | assumption | exact hset_eq | exact (hset_ne (by omega)).trans (by first | assumption | exact hset_eq | exact (hset_ne (by omega)).trans (by first | assumption | exact hset_eq | exact (hset_ne (by omega)).trans (by first | assumption | exact hset_eq))))) rfl ?_
                refine AW_aload_n 96 hX dX6_races_95 rfl rfl ?_
                refine AW_get 99 hX dX6_races_96 rfl fl_X6_19 (by first | assumption | exact hset_eq | exact (hset_ne (by omega)).trans (by first | assumption | exact hset_eq | exact (hset_ne (by omega)).trans (by first | assumption | exact hset_eq | exact (hset_ne (by omega)).trans (by first | assumption | exact hset_eq | exact (hset_ne (by omega)).trans (by first | assumption | exact hset_eq))))) rfl ?_
                refine AW_get 102 hX dX6_races_99 rfl fl_X6_177 (by first | assumption | exact hset_eq | exact (hset_ne (by omega)).trans (by first | assumption | exact hset_eq | exact (hset_ne (by omega)).trans (by first | assumption | exact hset_eq | exact (hset_ne (by omega)).trans (by first | assumption | exact hset_eq | exact (hset_ne (by omega)).trans (by first | assumption | exact hset_eq))))) rfl ?_
                refine AW_isub 103 hX dX6_races_102 rfl ?_
                refine AW_iret hX hE dX6_races_103 rfl (Nat.le_refl _) (Nat.le_refl _) ?_
                have e : spRaces (kp, yd, qk, pm, pg, (n, ks, ht, p, s, stp, fl, m, hd), w) (nI cx) (nI cy) (nI 0) = (nI (rI n ks ht (p, s, cy, 0) cx).2.2.2, (kp, yd, qk, pm, pg, (n, ks, ht, p, s, stp, fl, m, hd), w)) := by
                  show (cif _ _ _, _) = _
                  rw [cif_neg (fun q => q.elim (fun q => rgI (lo := 1) (hi := 60) (by decide) rfl hx1 hx2 q) (fun q => q.elim (fun q => nI_pos (by omega) q) (fun q => rgI (lo := 0) (hi := 2) (by decide) rfl (Nat.zero_le _) (by omega) q))), cif_neg (by omega), cN_nI (by omega), cN_nI (by omega), cif_pos (show nI 0 = 0 from rfl)]
                rw [e] at hK
                rw [Int32.add_comm, Int32.add_sub_cancel]
                exact hK _ ⟨mp, ms, CJ_raced g2 hsc3 (fr_wide hfr3 (by omega) (by omega))⟩ (fr_tr (fr_wide hfr2 (by omega) (by omega)) (fr_wide hfr3 (by omega) (by omega)))
              · refine AW_look (off := 44) 104 hX dX6_races_60 (by decide) (by decide) (by decide) ?_
                refine AW_aload_n 105 hX dX6_races_104 rfl rfl ?_
                refine AW_get 108 hX dX6_races_105 rfl fl_X6_26 (by first | assumption | exact hset_eq | exact (hset_ne (by omega)).trans (by first | assumption | exact hset_eq | exact (hset_ne (by omega)).trans (by first | assumption | exact hset_eq | exact (hset_ne (by omega)).trans (by first | assumption | exact hset_eq | exact (hset_ne (by omega)).trans (by first | assumption | exact hset_eq))))) rfl ?_
                refine AW_get 111 hX dX6_races_108 rfl fl_X6_136 (by first | assumption | exact hset_eq | exact (hset_ne (by omega)).trans (by first | assumption | exact hset_eq | exact (hset_ne (by omega)).trans (by first | assumption | exact hset_eq | exact (hset_ne (by omega)).trans (by first | assumption | exact hset_eq | exact (hset_ne (by omega)).trans (by first | assumption | exact hset_eq))))) rfl ?_
                refine AW_iret hX hE dX6_races_111 rfl (Nat.le_refl _) (Nat.le_refl _) ?_
                have e : spRaces (kp, yd, qk, pm, pg, (n, ks, ht, p, s, stp, fl, m, hd), w) (nI cx) (nI cy) (nI 1) = (nI (rI n ks ht (p, s, cy, 0) cx).1, (kp, yd, qk, pm, pg, (n, ks, ht, p, s, stp, fl, m, hd), w)) := by
                  show (cif _ _ _, _) = _
                  rw [cif_neg (fun q => q.elim (fun q => rgI (lo := 1) (hi := 60) (by decide) rfl hx1 hx2 q) (fun q => q.elim (fun q => nI_pos (by omega) q) (fun q => rgI (lo := 0) (hi := 2) (by decide) rfl (Nat.zero_le _) (by omega) q))), cif_neg (by omega), cN_nI (by omega), cN_nI (by omega), cif_neg (show ¬ nI 1 = 0 by decide), cif_pos (show nI 1 = 1 from rfl)]
                rw [e] at hK
                exact hK _ ⟨mp, ms, CJ_raced g2 hsc3 (fr_wide hfr3 (by omega) (by omega))⟩ (fr_tr (fr_wide hfr2 (by omega) (by omega)) (fr_wide hfr3 (by omega) (by omega)))
              · refine AW_look (off := 52) 112 hX dX6_races_60 (by decide) (by decide) (by decide) ?_
                refine AW_iload 114 hX dX6_races_112 rfl rfl ?_
                refine AW_iret hX hE dX6_races_114 rfl (Nat.le_refl _) (Nat.le_refl _) ?_
                have e : spRaces (kp, yd, qk, pm, pg, (n, ks, ht, p, s, stp, fl, m, hd), w) (nI cx) (nI cy) (nI 2) = (nI (rI n ks ht (p, s, cy, 0) cx).2.2.1, (kp, yd, qk, pm, pg, (n, ks, ht, p, s, stp, fl, m, hd), w)) := by
                  show (cif _ _ _, _) = _
                  rw [cif_neg (fun q => q.elim (fun q => rgI (lo := 1) (hi := 60) (by decide) rfl hx1 hx2 q) (fun q => q.elim (fun q => nI_pos (by omega) q) (fun q => rgI (lo := 0) (hi := 2) (by decide) rfl (Nat.zero_le _) (by omega) q))), cif_neg (by omega), cN_nI (by omega), cN_nI (by omega), cif_neg (show ¬ nI 2 = 0 by decide), cif_neg (show ¬ nI 2 = 1 by decide)]
                rw [e] at hK
                exact hK _ ⟨mp, ms, CJ_raced g2 hsc3 (fr_wide hfr3 (by omega) (by omega))⟩ (fr_tr (fr_wide hfr2 (by omega) (by omega)) (fr_wide hfr3 (by omega) (by omega)))
            · refine AW_if_ne 34 37 hX dX6_races_31 rfl (by decide) (fun c31 => absurd rfl c31) (fun c31 => ?_)
              refine AW_bipush 36 hX dX6_races_34 rfl bp_m103 ?_
              refine AW_iret hX hE dX6_races_36 rfl (Nat.le_refl _) (Nat.le_refl _) ?_
              have e : spRaces (kp, yd, qk, pm, pg, (n, ks, ht, p, s, stp, fl, m, hd), w) (nI cx) (nI cy) (nI cz) = (-103, (kp, yd, qk, pm, pg, (n, ks, ht, p, s, stp, fl, m, hd), w)) := by
                show (cif _ _ _, _) = _
                rw [cif_neg (fun q => q.elim (fun q => rgI (lo := 1) (hi := 60) (by decide) rfl hx1 hx2 q) (fun q => q.elim (fun q => nI_pos (by omega) q) (fun q => rgI (lo := 0) (hi := 2) (by decide) rfl (Nat.zero_le _) (by omega) q))), cif_pos hn]
              rw [e] at hK
              exact hK h ⟨mp, ms, g⟩ (fr_rf _ _ _)
          · refine AW_bipush 26 hX dX6_races_24 rfl bp_m102 ?_
            refine AW_iret hX hE dX6_races_26 rfl (Nat.le_refl _) (Nat.le_refl _) ?_
            have e : spRaces (kp, yd, qk, pm, pg, (n, ks, ht, p, s, stp, fl, m, hd), w) x y z = (-102, (kp, yd, qk, pm, pg, (n, ks, ht, p, s, stp, fl, m, hd), w)) := by
              show (cif _ _ _, _) = _
              rw [cif_pos (Or.inr (Or.inr (Or.inr (Int32.not_le.mp c21))))]
            rw [e] at hK
            exact hK h ⟨mp, ms, g⟩ (fr_rf _ _ _)
set_option maxRecDepth 100000 in
set_option maxHeartbeats 4000000 in
theorem C_image {h : AH} {K : Option Value → AH → Prop} {kp yd qk pm n ht p s : Nat} {pg ks : Nat → Nat} {stp fl : Int32} {m : Nat} {hd : HD} {w : SV} {mp ms : Int32} (g : CJ h (kp, yd, qk, pm, pg, (n, ks, ht, p, s, stp, fl, m, hd), w) mp ms) (ok : Sok (kp, yd, qk, pm, pg, (n, ks, ht, p, s, stp, fl, m, hd), w)) (hK : ∀ h' : AH, CI h' (spImage (kp, yd, qk, pm, pg, (n, ks, ht, p, s, stp, fl, m, hd), w)).2 → fr h h' 0 34 → K (some (.int (spImage (kp, yd, qk, pm, pg, (n, ks, ht, p, s, stp, fl, m, hd), w)).1)) h') : aX6_image 4 [.ref 0] h K := by
  obtain ⟨h0, hpg, hsc, ⟨u, hk, hku⟩, ⟨u2, hrc⟩, ⟨nm, fm, hme⟩, hro⟩ := id g
  obtain ⟨h3, ⟨f, hgr, hks⟩, hhe⟩ := id hsc
  obtain ⟨⟨ok1, ok2, ok3, ok4, ok5, ok6, ok7, ok8⟩, okp, okw, okq, okpm, okpg, oky⟩ := id ok
  have h1 := hpg.1
  have h4 := hgr.1
  have h6 := hhe.1
  unfold yO at h0
  obtain ⟨n0, ks0, ht0, p0, s0, stp0, fl0, m0, hd0⟩ := u
  have h11 := hk.1
  refine AM.of [some (.ref 0)] pn_X6_image rfl (Nat.le_of_ble_eq_true rfl) (fun X hX hE => ?_)
  refine AW_aload_n 1 hX dX6_image_0 rfl rfl ?_
  refine AW_cV (As := []) 4 hX dX6_image_1 rfl ml_X6_124 mw_X6_hasYard (by first | assumption | exact hset_eq | exact (hset_ne (by omega)).trans (by first | assumption | exact hset_eq | exact (hset_ne (by omega)).trans (by first | assumption | exact hset_eq | exact (hset_ne (by omega)).trans (by first | assumption | exact hset_eq | exact (hset_ne (by omega)).trans (by first | assumption | exact hset_eq))))) (by decide) rfl rfl rfl (Nat.le_of_ble_eq_true rfl) (by decide) ⟨(Nat.le_refl _), (Nat.le_refl _)⟩ (C_hasYard g ok (fun hn => ?_) (fun hn => ?_))
  · refine AW_if_ne 7 10 hX dX6_image_4 rfl (by decide) (fun c4 => ?_) (fun c4 => absurd c4 (by decide))
    refine AW_aload_n 11 hX dX6_image_10 rfl rfl ?_
    refine AW_get 14 hX dX6_image_11 rfl fl_X6_23 (by first | assumption | exact hset_eq | exact (hset_ne (by omega)).trans (by first | assumption | exact hset_eq | exact (hset_ne (by omega)).trans (by first | assumption | exact hset_eq | exact (hset_ne (by omega)).trans (by first | assumption | exact hset_eq | exact (hset_ne (by omega)).trans (by first | assumption | exact hset_eq))))) rfl ?_
    refine AW_aload_n 15 hX dX6_image_14 rfl rfl ?_
    refine AW_get 18 hX dX6_image_15 rfl fl_X6_19 (by first | assumption | exact hset_eq | exact (hset_ne (by omega)).trans (by first | assumption | exact hset_eq | exact (hset_ne (by omega)).trans (by first | assumption | exact hset_eq | exact (hset_ne (by omega)).trans (by first | assumption | exact hset_eq | exact (hset_ne (by omega)).trans (by first | assumption | exact hset_eq))))) rfl ?_
    refine AW_cV (As := [_]) 21 hX dX6_image_18 rfl ml_X6_170 mw_X5_copyFrom (by first | assumption | exact hset_eq | exact (hset_ne (by omega)).trans (by first | assumption | exact hset_eq | exact (hset_ne (by omega)).trans (by first | assumption | exact hset_eq | exact (hset_ne (by omega)).trans (by first | assumption | exact hset_eq | exact (hset_ne (by omega)).trans (by first | assumption | exact hset_eq))))) (by decide) rfl rfl rfl (Nat.le_of_ble_eq_true rfl) (by decide) ⟨(Nat.le_refl _), (Nat.le_refl _)⟩ (c_scopy hk hsc (by omega) (fun h2 hsc2 hfr2 => ?_))
    have g2 := CJ_kept g hsc2 (fr_wide hfr2 (by omega) (by omega))
    have h02 := (hfr2 0 (by omega)).trans h0
    have h112 := hsc2.1
    refine AW_aload_n 22 hX dX6_image_21 rfl rfl ?_
    refine AW_iconst 23 hX dX6_image_22 rfl ic_1 ?_
    refine AW_put 26 hX dX6_image_23 rfl fl_X6_43 (by first | assumption | exact hset_eq | exact (hset_ne (by omega)).trans (by first | assumption | exact hset_eq | exact (hset_ne (by omega)).trans (by first | assumption | exact hset_eq | exact (hset_ne (by omega)).trans (by first | assumption | exact hset_eq | exact (hset_ne (by omega)).trans (by first | assumption | exact hset_eq))))) rfl (fun _ => rfl) (fun _ => rfl) (Nat.le_of_ble_eq_true rfl) ?_
    try rw [hset_hset]
    refine AW_aload_n 27 hX dX6_image_26 rfl rfl ?_
    refine AW_get 30 hX dX6_image_27 rfl fl_X6_23 (by first | assumption | exact hset_eq | exact (hset_ne (by omega)).trans (by first | assumption | exact hset_eq | exact (hset_ne (by omega)).trans (by first | assumption | exact hset_eq | exact (hset_ne (by omega)).trans (by first | assumption | exact hset_eq | exact (hset_ne (by omega)).trans (by first | assumption | exact hset_eq))))) rfl ?_
    refine AW_get 33 hX dX6_image_30 rfl fl_X6_180 (by first | assumption | exact hset_eq | exact (hset_ne (by omega)).trans (by first | assumption | exact hset_eq | exact (hset_ne (by omega)).trans (by first | assumption | exact hset_eq | exact (hset_ne (by omega)).trans (by first | assumption | exact hset_eq | exact (hset_ne (by omega)).trans (by first | assumption | exact hset_eq))))) rfl ?_
    refine AW_iret hX hE dX6_image_33 rfl (Nat.le_refl _) (Nat.le_refl _) ?_
    have e : spImage (kp, yd, qk, pm, pg, (n, ks, ht, p, s, stp, fl, m, hd), w) = (stp, (1, yd, qk, pm, pg, (n, ks, ht, p, s, stp, fl, m, hd), (n, ks, ht, p, s, stp, fl, m, hd))) := by
      show cif _ _ _ = _
      rw [cif_neg (show ¬ n = 0 by omega)]
    rw [e] at hK
    obtain ⟨a1, a2, a3, ⟨a4, a5, a6⟩, a7⟩ := CJ_obj (kp' := 0) (yd' := yd) (qk' := qk) (mp' := mp) (ms' := ms) (fun q => by omega) g2
    have e0 : fr h2 (hset h2 0 (yO 1 yd qk mp ms)) 0 1 := fr_set (by omega) (by omega)
    exact hK _ ⟨mp, ms, hset_eq, pgC_fr g2.2.1 e0 (by omega), sc_fr g2.2.2.1 e0 (by omega), ⟨_, sc_fr hsc2 e0 (by omega), fun _ => rfl⟩, (by obtain ⟨u9, q9⟩ := g2.2.2.2.2.1; exact ⟨u9, sc_fr q9 e0 (by omega)⟩), (by obtain ⟨n9, f9, q9⟩ := g2.2.2.2.2.2.1; exact ⟨n9, f9, gr_fr q9 e0 (by omega)⟩), rtA_fr g2.2.2.2.2.2.2 e0 (by omega)⟩ (fr_tr (fr_wide hfr2 (by omega) (by omega)) (fr_set (by omega) (by omega)))
  · refine AW_if_ne 7 10 hX dX6_image_4 rfl (by decide) (fun c4 => absurd rfl c4) (fun c4 => ?_)
    refine AW_bipush 9 hX dX6_image_7 rfl bp_m103 ?_
    refine AW_iret hX hE dX6_image_9 rfl (Nat.le_refl _) (Nat.le_refl _) ?_
    have e : spImage (kp, yd, qk, pm, pg, (n, ks, ht, p, s, stp, fl, m, hd), w) = (-103, (kp, yd, qk, pm, pg, (n, ks, ht, p, s, stp, fl, m, hd), w)) := by
      show cif _ _ _ = _
      rw [cif_pos (show n = 0 from hn)]
    rw [e] at hK
    exact hK h ⟨mp, ms, g⟩ (fr_rf _ _ _)
set_option maxRecDepth 100000 in
set_option maxHeartbeats 4000000 in
theorem C_restore {h : AH} {K : Option Value → AH → Prop} {kp yd qk pm n ht p s : Nat} {pg ks : Nat → Nat} {stp fl : Int32} {m : Nat} {hd : HD} {w : SV} {mp ms : Int32} (g : CJ h (kp, yd, qk, pm, pg, (n, ks, ht, p, s, stp, fl, m, hd), w) mp ms) (ok : Sok (kp, yd, qk, pm, pg, (n, ks, ht, p, s, stp, fl, m, hd), w)) (hK : ∀ h' : AH, CI h' (spRestore (kp, yd, qk, pm, pg, (n, ks, ht, p, s, stp, fl, m, hd), w)).2 → fr h h' 0 34 → K (some (.int (spRestore (kp, yd, qk, pm, pg, (n, ks, ht, p, s, stp, fl, m, hd), w)).1)) h') : aX6_restore 4 [.ref 0] h K := by
  obtain ⟨h0, hpg, hsc, ⟨u, hk, hku⟩, ⟨u2, hrc⟩, ⟨nm, fm, hme⟩, hro⟩ := id g
  obtain ⟨h3, ⟨f, hgr, hks⟩, hhe⟩ := id hsc
  obtain ⟨⟨ok1, ok2, ok3, ok4, ok5, ok6, ok7, ok8⟩, okp, okw, okq, okpm, okpg, oky⟩ := id ok
  have h1 := hpg.1
  have h4 := hgr.1
  have h6 := hhe.1
  unfold yO at h0
  have h11a : ∃ a, h 11 = some (.inl (4, a)) := by
    obtain ⟨n0, ks0, ht0, p0, s0, stp0, fl0, m0, hd0⟩ := u
    exact ⟨_, hk.1⟩
  obtain ⟨l11, h11⟩ := h11a
  refine AM.of [some (.ref 0)] pn_X6_restore rfl (Nat.le_of_ble_eq_true rfl) (fun X hX hE => ?_)
  refine AW_aload_n 1 hX dX6_restore_0 rfl rfl ?_
  refine AW_get 4 hX dX6_restore_1 rfl fl_X6_43 (by first | assumption | exact hset_eq | exact (hset_ne (by omega)).trans (by first | assumption | exact hset_eq | exact (hset_ne (by omega)).trans (by first | assumption | exact hset_eq | exact (hset_ne (by omega)).trans (by first | assumption | exact hset_eq | exact (hset_ne (by omega)).trans (by first | assumption | exact hset_eq))))) rfl ?_
  refine AW_if_ne 7 10 hX dX6_restore_4 rfl (by decide) (fun c4 => ?_) (fun c4 => ?_)
  · have hk1 : kp = 1 := by
      have : ¬ kp = 0 := fun q => c4 (by rw [q]; rfl)
      omega
    have ew := hku hk1
    subst ew
    obtain ⟨n1, ks1, ht1, p1, s1, stp1, fl1, m1, hd1⟩ := u
    refine AW_aload_n 11 hX dX6_restore_10 rfl rfl ?_
    refine AW_get 14 hX dX6_restore_11 rfl fl_X6_19 (by first | assumption | exact hset_eq | exact (hset_ne (by omega)).trans (by first | assumption | exact hset_eq | exact (hset_ne (by omega)).trans (by first | assumption | exact hset_eq | exact (hset_ne (by omega)).trans (by first | assumption | exact hset_eq | exact (hset_ne (by omega)).trans (by first | assumption | exact hset_eq))))) rfl ?_
    refine AW_aload_n 15 hX dX6_restore_14 rfl rfl ?_
    refine AW_get 18 hX dX6_restore_15 rfl fl_X6_23 (by first | assumption | exact hset_eq | exact (hset_ne (by omega)).trans (by first | assumption | exact hset_eq | exact (hset_ne (by omega)).trans (by first | assumption | exact hset_eq | exact (hset_ne (by omega)).trans (by first | assumption | exact hset_eq | exact (hset_ne (by omega)).trans (by first | assumption | exact hset_eq))))) rfl ?_
    refine AW_cV (As := [_]) 21 hX dX6_restore_18 rfl ml_X6_170 mw_X5_copyFrom (by first | assumption | exact hset_eq | exact (hset_ne (by omega)).trans (by first | assumption | exact hset_eq | exact (hset_ne (by omega)).trans (by first | assumption | exact hset_eq | exact (hset_ne (by omega)).trans (by first | assumption | exact hset_eq | exact (hset_ne (by omega)).trans (by first | assumption | exact hset_eq))))) (by decide) rfl rfl rfl (Nat.le_of_ble_eq_true rfl) (by decide) ⟨(Nat.le_refl _), (Nat.le_refl _)⟩ (c_scopy hsc hk (by omega) (fun h2 hsc2 hfr2 => ?_))
    have h02 := (hfr2 0 (by omega)).trans h0
    have h32 := hsc2.1
    refine AW_aload_n 22 hX dX6_restore_21 rfl rfl ?_
    refine AW_get 25 hX dX6_restore_22 rfl fl_X6_19 (by first | assumption | exact hset_eq | exact (hset_ne (by omega)).trans (by first | assumption | exact hset_eq | exact (hset_ne (by omega)).trans (by first | assumption | exact hset_eq | exact (hset_ne (by omega)).trans (by first | assumption | exact hset_eq | exact (hset_ne (by omega)).trans (by first | assumption | exact hset_eq))))) rfl ?_
    refine AW_get 28 hX dX6_restore_25 rfl fl_X6_180 (by first | assumption | exact hset_eq | exact (hset_ne (by omega)).trans (by first | assumption | exact hset_eq | exact (hset_ne (by omega)).trans (by first | assumption | exact hset_eq | exact (hset_ne (by omega)).trans (by first | assumption | exact hset_eq | exact (hset_ne (by omega)).trans (by first | assumption | exact hset_eq))))) rfl ?_
    refine AW_iret hX hE dX6_restore_28 rfl (Nat.le_refl _) (Nat.le_refl _) ?_
    have e : spRestore (kp, yd, qk, pm, pg, (n, ks, ht, p, s, stp, fl, m, hd), (n1, ks1, ht1, p1, s1, stp1, fl1, m1, hd1)) = (stp1, (kp, yd, qk, pm, pg, (n1, ks1, ht1, p1, s1, stp1, fl1, m1, hd1), (n1, ks1, ht1, p1, s1, stp1, fl1, m1, hd1))) := by
      show cif _ _ _ = _
      rw [cif_neg (show ¬ kp = 0 by omega)]
    rw [e] at hK
    exact hK _ ⟨mp, ms, CJ_now g hsc2 (fr_wide hfr2 (by omega) (by omega))⟩ (fr_wide hfr2 (by omega) (by omega))
  · refine AW_bipush 9 hX dX6_restore_7 rfl bp_m103 ?_
    refine AW_iret hX hE dX6_restore_9 rfl (Nat.le_refl _) (Nat.le_refl _) ?_
    have hk0 : kp = 0 := iEq (b := 0) c4
    have e : spRestore (kp, yd, qk, pm, pg, (n, ks, ht, p, s, stp, fl, m, hd), w) = (-103, (kp, yd, qk, pm, pg, (n, ks, ht, p, s, stp, fl, m, hd), w)) := by
      show cif _ _ _ = _
      rw [cif_pos hk0]
    rw [e] at hK
    exact hK h ⟨mp, ms, g⟩ (fr_rf _ _ _)
