theorem MR_F {S : ST} {I : Nat → Int32} {F F' : AF} (g : MR S I F) (e : ∀ k, k ≠ 6 → F' k = F k) : MR S I F' := by
  have : F' = upF F 6 (F' 6) := by
    funext k
    simp only [upF]
    split
    next q => rw [q]
    next q => exact e k q
  rw [this]
  exact MR_F6 g
def pq (q : Nat) : Int32 := if q = 0 then -1 else nI (q - 1)
theorem pq_s (q : Nat) : pq (q + 1) = nI q := if_neg (by omega)
theorem pq_d : ∀ q, q ≤ 12 → nI q + -1 = pq q := by decide +kernel
theorem pq_2 : ∀ n, n ≤ 12 → 0 < n → nI n - 2 = pq (n - 1) := by decide +kernel
theorem smD_cg {d d' : Nat → Nat} : ∀ {N : Nat}, (∀ j, j < N → d' j = d j) → smD d' N = smD d N
  | 0, _ => rfl
  | N + 1, h => by simp only [smD]; rw [smD_cg (fun j hj => h j (by omega)), h N (by omega)]
def d00 (n : Nat) (u : Nat) : Nat := if u / 12 = n - 1 then 0 else 268435456
theorem vD_0 (n : Nat) (ks : Nat → Nat) (B : Nat) : vD n ks B (d00 n) := by
  refine ⟨fun u _ => ?_, fun u _ hl => ?_, fun u _ he => if_pos he⟩
  · simp only [d00]; split <;> omega
  · simp only [d00] at hl ⊢
    split at hl
    next q => rw [if_pos q]; exact q
    next => omega
def fwv (D : Nat) : Nat := if D ≤ 40 then D else 268435456
theorem fwv_lt {a b : Nat} (ha : a ≤ 41) (hb : b ≤ 41) : fwv a < fwv b ↔ a < b := by
  simp only [fwv]
  split <;> split <;> omega
theorem fwv_le (a : Nat) : fwv a ≤ 268435456 := by
  simp only [fwv]
  split <;> omega
set_option maxRecDepth 100000 in
set_option maxHeartbeats 4000000 in
theorem M_layFew {h : AH} {K : Option Value → AH → Prop} {I : Nat → Int32} {sd hh : Int64} {F : AF} (g : MH h I sd hh F) {n : Nat} {ks : Nat → Nat} (e1 : I 1 = nI n) (hn12 : n ≤ 12) (hn0 : 0 < n) (rk : ∀ j, j < n → F 0 j = nI (ks j)) (ok2 : ∀ j, j < n → ks j ≤ 4) (H : Nat) (hH1 : 1 ≤ H) (hH9 : H ≤ 12) (hK : ∀ (h' : AH) (F' : AF) (d' : Nat → Nat), MH h' I sd hh F' → (∀ k, k ≠ 6 → F' k = F k) → (∀ j, j < 144 → F' 6 j = nI (d' j)) → vD n ks (12 - H) d' → (∀ u, u < 144 → u / 12 + 1 < n → u % 12 ≤ 12 - H → fx n ks (12 - H) d' u) → fr h h' 34 47 → K none h') : aX7_layFew 4 [.ref 34, .int (nI H)] h K := by
  obtain ⟨g0, a0, a1, a2, a3, a4, a5, a6, -⟩ := id g
  have hB : 12 - H ≤ 11 := by omega
  refine AM.of [some (.ref 34), some (.int (nI H)), none, none, none] pn_X7_layFew rfl (Nat.le_of_ble_eq_true rfl) (fun X hX hE => ?_)
  have done0 : ∀ (h2 : AH) (F2 : AF) (d2 : Nat → Nat) (z3 z4 : Option Value), MH h2 I sd hh F2 → (∀ k, k ≠ 6 → F2 k = F k) → (∀ j, j < 144 → F2 6 j = nI (d2 j)) → vD n ks (12 - H) d2 → (∀ u, u < 144 → u / 12 + 1 < n → u % 12 ≤ 12 - H → fx n ks (12 - H) d2 u) → fr h h2 34 47 → AW X 0 0 42 [some (.ref 34), some (.int (nI H)), some (.int (nI 0)), z3, z4] [] h2 := by
    intro h2 F2 d2 z3 z4 g2 ef2 hF2 hv2 hfx2 hfr2
    refine AW_iload_n 43 hX dX7_layFew_42 rfl rfl ?_
    refine AW_if_eq 46 110 hX dX7_layFew_43 rfl (by decide) (fun c43 => ?_) (fun c43 => absurd rfl c43)
    refine AW_vret hX hE dX7_layFew_110 (Nat.le_refl _) (Nat.le_refl _) ?_
    exact hK h2 F2 d2 g2 ef2 hF2 hv2 hfx2 hfr2
  have whl : ∀ M, ∀ (h1 : AH) (F1 : AF) (d1 : Nat → Nat) (z3 z4 : Option Value), MH h1 I sd hh F1 → (∀ k, k ≠ 6 → F1 k = F k) → (∀ j, j < 144 → F1 6 j = nI (d1 j)) → vD n ks (12 - H) d1 → fr h h1 34 47 → smD d1 144 = M → AW X 0 0 42 [some (.ref 34), some (.int (nI H)), some (.int (nI 1)), z3, z4] [] h1 := by
    intro M
    induction M using Nat.strongRecOn with
    | ind M IH =>
      intro h1 F1 d1 z3 z4 g1 ef1 hF1 hv1 hfr1 hM
      have outer : ∀ q, q ≤ n - 1 → ∀ (a : Nat) (h2 : AH) (F2 : AF) (d2 : Nat → Nat) (z4 : Option Value), MH h2 I sd hh F2 → (∀ k, k ≠ 6 → F2 k = F k) → (∀ j, j < 144 → F2 6 j = nI (d2 j)) → vD n ks (12 - H) d2 → fr h h2 34 47 → a ≤ 1 → (a = 1 → smD d2 144 < smD d1 144) → (a = 0 → d2 = d1 ∧ ∀ u, u < 144 → q ≤ u / 12 → u / 12 + 1 < n → u % 12 ≤ 12 - H → fx n ks (12 - H) d2 u) → AW X 0 0 55 [some (.ref 34), some (.int (nI H)), some (.int (nI a)), some (.int (pq q)), z4] [] h2 := by
        intro q
        induction q with
        | zero =>
          intro hq a h2 F2 d2 z4 g2 ef2 hF2 hv2 hfr2 ha ha1 ha0
          refine AW_iload_n 56 hX dX7_layFew_55 rfl rfl ?_
          refine AW_if_lt 59 107 hX dX7_layFew_56 rfl (by decide) (fun c56 => ?_) (fun c56 => absurd (by decide) c56)
          refine AW_goto 42 hX dX7_layFew_107 (by decide) ?_
          rcases (show a = 0 ∨ a = 1 by omega) with rfl | rfl
          · exact done0 h2 F2 d2 _ _ g2 ef2 hF2 hv2 (fun u hu hp hs => (ha0 rfl).2 u hu (Nat.zero_le _) hp hs) hfr2
          · exact IH (smD d2 144) (by have := ha1 rfl; omega) h2 F2 d2 _ _ g2 ef2 hF2 hv2 hfr2 rfl
        | succ q ihq =>
          intro hq a h2 F2 d2 z4 g2 ef2 hF2 hv2 hfr2 ha ha1 ha0
          have inner : ∀ e s, s + e = 12 - H + 1 → ∀ (a : Nat) (h2 : AH) (F2 : AF) (d2 : Nat → Nat), MH h2 I sd hh F2 → (∀ k, k ≠ 6 → F2 k = F k) → (∀ j, j < 144 → F2 6 j = nI (d2 j)) → vD n ks (12 - H) d2 → fr h h2 34 47 → a ≤ 1 → (a = 1 → smD d2 144 < smD d1 144) → (a = 0 → d2 = d1 ∧ ∀ u, u < 144 → (q + 1 ≤ u / 12 ∨ (u / 12 = q ∧ u % 12 < s)) → u / 12 + 1 < n → u % 12 ≤ 12 - H → fx n ks (12 - H) d2 u) → AW X 0 0 62 [some (.ref 34), some (.int (nI H)), some (.int (nI a)), some (.int (nI q)), some (.int (nI s))] [] h2 := by
            intro e
            induction e with
            | zero =>
              intro s hs a h2 F2 d2 g2 ef2 hF2 hv2 hfr2 ha ha1 ha0
              refine AW_iload 64 hX dX7_layFew_62 rfl rfl ?_
              refine AW_iload_n 65 hX dX7_layFew_64 rfl rfl ?_
              refine AW_cS (As := [_]) 68 hX dX7_layFew_65 rfl ml_X7_112 mw_X7_bears rfl rfl (Nat.le_of_ble_eq_true rfl) (by decide) ⟨(Nat.le_refl _), (Nat.le_refl _)⟩ (M_bears H hH9 ?_)
              refine AW_icmp_gt 71 101 hX dX7_layFew_68 rfl (by decide) (fun c68 => ?_) (fun c68 => absurd (nI_lt (by omega) (by omega)) c68)
              refine AW_iinc 104 hX dX7_layFew_101 rfl rfl (iincp ic_m1) (Nat.le_of_ble_eq_true rfl) rfl ?_
              refine AW_goto 55 hX dX7_layFew_104 (by decide) ?_
              rw [pq_d q (by omega)]
              exact ihq (by omega) a h2 F2 d2 _ g2 ef2 hF2 hv2 hfr2 ha ha1 (fun q0 => ⟨(ha0 q0).1, fun u hu h1 h2 h3 => (ha0 q0).2 u hu (by omega) h2 h3⟩)
            | succ e ihe =>
              intro s hs a h2 F2 d2 g2 ef2 hF2 hv2 hfr2 ha ha1 ha0
              have c0 := g2.1
              have rk2 : ∀ j, j < n → F2 0 j = nI (ks j) := fun j hj => by rw [ef2 0 (by decide)]; exact rk j hj
              refine AW_iload 64 hX dX7_layFew_62 rfl rfl ?_
              refine AW_iload_n 65 hX dX7_layFew_64 rfl rfl ?_
              refine AW_cS (As := [_]) 68 hX dX7_layFew_65 rfl ml_X7_112 mw_X7_bears rfl rfl (Nat.le_of_ble_eq_true rfl) (by decide) ⟨(Nat.le_refl _), (Nat.le_refl _)⟩ (M_bears H hH9 ?_)
              refine AW_icmp_gt 71 101 hX dX7_layFew_68 rfl (by decide) (fun c68 => absurd c68 (nI_nlt (by omega) (by omega))) (fun c68 => ?_)
              refine AW_aload_n 72 hX dX7_layFew_71 rfl rfl ?_
              refine AW_iload_n 73 hX dX7_layFew_72 rfl rfl ?_
              refine AW_iload 75 hX dX7_layFew_73 rfl rfl ?_
              refine AW_iload_n 76 hX dX7_layFew_75 rfl rfl ?_
              refine AW_cS (As := [_]) 79 hX dX7_layFew_76 rfl ml_X7_112 mw_X7_bears rfl rfl (Nat.le_of_ble_eq_true rfl) (by decide) ⟨(Nat.le_refl _), (Nat.le_refl _)⟩ (M_bears H hH9 ?_)
              refine AW_cV (As := [_, _, _]) 82 hX dX7_layFew_79 rfl ml_X7_123 mw_X7_isShorter (by first | assumption | exact hset_eq | exact (hset_ne (by omega)).trans (by first | assumption | exact hset_eq | exact (hset_ne (by omega)).trans (by first | assumption | exact hset_eq | exact (hset_ne (by omega)).trans (by first | assumption | exact hset_eq | exact (hset_ne (by omega)).trans (by first | assumption | exact hset_eq))))) (by decide) rfl rfl rfl (Nat.le_of_ble_eq_true rfl) (by decide) ⟨(Nat.le_refl _), (Nat.le_refl _)⟩ (M_isShorter g2 e1 hn12 rk2 ok2 hF2 hB hv2 q s (by omega) (by omega) (fun h3 F3 d3 b g3 ef3 hF3 hv3 hd3 hle3 hfx3 hb1 hb0 hb hfr3 => ?_))
              have hmono : ∀ j, j < 144 → d3 j ≤ d2 j := fun j _ => by
                by_cases e9 : j = 12 * q + s
                · subst e9; exact hle3
                · rw [hd3 j e9]; exact Nat.le_refl _
              have hu9 : 12 * q + s < 144 := by omega
              refine AW_if_ne 85 89 hX dX7_layFew_82 rfl (by decide) (fun c82 => ?_) (fun c82 => ?_)
              · refine AW_iconst 90 hX dX7_layFew_89 rfl ic_1 ?_
                refine AW_goto 94 hX dX7_layFew_90 (by decide) ?_
                refine AW_istore_n 95 hX dX7_layFew_94 rfl (Nat.le_of_ble_eq_true rfl) rfl ?_
                refine AW_iinc 98 hX dX7_layFew_95 rfl rfl (iincp ic_1) (Nat.le_of_ble_eq_true rfl) rfl ?_
                refine AW_goto 62 hX dX7_layFew_98 (by decide) ?_
                rw [nI_1]
                have hb9 : b = 1 := by have := iNe (b := 0) c82; omega
                refine ihe (s + 1) (by omega) 1 h3 F3 d3 g3 (fun k hk => (ef3 k hk).trans (ef2 k hk)) hF3 hv3 (fr_tr hfr2 hfr3) (by omega) (fun _ => ?_) (fun q9 => by omega)
                have hlt := smD_lt hmono hu9 (hb1 hb9)
                rcases (show a = 0 ∨ a = 1 by omega) with q9 | q9
                · rw [(ha0 q9).1] at hlt; exact hlt
                · have := ha1 q9; omega
              · refine AW_iload_n 86 hX dX7_layFew_85 rfl rfl ?_
                refine AW_if_eq 89 93 hX dX7_layFew_86 rfl (by decide) (fun c86 => ?_) (fun c86 => ?_)
                · refine AW_iconst 94 hX dX7_layFew_93 rfl ic_0 ?_
                  refine AW_istore_n 95 hX dX7_layFew_94 rfl (Nat.le_of_ble_eq_true rfl) rfl ?_
                  refine AW_iinc 98 hX dX7_layFew_95 rfl rfl (iincp ic_1) (Nat.le_of_ble_eq_true rfl) rfl ?_
                  refine AW_goto 62 hX dX7_layFew_98 (by decide) ?_
                  rw [nI_1]
                  have hb9 : b = 0 := iEq (b := 0) c82
                  have ha9 : a = 0 := iEq (b := 0) c86
                  have hd9 : d3 = d2 := by
                    funext j
                    by_cases e9 : j = 12 * q + s
                    · subst e9; exact hb0 hb9
                    · exact hd3 j e9
                  refine ihe (s + 1) (by omega) 0 h3 F3 d3 g3 (fun k hk => (ef3 k hk).trans (ef2 k hk)) hF3 hv3 (fr_tr hfr2 hfr3) (by omega) (fun q9 => by omega) (fun _ => ⟨hd9.trans (ha0 ha9).1, fun u hu h1 h2 h3 => ?_⟩)
                  by_cases e9 : u = 12 * q + s
                  · subst e9; exact hfx3
                  · rw [hd9]; exact (ha0 ha9).2 u hu (by omega) h2 h3
                · refine AW_iconst 90 hX dX7_layFew_89 rfl ic_1 ?_
                  refine AW_goto 94 hX dX7_layFew_90 (by decide) ?_
                  refine AW_istore_n 95 hX dX7_layFew_94 rfl (Nat.le_of_ble_eq_true rfl) rfl ?_
                  refine AW_iinc 98 hX dX7_layFew_95 rfl rfl (iincp ic_1) (Nat.le_of_ble_eq_true rfl) rfl ?_
                  refine AW_goto 62 hX dX7_layFew_98 (by decide) ?_
                  rw [nI_1]
                  have ha9 : a = 1 := by have := iNe (b := 0) c86; omega
                  refine ihe (s + 1) (by omega) 1 h3 F3 d3 g3 (fun k hk => (ef3 k hk).trans (ef2 k hk)) hF3 hv3 (fr_tr hfr2 hfr3) (by omega) (fun _ => ?_) (fun q9 => by omega)
                  have h8 := smD_le hmono
                  have h9 := ha1 ha9
                  omega
          rw [pq_s]
          refine AW_iload_n 56 hX dX7_layFew_55 rfl rfl ?_
          refine AW_if_lt 59 107 hX dX7_layFew_56 rfl (by decide) (fun c56 => absurd c56 (nI_pos (by omega))) (fun c56 => ?_)
          refine AW_iconst 60 hX dX7_layFew_59 rfl ic_0 ?_
          refine AW_istore 62 hX dX7_layFew_60 rfl (Nat.le_of_ble_eq_true rfl) rfl ?_
          exact inner (12 - H + 1) 0 (by omega) a h2 F2 d2 g2 ef2 hF2 hv2 hfr2 ha ha1 (fun q0 => ⟨(ha0 q0).1, fun u hu h1 h2 h3 => (ha0 q0).2 u hu (by omega) h2 h3⟩)
      have c01 := g1.1
      refine AW_iload_n 43 hX dX7_layFew_42 rfl rfl ?_
      refine AW_if_eq 46 110 hX dX7_layFew_43 rfl (by decide) (fun c43 => absurd c43 (by decide)) (fun c43 => ?_)
      refine AW_iconst 47 hX dX7_layFew_46 rfl ic_0 ?_
      refine AW_istore_n 48 hX dX7_layFew_47 rfl (Nat.le_of_ble_eq_true rfl) rfl ?_
      refine AW_aload_n 49 hX dX7_layFew_48 rfl rfl ?_
      refine AW_get 52 hX dX7_layFew_49 rfl fl_X7_73 (by first | assumption | exact hset_eq | exact (hset_ne (by omega)).trans (by first | assumption | exact hset_eq | exact (hset_ne (by omega)).trans (by first | assumption | exact hset_eq | exact (hset_ne (by omega)).trans (by first | assumption | exact hset_eq | exact (hset_ne (by omega)).trans (by first | assumption | exact hset_eq))))) rfl ?_
      refine AW_iconst 53 hX dX7_layFew_52 rfl ic_2 ?_
      refine AW_isub 54 hX dX7_layFew_53 rfl ?_
      rw [e1, pq_2 n hn12 hn0]
      refine AW_istore_n 55 hX dX7_layFew_54 rfl (Nat.le_of_ble_eq_true rfl) rfl ?_
      exact outer (n - 1) (Nat.le_refl _) 0 h1 F1 d1 _ g1 ef1 hF1 hv1 hfr1 (by omega) (fun q0 => by omega) (fun _ => ⟨rfl, fun u hu h1 h2 => by omega⟩)
  have fill : ∀ e i, i + e = 144 → ∀ (h1 : AH) (F1 : AF), MH h1 I sd hh F1 → (∀ k, k ≠ 6 → F1 k = F k) → (∀ j, j < i → F1 6 j = nI (d00 n j)) → fr h h1 34 47 → AW X 0 0 2 [some (.ref 34), some (.int (nI H)), some (.int (nI i)), none, none] [] h1 := by
    intro e
    induction e with
    | zero =>
      intro i hi h1 F1 g1 ef1 hf1 hfr1
      refine AW_iload_n 3 hX dX7_layFew_2 rfl rfl ?_
      refine AW_sipush 6 hX dX7_layFew_3 rfl sp_144 ?_
      refine AW_icmp_ge 9 40 hX dX7_layFew_6 rfl (by decide) (fun c6 => ?_) (fun c6 => absurd (nI_le (a := 144) (b := i) (by omega) (by omega)) c6)
      refine AW_iconst 41 hX dX7_layFew_40 rfl ic_1 ?_
      refine AW_istore_n 42 hX dX7_layFew_41 rfl (Nat.le_of_ble_eq_true rfl) rfl ?_
      exact whl _ h1 F1 (d00 n) none none g1 ef1 (fun j hj => hf1 j (by omega)) (vD_0 n ks _) hfr1 rfl
    | succ e ih =>
      intro i hi h1 F1 g1 ef1 hf1 hfr1
      obtain ⟨b0, c0, c1, c2, c3, c4, c5, c6, -⟩ := id g1
      have nxt : ∀ v : Int32, v = nI (d00 n i) → AW X 0 0 33 [some (.ref 34), some (.int (nI H)), some (.int (nI i)), none, none] [.int v, .int (nI i), .ref 41] h1 := by
        intro v ev
        subst ev
        refine AW_iast 34 hX dX7_layFew_33 rfl (by first | assumption | exact hset_eq | exact (hset_ne (by omega)).trans (by first | assumption | exact hset_eq | exact (hset_ne (by omega)).trans (by first | assumption | exact hset_eq | exact (hset_ne (by omega)).trans (by first | assumption | exact hset_eq | exact (hset_ne (by omega)).trans (by first | assumption | exact hset_eq))))) (j := i) (by omega) rfl ?_
        try rw [hset_hset]
        refine AW_iinc 37 hX dX7_layFew_34 rfl rfl (iincp ic_1) (Nat.le_of_ble_eq_true rfl) rfl ?_
        refine AW_goto 2 hX dX7_layFew_37 (by decide) ?_
        rw [nI_1]
        refine ih (i + 1) (by omega) _ (upF F1 6 (upd (F1 6) i (nI (d00 n i)))) (MH_arr6 g1) (fun k hk => ?_) (fun j hj => ?_) (fr_tr hfr1 (fr_set (by omega) (by omega)))
        · simp only [upF, if_neg hk]; exact ef1 k hk
        · show upd (F1 6) i (nI (d00 n i)) j = _
          by_cases e9 : j = i
          · subst e9; exact pk_us
          · rw [pk_un e9]; exact hf1 j (by omega)
      refine AW_iload_n 3 hX dX7_layFew_2 rfl rfl ?_
      refine AW_sipush 6 hX dX7_layFew_3 rfl sp_144 ?_
      refine AW_icmp_ge 9 40 hX dX7_layFew_6 rfl (by decide) (fun c6 => absurd c6 (nI_ge (a := i) (b := 144) (by omega) (by decide))) (fun c6 => ?_)
      refine AW_aload_n 10 hX dX7_layFew_9 rfl rfl ?_
      refine AW_get 13 hX dX7_layFew_10 rfl fl_X7_29 (by first | assumption | exact hset_eq | exact (hset_ne (by omega)).trans (by first | assumption | exact hset_eq | exact (hset_ne (by omega)).trans (by first | assumption | exact hset_eq | exact (hset_ne (by omega)).trans (by first | assumption | exact hset_eq | exact (hset_ne (by omega)).trans (by first | assumption | exact hset_eq))))) rfl ?_
      refine AW_iload_n 14 hX dX7_layFew_13 rfl rfl ?_
      refine AW_iload_n 15 hX dX7_layFew_14 rfl rfl ?_
      refine AW_bipush 17 hX dX7_layFew_15 rfl bp_12 ?_
      refine AW_idiv 18 hX dX7_layFew_17 rfl (by decide) ?_
      rw [show (12 : Int32) = nI 12 from rfl, pk_div (by omega) (by decide) (by decide)]
      refine AW_aload_n 19 hX dX7_layFew_18 rfl rfl ?_
      refine AW_get 22 hX dX7_layFew_19 rfl fl_X7_73 (by first | assumption | exact hset_eq | exact (hset_ne (by omega)).trans (by first | assumption | exact hset_eq | exact (hset_ne (by omega)).trans (by first | assumption | exact hset_eq | exact (hset_ne (by omega)).trans (by first | assumption | exact hset_eq | exact (hset_ne (by omega)).trans (by first | assumption | exact hset_eq))))) rfl ?_
      refine AW_iconst 23 hX dX7_layFew_22 rfl ic_1 ?_
      refine AW_isub 24 hX dX7_layFew_23 rfl ?_
      rw [e1, show (1 : Int32) = nI 1 from rfl, pk_sub (by omega)]
      refine AW_icmp_ne 27 31 hX dX7_layFew_24 rfl (by decide) (fun c24 => ?_) (fun c24 => ?_)
      · refine AW_ldc 33 hX dX7_layFew_31 rfl kc_X7_118 ?_
        exact nxt _ (by rw [show d00 n i = 268435456 from if_neg (fun q => c24 (by rw [q]))]; rfl)
      · refine AW_iconst 28 hX dX7_layFew_27 rfl ic_0 ?_
        refine AW_goto 33 hX dX7_layFew_28 (by decide) ?_
        exact nxt _ (by rw [show d00 n i = 0 from if_pos (iEq c24)]; rfl)
  refine AW_iconst 1 hX dX7_layFew_0 rfl ic_0 ?_
  refine AW_istore_n 2 hX dX7_layFew_1 rfl (Nat.le_of_ble_eq_true rfl) rfl ?_
  exact fill 144 0 (by omega) h F g (fun _ _ => rfl) (fun j hj => by omega) (fr_rf _ _ _)
set_option maxRecDepth 100000 in
set_option maxHeartbeats 4000000 in
theorem M_fewWith {h : AH} {K : Option Value → AH → Prop} {I : Nat → Int32} {sd hh : Int64} {F : AF} (g : MH h I sd hh F) {n : Nat} {ks : Nat → Nat} (e1 : I 1 = nI n) (hn12 : n ≤ 12) (hn0 : 0 < n) (rk : ∀ j, j < n → F 0 j = nI (ks j)) (ok2 : ∀ j, j < n → ks j ≤ 4) (H : Nat) (hH1 : 1 ≤ H) (hH9 : H ≤ 12) (hK : ∀ (h' : AH) (F' : AF), MH h' I sd hh F' → (∀ k, k ≠ 6 → F' k = F k) → fr h h' 34 47 → K (some (.int (nI (fwv (DD n ks (12 - H) 0))))) h') : aX7_fewWith 5 [.ref 34, .int (nI H)] h K := by
  have g0 := g.1
  refine AM.of [some (.ref 34), some (.int (nI H))] pn_X7_fewWith rfl (Nat.le_of_ble_eq_true rfl) (fun X hX hE => ?_)
  refine AW_aload_n 1 hX dX7_fewWith_0 rfl rfl ?_
  refine AW_iload_n 2 hX dX7_fewWith_1 rfl rfl ?_
  refine AW_cV (As := [_]) 5 hX dX7_fewWith_2 rfl ml_X7_126 mw_X7_layFew (by first | assumption | exact hset_eq | exact (hset_ne (by omega)).trans (by first | assumption | exact hset_eq | exact (hset_ne (by omega)).trans (by first | assumption | exact hset_eq | exact (hset_ne (by omega)).trans (by first | assumption | exact hset_eq | exact (hset_ne (by omega)).trans (by first | assumption | exact hset_eq))))) (by decide) rfl rfl rfl (Nat.le_of_ble_eq_true rfl) (by decide) ⟨(Nat.le_refl _), (Nat.le_refl _)⟩ (M_layFew g e1 hn12 hn0 rk ok2 H hH1 hH9 (fun h2 F2 d2 g2 ef2 hF2 hv2 hfx2 hfr2 => ?_))
  obtain ⟨b0, c0, c1, c2, c3, c4, c5, c6, -⟩ := id g2
  have hd0 := hv2.1 0 (by decide)
  have hbf := bf_DD (by omega) hn12 hv2 hfx2 (u := 0) (by decide) (by omega) (by omega)
  refine AW_aload_n 6 hX dX7_fewWith_5 rfl rfl ?_
  refine AW_get 9 hX dX7_fewWith_6 rfl fl_X7_29 (by first | assumption | exact hset_eq | exact (hset_ne (by omega)).trans (by first | assumption | exact hset_eq | exact (hset_ne (by omega)).trans (by first | assumption | exact hset_eq | exact (hset_ne (by omega)).trans (by first | assumption | exact hset_eq | exact (hset_ne (by omega)).trans (by first | assumption | exact hset_eq))))) rfl ?_
  refine AW_iconst 10 hX dX7_fewWith_9 rfl ic_0 ?_
  refine AW_iald 11 hX dX7_fewWith_10 rfl (by first | assumption | exact hset_eq | exact (hset_ne (by omega)).trans (by first | assumption | exact hset_eq | exact (hset_ne (by omega)).trans (by first | assumption | exact hset_eq | exact (hset_ne (by omega)).trans (by first | assumption | exact hset_eq | exact (hset_ne (by omega)).trans (by first | assumption | exact hset_eq))))) (j := 0) (by decide) rfl ?_
  rw [hF2 0 (by decide)]
  refine AW_bipush 13 hX dX7_fewWith_11 rfl bp_40 ?_
  refine AW_icmp_le 16 21 hX dX7_fewWith_13 rfl (by decide) (fun c13 => ?_) (fun c13 => ?_)
  · refine AW_aload_n 22 hX dX7_fewWith_21 rfl rfl ?_
    refine AW_get 25 hX dX7_fewWith_22 rfl fl_X7_29 (by first | assumption | exact hset_eq | exact (hset_ne (by omega)).trans (by first | assumption | exact hset_eq | exact (hset_ne (by omega)).trans (by first | assumption | exact hset_eq | exact (hset_ne (by omega)).trans (by first | assumption | exact hset_eq | exact (hset_ne (by omega)).trans (by first | assumption | exact hset_eq))))) rfl ?_
    refine AW_iconst 26 hX dX7_fewWith_25 rfl ic_0 ?_
    refine AW_iald 27 hX dX7_fewWith_26 rfl (by first | assumption | exact hset_eq | exact (hset_ne (by omega)).trans (by first | assumption | exact hset_eq | exact (hset_ne (by omega)).trans (by first | assumption | exact hset_eq | exact (hset_ne (by omega)).trans (by first | assumption | exact hset_eq | exact (hset_ne (by omega)).trans (by first | assumption | exact hset_eq))))) (j := 0) (by decide) rfl ?_
    refine AW_iret hX hE dX7_fewWith_27 rfl (Nat.le_refl _) (Nat.le_refl _) ?_
    have hle := iLe (b := 40) c13
    have := hK h2 F2 g2 ef2 hfr2
    rw [hbf.1 hle, show fwv (d2 0) = d2 0 from if_pos hle] at this
    rw [hF2 0 (by decide)]
    exact this
  · refine AW_ldc 18 hX dX7_fewWith_16 rfl kc_X7_118 ?_
    refine AW_goto 27 hX dX7_fewWith_18 (by decide) ?_
    refine AW_iret hX hE dX7_fewWith_27 rfl (Nat.le_refl _) (Nat.le_refl _) ?_
    have hgt := iNle (b := 40) c13
    have := hK h2 F2 g2 ef2 hfr2
    rw [hbf.2 hgt, show fwv 41 = 268435456 from rfl] at this
    exact this
set_option maxRecDepth 100000 in
set_option maxHeartbeats 4000000 in
theorem M_highNow {h : AH} {K : Option Value → AH → Prop} {kp yd qk pm n ht p s : Nat} {pg ks : Nat → Nat} {stp fl : Int32} {m : Nat} {hd : HD} {w : SV} {I : Nat → Int32} {sd hh : Int64} {F : AF} (g : MH h I sd hh F) (r : MR (kp, yd, qk, pm, pg, (n, ks, ht, p, s, stp, fl, m, hd), w) I F) (ok : Sok (kp, yd, qk, pm, pg, (n, ks, ht, p, s, stp, fl, m, hd), w)) (hn : 0 < n) (hK : ∀ (h' : AH) (F' : AF), MH h' I sd hh F' → MR (kp, yd, qk, pm, pg, (n, ks, ht, p, s, stp, fl, m, hd), w) I F' → fr h h' 34 47 → K (some (.int (hiF n ks 9))) h') : aX7_highNow 6 [.ref 34] h K := by
  obtain ⟨g0, a0, a1, a2, a3, a4, a5, a6, a7, a8, a9, a10, a11⟩ := id g
  obtain ⟨⟨e0, e1, e3, e4, e5, e6, e7, e8, e13, e14⟩, rk, rh, rp, rkp, rk0⟩ := id r
  obtain ⟨⟨ok1, ok2, ok3, ok4, ok5, ok6, ok7, ok8⟩, okp, okw, okq, okpm, okpg, oky⟩ := id ok
  have hp12 : p < 12 := by
    rcases Nat.eq_zero_or_pos n with e | e
    · have := ok8 e; omega
    · have := ok7 e; omega
  refine AM.of [some (.ref 34), none, none] pn_X7_highNow rfl (Nat.le_of_ble_eq_true rfl) (fun X hX hE => ?_)
  have loop : ∀ e i, i + e = 9 → ∀ (h1 : AH) (F1 : AF), MH h1 I sd hh F1 → (∀ k, k ≠ 6 → F1 k = F k) → fr h h1 34 47 → AW X 0 0 4 [some (.ref 34), some (.int (hiF n ks i)), some (.int (nI (i + 1)))] [] h1 := by
    intro e
    induction e with
    | zero =>
      intro i hi h1 F1 g1 ef1 hfr1
      refine AW_iload_n 5 hX dX7_highNow_4 rfl rfl ?_
      refine AW_bipush 7 hX dX7_highNow_5 rfl bp_9 ?_
      refine AW_icmp_gt 10 32 hX dX7_highNow_7 rfl (by decide) (fun c7 => ?_) (fun c7 => absurd (nI_lt (a := 9) (b := i + 1) (by omega) (by omega)) c7)
      refine AW_iload_n 33 hX dX7_highNow_32 rfl rfl ?_
      refine AW_iret hX hE dX7_highNow_33 rfl (Nat.le_refl _) (Nat.le_refl _) ?_
      rw [show i = 9 by omega]
      exact hK h1 F1 g1 (MR_F r ef1) hfr1
    | succ e ih =>
      intro i hi h1 F1 g1 ef1 hfr1
      have c0 := g1.1
      have hD := DD_le n ks (12 - (i + 1)) 0
      refine AW_iload_n 5 hX dX7_highNow_4 rfl rfl ?_
      refine AW_bipush 7 hX dX7_highNow_5 rfl bp_9 ?_
      refine AW_icmp_gt 10 32 hX dX7_highNow_7 rfl (by decide) (fun c7 => absurd c7 (nI_nlt (a := 9) (b := i + 1) (by omega) (by omega))) (fun c7 => ?_)
      refine AW_aload_n 11 hX dX7_highNow_10 rfl rfl ?_
      refine AW_iload_n 12 hX dX7_highNow_11 rfl rfl ?_
      refine AW_cV (As := [_]) 15 hX dX7_highNow_12 rfl ml_X7_136 mw_X7_fewWith (by first | assumption | exact hset_eq | exact (hset_ne (by omega)).trans (by first | assumption | exact hset_eq | exact (hset_ne (by omega)).trans (by first | assumption | exact hset_eq | exact (hset_ne (by omega)).trans (by first | assumption | exact hset_eq | exact (hset_ne (by omega)).trans (by first | assumption | exact hset_eq))))) (by decide) rfl rfl rfl (Nat.le_of_ble_eq_true rfl) (by decide) ⟨(Nat.le_refl _), (Nat.le_refl _)⟩ (M_fewWith g1 e1 ok1 hn (fun j hj => by rw [ef1 0 (by decide)]; exact rk j hj) ok2 (i + 1) (by omega) (by omega) (fun h2 F2 g2 ef2 hfr2 => ?_))
      have hnx := ih (i + 1) (by omega) h2 F2 g2 (fun k hk => (ef2 k hk).trans (ef1 k hk)) (fr_tr hfr1 hfr2)
      simp only [hiF] at hnx
      have hfl := fwv_le (DD n ks (12 - (i + 1)) 0)
      refine AW_ldc 17 hX dX7_highNow_15 rfl kc_X7_118 ?_
      refine AW_icmp_ne 20 24 hX dX7_highNow_17 rfl (by decide) (fun c17 => ?_) (fun c17 => ?_)
      · refine AW_iload_n 25 hX dX7_highNow_24 rfl rfl ?_
        refine AW_istore_n 26 hX dX7_highNow_25 rfl (Nat.le_of_ble_eq_true rfl) rfl ?_
        refine AW_iinc 29 hX dX7_highNow_26 rfl rfl (iincp ic_1) (Nat.le_of_ble_eq_true rfl) rfl ?_
        refine AW_goto 4 hX dX7_highNow_29 (by decide) ?_
        rw [nI_1]
        have hne := iNe (b := 268435456) c17
        rw [cif_pos (show DD n ks (12 - (i + 1)) 0 ≤ 40 from Classical.byContradiction fun q => hne (if_neg q))] at hnx
        exact hnx
      · refine AW_iload_n 21 hX dX7_highNow_20 rfl rfl ?_
        refine AW_goto 25 hX dX7_highNow_21 (by decide) ?_
        refine AW_istore_n 26 hX dX7_highNow_25 rfl (Nat.le_of_ble_eq_true rfl) rfl ?_
        refine AW_iinc 29 hX dX7_highNow_26 rfl rfl (iincp ic_1) (Nat.le_of_ble_eq_true rfl) rfl ?_
        refine AW_goto 4 hX dX7_highNow_29 (by decide) ?_
        rw [nI_1]
        have hne := iEq (b := 268435456) c17
        rw [cif_neg (show ¬ DD n ks (12 - (i + 1)) 0 ≤ 40 from fun q => by rw [show fwv (DD n ks (12 - (i + 1)) 0) = DD n ks (12 - (i + 1)) 0 from if_pos q] at hne; omega)] at hnx
        exact hnx
  refine AW_iconst 1 hX dX7_highNow_0 rfl ic_m1 ?_
  refine AW_istore_n 2 hX dX7_highNow_1 rfl (Nat.le_of_ble_eq_true rfl) rfl ?_
  refine AW_iconst 3 hX dX7_highNow_2 rfl ic_1 ?_
  refine AW_istore_n 4 hX dX7_highNow_3 rfl (Nat.le_of_ble_eq_true rfl) rfl ?_
  exact loop 9 0 (by omega) h F g (fun _ _ => rfl) (fr_rf _ _ _)
set_option maxRecDepth 100000 in
set_option maxHeartbeats 4000000 in
theorem D_high {h : AH} {K : Option Value → AH → Prop} {kp yd qk pm n ht p s : Nat} {pg ks : Nat → Nat} {stp fl : Int32} {m : Nat} {hd : HD} {w : SV} {I : Nat → Int32} {sd hh : Int64} {F : AF} (g : MH h I sd hh F) (r : MR (kp, yd, qk, pm, pg, (n, ks, ht, p, s, stp, fl, m, hd), w) I F) (ok : Sok (kp, yd, qk, pm, pg, (n, ks, ht, p, s, stp, fl, m, hd), w)) (hK : ∀ h' : AH, MJ h' (spHigh (kp, yd, qk, pm, pg, (n, ks, ht, p, s, stp, fl, m, hd), w)).2 → fr h h' 34 47 → K (some (.int (spHigh (kp, yd, qk, pm, pg, (n, ks, ht, p, s, stp, fl, m, hd), w)).1)) h') : aX7_high 7 [.ref 34] h K := by
  obtain ⟨g0, a0, a1, a2, a3, a4, a5, a6, a7, a8, a9, a10, a11⟩ := id g
  obtain ⟨⟨e0, e1, e3, e4, e5, e6, e7, e8, e13, e14⟩, rk, rh, rp, rkp, rk0⟩ := id r
  obtain ⟨⟨ok1, ok2, ok3, ok4, ok5, ok6, ok7, ok8⟩, okp, okw, okq, okpm, okpg, oky⟩ := id ok
  have hp12 : p < 12 := by
    rcases Nat.eq_zero_or_pos n with e | e
    · have := ok8 e; omega
    · have := ok7 e; omega
  refine AM.of [some (.ref 34)] pn_X7_high rfl (Nat.le_of_ble_eq_true rfl) (fun X hX hE => ?_)
  refine AW_aload_n 1 hX dX7_high_0 rfl rfl ?_
  refine AW_get 4 hX dX7_high_1 rfl fl_X7_73 (by first | assumption | exact hset_eq | exact (hset_ne (by omega)).trans (by first | assumption | exact hset_eq | exact (hset_ne (by omega)).trans (by first | assumption | exact hset_eq | exact (hset_ne (by omega)).trans (by first | assumption | exact hset_eq | exact (hset_ne (by omega)).trans (by first | assumption | exact hset_eq))))) rfl ?_
  rw [e1]
  refine AW_if_ne 7 12 hX dX7_high_4 rfl (by decide) (fun c4 => ?_) (fun c4 => ?_)
  · refine AW_aload_n 13 hX dX7_high_12 rfl rfl ?_
    refine AW_cV (As := []) 16 hX dX7_high_13 rfl ml_X7_139 mw_X7_highNow (by first | assumption | exact hset_eq | exact (hset_ne (by omega)).trans (by first | assumption | exact hset_eq | exact (hset_ne (by omega)).trans (by first | assumption | exact hset_eq | exact (hset_ne (by omega)).trans (by first | assumption | exact hset_eq | exact (hset_ne (by omega)).trans (by first | assumption | exact hset_eq))))) (by decide) rfl rfl rfl (Nat.le_of_ble_eq_true rfl) (by decide) ⟨(Nat.le_refl _), (Nat.le_refl _)⟩ (M_highNow g r ok (by have := iNe (b := 0) c4; omega) (fun h2 F2 g2 r2 hfr2 => ?_))
    refine AW_iret hX hE dX7_high_16 rfl (Nat.le_refl _) (Nat.le_refl _) ?_
    have e : spHigh (kp, yd, qk, pm, pg, (n, ks, ht, p, s, stp, fl, m, hd), w) = (hiF n ks 9, (kp, yd, qk, pm, pg, (n, ks, ht, p, s, stp, fl, m, hd), w)) := by
      show (cif _ _ _, _) = _
      rw [cif_neg (show ¬ n = 0 from iNe (b := 0) c4)]
    rw [e] at hK
    exact hK h2 ⟨I, sd, hh, F2, g2, r2⟩ hfr2
  · refine AW_bipush 9 hX dX7_high_7 rfl bp_m103 ?_
    refine AW_goto 16 hX dX7_high_9 (by decide) ?_
    refine AW_iret hX hE dX7_high_16 rfl (Nat.le_refl _) (Nat.le_refl _) ?_
    have e : spHigh (kp, yd, qk, pm, pg, (n, ks, ht, p, s, stp, fl, m, hd), w) = (-103, (kp, yd, qk, pm, pg, (n, ks, ht, p, s, stp, fl, m, hd), w)) := by
      show (cif _ _ _, _) = _
      rw [cif_pos (show n = 0 from iEq (b := 0) c4)]
    rw [e] at hK
    exact hK h ⟨I, sd, hh, F, g, r⟩ (fr_rf _ _ _)
theorem mnF_40 (n : Nat) (ks : Nat → Nat) (B : Nat) : ∀ i, ¬ (mnF n ks B i).1 = -1 → (mnF n ks B i).2 ≤ 40
  | 0, h => absurd rfl h
  | i + 1, h => by
    have h0 := (mnF_le n ks B i).1
    by_cases c : DD n (kz ks i) B 0 < (mnF n ks B i).2
    · rw [mnF, cif_pos c]
      show DD n (kz ks i) B 0 ≤ 40
      omega
    · rw [mnF, cif_neg c] at h ⊢
      exact mnF_40 n ks B i h
set_option maxRecDepth 100000 in
set_option maxHeartbeats 4000000 in
theorem M_mendNow {h : AH} {K : Option Value → AH → Prop} {kp yd qk pm n ht p s : Nat} {pg ks : Nat → Nat} {stp fl : Int32} {m : Nat} {hd : HD} {w : SV} {I : Nat → Int32} {sd hh : Int64} {F : AF} (g : MH h I sd hh F) (r : MR (kp, yd, qk, pm, pg, (n, ks, ht, p, s, stp, fl, m, hd), w) I F) (ok : Sok (kp, yd, qk, pm, pg, (n, ks, ht, p, s, stp, fl, m, hd), w)) (hn : 0 < n) (x : Int32) (hK : ∀ (h' : AH) (F' : AF), MH h' I sd hh F' → MR (kp, yd, qk, pm, pg, (n, ks, ht, p, s, stp, fl, m, hd), w) I F' → fr h h' 34 47 → K (some (.int (cif (x = 0) (mnF n ks (12 - ht) n).1 (mnS (mnF n ks (12 - ht) n))))) h') : aX7_mendNow 6 [.ref 34, .int x] h K := by
  obtain ⟨g0, a0, a1, a2, a3, a4, a5, a6, a7, a8, a9, a10, a11⟩ := id g
  obtain ⟨⟨e0, e1, e3, e4, e5, e6, e7, e8, e13, e14⟩, rk, rh, rp, rkp, rk0⟩ := id r
  obtain ⟨⟨ok1, ok2, ok3, ok4, ok5, ok6, ok7, ok8⟩, okp, okw, okq, okpm, okpg, oky⟩ := id ok
  have hp12 : p < 12 := by
    rcases Nat.eq_zero_or_pos n with e | e
    · have := ok8 e; omega
    · have := ok7 e; omega
  refine AM.of [some (.ref 34), some (.int x), none, none, none, none, none] pn_X7_mendNow rfl (Nat.le_of_ble_eq_true rfl) (fun X hX hE => ?_)
  have okn := ok7 hn
  have loop : ∀ e i, i + e = n → ∀ (h1 : AH) (F1 : AF) (z5 z6 : Option Value), MH h1 I sd hh F1 → (∀ k, k ≠ 6 → k ≠ 0 → F1 k = F k) → (∀ j, j < n → F1 0 j = nI (ks j)) → fr h h1 34 47 → AW X 0 0 14 [some (.ref 34), some (.int x), some (.int (mnF n ks (12 - ht) i).1), some (.int (nI (fwv (mnF n ks (12 - ht) i).2))), some (.int (nI i)), z5, z6] [] h1 := by
    intro e
    induction e with
    | zero =>
      intro i hi h1 F1 z5 z6 g1 ef1 hk1 hfr1
      have c0 := g1.1
      have ei : i = n := by omega
      subst ei
      have rF : MR (kp, yd, qk, pm, pg, (i, ks, ht, p, s, stp, fl, m, hd), w) I F1 := by
        obtain ⟨n1, ks1, ht1, p1, s1, stp1, fl1, m1, hd1⟩ := w
        refine ⟨⟨e0, e1, e3, e4, e5, e6, e7, e8, e13, e14⟩, hk1, fun j hj => ?_, fun j hj => ?_, fun q => ?_, rk0⟩
        · rw [ef1 1 (by decide) (by decide), ef1 2 (by decide) (by decide), ef1 3 (by decide) (by decide), ef1 4 (by decide) (by decide)]; exact rh j hj
        · rw [ef1 5 (by decide) (by decide)]; exact rp j hj
        · obtain ⟨k1, k2, k3⟩ := rkp q
          refine ⟨k1, fun j hj => by rw [ef1 7 (by decide) (by decide)]; exact k2 j hj, fun j hj => by rw [ef1 8 (by decide) (by decide), ef1 9 (by decide) (by decide), ef1 10 (by decide) (by decide), ef1 11 (by decide) (by decide)]; exact k3 j hj⟩
      have hfin := hK h1 F1 g1 rF hfr1
      refine AW_iload 16 hX dX7_mendNow_14 rfl rfl ?_
      refine AW_aload_n 17 hX dX7_mendNow_16 rfl rfl ?_
      refine AW_get 20 hX dX7_mendNow_17 rfl fl_X7_73 (by first | assumption | exact hset_eq | exact (hset_ne (by omega)).trans (by first | assumption | exact hset_eq | exact (hset_ne (by omega)).trans (by first | assumption | exact hset_eq | exact (hset_ne (by omega)).trans (by first | assumption | exact hset_eq | exact (hset_ne (by omega)).trans (by first | assumption | exact hset_eq))))) rfl ?_
      rw [e1]
      refine AW_icmp_ge 23 91 hX dX7_mendNow_20 rfl (by decide) (fun c20 => ?_) (fun c20 => absurd (nI_le (by omega) (by omega)) c20)
      refine AW_iload_n 92 hX dX7_mendNow_91 rfl rfl ?_
      refine AW_iconst 93 hX dX7_mendNow_92 rfl ic_m1 ?_
      refine AW_icmp_eq 96 100 hX dX7_mendNow_93 rfl (by decide) (fun c93 => ?_) (fun c93 => ?_)
      · refine AW_iload_n 101 hX dX7_mendNow_100 rfl rfl ?_
        refine AW_goto 105 hX dX7_mendNow_101 (by decide) ?_
        refine AW_iret hX hE dX7_mendNow_105 rfl (Nat.le_refl _) (Nat.le_refl _) ?_
        by_cases hx : x = 0
        · rw [cif_pos hx] at hfin; exact hfin
        · rw [cif_neg hx, show mnS (mnF i ks (12 - ht) i) = -1 from cif_pos c93] at hfin
          rw [c93]
          exact hfin
      · refine AW_iload_n 97 hX dX7_mendNow_96 rfl rfl ?_
        refine AW_if_ne 100 104 hX dX7_mendNow_97 rfl (by decide) (fun c97 => ?_) (fun c97 => ?_)
        · refine AW_iload_n 105 hX dX7_mendNow_104 rfl rfl ?_
          refine AW_iret hX hE dX7_mendNow_105 rfl (Nat.le_refl _) (Nat.le_refl _) ?_
          rw [cif_neg c97, show mnS (mnF i ks (12 - ht) i) = nI (mnF i ks (12 - ht) i).2 from cif_neg c93] at hfin
          rw [show fwv (mnF i ks (12 - ht) i).2 = (mnF i ks (12 - ht) i).2 from if_pos (mnF_40 _ _ _ _ c93)]
          exact hfin
        · refine AW_iload_n 101 hX dX7_mendNow_100 rfl rfl ?_
          refine AW_goto 105 hX dX7_mendNow_101 (by decide) ?_
          refine AW_iret hX hE dX7_mendNow_105 rfl (Nat.le_refl _) (Nat.le_refl _) ?_
          rw [cif_pos c97] at hfin
          exact hfin
    | succ e ih =>
      intro i hi h1 F1 z5 z6 g1 ef1 hk1 hfr1
      obtain ⟨b0, c0, c1, c2, c3, c4, c5, c6, -⟩ := id g1
      have hin : i < n := by omega
      have hD := DD_le n (kz ks i) (12 - ht) 0
      have hM := (mnF_le n ks (12 - ht) i).1
      have hfl := fwv_le (DD n (kz ks i) (12 - ht) 0)
      have hfl2 := fwv_le (mnF n ks (12 - ht) i).2
      have hkz : ∀ j, j < n → kz ks i j ≤ 4 := fun j hj => by
        simp only [kz]
        split
        · omega
        · exact ok2 j hj
      have hFz : ∀ j, j < n → upF F1 0 (upd (F1 0) i 0) 0 j = nI (kz ks i j) := fun j hj => by
        show upd (F1 0) i 0 j = _
        simp only [upd, kz]
        split
        · rfl
        · exact hk1 j hj
      refine AW_iload 16 hX dX7_mendNow_14 rfl rfl ?_
      refine AW_aload_n 17 hX dX7_mendNow_16 rfl rfl ?_
      refine AW_get 20 hX dX7_mendNow_17 rfl fl_X7_73 (by first | assumption | exact hset_eq | exact (hset_ne (by omega)).trans (by first | assumption | exact hset_eq | exact (hset_ne (by omega)).trans (by first | assumption | exact hset_eq | exact (hset_ne (by omega)).trans (by first | assumption | exact hset_eq | exact (hset_ne (by omega)).trans (by first | assumption | exact hset_eq))))) rfl ?_
      rw [e1]
      refine AW_icmp_ge 23 91 hX dX7_mendNow_20 rfl (by decide) (fun c20 => absurd c20 (nI_ge (by omega) (by omega))) (fun c20 => ?_)
      refine AW_aload_n 24 hX dX7_mendNow_23 rfl rfl ?_
      refine AW_get 27 hX dX7_mendNow_24 rfl fl_X7_7 (by first | assumption | exact hset_eq | exact (hset_ne (by omega)).trans (by first | assumption | exact hset_eq | exact (hset_ne (by omega)).trans (by first | assumption | exact hset_eq | exact (hset_ne (by omega)).trans (by first | assumption | exact hset_eq | exact (hset_ne (by omega)).trans (by first | assumption | exact hset_eq))))) rfl ?_
      refine AW_iload 29 hX dX7_mendNow_27 rfl rfl ?_
      refine AW_iald 30 hX dX7_mendNow_29 rfl (by first | assumption | exact hset_eq | exact (hset_ne (by omega)).trans (by first | assumption | exact hset_eq | exact (hset_ne (by omega)).trans (by first | assumption | exact hset_eq | exact (hset_ne (by omega)).trans (by first | assumption | exact hset_eq | exact (hset_ne (by omega)).trans (by first | assumption | exact hset_eq))))) (j := i) (by omega) rfl ?_
      rw [hk1 i hin]
      refine AW_istore 32 hX dX7_mendNow_30 rfl (Nat.le_of_ble_eq_true rfl) rfl ?_
      refine AW_aload_n 33 hX dX7_mendNow_32 rfl rfl ?_
      refine AW_get 36 hX dX7_mendNow_33 rfl fl_X7_7 (by first | assumption | exact hset_eq | exact (hset_ne (by omega)).trans (by first | assumption | exact hset_eq | exact (hset_ne (by omega)).trans (by first | assumption | exact hset_eq | exact (hset_ne (by omega)).trans (by first | assumption | exact hset_eq | exact (hset_ne (by omega)).trans (by first | assumption | exact hset_eq))))) rfl ?_
      refine AW_iload 38 hX dX7_mendNow_36 rfl rfl ?_
      refine AW_iconst 39 hX dX7_mendNow_38 rfl ic_0 ?_
      refine AW_iast 40 hX dX7_mendNow_39 rfl (by first | assumption | exact hset_eq | exact (hset_ne (by omega)).trans (by first | assumption | exact hset_eq | exact (hset_ne (by omega)).trans (by first | assumption | exact hset_eq | exact (hset_ne (by omega)).trans (by first | assumption | exact hset_eq | exact (hset_ne (by omega)).trans (by first | assumption | exact hset_eq))))) (j := i) (by omega) rfl ?_
      try rw [hset_hset]
      refine AW_aload_n 41 hX dX7_mendNow_40 rfl rfl ?_
      refine AW_aload_n 42 hX dX7_mendNow_41 rfl rfl ?_
      refine AW_get 45 hX dX7_mendNow_42 rfl fl_X7_76 (by first | assumption | exact hset_eq | exact (hset_ne (by omega)).trans (by first | assumption | exact hset_eq | exact (hset_ne (by omega)).trans (by first | assumption | exact hset_eq | exact (hset_ne (by omega)).trans (by first | assumption | exact hset_eq | exact (hset_ne (by omega)).trans (by first | assumption | exact hset_eq))))) rfl ?_
      rw [e3]
      refine AW_cV (As := [_]) 48 hX dX7_mendNow_45 rfl ml_X7_136 mw_X7_fewWith (by first | assumption | exact hset_eq | exact (hset_ne (by omega)).trans (by first | assumption | exact hset_eq | exact (hset_ne (by omega)).trans (by first | assumption | exact hset_eq | exact (hset_ne (by omega)).trans (by first | assumption | exact hset_eq | exact (hset_ne (by omega)).trans (by first | assumption | exact hset_eq))))) (by decide) rfl rfl rfl (Nat.le_of_ble_eq_true rfl) (by decide) ⟨(Nat.le_refl _), (Nat.le_refl _)⟩ (M_fewWith (F := upF F1 0 (upd (F1 0) i 0)) (MH_arr0 g1) e1 ok1 hn hFz hkz ht okn.2 (by omega) (fun h2 F2 g2 ef2 hfr2 => ?_))
      obtain ⟨b20, c20, -⟩ := id g2
      have hF20 : F2 0 = upd (F1 0) i 0 := ef2 0 (by decide)
      have hfin : ∀ z5 z6 bb ll, bb = (mnF n ks (12 - ht) (i + 1)).1 → ll = nI (fwv (mnF n ks (12 - ht) (i + 1)).2) → AW X 0 0 14 [some (.ref 34), some (.int x), some (.int bb), some (.int ll), some (.int (nI (i + 1))), z5, z6] [] (hset h2 35 (.inr (0, 12, upd (F2 0) i (nI (ks i))))) := fun z5 z6 bb ll ebb ell => by
        subst ebb
        subst ell
        refine ih (i + 1) (by omega) _ (upF F2 0 (upd (F2 0) i (nI (ks i)))) z5 z6 (MH_arr0 g2) (fun k h6 h0 => ?_) (fun j hj => ?_) (fr_tr (fr_tr (fr_tr hfr1 (fr_set (by omega) (by omega))) hfr2) (fr_set (by omega) (by omega)))
        · simp only [upF, if_neg h0]
          rw [ef2 k h6]
          simp only [upF, if_neg h0]
          exact ef1 k h6 h0
        · show upd (F2 0) i (nI (ks i)) j = _
          rw [hF20]
          by_cases e9 : j = i
          · subst e9; exact pk_us
          · rw [pk_un e9, pk_un e9]; exact hk1 j hj
      refine AW_istore 50 hX dX7_mendNow_48 rfl (Nat.le_of_ble_eq_true rfl) rfl ?_
      refine AW_aload_n 51 hX dX7_mendNow_50 rfl rfl ?_
      refine AW_get 54 hX dX7_mendNow_51 rfl fl_X7_7 (by first | assumption | exact hset_eq | exact (hset_ne (by omega)).trans (by first | assumption | exact hset_eq | exact (hset_ne (by omega)).trans (by first | assumption | exact hset_eq | exact (hset_ne (by omega)).trans (by first | assumption | exact hset_eq | exact (hset_ne (by omega)).trans (by first | assumption | exact hset_eq))))) rfl ?_
      refine AW_iload 56 hX dX7_mendNow_54 rfl rfl ?_
      refine AW_iload 58 hX dX7_mendNow_56 rfl rfl ?_
      refine AW_iast 59 hX dX7_mendNow_58 rfl (by first | assumption | exact hset_eq | exact (hset_ne (by omega)).trans (by first | assumption | exact hset_eq | exact (hset_ne (by omega)).trans (by first | assumption | exact hset_eq | exact (hset_ne (by omega)).trans (by first | assumption | exact hset_eq | exact (hset_ne (by omega)).trans (by first | assumption | exact hset_eq))))) (j := i) (by omega) rfl ?_
      try rw [hset_hset]
      refine AW_iload 61 hX dX7_mendNow_59 rfl rfl ?_
      refine AW_iload_n 62 hX dX7_mendNow_61 rfl rfl ?_
      refine AW_icmp_ge 65 70 hX dX7_mendNow_62 rfl (by decide) (fun c62 => ?_) (fun c62 => ?_)
      · refine AW_iload_n 71 hX dX7_mendNow_70 rfl rfl ?_
        refine AW_istore_n 72 hX dX7_mendNow_71 rfl (Nat.le_of_ble_eq_true rfl) rfl ?_
        refine AW_iload 74 hX dX7_mendNow_72 rfl rfl ?_
        refine AW_iload_n 75 hX dX7_mendNow_74 rfl rfl ?_
        refine AW_icmp_ge 78 83 hX dX7_mendNow_75 rfl (by decide) (fun c75 => ?_) (fun c75 => ?_)
        · refine AW_iload_n 84 hX dX7_mendNow_83 rfl rfl ?_
          refine AW_istore_n 85 hX dX7_mendNow_84 rfl (Nat.le_of_ble_eq_true rfl) rfl ?_
          refine AW_iinc 88 hX dX7_mendNow_85 rfl rfl (iincp ic_1) (Nat.le_of_ble_eq_true rfl) rfl ?_
          refine AW_goto 14 hX dX7_mendNow_88 (by decide) ?_
          rw [nI_1]
          have hge := iLe c62
          have em : mnF n ks (12 - ht) (i + 1) = (mnF n ks (12 - ht) i) := by rw [mnF, cif_neg (fun q => by have := (fwv_lt hD hM).mpr q; omega)]
          exact hfin _ _ _ _ (by rw [em]) (by rw [em])
        · refine AW_iload 80 hX dX7_mendNow_78 rfl rfl ?_
          refine AW_goto 84 hX dX7_mendNow_80 (by decide) ?_
          refine AW_istore_n 85 hX dX7_mendNow_84 rfl (Nat.le_of_ble_eq_true rfl) rfl ?_
          refine AW_iinc 88 hX dX7_mendNow_85 rfl rfl (iincp ic_1) (Nat.le_of_ble_eq_true rfl) rfl ?_
          refine AW_goto 14 hX dX7_mendNow_88 (by decide) ?_
          exact absurd c62 c75
      · refine AW_iload 67 hX dX7_mendNow_65 rfl rfl ?_
        refine AW_goto 71 hX dX7_mendNow_67 (by decide) ?_
        refine AW_istore_n 72 hX dX7_mendNow_71 rfl (Nat.le_of_ble_eq_true rfl) rfl ?_
        refine AW_iload 74 hX dX7_mendNow_72 rfl rfl ?_
        refine AW_iload_n 75 hX dX7_mendNow_74 rfl rfl ?_
        refine AW_icmp_ge 78 83 hX dX7_mendNow_75 rfl (by decide) (fun c75 => ?_) (fun c75 => ?_)
        · refine AW_iload_n 84 hX dX7_mendNow_83 rfl rfl ?_
          refine AW_istore_n 85 hX dX7_mendNow_84 rfl (Nat.le_of_ble_eq_true rfl) rfl ?_
          refine AW_iinc 88 hX dX7_mendNow_85 rfl rfl (iincp ic_1) (Nat.le_of_ble_eq_true rfl) rfl ?_
          refine AW_goto 14 hX dX7_mendNow_88 (by decide) ?_
          exact absurd c75 c62
        · refine AW_iload 80 hX dX7_mendNow_78 rfl rfl ?_
          refine AW_goto 84 hX dX7_mendNow_80 (by decide) ?_
          refine AW_istore_n 85 hX dX7_mendNow_84 rfl (Nat.le_of_ble_eq_true rfl) rfl ?_
          refine AW_iinc 88 hX dX7_mendNow_85 rfl rfl (iincp ic_1) (Nat.le_of_ble_eq_true rfl) rfl ?_
          refine AW_goto 14 hX dX7_mendNow_88 (by decide) ?_
          rw [nI_1]
          have hge := iNle c62
          have em : mnF n ks (12 - ht) (i + 1) = (nI i, DD n (kz ks i) (12 - ht) 0) := by rw [mnF, cif_pos ((fwv_lt hD hM).mp hge)]
          exact hfin _ _ _ _ (by rw [em]) (by rw [em])
  refine AW_iconst 1 hX dX7_mendNow_0 rfl ic_m1 ?_
  refine AW_istore_n 2 hX dX7_mendNow_1 rfl (Nat.le_of_ble_eq_true rfl) rfl ?_
  refine AW_aload_n 3 hX dX7_mendNow_2 rfl rfl ?_
  refine AW_aload_n 4 hX dX7_mendNow_3 rfl rfl ?_
  refine AW_get 7 hX dX7_mendNow_4 rfl fl_X7_76 (by first | assumption | exact hset_eq | exact (hset_ne (by omega)).trans (by first | assumption | exact hset_eq | exact (hset_ne (by omega)).trans (by first | assumption | exact hset_eq | exact (hset_ne (by omega)).trans (by first | assumption | exact hset_eq | exact (hset_ne (by omega)).trans (by first | assumption | exact hset_eq))))) rfl ?_
  rw [e3]
  refine AW_cV (As := [_]) 10 hX dX7_mendNow_7 rfl ml_X7_136 mw_X7_fewWith (by first | assumption | exact hset_eq | exact (hset_ne (by omega)).trans (by first | assumption | exact hset_eq | exact (hset_ne (by omega)).trans (by first | assumption | exact hset_eq | exact (hset_ne (by omega)).trans (by first | assumption | exact hset_eq | exact (hset_ne (by omega)).trans (by first | assumption | exact hset_eq))))) (by decide) rfl rfl rfl (Nat.le_of_ble_eq_true rfl) (by decide) ⟨(Nat.le_refl _), (Nat.le_refl _)⟩ (M_fewWith g e1 ok1 hn rk ok2 ht okn.2 (by omega) (fun h2 F2 g2 ef2 hfr2 => ?_))
  refine AW_istore_n 11 hX dX7_mendNow_10 rfl (Nat.le_of_ble_eq_true rfl) rfl ?_
  refine AW_iconst 12 hX dX7_mendNow_11 rfl ic_0 ?_
  refine AW_istore 14 hX dX7_mendNow_12 rfl (Nat.le_of_ble_eq_true rfl) rfl ?_
  exact loop n 0 (by omega) h2 F2 none none g2 (fun k h6 _ => ef2 k h6) (fun j hj => by rw [ef2 0 (by decide)]; exact rk j hj) hfr2
set_option maxRecDepth 100000 in
set_option maxHeartbeats 4000000 in
theorem D_mend {h : AH} {K : Option Value → AH → Prop} {kp yd qk pm n ht p s : Nat} {pg ks : Nat → Nat} {stp fl : Int32} {m : Nat} {hd : HD} {w : SV} {I : Nat → Int32} {sd hh : Int64} {F : AF} (g : MH h I sd hh F) (r : MR (kp, yd, qk, pm, pg, (n, ks, ht, p, s, stp, fl, m, hd), w) I F) (ok : Sok (kp, yd, qk, pm, pg, (n, ks, ht, p, s, stp, fl, m, hd), w)) (x : Int32) (hK : ∀ h' : AH, MJ h' (spMend (kp, yd, qk, pm, pg, (n, ks, ht, p, s, stp, fl, m, hd), w) x).2 → fr h h' 34 47 → K (some (.int (spMend (kp, yd, qk, pm, pg, (n, ks, ht, p, s, stp, fl, m, hd), w) x).1)) h') : aX7_mend 7 [.ref 34, .int x] h K := by
  obtain ⟨g0, a0, a1, a2, a3, a4, a5, a6, a7, a8, a9, a10, a11⟩ := id g
  obtain ⟨⟨e0, e1, e3, e4, e5, e6, e7, e8, e13, e14⟩, rk, rh, rp, rkp, rk0⟩ := id r
  obtain ⟨⟨ok1, ok2, ok3, ok4, ok5, ok6, ok7, ok8⟩, okp, okw, okq, okpm, okpg, oky⟩ := id ok
  have hp12 : p < 12 := by
    rcases Nat.eq_zero_or_pos n with e | e
    · have := ok8 e; omega
    · have := ok7 e; omega
  refine AM.of [some (.ref 34), some (.int x)] pn_X7_mend rfl (Nat.le_of_ble_eq_true rfl) (fun X hX hE => ?_)
  refine AW_iload_n 1 hX dX7_mend_0 rfl rfl ?_
  refine AW_iconst 2 hX dX7_mend_1 rfl ic_0 ?_
  refine AW_iconst 3 hX dX7_mend_2 rfl ic_1 ?_
  refine AW_cS (As := [_, _, _]) 6 hX dX7_mend_3 rfl ml_X7_47 mw_X7_within rfl rfl (Nat.le_of_ble_eq_true rfl) (by decide) ⟨(Nat.le_refl _), (Nat.le_refl _)⟩ (M_within _ _ _ (fun w1 w2 => ?_) (fun w1 => ?_))
  · obtain ⟨c, -, hc, ec⟩ := rg (x := x) 0 1 (by decide) (by decide) w1 w2
    subst ec
    refine AW_if_ne 9 12 hX dX7_mend_6 rfl (by decide) (fun c6 => ?_) (fun c6 => absurd c6 (by decide))
    refine AW_aload_n 13 hX dX7_mend_12 rfl rfl ?_
    refine AW_get 16 hX dX7_mend_13 rfl fl_X7_73 (by first | assumption | exact hset_eq | exact (hset_ne (by omega)).trans (by first | assumption | exact hset_eq | exact (hset_ne (by omega)).trans (by first | assumption | exact hset_eq | exact (hset_ne (by omega)).trans (by first | assumption | exact hset_eq | exact (hset_ne (by omega)).trans (by first | assumption | exact hset_eq))))) rfl ?_
    rw [e1]
    refine AW_if_ne 19 24 hX dX7_mend_16 rfl (by decide) (fun c16 => ?_) (fun c16 => ?_)
    · refine AW_aload_n 25 hX dX7_mend_24 rfl rfl ?_
      refine AW_iload_n 26 hX dX7_mend_25 rfl rfl ?_
      refine AW_cV (As := [_]) 29 hX dX7_mend_26 rfl ml_X7_142 mw_X7_mendNow (by first | assumption | exact hset_eq | exact (hset_ne (by omega)).trans (by first | assumption | exact hset_eq | exact (hset_ne (by omega)).trans (by first | assumption | exact hset_eq | exact (hset_ne (by omega)).trans (by first | assumption | exact hset_eq | exact (hset_ne (by omega)).trans (by first | assumption | exact hset_eq))))) (by decide) rfl rfl rfl (Nat.le_of_ble_eq_true rfl) (by decide) ⟨(Nat.le_refl _), (Nat.le_refl _)⟩ (M_mendNow g r ok (by have := iNe (b := 0) c16; omega) (nI c) (fun h2 F2 g2 r2 hfr2 => ?_))
      refine AW_iret hX hE dX7_mend_29 rfl (Nat.le_refl _) (Nat.le_refl _) ?_
      have e : spMend (kp, yd, qk, pm, pg, (n, ks, ht, p, s, stp, fl, m, hd), w) (nI c) = (cif (nI c = 0) (mnF n ks (12 - ht) n).1 (mnS (mnF n ks (12 - ht) n)), (kp, yd, qk, pm, pg, (n, ks, ht, p, s, stp, fl, m, hd), w)) := by
        show (cif _ _ _, _) = _
        rw [cif_pos ⟨c, by omega, rfl⟩, cif_neg (show ¬ n = 0 from iNe (b := 0) c16)]
      rw [e] at hK
      exact hK h2 ⟨I, sd, hh, F2, g2, r2⟩ hfr2
    · refine AW_bipush 21 hX dX7_mend_19 rfl bp_m103 ?_
      refine AW_goto 29 hX dX7_mend_21 (by decide) ?_
      refine AW_iret hX hE dX7_mend_29 rfl (Nat.le_refl _) (Nat.le_refl _) ?_
      have e : spMend (kp, yd, qk, pm, pg, (n, ks, ht, p, s, stp, fl, m, hd), w) (nI c) = (-103, (kp, yd, qk, pm, pg, (n, ks, ht, p, s, stp, fl, m, hd), w)) := by
        show (cif _ _ _, _) = _
        rw [cif_pos ⟨c, by omega, rfl⟩, cif_pos (show n = 0 from iEq (b := 0) c16)]
      rw [e] at hK
      exact hK h ⟨I, sd, hh, F, g, r⟩ (fr_rf _ _ _)
  · refine AW_if_ne 9 12 hX dX7_mend_6 rfl (by decide) (fun c6 => absurd rfl c6) (fun c6 => ?_)
    refine AW_bipush 11 hX dX7_mend_9 rfl bp_m102 ?_
    refine AW_iret hX hE dX7_mend_11 rfl (Nat.le_refl _) (Nat.le_refl _) ?_
    have e : spMend (kp, yd, qk, pm, pg, (n, ks, ht, p, s, stp, fl, m, hd), w) x = (-102, (kp, yd, qk, pm, pg, (n, ks, ht, p, s, stp, fl, m, hd), w)) := by
      show (cif _ _ _, _) = _
      rw [cif_neg (isP_nx (N := 1) (by decide) w1)]
    rw [e] at hK
    exact hK h ⟨I, sd, hh, F, g, r⟩ (fr_rf _ _ _)
