/-! THE LAW'S LOOP -/
def SX (X : Cx) (b L : Nat) (xs : Nat → Int32) : Prop := match X with
  | (_, _, _, _, s, _, _, _, _, _, _, g) => va_X b L xs s s.heap ∧ b < s.heap.size ∧ g.1 = s.heap.size
section AWS
variable {X : Cx} {cs ss pc k rc rs : Nat} {y : MethodName} {cc : ByteArray} {ls : List (Option Value)} {st : List Value} {h : AH}
theorem AW_sld (n' : Nat) (hX : CxOk X y cc k rc rs) {b L j : Nat} {xs : Nat → Int32} {x : Int32} (hd : decode cc pc = .ok (.iaload, 1)) (hn : pc + 1 = n') (hs : SX X b L xs) (hj : j < L) (hL : L ≤ 320) (hi : x = nI j) (kk : AW X cs ss n' ls (.int (xs j) :: st) h) : AW X cs ss pc ls (.int x :: .ref (b + 2000) :: st) h := by
  subst hn
  subst hi
  obtain ⟨p, l, e, R, s, m, args, below, meth, c, Q, g⟩ := X
  obtain ⟨hx, hb, hown, hts, hwe, hwf, ⟨hkf, hkl, hrc, hrs⟩, hnm⟩ := hX
  obtain ⟨s1, s2, s3⟩ := hs
  intro H locs la hw hS hla
  simp only [List.map_cons, cv_old]
  have h1 := kk H locs la hw hS hla
  refine va_sld hx hb s1 s2 (show ¬ g.1 ≤ b by omega) hS (vp_in_nI hj (by omega)) hd ?_
  rw [nI_clamp (by omega)]
  exact h1
theorem AW_slen (n' : Nat) (hX : CxOk X y cc k rc rs) {b L : Nat} {xs : Nat → Int32} (hd : decode cc pc = .ok (.arraylength, 1)) (hn : pc + 1 = n') (hs : SX X b L xs) (kk : AW X cs ss n' ls (.int (nI L) :: st) h) : AW X cs ss pc ls (.ref (b + 2000) :: st) h := by
  subst hn
  obtain ⟨p, l, e, R, s, m, args, below, meth, c, Q, g⟩ := X
  obtain ⟨hx, hb, hown, hts, hwe, hwf, ⟨hkf, hkl, hrc, hrs⟩, hnm⟩ := hX
  obtain ⟨s1, s2, s3⟩ := hs
  intro H locs la hw hS hla
  simp only [List.map_cons, cv_old]
  exact va_slen hx hb s1 s2 (show ¬ g.1 ≤ b by omega) hS hd (kk H locs la hw hS hla)
end AWS
theorem sub5 : ∀ L, L ≤ 320 → (nI L - 5).toInt = (L : Int) - 5 := by decide +kernel
theorem sub5_lt {L i : Nat} (hL : L ≤ 320) (hi : i ≤ 400) : nI L - 5 < nI i ↔ L < i + 5 := by
  rw [Int32.lt_iff_toInt_lt, sub5 L hL, nI_toInt (by omega)]
  omega
theorem cmp_self (x : Int64) : lg_cmp x x = 0 := by
  simp [lg_cmp, Int64.lt_irrefl]
set_option maxRecDepth 100000 in
set_option maxHeartbeats 4000000 in
theorem lc_0 {X : Cx} {h : AH} {b L t : Nat} {nm : String} {xs : Nat → Int32} (hX : CxOk X (⟨RL, nm, ""⟩ : MethodName) cL_law 14 47 1041) (hs : SX X b L xs) (hL : L ≤ 320) (hi : 5 * t + 5 ≤ L) {kp yd qk pm n ht p s : Nat} {pg ks : Nat → Nat} {stp fl : Int32} {m : Nat} {hd : HD} {w : SV} (hC : CI h (kp, yd, qk, pm, pg, (n, ks, ht, p, s, stp, fl, m, hd), w)) (hM : MJ h (kp, yd, qk, pm, pg, (n, ks, ht, p, s, stp, fl, m, hd), w)) (ok : Okt t (kp, yd, qk, pm, pg, (n, ks, ht, p, s, stp, fl, m, hd), w)) (next : ∀ (h' : AH) (S' : ST), CI h' S' → MJ h' S' → Okt (t + 1) S' → AW X 47 1041 622 [some (.ref (b + 2000)), some (.ref 0), some (.ref 34), some (.int (nI (5 * t)))] [] h') : AW X 47 1041 132 [some (.ref (b + 2000)), some (.ref 0), some (.ref 34), some (.int (nI (5 * t)))] [] h := by
  obtain ⟨mp, ms, g⟩ := hC
  obtain ⟨I, sd, hh, F, gm, r⟩ := hM
  have ha0 := g.1
  unfold yO at ha0
  have hb0 := gm.1
  have ht9 : t < 900000 := by omega
  refine AW_aload_n 133 hX dL_law_132 rfl rfl ?_
  refine AW_aload_n 134 hX dL_law_133 rfl rfl ?_
  refine AW_iload_n 135 hX dL_law_134 rfl rfl ?_
  refine AW_iconst 136 hX dL_law_135 rfl ic_1 ?_
  refine AW_iadd 137 hX dL_law_136 rfl ?_
  refine AW_sld 138 hX dL_law_137 rfl (j := 5 * t + 1) hs (by omega) hL (nI_add (5 * t) 1) ?_
  refine AW_cV (As := [_]) 141 hX dL_law_138 rfl ml_L_13 mw_X6_letter (by first | assumption | exact hset_eq | exact (hset_ne (by omega)).trans (by first | assumption | exact hset_eq | exact (hset_ne (by omega)).trans (by first | assumption | exact hset_eq | exact (hset_ne (by omega)).trans (by first | assumption | exact hset_eq | exact (hset_ne (by omega)).trans (by first | assumption | exact hset_eq))))) (by decide) rfl rfl rfl (Nat.le_of_ble_eq_true rfl) (by decide) ⟨(Nat.le_of_ble_eq_true rfl), (Nat.le_of_ble_eq_true rfl)⟩ (C_letter g ok.1 (xs (5 * t + 1)) (fun h2 ⟨mp2, ms2, g2⟩ fr2 => ?_))
  have gm2 := MH_fr gm fr2
  have b2 := gm2.1
  refine AW_aload_n 142 hX dL_law_141 rfl rfl ?_
  refine AW_aload_n 143 hX dL_law_142 rfl rfl ?_
  refine AW_iload_n 144 hX dL_law_143 rfl rfl ?_
  refine AW_iconst 145 hX dL_law_144 rfl ic_1 ?_
  refine AW_iadd 146 hX dL_law_145 rfl ?_
  refine AW_sld 147 hX dL_law_146 rfl (j := 5 * t + 1) hs (by omega) hL (nI_add (5 * t) 1) ?_
  refine AW_cV (As := [_]) 150 hX dL_law_147 rfl ml_L_17 mw_X7_letter (by first | assumption | exact hset_eq | exact (hset_ne (by omega)).trans (by first | assumption | exact hset_eq | exact (hset_ne (by omega)).trans (by first | assumption | exact hset_eq | exact (hset_ne (by omega)).trans (by first | assumption | exact hset_eq | exact (hset_ne (by omega)).trans (by first | assumption | exact hset_eq))))) (by decide) rfl rfl rfl (Nat.le_of_ble_eq_true rfl) (by decide) ⟨(Nat.le_of_ble_eq_true rfl), (Nat.le_of_ble_eq_true rfl)⟩ (D_letter gm2 r ok.1 (xs (5 * t + 1)) (fun h3 hm3 fr3 => ?_))
  refine AW_icmp_eq 153 622 hX dL_law_150 rfl (by decide) (fun c150 => ?_) (fun c150 => absurd rfl c150)
  exact next h3 _ ⟨mp2, ms2, CJ_fr g2 fr3⟩ hm3 (k_Letter ht9 ok (xs (5 * t + 1)))
set_option maxRecDepth 100000 in
set_option maxHeartbeats 4000000 in
theorem lc_1 {X : Cx} {h : AH} {b L t : Nat} {nm : String} {xs : Nat → Int32} (hX : CxOk X (⟨RL, nm, ""⟩ : MethodName) cL_law 14 47 1041) (hs : SX X b L xs) (hL : L ≤ 320) (hi : 5 * t + 5 ≤ L) {kp yd qk pm n ht p s : Nat} {pg ks : Nat → Nat} {stp fl : Int32} {m : Nat} {hd : HD} {w : SV} (hC : CI h (kp, yd, qk, pm, pg, (n, ks, ht, p, s, stp, fl, m, hd), w)) (hM : MJ h (kp, yd, qk, pm, pg, (n, ks, ht, p, s, stp, fl, m, hd), w)) (ok : Okt t (kp, yd, qk, pm, pg, (n, ks, ht, p, s, stp, fl, m, hd), w)) (next : ∀ (h' : AH) (S' : ST), CI h' S' → MJ h' S' → Okt (t + 1) S' → AW X 47 1041 622 [some (.ref (b + 2000)), some (.ref 0), some (.ref 34), some (.int (nI (5 * t)))] [] h') : AW X 47 1041 155 [some (.ref (b + 2000)), some (.ref 0), some (.ref 34), some (.int (nI (5 * t)))] [] h := by
  obtain ⟨mp, ms, g⟩ := hC
  obtain ⟨I, sd, hh, F, gm, r⟩ := hM
  have ha0 := g.1
  unfold yO at ha0
  have hb0 := gm.1
  have ht9 : t < 900000 := by omega
  refine AW_aload_n 156 hX dL_law_155 rfl rfl ?_
  refine AW_cV (As := []) 159 hX dL_law_156 rfl ml_L_18 mw_X6_blank (by first | assumption | exact hset_eq | exact (hset_ne (by omega)).trans (by first | assumption | exact hset_eq | exact (hset_ne (by omega)).trans (by first | assumption | exact hset_eq | exact (hset_ne (by omega)).trans (by first | assumption | exact hset_eq | exact (hset_ne (by omega)).trans (by first | assumption | exact hset_eq))))) (by decide) rfl rfl rfl (Nat.le_of_ble_eq_true rfl) (by decide) ⟨(Nat.le_of_ble_eq_true rfl), (Nat.le_of_ble_eq_true rfl)⟩ (C_blank g ok.1 (fun h2 ⟨mp2, ms2, g2⟩ fr2 => ?_))
  have gm2 := MH_fr gm fr2
  have b2 := gm2.1
  refine AW_aload_n 160 hX dL_law_159 rfl rfl ?_
  refine AW_cV (As := []) 163 hX dL_law_160 rfl ml_L_22 mw_X7_blank (by first | assumption | exact hset_eq | exact (hset_ne (by omega)).trans (by first | assumption | exact hset_eq | exact (hset_ne (by omega)).trans (by first | assumption | exact hset_eq | exact (hset_ne (by omega)).trans (by first | assumption | exact hset_eq | exact (hset_ne (by omega)).trans (by first | assumption | exact hset_eq))))) (by decide) rfl rfl rfl (Nat.le_of_ble_eq_true rfl) (by decide) ⟨(Nat.le_of_ble_eq_true rfl), (Nat.le_of_ble_eq_true rfl)⟩ (D_blank gm2 r ok.1 (fun h3 hm3 fr3 => ?_))
  refine AW_icmp_eq 166 622 hX dL_law_163 rfl (by decide) (fun c163 => ?_) (fun c163 => absurd rfl c163)
  exact next h3 _ ⟨mp2, ms2, CJ_fr g2 fr3⟩ hm3 (k_Blank ht9 ok)
set_option maxRecDepth 100000 in
set_option maxHeartbeats 4000000 in
theorem lc_2 {X : Cx} {h : AH} {b L t : Nat} {nm : String} {xs : Nat → Int32} (hX : CxOk X (⟨RL, nm, ""⟩ : MethodName) cL_law 14 47 1041) (hs : SX X b L xs) (hL : L ≤ 320) (hi : 5 * t + 5 ≤ L) {kp yd qk pm n ht p s : Nat} {pg ks : Nat → Nat} {stp fl : Int32} {m : Nat} {hd : HD} {w : SV} (hC : CI h (kp, yd, qk, pm, pg, (n, ks, ht, p, s, stp, fl, m, hd), w)) (hM : MJ h (kp, yd, qk, pm, pg, (n, ks, ht, p, s, stp, fl, m, hd), w)) (ok : Okt t (kp, yd, qk, pm, pg, (n, ks, ht, p, s, stp, fl, m, hd), w)) (next : ∀ (h' : AH) (S' : ST), CI h' S' → MJ h' S' → Okt (t + 1) S' → AW X 47 1041 622 [some (.ref (b + 2000)), some (.ref 0), some (.ref 34), some (.int (nI (5 * t)))] [] h') : AW X 47 1041 168 [some (.ref (b + 2000)), some (.ref 0), some (.ref 34), some (.int (nI (5 * t)))] [] h := by
  obtain ⟨mp, ms, g⟩ := hC
  obtain ⟨I, sd, hh, F, gm, r⟩ := hM
  have ha0 := g.1
  unfold yO at ha0
  have hb0 := gm.1
  have ht9 : t < 900000 := by omega
  refine AW_aload_n 169 hX dL_law_168 rfl rfl ?_
  refine AW_cV (As := []) 172 hX dL_law_169 rfl ml_L_23 mw_X6_fault (by first | assumption | exact hset_eq | exact (hset_ne (by omega)).trans (by first | assumption | exact hset_eq | exact (hset_ne (by omega)).trans (by first | assumption | exact hset_eq | exact (hset_ne (by omega)).trans (by first | assumption | exact hset_eq | exact (hset_ne (by omega)).trans (by first | assumption | exact hset_eq))))) (by decide) rfl rfl rfl (Nat.le_of_ble_eq_true rfl) (by decide) ⟨(Nat.le_of_ble_eq_true rfl), (Nat.le_of_ble_eq_true rfl)⟩ (C_fault g ok.1 (fun h2 ⟨mp2, ms2, g2⟩ fr2 => ?_))
  have gm2 := MH_fr gm fr2
  have b2 := gm2.1
  refine AW_aload_n 173 hX dL_law_172 rfl rfl ?_
  refine AW_cV (As := []) 176 hX dL_law_173 rfl ml_L_26 mw_X7_fault (by first | assumption | exact hset_eq | exact (hset_ne (by omega)).trans (by first | assumption | exact hset_eq | exact (hset_ne (by omega)).trans (by first | assumption | exact hset_eq | exact (hset_ne (by omega)).trans (by first | assumption | exact hset_eq | exact (hset_ne (by omega)).trans (by first | assumption | exact hset_eq))))) (by decide) rfl rfl rfl (Nat.le_of_ble_eq_true rfl) (by decide) ⟨(Nat.le_of_ble_eq_true rfl), (Nat.le_of_ble_eq_true rfl)⟩ (D_fault gm2 r ok.1 (fun h3 hm3 fr3 => ?_))
  refine AW_icmp_eq 179 622 hX dL_law_176 rfl (by decide) (fun c176 => ?_) (fun c176 => absurd rfl c176)
  exact next h3 _ ⟨mp2, ms2, CJ_fr g2 fr3⟩ hm3 (k_Fault ht9 ok)
set_option maxRecDepth 100000 in
set_option maxHeartbeats 4000000 in
theorem lc_3 {X : Cx} {h : AH} {b L t : Nat} {nm : String} {xs : Nat → Int32} (hX : CxOk X (⟨RL, nm, ""⟩ : MethodName) cL_law 14 47 1041) (hs : SX X b L xs) (hL : L ≤ 320) (hi : 5 * t + 5 ≤ L) {kp yd qk pm n ht p s : Nat} {pg ks : Nat → Nat} {stp fl : Int32} {m : Nat} {hd : HD} {w : SV} (hC : CI h (kp, yd, qk, pm, pg, (n, ks, ht, p, s, stp, fl, m, hd), w)) (hM : MJ h (kp, yd, qk, pm, pg, (n, ks, ht, p, s, stp, fl, m, hd), w)) (ok : Okt t (kp, yd, qk, pm, pg, (n, ks, ht, p, s, stp, fl, m, hd), w)) (next : ∀ (h' : AH) (S' : ST), CI h' S' → MJ h' S' → Okt (t + 1) S' → AW X 47 1041 622 [some (.ref (b + 2000)), some (.ref 0), some (.ref 34), some (.int (nI (5 * t)))] [] h') : AW X 47 1041 181 [some (.ref (b + 2000)), some (.ref 0), some (.ref 34), some (.int (nI (5 * t)))] [] h := by
  obtain ⟨mp, ms, g⟩ := hC
  obtain ⟨I, sd, hh, F, gm, r⟩ := hM
  have ha0 := g.1
  unfold yO at ha0
  have hb0 := gm.1
  have ht9 : t < 900000 := by omega
  refine AW_aload_n 182 hX dL_law_181 rfl rfl ?_
  refine AW_cV (As := []) 185 hX dL_law_182 rfl ml_L_27 mw_X6_yard (by first | assumption | exact hset_eq | exact (hset_ne (by omega)).trans (by first | assumption | exact hset_eq | exact (hset_ne (by omega)).trans (by first | assumption | exact hset_eq | exact (hset_ne (by omega)).trans (by first | assumption | exact hset_eq | exact (hset_ne (by omega)).trans (by first | assumption | exact hset_eq))))) (by decide) rfl rfl rfl (Nat.le_of_ble_eq_true rfl) (by decide) ⟨(Nat.le_of_ble_eq_true rfl), (Nat.le_of_ble_eq_true rfl)⟩ (C_yard g ok.1 (fun h2 ⟨mp2, ms2, g2⟩ fr2 => ?_))
  have gm2 := MH_fr gm fr2
  have b2 := gm2.1
  refine AW_aload_n 186 hX dL_law_185 rfl rfl ?_
  refine AW_cV (As := []) 189 hX dL_law_186 rfl ml_L_30 mw_X7_yard (by first | assumption | exact hset_eq | exact (hset_ne (by omega)).trans (by first | assumption | exact hset_eq | exact (hset_ne (by omega)).trans (by first | assumption | exact hset_eq | exact (hset_ne (by omega)).trans (by first | assumption | exact hset_eq | exact (hset_ne (by omega)).trans (by first | assumption | exact hset_eq))))) (by decide) rfl rfl rfl (Nat.le_of_ble_eq_true rfl) (by decide) ⟨(Nat.le_of_ble_eq_true rfl), (Nat.le_of_ble_eq_true rfl)⟩ (D_yard gm2 r ok.1 (fun h3 hm3 fr3 => ?_))
  refine AW_icmp_eq 192 622 hX dL_law_189 rfl (by decide) (fun c189 => ?_) (fun c189 => absurd rfl c189)
  exact next h3 _ ⟨mp2, ms2, CJ_fr g2 fr3⟩ hm3 (k_Yard ht9 ok)
set_option maxRecDepth 100000 in
set_option maxHeartbeats 4000000 in
theorem lc_4 {X : Cx} {h : AH} {b L t : Nat} {nm : String} {xs : Nat → Int32} (hX : CxOk X (⟨RL, nm, ""⟩ : MethodName) cL_law 14 47 1041) (hs : SX X b L xs) (hL : L ≤ 320) (hi : 5 * t + 5 ≤ L) {kp yd qk pm n ht p s : Nat} {pg ks : Nat → Nat} {stp fl : Int32} {m : Nat} {hd : HD} {w : SV} (hC : CI h (kp, yd, qk, pm, pg, (n, ks, ht, p, s, stp, fl, m, hd), w)) (hM : MJ h (kp, yd, qk, pm, pg, (n, ks, ht, p, s, stp, fl, m, hd), w)) (ok : Okt t (kp, yd, qk, pm, pg, (n, ks, ht, p, s, stp, fl, m, hd), w)) (next : ∀ (h' : AH) (S' : ST), CI h' S' → MJ h' S' → Okt (t + 1) S' → AW X 47 1041 622 [some (.ref (b + 2000)), some (.ref 0), some (.ref 34), some (.int (nI (5 * t)))] [] h') : AW X 47 1041 194 [some (.ref (b + 2000)), some (.ref 0), some (.ref 34), some (.int (nI (5 * t)))] [] h := by
  obtain ⟨mp, ms, g⟩ := hC
  obtain ⟨I, sd, hh, F, gm, r⟩ := hM
  have ha0 := g.1
  unfold yO at ha0
  have hb0 := gm.1
  have ht9 : t < 900000 := by omega
  refine AW_aload_n 195 hX dL_law_194 rfl rfl ?_
  refine AW_aload_n 196 hX dL_law_195 rfl rfl ?_
  refine AW_iload_n 197 hX dL_law_196 rfl rfl ?_
  refine AW_iconst 198 hX dL_law_197 rfl ic_1 ?_
  refine AW_iadd 199 hX dL_law_198 rfl ?_
  refine AW_sld 200 hX dL_law_199 rfl (j := 5 * t + 1) hs (by omega) hL (nI_add (5 * t) 1) ?_
  refine AW_aload_n 201 hX dL_law_200 rfl rfl ?_
  refine AW_iload_n 202 hX dL_law_201 rfl rfl ?_
  refine AW_iconst 203 hX dL_law_202 rfl ic_2 ?_
  refine AW_iadd 204 hX dL_law_203 rfl ?_
  refine AW_sld 205 hX dL_law_204 rfl (j := 5 * t + 2) hs (by omega) hL (nI_add (5 * t) 2) ?_
  refine AW_cV (As := [_, _]) 208 hX dL_law_205 rfl ml_L_31 mw_X6_about (by first | assumption | exact hset_eq | exact (hset_ne (by omega)).trans (by first | assumption | exact hset_eq | exact (hset_ne (by omega)).trans (by first | assumption | exact hset_eq | exact (hset_ne (by omega)).trans (by first | assumption | exact hset_eq | exact (hset_ne (by omega)).trans (by first | assumption | exact hset_eq))))) (by decide) rfl rfl rfl (Nat.le_of_ble_eq_true rfl) (by decide) ⟨(Nat.le_of_ble_eq_true rfl), (Nat.le_of_ble_eq_true rfl)⟩ (C_about g ok.1 (xs (5 * t + 1)) (xs (5 * t + 2)) (fun h2 ⟨mp2, ms2, g2⟩ fr2 => ?_))
  have gm2 := MH_fr gm fr2
  have b2 := gm2.1
  refine AW_aload_n 209 hX dL_law_208 rfl rfl ?_
  refine AW_aload_n 210 hX dL_law_209 rfl rfl ?_
  refine AW_iload_n 211 hX dL_law_210 rfl rfl ?_
  refine AW_iconst 212 hX dL_law_211 rfl ic_1 ?_
  refine AW_iadd 213 hX dL_law_212 rfl ?_
  refine AW_sld 214 hX dL_law_213 rfl (j := 5 * t + 1) hs (by omega) hL (nI_add (5 * t) 1) ?_
  refine AW_aload_n 215 hX dL_law_214 rfl rfl ?_
  refine AW_iload_n 216 hX dL_law_215 rfl rfl ?_
  refine AW_iconst 217 hX dL_law_216 rfl ic_2 ?_
  refine AW_iadd 218 hX dL_law_217 rfl ?_
  refine AW_sld 219 hX dL_law_218 rfl (j := 5 * t + 2) hs (by omega) hL (nI_add (5 * t) 2) ?_
  refine AW_cV (As := [_, _]) 222 hX dL_law_219 rfl ml_L_35 mw_X7_about (by first | assumption | exact hset_eq | exact (hset_ne (by omega)).trans (by first | assumption | exact hset_eq | exact (hset_ne (by omega)).trans (by first | assumption | exact hset_eq | exact (hset_ne (by omega)).trans (by first | assumption | exact hset_eq | exact (hset_ne (by omega)).trans (by first | assumption | exact hset_eq))))) (by decide) rfl rfl rfl (Nat.le_of_ble_eq_true rfl) (by decide) ⟨(Nat.le_of_ble_eq_true rfl), (Nat.le_of_ble_eq_true rfl)⟩ (D_about gm2 r ok.1 (xs (5 * t + 1)) (xs (5 * t + 2)) (fun h3 hm3 fr3 => ?_))
  refine AW_icmp_eq 225 622 hX dL_law_222 rfl (by decide) (fun c222 => ?_) (fun c222 => absurd rfl c222)
  exact next h3 _ ⟨mp2, ms2, CJ_fr g2 fr3⟩ hm3 (k_About ht9 ok (xs (5 * t + 1)) (xs (5 * t + 2)))
set_option maxRecDepth 100000 in
set_option maxHeartbeats 4000000 in
theorem lc_5 {X : Cx} {h : AH} {b L t : Nat} {nm : String} {xs : Nat → Int32} (hX : CxOk X (⟨RL, nm, ""⟩ : MethodName) cL_law 14 47 1041) (hs : SX X b L xs) (hL : L ≤ 320) (hi : 5 * t + 5 ≤ L) {kp yd qk pm n ht p s : Nat} {pg ks : Nat → Nat} {stp fl : Int32} {m : Nat} {hd : HD} {w : SV} (hC : CI h (kp, yd, qk, pm, pg, (n, ks, ht, p, s, stp, fl, m, hd), w)) (hM : MJ h (kp, yd, qk, pm, pg, (n, ks, ht, p, s, stp, fl, m, hd), w)) (ok : Okt t (kp, yd, qk, pm, pg, (n, ks, ht, p, s, stp, fl, m, hd), w)) (next : ∀ (h' : AH) (S' : ST), CI h' S' → MJ h' S' → Okt (t + 1) S' → AW X 47 1041 622 [some (.ref (b + 2000)), some (.ref 0), some (.ref 34), some (.int (nI (5 * t)))] [] h') : AW X 47 1041 227 [some (.ref (b + 2000)), some (.ref 0), some (.ref 34), some (.int (nI (5 * t)))] [] h := by
  obtain ⟨mp, ms, g⟩ := hC
  obtain ⟨I, sd, hh, F, gm, r⟩ := hM
  have ha0 := g.1
  unfold yO at ha0
  have hb0 := gm.1
  have ht9 : t < 900000 := by omega
  refine AW_aload_n 228 hX dL_law_227 rfl rfl ?_
  refine AW_aload_n 229 hX dL_law_228 rfl rfl ?_
  refine AW_iload_n 230 hX dL_law_229 rfl rfl ?_
  refine AW_iconst 231 hX dL_law_230 rfl ic_1 ?_
  refine AW_iadd 232 hX dL_law_231 rfl ?_
  refine AW_sld 233 hX dL_law_232 rfl (j := 5 * t + 1) hs (by omega) hL (nI_add (5 * t) 1) ?_
  refine AW_aload_n 234 hX dL_law_233 rfl rfl ?_
  refine AW_iload_n 235 hX dL_law_234 rfl rfl ?_
  refine AW_iconst 236 hX dL_law_235 rfl ic_2 ?_
  refine AW_iadd 237 hX dL_law_236 rfl ?_
  refine AW_sld 238 hX dL_law_237 rfl (j := 5 * t + 2) hs (by omega) hL (nI_add (5 * t) 2) ?_
  refine AW_cV (As := [_, _]) 241 hX dL_law_238 rfl ml_L_36 mw_X6_as (by first | assumption | exact hset_eq | exact (hset_ne (by omega)).trans (by first | assumption | exact hset_eq | exact (hset_ne (by omega)).trans (by first | assumption | exact hset_eq | exact (hset_ne (by omega)).trans (by first | assumption | exact hset_eq | exact (hset_ne (by omega)).trans (by first | assumption | exact hset_eq))))) (by decide) rfl rfl rfl (Nat.le_of_ble_eq_true rfl) (by decide) ⟨(Nat.le_of_ble_eq_true rfl), (Nat.le_of_ble_eq_true rfl)⟩ (C_as g ok.1 (xs (5 * t + 1)) (xs (5 * t + 2)) (fun h2 ⟨mp2, ms2, g2⟩ fr2 => ?_))
  have gm2 := MH_fr gm fr2
  have b2 := gm2.1
  refine AW_aload_n 242 hX dL_law_241 rfl rfl ?_
  refine AW_aload_n 243 hX dL_law_242 rfl rfl ?_
  refine AW_iload_n 244 hX dL_law_243 rfl rfl ?_
  refine AW_iconst 245 hX dL_law_244 rfl ic_1 ?_
  refine AW_iadd 246 hX dL_law_245 rfl ?_
  refine AW_sld 247 hX dL_law_246 rfl (j := 5 * t + 1) hs (by omega) hL (nI_add (5 * t) 1) ?_
  refine AW_aload_n 248 hX dL_law_247 rfl rfl ?_
  refine AW_iload_n 249 hX dL_law_248 rfl rfl ?_
  refine AW_iconst 250 hX dL_law_249 rfl ic_2 ?_
  refine AW_iadd 251 hX dL_law_250 rfl ?_
  refine AW_sld 252 hX dL_law_251 rfl (j := 5 * t + 2) hs (by omega) hL (nI_add (5 * t) 2) ?_
  refine AW_cV (As := [_, _]) 255 hX dL_law_252 rfl ml_L_39 mw_X7_as (by first | assumption | exact hset_eq | exact (hset_ne (by omega)).trans (by first | assumption | exact hset_eq | exact (hset_ne (by omega)).trans (by first | assumption | exact hset_eq | exact (hset_ne (by omega)).trans (by first | assumption | exact hset_eq | exact (hset_ne (by omega)).trans (by first | assumption | exact hset_eq))))) (by decide) rfl rfl rfl (Nat.le_of_ble_eq_true rfl) (by decide) ⟨(Nat.le_of_ble_eq_true rfl), (Nat.le_of_ble_eq_true rfl)⟩ (D_as gm2 r ok.1 (xs (5 * t + 1)) (xs (5 * t + 2)) (fun h3 hm3 fr3 => ?_))
  refine AW_icmp_eq 258 622 hX dL_law_255 rfl (by decide) (fun c255 => ?_) (fun c255 => absurd rfl c255)
  exact next h3 _ ⟨mp2, ms2, CJ_fr g2 fr3⟩ hm3 (k_As ht9 ok (xs (5 * t + 1)) (xs (5 * t + 2)))
set_option maxRecDepth 100000 in
set_option maxHeartbeats 4000000 in
theorem lc_6 {X : Cx} {h : AH} {b L t : Nat} {nm : String} {xs : Nat → Int32} (hX : CxOk X (⟨RL, nm, ""⟩ : MethodName) cL_law 14 47 1041) (hs : SX X b L xs) (hL : L ≤ 320) (hi : 5 * t + 5 ≤ L) {kp yd qk pm n ht p s : Nat} {pg ks : Nat → Nat} {stp fl : Int32} {m : Nat} {hd : HD} {w : SV} (hC : CI h (kp, yd, qk, pm, pg, (n, ks, ht, p, s, stp, fl, m, hd), w)) (hM : MJ h (kp, yd, qk, pm, pg, (n, ks, ht, p, s, stp, fl, m, hd), w)) (ok : Okt t (kp, yd, qk, pm, pg, (n, ks, ht, p, s, stp, fl, m, hd), w)) (next : ∀ (h' : AH) (S' : ST), CI h' S' → MJ h' S' → Okt (t + 1) S' → AW X 47 1041 622 [some (.ref (b + 2000)), some (.ref 0), some (.ref 34), some (.int (nI (5 * t)))] [] h') : AW X 47 1041 260 [some (.ref (b + 2000)), some (.ref 0), some (.ref 34), some (.int (nI (5 * t)))] [] h := by
  obtain ⟨mp, ms, g⟩ := hC
  obtain ⟨I, sd, hh, F, gm, r⟩ := hM
  have ha0 := g.1
  unfold yO at ha0
  have hb0 := gm.1
  have ht9 : t < 900000 := by omega
  refine AW_aload_n 261 hX dL_law_260 rfl rfl ?_
  refine AW_aload_n 262 hX dL_law_261 rfl rfl ?_
  refine AW_iload_n 263 hX dL_law_262 rfl rfl ?_
  refine AW_iconst 264 hX dL_law_263 rfl ic_1 ?_
  refine AW_iadd 265 hX dL_law_264 rfl ?_
  refine AW_sld 266 hX dL_law_265 rfl (j := 5 * t + 1) hs (by omega) hL (nI_add (5 * t) 1) ?_
  refine AW_aload_n 267 hX dL_law_266 rfl rfl ?_
  refine AW_iload_n 268 hX dL_law_267 rfl rfl ?_
  refine AW_iconst 269 hX dL_law_268 rfl ic_2 ?_
  refine AW_iadd 270 hX dL_law_269 rfl ?_
  refine AW_sld 271 hX dL_law_270 rfl (j := 5 * t + 2) hs (by omega) hL (nI_add (5 * t) 2) ?_
  refine AW_cV (As := [_, _]) 274 hX dL_law_271 rfl ml_L_40 mw_X6_lay (by first | assumption | exact hset_eq | exact (hset_ne (by omega)).trans (by first | assumption | exact hset_eq | exact (hset_ne (by omega)).trans (by first | assumption | exact hset_eq | exact (hset_ne (by omega)).trans (by first | assumption | exact hset_eq | exact (hset_ne (by omega)).trans (by first | assumption | exact hset_eq))))) (by decide) rfl rfl rfl (Nat.le_of_ble_eq_true rfl) (by decide) ⟨(Nat.le_of_ble_eq_true rfl), (Nat.le_of_ble_eq_true rfl)⟩ (C_lay g ok.1 (xs (5 * t + 1)) (xs (5 * t + 2)) (fun h2 ⟨mp2, ms2, g2⟩ fr2 => ?_))
  have gm2 := MH_fr gm fr2
  have b2 := gm2.1
  refine AW_aload_n 275 hX dL_law_274 rfl rfl ?_
  refine AW_aload_n 276 hX dL_law_275 rfl rfl ?_
  refine AW_iload_n 277 hX dL_law_276 rfl rfl ?_
  refine AW_iconst 278 hX dL_law_277 rfl ic_1 ?_
  refine AW_iadd 279 hX dL_law_278 rfl ?_
  refine AW_sld 280 hX dL_law_279 rfl (j := 5 * t + 1) hs (by omega) hL (nI_add (5 * t) 1) ?_
  refine AW_aload_n 281 hX dL_law_280 rfl rfl ?_
  refine AW_iload_n 282 hX dL_law_281 rfl rfl ?_
  refine AW_iconst 283 hX dL_law_282 rfl ic_2 ?_
  refine AW_iadd 284 hX dL_law_283 rfl ?_
  refine AW_sld 285 hX dL_law_284 rfl (j := 5 * t + 2) hs (by omega) hL (nI_add (5 * t) 2) ?_
  refine AW_cV (As := [_, _]) 288 hX dL_law_285 rfl ml_L_43 mw_X7_lay (by first | assumption | exact hset_eq | exact (hset_ne (by omega)).trans (by first | assumption | exact hset_eq | exact (hset_ne (by omega)).trans (by first | assumption | exact hset_eq | exact (hset_ne (by omega)).trans (by first | assumption | exact hset_eq | exact (hset_ne (by omega)).trans (by first | assumption | exact hset_eq))))) (by decide) rfl rfl rfl (Nat.le_of_ble_eq_true rfl) (by decide) ⟨(Nat.le_of_ble_eq_true rfl), (Nat.le_of_ble_eq_true rfl)⟩ (D_lay gm2 r ok.1 (xs (5 * t + 1)) (xs (5 * t + 2)) (fun h3 hm3 fr3 => ?_))
  refine AW_icmp_eq 291 622 hX dL_law_288 rfl (by decide) (fun c288 => ?_) (fun c288 => absurd rfl c288)
  exact next h3 _ ⟨mp2, ms2, CJ_fr g2 fr3⟩ hm3 (k_Lay ht9 ok (xs (5 * t + 1)) (xs (5 * t + 2)))
set_option maxRecDepth 100000 in
set_option maxHeartbeats 4000000 in
theorem lc_7 {X : Cx} {h : AH} {b L t : Nat} {nm : String} {xs : Nat → Int32} (hX : CxOk X (⟨RL, nm, ""⟩ : MethodName) cL_law 14 47 1041) (hs : SX X b L xs) (hL : L ≤ 320) (hi : 5 * t + 5 ≤ L) {kp yd qk pm n ht p s : Nat} {pg ks : Nat → Nat} {stp fl : Int32} {m : Nat} {hd : HD} {w : SV} (hC : CI h (kp, yd, qk, pm, pg, (n, ks, ht, p, s, stp, fl, m, hd), w)) (hM : MJ h (kp, yd, qk, pm, pg, (n, ks, ht, p, s, stp, fl, m, hd), w)) (ok : Okt t (kp, yd, qk, pm, pg, (n, ks, ht, p, s, stp, fl, m, hd), w)) (next : ∀ (h' : AH) (S' : ST), CI h' S' → MJ h' S' → Okt (t + 1) S' → AW X 47 1041 622 [some (.ref (b + 2000)), some (.ref 0), some (.ref 34), some (.int (nI (5 * t)))] [] h') : AW X 47 1041 293 [some (.ref (b + 2000)), some (.ref 0), some (.ref 34), some (.int (nI (5 * t)))] [] h := by
  obtain ⟨mp, ms, g⟩ := hC
  obtain ⟨I, sd, hh, F, gm, r⟩ := hM
  have ha0 := g.1
  unfold yO at ha0
  have hb0 := gm.1
  have ht9 : t < 900000 := by omega
  refine AW_aload_n 294 hX dL_law_293 rfl rfl ?_
  refine AW_aload_n 295 hX dL_law_294 rfl rfl ?_
  refine AW_iload_n 296 hX dL_law_295 rfl rfl ?_
  refine AW_iconst 297 hX dL_law_296 rfl ic_1 ?_
  refine AW_iadd 298 hX dL_law_297 rfl ?_
  refine AW_sld 299 hX dL_law_298 rfl (j := 5 * t + 1) hs (by omega) hL (nI_add (5 * t) 1) ?_
  refine AW_cV (As := [_]) 302 hX dL_law_299 rfl ml_L_44 mw_X6_blocks (by first | assumption | exact hset_eq | exact (hset_ne (by omega)).trans (by first | assumption | exact hset_eq | exact (hset_ne (by omega)).trans (by first | assumption | exact hset_eq | exact (hset_ne (by omega)).trans (by first | assumption | exact hset_eq | exact (hset_ne (by omega)).trans (by first | assumption | exact hset_eq))))) (by decide) rfl rfl rfl (Nat.le_of_ble_eq_true rfl) (by decide) ⟨(Nat.le_of_ble_eq_true rfl), (Nat.le_of_ble_eq_true rfl)⟩ (C_blocks g ok.1 (xs (5 * t + 1)) (fun h2 ⟨mp2, ms2, g2⟩ fr2 => ?_))
  have gm2 := MH_fr gm fr2
  have b2 := gm2.1
  refine AW_aload_n 303 hX dL_law_302 rfl rfl ?_
  refine AW_aload_n 304 hX dL_law_303 rfl rfl ?_
  refine AW_iload_n 305 hX dL_law_304 rfl rfl ?_
  refine AW_iconst 306 hX dL_law_305 rfl ic_1 ?_
  refine AW_iadd 307 hX dL_law_306 rfl ?_
  refine AW_sld 308 hX dL_law_307 rfl (j := 5 * t + 1) hs (by omega) hL (nI_add (5 * t) 1) ?_
  refine AW_cV (As := [_]) 311 hX dL_law_308 rfl ml_L_47 mw_X7_blocks (by first | assumption | exact hset_eq | exact (hset_ne (by omega)).trans (by first | assumption | exact hset_eq | exact (hset_ne (by omega)).trans (by first | assumption | exact hset_eq | exact (hset_ne (by omega)).trans (by first | assumption | exact hset_eq | exact (hset_ne (by omega)).trans (by first | assumption | exact hset_eq))))) (by decide) rfl rfl rfl (Nat.le_of_ble_eq_true rfl) (by decide) ⟨(Nat.le_of_ble_eq_true rfl), (Nat.le_of_ble_eq_true rfl)⟩ (D_blocks gm2 r ok.1 (xs (5 * t + 1)) (fun h3 hm3 fr3 => ?_))
  refine AW_icmp_eq 314 622 hX dL_law_311 rfl (by decide) (fun c311 => ?_) (fun c311 => absurd rfl c311)
  exact next h3 _ ⟨mp2, ms2, CJ_fr g2 fr3⟩ hm3 (k_Blocks ht9 ok (xs (5 * t + 1)))
set_option maxRecDepth 100000 in
set_option maxHeartbeats 4000000 in
theorem lc_8 {X : Cx} {h : AH} {b L t : Nat} {nm : String} {xs : Nat → Int32} (hX : CxOk X (⟨RL, nm, ""⟩ : MethodName) cL_law 14 47 1041) (hs : SX X b L xs) (hL : L ≤ 320) (hi : 5 * t + 5 ≤ L) {kp yd qk pm n ht p s : Nat} {pg ks : Nat → Nat} {stp fl : Int32} {m : Nat} {hd : HD} {w : SV} (hC : CI h (kp, yd, qk, pm, pg, (n, ks, ht, p, s, stp, fl, m, hd), w)) (hM : MJ h (kp, yd, qk, pm, pg, (n, ks, ht, p, s, stp, fl, m, hd), w)) (ok : Okt t (kp, yd, qk, pm, pg, (n, ks, ht, p, s, stp, fl, m, hd), w)) (next : ∀ (h' : AH) (S' : ST), CI h' S' → MJ h' S' → Okt (t + 1) S' → AW X 47 1041 622 [some (.ref (b + 2000)), some (.ref 0), some (.ref 34), some (.int (nI (5 * t)))] [] h') : AW X 47 1041 316 [some (.ref (b + 2000)), some (.ref 0), some (.ref 34), some (.int (nI (5 * t)))] [] h := by
  obtain ⟨mp, ms, g⟩ := hC
  obtain ⟨I, sd, hh, F, gm, r⟩ := hM
  have ha0 := g.1
  unfold yO at ha0
  have hb0 := gm.1
  have ht9 : t < 900000 := by omega
  refine AW_aload_n 317 hX dL_law_316 rfl rfl ?_
  refine AW_aload_n 318 hX dL_law_317 rfl rfl ?_
  refine AW_iload_n 319 hX dL_law_318 rfl rfl ?_
  refine AW_iconst 320 hX dL_law_319 rfl ic_1 ?_
  refine AW_iadd 321 hX dL_law_320 rfl ?_
  refine AW_sld 322 hX dL_law_321 rfl (j := 5 * t + 1) hs (by omega) hL (nI_add (5 * t) 1) ?_
  refine AW_cV (As := [_]) 325 hX dL_law_322 rfl ml_L_48 mw_X6_step (by first | assumption | exact hset_eq | exact (hset_ne (by omega)).trans (by first | assumption | exact hset_eq | exact (hset_ne (by omega)).trans (by first | assumption | exact hset_eq | exact (hset_ne (by omega)).trans (by first | assumption | exact hset_eq | exact (hset_ne (by omega)).trans (by first | assumption | exact hset_eq))))) (by decide) rfl rfl rfl (Nat.le_of_ble_eq_true rfl) (by decide) ⟨(Nat.le_of_ble_eq_true rfl), (Nat.le_of_ble_eq_true rfl)⟩ (C_step g ok.1 (xs (5 * t + 1)) (fun h2 ⟨mp2, ms2, g2⟩ fr2 => ?_))
  have gm2 := MH_fr gm fr2
  have b2 := gm2.1
  refine AW_aload_n 326 hX dL_law_325 rfl rfl ?_
  refine AW_aload_n 327 hX dL_law_326 rfl rfl ?_
  refine AW_iload_n 328 hX dL_law_327 rfl rfl ?_
  refine AW_iconst 329 hX dL_law_328 rfl ic_1 ?_
  refine AW_iadd 330 hX dL_law_329 rfl ?_
  refine AW_sld 331 hX dL_law_330 rfl (j := 5 * t + 1) hs (by omega) hL (nI_add (5 * t) 1) ?_
  refine AW_cV (As := [_]) 334 hX dL_law_331 rfl ml_L_51 mw_X7_step (by first | assumption | exact hset_eq | exact (hset_ne (by omega)).trans (by first | assumption | exact hset_eq | exact (hset_ne (by omega)).trans (by first | assumption | exact hset_eq | exact (hset_ne (by omega)).trans (by first | assumption | exact hset_eq | exact (hset_ne (by omega)).trans (by first | assumption | exact hset_eq))))) (by decide) rfl rfl rfl (Nat.le_of_ble_eq_true rfl) (by decide) ⟨(Nat.le_of_ble_eq_true rfl), (Nat.le_of_ble_eq_true rfl)⟩ (D_step gm2 r ok.1 (xs (5 * t + 1)) (fun h3 hm3 fr3 => ?_))
  refine AW_icmp_eq 337 622 hX dL_law_334 rfl (by decide) (fun c334 => ?_) (fun c334 => absurd rfl c334)
  exact next h3 _ ⟨mp2, ms2, CJ_fr g2 fr3⟩ hm3 (k_Step ht9 ok (xs (5 * t + 1)))
set_option maxRecDepth 100000 in
set_option maxHeartbeats 4000000 in
theorem lc_9 {X : Cx} {h : AH} {b L t : Nat} {nm : String} {xs : Nat → Int32} (hX : CxOk X (⟨RL, nm, ""⟩ : MethodName) cL_law 14 47 1041) (hs : SX X b L xs) (hL : L ≤ 320) (hi : 5 * t + 5 ≤ L) {kp yd qk pm n ht p s : Nat} {pg ks : Nat → Nat} {stp fl : Int32} {m : Nat} {hd : HD} {w : SV} (hC : CI h (kp, yd, qk, pm, pg, (n, ks, ht, p, s, stp, fl, m, hd), w)) (hM : MJ h (kp, yd, qk, pm, pg, (n, ks, ht, p, s, stp, fl, m, hd), w)) (ok : Okt t (kp, yd, qk, pm, pg, (n, ks, ht, p, s, stp, fl, m, hd), w)) (next : ∀ (h' : AH) (S' : ST), CI h' S' → MJ h' S' → Okt (t + 1) S' → AW X 47 1041 622 [some (.ref (b + 2000)), some (.ref 0), some (.ref 34), some (.int (nI (5 * t)))] [] h') : AW X 47 1041 339 [some (.ref (b + 2000)), some (.ref 0), some (.ref 34), some (.int (nI (5 * t)))] [] h := by
  obtain ⟨mp, ms, g⟩ := hC
  obtain ⟨I, sd, hh, F, gm, r⟩ := hM
  have ha0 := g.1
  unfold yO at ha0
  have hb0 := gm.1
  have ht9 : t < 900000 := by omega
  refine AW_aload_n 340 hX dL_law_339 rfl rfl ?_
  refine AW_aload_n 341 hX dL_law_340 rfl rfl ?_
  refine AW_iload_n 342 hX dL_law_341 rfl rfl ?_
  refine AW_iconst 343 hX dL_law_342 rfl ic_1 ?_
  refine AW_iadd 344 hX dL_law_343 rfl ?_
  refine AW_sld 345 hX dL_law_344 rfl (j := 5 * t + 1) hs (by omega) hL (nI_add (5 * t) 1) ?_
  refine AW_cV (As := [_]) 348 hX dL_law_345 rfl ml_L_52 mw_X6_would (by first | assumption | exact hset_eq | exact (hset_ne (by omega)).trans (by first | assumption | exact hset_eq | exact (hset_ne (by omega)).trans (by first | assumption | exact hset_eq | exact (hset_ne (by omega)).trans (by first | assumption | exact hset_eq | exact (hset_ne (by omega)).trans (by first | assumption | exact hset_eq))))) (by decide) rfl rfl rfl (Nat.le_of_ble_eq_true rfl) (by decide) ⟨(Nat.le_of_ble_eq_true rfl), (Nat.le_of_ble_eq_true rfl)⟩ (C_would g ok.1 (xs (5 * t + 1)) (fun h2 ⟨mp2, ms2, g2⟩ fr2 => ?_))
  have gm2 := MH_fr gm fr2
  have b2 := gm2.1
  refine AW_aload_n 349 hX dL_law_348 rfl rfl ?_
  refine AW_aload_n 350 hX dL_law_349 rfl rfl ?_
  refine AW_iload_n 351 hX dL_law_350 rfl rfl ?_
  refine AW_iconst 352 hX dL_law_351 rfl ic_1 ?_
  refine AW_iadd 353 hX dL_law_352 rfl ?_
  refine AW_sld 354 hX dL_law_353 rfl (j := 5 * t + 1) hs (by omega) hL (nI_add (5 * t) 1) ?_
  refine AW_cV (As := [_]) 357 hX dL_law_354 rfl ml_L_55 mw_X7_would (by first | assumption | exact hset_eq | exact (hset_ne (by omega)).trans (by first | assumption | exact hset_eq | exact (hset_ne (by omega)).trans (by first | assumption | exact hset_eq | exact (hset_ne (by omega)).trans (by first | assumption | exact hset_eq | exact (hset_ne (by omega)).trans (by first | assumption | exact hset_eq))))) (by decide) rfl rfl rfl (Nat.le_of_ble_eq_true rfl) (by decide) ⟨(Nat.le_of_ble_eq_true rfl), (Nat.le_of_ble_eq_true rfl)⟩ (D_would gm2 r ok.1 (xs (5 * t + 1)) (fun h3 hm3 fr3 => ?_))
  refine AW_icmp_eq 360 622 hX dL_law_357 rfl (by decide) (fun c357 => ?_) (fun c357 => absurd rfl c357)
  exact next h3 _ ⟨mp2, ms2, CJ_fr g2 fr3⟩ hm3 (k_Would ht9 ok (xs (5 * t + 1)))
set_option maxRecDepth 100000 in
set_option maxHeartbeats 4000000 in
theorem lc_10 {X : Cx} {h : AH} {b L t : Nat} {nm : String} {xs : Nat → Int32} (hX : CxOk X (⟨RL, nm, ""⟩ : MethodName) cL_law 14 47 1041) (hs : SX X b L xs) (hL : L ≤ 320) (hi : 5 * t + 5 ≤ L) {kp yd qk pm n ht p s : Nat} {pg ks : Nat → Nat} {stp fl : Int32} {m : Nat} {hd : HD} {w : SV} (hC : CI h (kp, yd, qk, pm, pg, (n, ks, ht, p, s, stp, fl, m, hd), w)) (hM : MJ h (kp, yd, qk, pm, pg, (n, ks, ht, p, s, stp, fl, m, hd), w)) (ok : Okt t (kp, yd, qk, pm, pg, (n, ks, ht, p, s, stp, fl, m, hd), w)) (next : ∀ (h' : AH) (S' : ST), CI h' S' → MJ h' S' → Okt (t + 1) S' → AW X 47 1041 622 [some (.ref (b + 2000)), some (.ref 0), some (.ref 34), some (.int (nI (5 * t)))] [] h') : AW X 47 1041 362 [some (.ref (b + 2000)), some (.ref 0), some (.ref 34), some (.int (nI (5 * t)))] [] h := by
  obtain ⟨mp, ms, g⟩ := hC
  obtain ⟨I, sd, hh, F, gm, r⟩ := hM
  have ha0 := g.1
  unfold yO at ha0
  have hb0 := gm.1
  have ht9 : t < 900000 := by omega
  refine AW_aload_n 363 hX dL_law_362 rfl rfl ?_
  refine AW_aload_n 364 hX dL_law_363 rfl rfl ?_
  refine AW_iload_n 365 hX dL_law_364 rfl rfl ?_
  refine AW_iconst 366 hX dL_law_365 rfl ic_1 ?_
  refine AW_iadd 367 hX dL_law_366 rfl ?_
  refine AW_sld 368 hX dL_law_367 rfl (j := 5 * t + 1) hs (by omega) hL (nI_add (5 * t) 1) ?_
  refine AW_cV (As := [_]) 371 hX dL_law_368 rfl ml_L_56 mw_X6_quick (by first | assumption | exact hset_eq | exact (hset_ne (by omega)).trans (by first | assumption | exact hset_eq | exact (hset_ne (by omega)).trans (by first | assumption | exact hset_eq | exact (hset_ne (by omega)).trans (by first | assumption | exact hset_eq | exact (hset_ne (by omega)).trans (by first | assumption | exact hset_eq))))) (by decide) rfl rfl rfl (Nat.le_of_ble_eq_true rfl) (by decide) ⟨(Nat.le_of_ble_eq_true rfl), (Nat.le_of_ble_eq_true rfl)⟩ (C_quick g ok.1 (xs (5 * t + 1)) (fun h2 ⟨mp2, ms2, g2⟩ fr2 => ?_))
  have gm2 := MH_fr gm fr2
  have b2 := gm2.1
  refine AW_aload_n 372 hX dL_law_371 rfl rfl ?_
  refine AW_aload_n 373 hX dL_law_372 rfl rfl ?_
  refine AW_iload_n 374 hX dL_law_373 rfl rfl ?_
  refine AW_iconst 375 hX dL_law_374 rfl ic_1 ?_
  refine AW_iadd 376 hX dL_law_375 rfl ?_
  refine AW_sld 377 hX dL_law_376 rfl (j := 5 * t + 1) hs (by omega) hL (nI_add (5 * t) 1) ?_
  refine AW_cV (As := [_]) 380 hX dL_law_377 rfl ml_L_59 mw_X7_quick (by first | assumption | exact hset_eq | exact (hset_ne (by omega)).trans (by first | assumption | exact hset_eq | exact (hset_ne (by omega)).trans (by first | assumption | exact hset_eq | exact (hset_ne (by omega)).trans (by first | assumption | exact hset_eq | exact (hset_ne (by omega)).trans (by first | assumption | exact hset_eq))))) (by decide) rfl rfl rfl (Nat.le_of_ble_eq_true rfl) (by decide) ⟨(Nat.le_of_ble_eq_true rfl), (Nat.le_of_ble_eq_true rfl)⟩ (D_quick gm2 r ok.1 (xs (5 * t + 1)) (fun h3 hm3 fr3 => ?_))
  refine AW_icmp_eq 383 622 hX dL_law_380 rfl (by decide) (fun c380 => ?_) (fun c380 => absurd rfl c380)
  exact next h3 _ ⟨mp2, ms2, CJ_fr g2 fr3⟩ hm3 (k_Quick ht9 ok (xs (5 * t + 1)))
set_option maxRecDepth 100000 in
set_option maxHeartbeats 4000000 in
theorem lc_11 {X : Cx} {h : AH} {b L t : Nat} {nm : String} {xs : Nat → Int32} (hX : CxOk X (⟨RL, nm, ""⟩ : MethodName) cL_law 14 47 1041) (hs : SX X b L xs) (hL : L ≤ 320) (hi : 5 * t + 5 ≤ L) {kp yd qk pm n ht p s : Nat} {pg ks : Nat → Nat} {stp fl : Int32} {m : Nat} {hd : HD} {w : SV} (hC : CI h (kp, yd, qk, pm, pg, (n, ks, ht, p, s, stp, fl, m, hd), w)) (hM : MJ h (kp, yd, qk, pm, pg, (n, ks, ht, p, s, stp, fl, m, hd), w)) (ok : Okt t (kp, yd, qk, pm, pg, (n, ks, ht, p, s, stp, fl, m, hd), w)) (next : ∀ (h' : AH) (S' : ST), CI h' S' → MJ h' S' → Okt (t + 1) S' → AW X 47 1041 622 [some (.ref (b + 2000)), some (.ref 0), some (.ref 34), some (.int (nI (5 * t)))] [] h') : AW X 47 1041 385 [some (.ref (b + 2000)), some (.ref 0), some (.ref 34), some (.int (nI (5 * t)))] [] h := by
  obtain ⟨mp, ms, g⟩ := hC
  obtain ⟨I, sd, hh, F, gm, r⟩ := hM
  have ha0 := g.1
  unfold yO at ha0
  have hb0 := gm.1
  have ht9 : t < 900000 := by omega
  refine AW_aload_n 386 hX dL_law_385 rfl rfl ?_
  refine AW_cV (As := []) 389 hX dL_law_386 rfl ml_L_60 mw_X6_high (by first | assumption | exact hset_eq | exact (hset_ne (by omega)).trans (by first | assumption | exact hset_eq | exact (hset_ne (by omega)).trans (by first | assumption | exact hset_eq | exact (hset_ne (by omega)).trans (by first | assumption | exact hset_eq | exact (hset_ne (by omega)).trans (by first | assumption | exact hset_eq))))) (by decide) rfl rfl rfl (Nat.le_of_ble_eq_true rfl) (by decide) ⟨(Nat.le_of_ble_eq_true rfl), (Nat.le_of_ble_eq_true rfl)⟩ (C_high g ok.1 (fun h2 ⟨mp2, ms2, g2⟩ fr2 => ?_))
  have gm2 := MH_fr gm fr2
  have b2 := gm2.1
  refine AW_aload_n 390 hX dL_law_389 rfl rfl ?_
  refine AW_cV (As := []) 393 hX dL_law_390 rfl ml_L_63 mw_X7_high (by first | assumption | exact hset_eq | exact (hset_ne (by omega)).trans (by first | assumption | exact hset_eq | exact (hset_ne (by omega)).trans (by first | assumption | exact hset_eq | exact (hset_ne (by omega)).trans (by first | assumption | exact hset_eq | exact (hset_ne (by omega)).trans (by first | assumption | exact hset_eq))))) (by decide) rfl rfl rfl (Nat.le_of_ble_eq_true rfl) (by decide) ⟨(Nat.le_of_ble_eq_true rfl), (Nat.le_of_ble_eq_true rfl)⟩ (D_high gm2 r ok.1 (fun h3 hm3 fr3 => ?_))
  refine AW_icmp_eq 396 622 hX dL_law_393 rfl (by decide) (fun c393 => ?_) (fun c393 => absurd rfl c393)
  exact next h3 _ ⟨mp2, ms2, CJ_fr g2 fr3⟩ hm3 (k_High ht9 ok)
set_option maxRecDepth 100000 in
set_option maxHeartbeats 4000000 in
theorem lc_12 {X : Cx} {h : AH} {b L t : Nat} {nm : String} {xs : Nat → Int32} (hX : CxOk X (⟨RL, nm, ""⟩ : MethodName) cL_law 14 47 1041) (hs : SX X b L xs) (hL : L ≤ 320) (hi : 5 * t + 5 ≤ L) {kp yd qk pm n ht p s : Nat} {pg ks : Nat → Nat} {stp fl : Int32} {m : Nat} {hd : HD} {w : SV} (hC : CI h (kp, yd, qk, pm, pg, (n, ks, ht, p, s, stp, fl, m, hd), w)) (hM : MJ h (kp, yd, qk, pm, pg, (n, ks, ht, p, s, stp, fl, m, hd), w)) (ok : Okt t (kp, yd, qk, pm, pg, (n, ks, ht, p, s, stp, fl, m, hd), w)) (next : ∀ (h' : AH) (S' : ST), CI h' S' → MJ h' S' → Okt (t + 1) S' → AW X 47 1041 622 [some (.ref (b + 2000)), some (.ref 0), some (.ref 34), some (.int (nI (5 * t)))] [] h') : AW X 47 1041 398 [some (.ref (b + 2000)), some (.ref 0), some (.ref 34), some (.int (nI (5 * t)))] [] h := by
  obtain ⟨mp, ms, g⟩ := hC
  obtain ⟨I, sd, hh, F, gm, r⟩ := hM
  have ha0 := g.1
  unfold yO at ha0
  have hb0 := gm.1
  have ht9 : t < 900000 := by omega
  refine AW_aload_n 399 hX dL_law_398 rfl rfl ?_
  refine AW_aload_n 400 hX dL_law_399 rfl rfl ?_
  refine AW_iload_n 401 hX dL_law_400 rfl rfl ?_
  refine AW_iconst 402 hX dL_law_401 rfl ic_1 ?_
  refine AW_iadd 403 hX dL_law_402 rfl ?_
  refine AW_sld 404 hX dL_law_403 rfl (j := 5 * t + 1) hs (by omega) hL (nI_add (5 * t) 1) ?_
  refine AW_cV (As := [_]) 407 hX dL_law_404 rfl ml_L_64 mw_X6_mend (by first | assumption | exact hset_eq | exact (hset_ne (by omega)).trans (by first | assumption | exact hset_eq | exact (hset_ne (by omega)).trans (by first | assumption | exact hset_eq | exact (hset_ne (by omega)).trans (by first | assumption | exact hset_eq | exact (hset_ne (by omega)).trans (by first | assumption | exact hset_eq))))) (by decide) rfl rfl rfl (Nat.le_of_ble_eq_true rfl) (by decide) ⟨(Nat.le_of_ble_eq_true rfl), (Nat.le_of_ble_eq_true rfl)⟩ (C_mend g ok.1 (xs (5 * t + 1)) (fun h2 ⟨mp2, ms2, g2⟩ fr2 => ?_))
  have gm2 := MH_fr gm fr2
  have b2 := gm2.1
  refine AW_aload_n 408 hX dL_law_407 rfl rfl ?_
  refine AW_aload_n 409 hX dL_law_408 rfl rfl ?_
  refine AW_iload_n 410 hX dL_law_409 rfl rfl ?_
  refine AW_iconst 411 hX dL_law_410 rfl ic_1 ?_
  refine AW_iadd 412 hX dL_law_411 rfl ?_
  refine AW_sld 413 hX dL_law_412 rfl (j := 5 * t + 1) hs (by omega) hL (nI_add (5 * t) 1) ?_
  refine AW_cV (As := [_]) 416 hX dL_law_413 rfl ml_L_67 mw_X7_mend (by first | assumption | exact hset_eq | exact (hset_ne (by omega)).trans (by first | assumption | exact hset_eq | exact (hset_ne (by omega)).trans (by first | assumption | exact hset_eq | exact (hset_ne (by omega)).trans (by first | assumption | exact hset_eq | exact (hset_ne (by omega)).trans (by first | assumption | exact hset_eq))))) (by decide) rfl rfl rfl (Nat.le_of_ble_eq_true rfl) (by decide) ⟨(Nat.le_of_ble_eq_true rfl), (Nat.le_of_ble_eq_true rfl)⟩ (D_mend gm2 r ok.1 (xs (5 * t + 1)) (fun h3 hm3 fr3 => ?_))
  refine AW_icmp_eq 419 622 hX dL_law_416 rfl (by decide) (fun c416 => ?_) (fun c416 => absurd rfl c416)
  exact next h3 _ ⟨mp2, ms2, CJ_fr g2 fr3⟩ hm3 (k_Mend ht9 ok (xs (5 * t + 1)))
set_option maxRecDepth 100000 in
set_option maxHeartbeats 4000000 in
theorem lc_13 {X : Cx} {h : AH} {b L t : Nat} {nm : String} {xs : Nat → Int32} (hX : CxOk X (⟨RL, nm, ""⟩ : MethodName) cL_law 14 47 1041) (hs : SX X b L xs) (hL : L ≤ 320) (hi : 5 * t + 5 ≤ L) {kp yd qk pm n ht p s : Nat} {pg ks : Nat → Nat} {stp fl : Int32} {m : Nat} {hd : HD} {w : SV} (hC : CI h (kp, yd, qk, pm, pg, (n, ks, ht, p, s, stp, fl, m, hd), w)) (hM : MJ h (kp, yd, qk, pm, pg, (n, ks, ht, p, s, stp, fl, m, hd), w)) (ok : Okt t (kp, yd, qk, pm, pg, (n, ks, ht, p, s, stp, fl, m, hd), w)) (next : ∀ (h' : AH) (S' : ST), CI h' S' → MJ h' S' → Okt (t + 1) S' → AW X 47 1041 622 [some (.ref (b + 2000)), some (.ref 0), some (.ref 34), some (.int (nI (5 * t)))] [] h') : AW X 47 1041 421 [some (.ref (b + 2000)), some (.ref 0), some (.ref 34), some (.int (nI (5 * t)))] [] h := by
  obtain ⟨mp, ms, g⟩ := hC
  obtain ⟨I, sd, hh, F, gm, r⟩ := hM
  have ha0 := g.1
  unfold yO at ha0
  have hb0 := gm.1
  have ht9 : t < 900000 := by omega
  by_cases hb9 : xs (5 * t + 4) = 0
  · refine AW_aload_n 422 hX dL_law_421 rfl rfl ?_
    refine AW_aload_n 423 hX dL_law_422 rfl rfl ?_
    refine AW_iload_n 424 hX dL_law_423 rfl rfl ?_
    refine AW_iconst 425 hX dL_law_424 rfl ic_1 ?_
    refine AW_iadd 426 hX dL_law_425 rfl ?_
    refine AW_sld 427 hX dL_law_426 rfl (j := 5 * t + 1) hs (by omega) hL (nI_add (5 * t) 1) ?_
    refine AW_aload_n 428 hX dL_law_427 rfl rfl ?_
    refine AW_iload_n 429 hX dL_law_428 rfl rfl ?_
    refine AW_iconst 430 hX dL_law_429 rfl ic_2 ?_
    refine AW_iadd 431 hX dL_law_430 rfl ?_
    refine AW_sld 432 hX dL_law_431 rfl (j := 5 * t + 2) hs (by omega) hL (nI_add (5 * t) 2) ?_
    refine AW_aload_n 433 hX dL_law_432 rfl rfl ?_
    refine AW_iload_n 434 hX dL_law_433 rfl rfl ?_
    refine AW_iconst 435 hX dL_law_434 rfl ic_3 ?_
    refine AW_iadd 436 hX dL_law_435 rfl ?_
    refine AW_sld 437 hX dL_law_436 rfl (j := 5 * t + 3) hs (by omega) hL (nI_add (5 * t) 3) ?_
    refine AW_aload_n 438 hX dL_law_437 rfl rfl ?_
    refine AW_iload_n 439 hX dL_law_438 rfl rfl ?_
    refine AW_iconst 440 hX dL_law_439 rfl ic_4 ?_
    refine AW_iadd 441 hX dL_law_440 rfl ?_
    refine AW_sld 442 hX dL_law_441 rfl (j := 5 * t + 4) hs (by omega) hL (nI_add (5 * t) 4) ?_
    refine AW_if_eq 445 449 hX dL_law_442 rfl (by decide) (fun c442 => ?_) (fun c442 => absurd hb9 c442)
    refine AW_iconst 450 hX dL_law_449 rfl ic_0 ?_
    refine AW_cV (As := [_, _, _, _]) 453 hX dL_law_450 rfl ml_L_68 mw_X6_hear (by first | assumption | exact hset_eq | exact (hset_ne (by omega)).trans (by first | assumption | exact hset_eq | exact (hset_ne (by omega)).trans (by first | assumption | exact hset_eq | exact (hset_ne (by omega)).trans (by first | assumption | exact hset_eq | exact (hset_ne (by omega)).trans (by first | assumption | exact hset_eq))))) (by decide) rfl rfl rfl (Nat.le_of_ble_eq_true rfl) (by decide) ⟨(Nat.le_of_ble_eq_true rfl), (Nat.le_of_ble_eq_true rfl)⟩ (C_hear g ok.1 (xs (5 * t + 1)) (xs (5 * t + 2)) (xs (5 * t + 3)) 0 (by omega) (fun h2 ⟨mp2, ms2, g2⟩ fr2 => ?_))
    have gm2 := MH_fr gm fr2
    have b2 := gm2.1
    refine AW_aload_n 454 hX dL_law_453 rfl rfl ?_
    refine AW_aload_n 455 hX dL_law_454 rfl rfl ?_
    refine AW_iload_n 456 hX dL_law_455 rfl rfl ?_
    refine AW_iconst 457 hX dL_law_456 rfl ic_1 ?_
    refine AW_iadd 458 hX dL_law_457 rfl ?_
    refine AW_sld 459 hX dL_law_458 rfl (j := 5 * t + 1) hs (by omega) hL (nI_add (5 * t) 1) ?_
    refine AW_aload_n 460 hX dL_law_459 rfl rfl ?_
    refine AW_iload_n 461 hX dL_law_460 rfl rfl ?_
    refine AW_iconst 462 hX dL_law_461 rfl ic_2 ?_
    refine AW_iadd 463 hX dL_law_462 rfl ?_
    refine AW_sld 464 hX dL_law_463 rfl (j := 5 * t + 2) hs (by omega) hL (nI_add (5 * t) 2) ?_
    refine AW_aload_n 465 hX dL_law_464 rfl rfl ?_
    refine AW_iload_n 466 hX dL_law_465 rfl rfl ?_
    refine AW_iconst 467 hX dL_law_466 rfl ic_3 ?_
    refine AW_iadd 468 hX dL_law_467 rfl ?_
    refine AW_sld 469 hX dL_law_468 rfl (j := 5 * t + 3) hs (by omega) hL (nI_add (5 * t) 3) ?_
    refine AW_aload_n 470 hX dL_law_469 rfl rfl ?_
    refine AW_iload_n 471 hX dL_law_470 rfl rfl ?_
    refine AW_iconst 472 hX dL_law_471 rfl ic_4 ?_
    refine AW_iadd 473 hX dL_law_472 rfl ?_
    refine AW_sld 474 hX dL_law_473 rfl (j := 5 * t + 4) hs (by omega) hL (nI_add (5 * t) 4) ?_
    refine AW_if_eq 477 481 hX dL_law_474 rfl (by decide) (fun c474 => ?_) (fun c474 => absurd hb9 c474)
    refine AW_iconst 482 hX dL_law_481 rfl ic_0 ?_
    refine AW_cV (As := [_, _, _, _]) 485 hX dL_law_482 rfl ml_L_72 mw_X7_hear (by first | assumption | exact hset_eq | exact (hset_ne (by omega)).trans (by first | assumption | exact hset_eq | exact (hset_ne (by omega)).trans (by first | assumption | exact hset_eq | exact (hset_ne (by omega)).trans (by first | assumption | exact hset_eq | exact (hset_ne (by omega)).trans (by first | assumption | exact hset_eq))))) (by decide) rfl rfl rfl (Nat.le_of_ble_eq_true rfl) (by decide) ⟨(Nat.le_of_ble_eq_true rfl), (Nat.le_of_ble_eq_true rfl)⟩ (D_hear gm2 r ok.1 (xs (5 * t + 1)) (xs (5 * t + 2)) (xs (5 * t + 3)) 0 (by omega) (fun h3 hm3 fr3 => ?_))
    refine AW_icmp_eq 488 622 hX dL_law_485 rfl (by decide) (fun c485 => ?_) (fun c485 => absurd rfl c485)
    exact next h3 _ ⟨mp2, ms2, CJ_fr g2 fr3⟩ hm3 (k_Hear ht9 ok (xs (5 * t + 1)) (xs (5 * t + 2)) (xs (5 * t + 3)) 0 (by omega))
  · refine AW_aload_n 422 hX dL_law_421 rfl rfl ?_
    refine AW_aload_n 423 hX dL_law_422 rfl rfl ?_
    refine AW_iload_n 424 hX dL_law_423 rfl rfl ?_
    refine AW_iconst 425 hX dL_law_424 rfl ic_1 ?_
    refine AW_iadd 426 hX dL_law_425 rfl ?_
    refine AW_sld 427 hX dL_law_426 rfl (j := 5 * t + 1) hs (by omega) hL (nI_add (5 * t) 1) ?_
    refine AW_aload_n 428 hX dL_law_427 rfl rfl ?_
    refine AW_iload_n 429 hX dL_law_428 rfl rfl ?_
    refine AW_iconst 430 hX dL_law_429 rfl ic_2 ?_
    refine AW_iadd 431 hX dL_law_430 rfl ?_
    refine AW_sld 432 hX dL_law_431 rfl (j := 5 * t + 2) hs (by omega) hL (nI_add (5 * t) 2) ?_
    refine AW_aload_n 433 hX dL_law_432 rfl rfl ?_
    refine AW_iload_n 434 hX dL_law_433 rfl rfl ?_
    refine AW_iconst 435 hX dL_law_434 rfl ic_3 ?_
    refine AW_iadd 436 hX dL_law_435 rfl ?_
    refine AW_sld 437 hX dL_law_436 rfl (j := 5 * t + 3) hs (by omega) hL (nI_add (5 * t) 3) ?_
    refine AW_aload_n 438 hX dL_law_437 rfl rfl ?_
    refine AW_iload_n 439 hX dL_law_438 rfl rfl ?_
    refine AW_iconst 440 hX dL_law_439 rfl ic_4 ?_
    refine AW_iadd 441 hX dL_law_440 rfl ?_
    refine AW_sld 442 hX dL_law_441 rfl (j := 5 * t + 4) hs (by omega) hL (nI_add (5 * t) 4) ?_
    refine AW_if_eq 445 449 hX dL_law_442 rfl (by decide) (fun c442 => absurd c442 hb9) (fun c442 => ?_)
    refine AW_iconst 446 hX dL_law_445 rfl ic_1 ?_
    refine AW_goto 450 hX dL_law_446 (by decide) ?_
    refine AW_cV (As := [_, _, _, _]) 453 hX dL_law_450 rfl ml_L_68 mw_X6_hear (by first | assumption | exact hset_eq | exact (hset_ne (by omega)).trans (by first | assumption | exact hset_eq | exact (hset_ne (by omega)).trans (by first | assumption | exact hset_eq | exact (hset_ne (by omega)).trans (by first | assumption | exact hset_eq | exact (hset_ne (by omega)).trans (by first | assumption | exact hset_eq))))) (by decide) rfl rfl rfl (Nat.le_of_ble_eq_true rfl) (by decide) ⟨(Nat.le_of_ble_eq_true rfl), (Nat.le_of_ble_eq_true rfl)⟩ (C_hear g ok.1 (xs (5 * t + 1)) (xs (5 * t + 2)) (xs (5 * t + 3)) 1 (by omega) (fun h2 ⟨mp2, ms2, g2⟩ fr2 => ?_))
    have gm2 := MH_fr gm fr2
    have b2 := gm2.1
    refine AW_aload_n 454 hX dL_law_453 rfl rfl ?_
    refine AW_aload_n 455 hX dL_law_454 rfl rfl ?_
    refine AW_iload_n 456 hX dL_law_455 rfl rfl ?_
    refine AW_iconst 457 hX dL_law_456 rfl ic_1 ?_
    refine AW_iadd 458 hX dL_law_457 rfl ?_
    refine AW_sld 459 hX dL_law_458 rfl (j := 5 * t + 1) hs (by omega) hL (nI_add (5 * t) 1) ?_
    refine AW_aload_n 460 hX dL_law_459 rfl rfl ?_
    refine AW_iload_n 461 hX dL_law_460 rfl rfl ?_
    refine AW_iconst 462 hX dL_law_461 rfl ic_2 ?_
    refine AW_iadd 463 hX dL_law_462 rfl ?_
    refine AW_sld 464 hX dL_law_463 rfl (j := 5 * t + 2) hs (by omega) hL (nI_add (5 * t) 2) ?_
    refine AW_aload_n 465 hX dL_law_464 rfl rfl ?_
    refine AW_iload_n 466 hX dL_law_465 rfl rfl ?_
    refine AW_iconst 467 hX dL_law_466 rfl ic_3 ?_
    refine AW_iadd 468 hX dL_law_467 rfl ?_
    refine AW_sld 469 hX dL_law_468 rfl (j := 5 * t + 3) hs (by omega) hL (nI_add (5 * t) 3) ?_
    refine AW_aload_n 470 hX dL_law_469 rfl rfl ?_
    refine AW_iload_n 471 hX dL_law_470 rfl rfl ?_
    refine AW_iconst 472 hX dL_law_471 rfl ic_4 ?_
    refine AW_iadd 473 hX dL_law_472 rfl ?_
    refine AW_sld 474 hX dL_law_473 rfl (j := 5 * t + 4) hs (by omega) hL (nI_add (5 * t) 4) ?_
    refine AW_if_eq 477 481 hX dL_law_474 rfl (by decide) (fun c474 => absurd c474 hb9) (fun c474 => ?_)
    refine AW_iconst 478 hX dL_law_477 rfl ic_1 ?_
    refine AW_goto 482 hX dL_law_478 (by decide) ?_
    refine AW_cV (As := [_, _, _, _]) 485 hX dL_law_482 rfl ml_L_72 mw_X7_hear (by first | assumption | exact hset_eq | exact (hset_ne (by omega)).trans (by first | assumption | exact hset_eq | exact (hset_ne (by omega)).trans (by first | assumption | exact hset_eq | exact (hset_ne (by omega)).trans (by first | assumption | exact hset_eq | exact (hset_ne (by omega)).trans (by first | assumption | exact hset_eq))))) (by decide) rfl rfl rfl (Nat.le_of_ble_eq_true rfl) (by decide) ⟨(Nat.le_of_ble_eq_true rfl), (Nat.le_of_ble_eq_true rfl)⟩ (D_hear gm2 r ok.1 (xs (5 * t + 1)) (xs (5 * t + 2)) (xs (5 * t + 3)) 1 (by omega) (fun h3 hm3 fr3 => ?_))
    refine AW_icmp_eq 488 622 hX dL_law_485 rfl (by decide) (fun c485 => ?_) (fun c485 => absurd rfl c485)
    exact next h3 _ ⟨mp2, ms2, CJ_fr g2 fr3⟩ hm3 (k_Hear ht9 ok (xs (5 * t + 1)) (xs (5 * t + 2)) (xs (5 * t + 3)) 1 (by omega))
set_option maxRecDepth 100000 in
set_option maxHeartbeats 4000000 in
theorem lc_14 {X : Cx} {h : AH} {b L t : Nat} {nm : String} {xs : Nat → Int32} (hX : CxOk X (⟨RL, nm, ""⟩ : MethodName) cL_law 14 47 1041) (hs : SX X b L xs) (hL : L ≤ 320) (hi : 5 * t + 5 ≤ L) {kp yd qk pm n ht p s : Nat} {pg ks : Nat → Nat} {stp fl : Int32} {m : Nat} {hd : HD} {w : SV} (hC : CI h (kp, yd, qk, pm, pg, (n, ks, ht, p, s, stp, fl, m, hd), w)) (hM : MJ h (kp, yd, qk, pm, pg, (n, ks, ht, p, s, stp, fl, m, hd), w)) (ok : Okt t (kp, yd, qk, pm, pg, (n, ks, ht, p, s, stp, fl, m, hd), w)) (next : ∀ (h' : AH) (S' : ST), CI h' S' → MJ h' S' → Okt (t + 1) S' → AW X 47 1041 622 [some (.ref (b + 2000)), some (.ref 0), some (.ref 34), some (.int (nI (5 * t)))] [] h') : AW X 47 1041 490 [some (.ref (b + 2000)), some (.ref 0), some (.ref 34), some (.int (nI (5 * t)))] [] h := by
  obtain ⟨mp, ms, g⟩ := hC
  obtain ⟨I, sd, hh, F, gm, r⟩ := hM
  have ha0 := g.1
  unfold yO at ha0
  have hb0 := gm.1
  have ht9 : t < 900000 := by omega
  refine AW_aload_n 491 hX dL_law_490 rfl rfl ?_
  refine AW_cV (As := []) 494 hX dL_law_491 rfl ml_L_73 mw_X6_forget (by first | assumption | exact hset_eq | exact (hset_ne (by omega)).trans (by first | assumption | exact hset_eq | exact (hset_ne (by omega)).trans (by first | assumption | exact hset_eq | exact (hset_ne (by omega)).trans (by first | assumption | exact hset_eq | exact (hset_ne (by omega)).trans (by first | assumption | exact hset_eq))))) (by decide) rfl rfl rfl (Nat.le_of_ble_eq_true rfl) (by decide) ⟨(Nat.le_of_ble_eq_true rfl), (Nat.le_of_ble_eq_true rfl)⟩ (C_forget g ok.1 (fun h2 ⟨mp2, ms2, g2⟩ fr2 => ?_))
  have gm2 := MH_fr gm fr2
  have b2 := gm2.1
  refine AW_aload_n 495 hX dL_law_494 rfl rfl ?_
  refine AW_cV (As := []) 498 hX dL_law_495 rfl ml_L_76 mw_X7_forget (by first | assumption | exact hset_eq | exact (hset_ne (by omega)).trans (by first | assumption | exact hset_eq | exact (hset_ne (by omega)).trans (by first | assumption | exact hset_eq | exact (hset_ne (by omega)).trans (by first | assumption | exact hset_eq | exact (hset_ne (by omega)).trans (by first | assumption | exact hset_eq))))) (by decide) rfl rfl rfl (Nat.le_of_ble_eq_true rfl) (by decide) ⟨(Nat.le_of_ble_eq_true rfl), (Nat.le_of_ble_eq_true rfl)⟩ (D_forget gm2 r ok.1 (fun h3 hm3 fr3 => ?_))
  refine AW_icmp_eq 501 622 hX dL_law_498 rfl (by decide) (fun c498 => ?_) (fun c498 => absurd rfl c498)
  exact next h3 _ ⟨mp2, ms2, CJ_fr g2 fr3⟩ hm3 (k_Forget ht9 ok)
set_option maxRecDepth 100000 in
set_option maxHeartbeats 4000000 in
theorem lc_15 {X : Cx} {h : AH} {b L t : Nat} {nm : String} {xs : Nat → Int32} (hX : CxOk X (⟨RL, nm, ""⟩ : MethodName) cL_law 14 47 1041) (hs : SX X b L xs) (hL : L ≤ 320) (hi : 5 * t + 5 ≤ L) {kp yd qk pm n ht p s : Nat} {pg ks : Nat → Nat} {stp fl : Int32} {m : Nat} {hd : HD} {w : SV} (hC : CI h (kp, yd, qk, pm, pg, (n, ks, ht, p, s, stp, fl, m, hd), w)) (hM : MJ h (kp, yd, qk, pm, pg, (n, ks, ht, p, s, stp, fl, m, hd), w)) (ok : Okt t (kp, yd, qk, pm, pg, (n, ks, ht, p, s, stp, fl, m, hd), w)) (next : ∀ (h' : AH) (S' : ST), CI h' S' → MJ h' S' → Okt (t + 1) S' → AW X 47 1041 622 [some (.ref (b + 2000)), some (.ref 0), some (.ref 34), some (.int (nI (5 * t)))] [] h') : AW X 47 1041 503 [some (.ref (b + 2000)), some (.ref 0), some (.ref 34), some (.int (nI (5 * t)))] [] h := by
  obtain ⟨mp, ms, g⟩ := hC
  obtain ⟨I, sd, hh, F, gm, r⟩ := hM
  have ha0 := g.1
  unfold yO at ha0
  have hb0 := gm.1
  have ht9 : t < 900000 := by omega
  refine AW_aload_n 504 hX dL_law_503 rfl rfl ?_
  refine AW_cV (As := []) 507 hX dL_law_504 rfl ml_L_77 mw_X6_heights (by first | assumption | exact hset_eq | exact (hset_ne (by omega)).trans (by first | assumption | exact hset_eq | exact (hset_ne (by omega)).trans (by first | assumption | exact hset_eq | exact (hset_ne (by omega)).trans (by first | assumption | exact hset_eq | exact (hset_ne (by omega)).trans (by first | assumption | exact hset_eq))))) (by decide) rfl rfl rfl (Nat.le_of_ble_eq_true rfl) (by decide) ⟨(Nat.le_of_ble_eq_true rfl), (Nat.le_of_ble_eq_true rfl)⟩ (C_heights g ok.1 (fun h2 ⟨mp2, ms2, g2⟩ fr2 => ?_))
  have gm2 := MH_fr gm fr2
  have b2 := gm2.1
  refine AW_aload_n 508 hX dL_law_507 rfl rfl ?_
  refine AW_cV (As := []) 511 hX dL_law_508 rfl ml_L_80 mw_X7_heights (by first | assumption | exact hset_eq | exact (hset_ne (by omega)).trans (by first | assumption | exact hset_eq | exact (hset_ne (by omega)).trans (by first | assumption | exact hset_eq | exact (hset_ne (by omega)).trans (by first | assumption | exact hset_eq | exact (hset_ne (by omega)).trans (by first | assumption | exact hset_eq))))) (by decide) rfl rfl rfl (Nat.le_of_ble_eq_true rfl) (by decide) ⟨(Nat.le_of_ble_eq_true rfl), (Nat.le_of_ble_eq_true rfl)⟩ (D_heights gm2 r ok.1 (fun h3 hm3 fr3 => ?_))
  refine AW_icmp_eq 514 622 hX dL_law_511 rfl (by decide) (fun c511 => ?_) (fun c511 => absurd rfl c511)
  exact next h3 _ ⟨mp2, ms2, CJ_fr g2 fr3⟩ hm3 (k_Heights ht9 ok)
set_option maxRecDepth 100000 in
set_option maxHeartbeats 4000000 in
theorem lc_16 {X : Cx} {h : AH} {b L t : Nat} {nm : String} {xs : Nat → Int32} (hX : CxOk X (⟨RL, nm, ""⟩ : MethodName) cL_law 14 47 1041) (hs : SX X b L xs) (hL : L ≤ 320) (hi : 5 * t + 5 ≤ L) {kp yd qk pm n ht p s : Nat} {pg ks : Nat → Nat} {stp fl : Int32} {m : Nat} {hd : HD} {w : SV} (hC : CI h (kp, yd, qk, pm, pg, (n, ks, ht, p, s, stp, fl, m, hd), w)) (hM : MJ h (kp, yd, qk, pm, pg, (n, ks, ht, p, s, stp, fl, m, hd), w)) (ok : Okt t (kp, yd, qk, pm, pg, (n, ks, ht, p, s, stp, fl, m, hd), w)) (next : ∀ (h' : AH) (S' : ST), CI h' S' → MJ h' S' → Okt (t + 1) S' → AW X 47 1041 622 [some (.ref (b + 2000)), some (.ref 0), some (.ref 34), some (.int (nI (5 * t)))] [] h') : AW X 47 1041 516 [some (.ref (b + 2000)), some (.ref 0), some (.ref 34), some (.int (nI (5 * t)))] [] h := by
  obtain ⟨mp, ms, g⟩ := hC
  obtain ⟨I, sd, hh, F, gm, r⟩ := hM
  have ha0 := g.1
  unfold yO at ha0
  have hb0 := gm.1
  have ht9 : t < 900000 := by omega
  refine AW_aload_n 517 hX dL_law_516 rfl rfl ?_
  refine AW_aload_n 518 hX dL_law_517 rfl rfl ?_
  refine AW_iload_n 519 hX dL_law_518 rfl rfl ?_
  refine AW_iconst 520 hX dL_law_519 rfl ic_1 ?_
  refine AW_iadd 521 hX dL_law_520 rfl ?_
  refine AW_sld 522 hX dL_law_521 rfl (j := 5 * t + 1) hs (by omega) hL (nI_add (5 * t) 1) ?_
  refine AW_aload_n 523 hX dL_law_522 rfl rfl ?_
  refine AW_iload_n 524 hX dL_law_523 rfl rfl ?_
  refine AW_iconst 525 hX dL_law_524 rfl ic_2 ?_
  refine AW_iadd 526 hX dL_law_525 rfl ?_
  refine AW_sld 527 hX dL_law_526 rfl (j := 5 * t + 2) hs (by omega) hL (nI_add (5 * t) 2) ?_
  refine AW_aload_n 528 hX dL_law_527 rfl rfl ?_
  refine AW_iload_n 529 hX dL_law_528 rfl rfl ?_
  refine AW_iconst 530 hX dL_law_529 rfl ic_3 ?_
  refine AW_iadd 531 hX dL_law_530 rfl ?_
  refine AW_sld 532 hX dL_law_531 rfl (j := 5 * t + 3) hs (by omega) hL (nI_add (5 * t) 3) ?_
  refine AW_cV (As := [_, _, _]) 535 hX dL_law_532 rfl ml_L_81 mw_X6_races (by first | assumption | exact hset_eq | exact (hset_ne (by omega)).trans (by first | assumption | exact hset_eq | exact (hset_ne (by omega)).trans (by first | assumption | exact hset_eq | exact (hset_ne (by omega)).trans (by first | assumption | exact hset_eq | exact (hset_ne (by omega)).trans (by first | assumption | exact hset_eq))))) (by decide) rfl rfl rfl (Nat.le_of_ble_eq_true rfl) (by decide) ⟨(Nat.le_of_ble_eq_true rfl), (Nat.le_of_ble_eq_true rfl)⟩ (C_races g ok.1 (xs (5 * t + 1)) (xs (5 * t + 2)) (xs (5 * t + 3)) (fun h2 ⟨mp2, ms2, g2⟩ fr2 => ?_))
  have gm2 := MH_fr gm fr2
  have b2 := gm2.1
  refine AW_aload_n 536 hX dL_law_535 rfl rfl ?_
  refine AW_aload_n 537 hX dL_law_536 rfl rfl ?_
  refine AW_iload_n 538 hX dL_law_537 rfl rfl ?_
  refine AW_iconst 539 hX dL_law_538 rfl ic_1 ?_
  refine AW_iadd 540 hX dL_law_539 rfl ?_
  refine AW_sld 541 hX dL_law_540 rfl (j := 5 * t + 1) hs (by omega) hL (nI_add (5 * t) 1) ?_
  refine AW_aload_n 542 hX dL_law_541 rfl rfl ?_
  refine AW_iload_n 543 hX dL_law_542 rfl rfl ?_
  refine AW_iconst 544 hX dL_law_543 rfl ic_2 ?_
  refine AW_iadd 545 hX dL_law_544 rfl ?_
  refine AW_sld 546 hX dL_law_545 rfl (j := 5 * t + 2) hs (by omega) hL (nI_add (5 * t) 2) ?_
  refine AW_aload_n 547 hX dL_law_546 rfl rfl ?_
  refine AW_iload_n 548 hX dL_law_547 rfl rfl ?_
  refine AW_iconst 549 hX dL_law_548 rfl ic_3 ?_
  refine AW_iadd 550 hX dL_law_549 rfl ?_
  refine AW_sld 551 hX dL_law_550 rfl (j := 5 * t + 3) hs (by omega) hL (nI_add (5 * t) 3) ?_
  refine AW_cV (As := [_, _, _]) 554 hX dL_law_551 rfl ml_L_85 mw_X7_races (by first | assumption | exact hset_eq | exact (hset_ne (by omega)).trans (by first | assumption | exact hset_eq | exact (hset_ne (by omega)).trans (by first | assumption | exact hset_eq | exact (hset_ne (by omega)).trans (by first | assumption | exact hset_eq | exact (hset_ne (by omega)).trans (by first | assumption | exact hset_eq))))) (by decide) rfl rfl rfl (Nat.le_of_ble_eq_true rfl) (by decide) ⟨(Nat.le_of_ble_eq_true rfl), (Nat.le_of_ble_eq_true rfl)⟩ (D_races gm2 r ok.1 (xs (5 * t + 1)) (xs (5 * t + 2)) (xs (5 * t + 3)) (fun h3 hm3 fr3 => ?_))
  refine AW_icmp_eq 557 622 hX dL_law_554 rfl (by decide) (fun c554 => ?_) (fun c554 => absurd rfl c554)
  exact next h3 _ ⟨mp2, ms2, CJ_fr g2 fr3⟩ hm3 (k_Races ht9 ok (xs (5 * t + 1)) (xs (5 * t + 2)) (xs (5 * t + 3)))
set_option maxRecDepth 100000 in
set_option maxHeartbeats 4000000 in
theorem lc_17 {X : Cx} {h : AH} {b L t : Nat} {nm : String} {xs : Nat → Int32} (hX : CxOk X (⟨RL, nm, ""⟩ : MethodName) cL_law 14 47 1041) (hs : SX X b L xs) (hL : L ≤ 320) (hi : 5 * t + 5 ≤ L) {kp yd qk pm n ht p s : Nat} {pg ks : Nat → Nat} {stp fl : Int32} {m : Nat} {hd : HD} {w : SV} (hC : CI h (kp, yd, qk, pm, pg, (n, ks, ht, p, s, stp, fl, m, hd), w)) (hM : MJ h (kp, yd, qk, pm, pg, (n, ks, ht, p, s, stp, fl, m, hd), w)) (ok : Okt t (kp, yd, qk, pm, pg, (n, ks, ht, p, s, stp, fl, m, hd), w)) (next : ∀ (h' : AH) (S' : ST), CI h' S' → MJ h' S' → Okt (t + 1) S' → AW X 47 1041 622 [some (.ref (b + 2000)), some (.ref 0), some (.ref 34), some (.int (nI (5 * t)))] [] h') : AW X 47 1041 559 [some (.ref (b + 2000)), some (.ref 0), some (.ref 34), some (.int (nI (5 * t)))] [] h := by
  obtain ⟨mp, ms, g⟩ := hC
  obtain ⟨I, sd, hh, F, gm, r⟩ := hM
  have ha0 := g.1
  unfold yO at ha0
  have hb0 := gm.1
  have ht9 : t < 900000 := by omega
  refine AW_aload_n 560 hX dL_law_559 rfl rfl ?_
  refine AW_cV (As := []) 563 hX dL_law_560 rfl ml_L_86 mw_X6_image (by first | assumption | exact hset_eq | exact (hset_ne (by omega)).trans (by first | assumption | exact hset_eq | exact (hset_ne (by omega)).trans (by first | assumption | exact hset_eq | exact (hset_ne (by omega)).trans (by first | assumption | exact hset_eq | exact (hset_ne (by omega)).trans (by first | assumption | exact hset_eq))))) (by decide) rfl rfl rfl (Nat.le_of_ble_eq_true rfl) (by decide) ⟨(Nat.le_of_ble_eq_true rfl), (Nat.le_of_ble_eq_true rfl)⟩ (C_image g ok.1 (fun h2 ⟨mp2, ms2, g2⟩ fr2 => ?_))
  have gm2 := MH_fr gm fr2
  have b2 := gm2.1
  refine AW_aload_n 564 hX dL_law_563 rfl rfl ?_
  refine AW_cV (As := []) 567 hX dL_law_564 rfl ml_L_89 mw_X7_image (by first | assumption | exact hset_eq | exact (hset_ne (by omega)).trans (by first | assumption | exact hset_eq | exact (hset_ne (by omega)).trans (by first | assumption | exact hset_eq | exact (hset_ne (by omega)).trans (by first | assumption | exact hset_eq | exact (hset_ne (by omega)).trans (by first | assumption | exact hset_eq))))) (by decide) rfl rfl rfl (Nat.le_of_ble_eq_true rfl) (by decide) ⟨(Nat.le_of_ble_eq_true rfl), (Nat.le_of_ble_eq_true rfl)⟩ (D_image gm2 r ok.1 (fun h3 hm3 fr3 => ?_))
  refine AW_icmp_eq 570 622 hX dL_law_567 rfl (by decide) (fun c567 => ?_) (fun c567 => absurd rfl c567)
  exact next h3 _ ⟨mp2, ms2, CJ_fr g2 fr3⟩ hm3 (k_Image ht9 ok)
set_option maxRecDepth 100000 in
set_option maxHeartbeats 4000000 in
theorem lc_18 {X : Cx} {h : AH} {b L t : Nat} {nm : String} {xs : Nat → Int32} (hX : CxOk X (⟨RL, nm, ""⟩ : MethodName) cL_law 14 47 1041) (hs : SX X b L xs) (hL : L ≤ 320) (hi : 5 * t + 5 ≤ L) {kp yd qk pm n ht p s : Nat} {pg ks : Nat → Nat} {stp fl : Int32} {m : Nat} {hd : HD} {w : SV} (hC : CI h (kp, yd, qk, pm, pg, (n, ks, ht, p, s, stp, fl, m, hd), w)) (hM : MJ h (kp, yd, qk, pm, pg, (n, ks, ht, p, s, stp, fl, m, hd), w)) (ok : Okt t (kp, yd, qk, pm, pg, (n, ks, ht, p, s, stp, fl, m, hd), w)) (next : ∀ (h' : AH) (S' : ST), CI h' S' → MJ h' S' → Okt (t + 1) S' → AW X 47 1041 622 [some (.ref (b + 2000)), some (.ref 0), some (.ref 34), some (.int (nI (5 * t)))] [] h') : AW X 47 1041 572 [some (.ref (b + 2000)), some (.ref 0), some (.ref 34), some (.int (nI (5 * t)))] [] h := by
  obtain ⟨mp, ms, g⟩ := hC
  obtain ⟨I, sd, hh, F, gm, r⟩ := hM
  have ha0 := g.1
  unfold yO at ha0
  have hb0 := gm.1
  have ht9 : t < 900000 := by omega
  refine AW_aload_n 573 hX dL_law_572 rfl rfl ?_
  refine AW_cV (As := []) 576 hX dL_law_573 rfl ml_L_90 mw_X6_restore (by first | assumption | exact hset_eq | exact (hset_ne (by omega)).trans (by first | assumption | exact hset_eq | exact (hset_ne (by omega)).trans (by first | assumption | exact hset_eq | exact (hset_ne (by omega)).trans (by first | assumption | exact hset_eq | exact (hset_ne (by omega)).trans (by first | assumption | exact hset_eq))))) (by decide) rfl rfl rfl (Nat.le_of_ble_eq_true rfl) (by decide) ⟨(Nat.le_of_ble_eq_true rfl), (Nat.le_of_ble_eq_true rfl)⟩ (C_restore g ok.1 (fun h2 ⟨mp2, ms2, g2⟩ fr2 => ?_))
  have gm2 := MH_fr gm fr2
  have b2 := gm2.1
  refine AW_aload_n 577 hX dL_law_576 rfl rfl ?_
  refine AW_cV (As := []) 580 hX dL_law_577 rfl ml_L_93 mw_X7_restore (by first | assumption | exact hset_eq | exact (hset_ne (by omega)).trans (by first | assumption | exact hset_eq | exact (hset_ne (by omega)).trans (by first | assumption | exact hset_eq | exact (hset_ne (by omega)).trans (by first | assumption | exact hset_eq | exact (hset_ne (by omega)).trans (by first | assumption | exact hset_eq))))) (by decide) rfl rfl rfl (Nat.le_of_ble_eq_true rfl) (by decide) ⟨(Nat.le_of_ble_eq_true rfl), (Nat.le_of_ble_eq_true rfl)⟩ (D_restore gm2 r ok.1 (fun h3 hm3 fr3 => ?_))
  refine AW_icmp_eq 583 622 hX dL_law_580 rfl (by decide) (fun c580 => ?_) (fun c580 => absurd rfl c580)
  exact next h3 _ ⟨mp2, ms2, CJ_fr g2 fr3⟩ hm3 (k_Restore ht9 ok)
set_option maxRecDepth 100000 in
set_option maxHeartbeats 4000000 in
theorem lc_19 {X : Cx} {h : AH} {b L t : Nat} {nm : String} {xs : Nat → Int32} (hX : CxOk X (⟨RL, nm, ""⟩ : MethodName) cL_law 14 47 1041) (hs : SX X b L xs) (hL : L ≤ 320) (hi : 5 * t + 5 ≤ L) {kp yd qk pm n ht p s : Nat} {pg ks : Nat → Nat} {stp fl : Int32} {m : Nat} {hd : HD} {w : SV} (hC : CI h (kp, yd, qk, pm, pg, (n, ks, ht, p, s, stp, fl, m, hd), w)) (hM : MJ h (kp, yd, qk, pm, pg, (n, ks, ht, p, s, stp, fl, m, hd), w)) (ok : Okt t (kp, yd, qk, pm, pg, (n, ks, ht, p, s, stp, fl, m, hd), w)) (next : ∀ (h' : AH) (S' : ST), CI h' S' → MJ h' S' → Okt (t + 1) S' → AW X 47 1041 622 [some (.ref (b + 2000)), some (.ref 0), some (.ref 34), some (.int (nI (5 * t)))] [] h') : AW X 47 1041 585 [some (.ref (b + 2000)), some (.ref 0), some (.ref 34), some (.int (nI (5 * t)))] [] h := by
  obtain ⟨mp, ms, g⟩ := hC
  obtain ⟨I, sd, hh, F, gm, r⟩ := hM
  have ha0 := g.1
  unfold yO at ha0
  have hb0 := gm.1
  have ht9 : t < 900000 := by omega
  refine AW_aload_n 586 hX dL_law_585 rfl rfl ?_
  refine AW_aload_n 587 hX dL_law_586 rfl rfl ?_
  refine AW_iload_n 588 hX dL_law_587 rfl rfl ?_
  refine AW_iconst 589 hX dL_law_588 rfl ic_1 ?_
  refine AW_iadd 590 hX dL_law_589 rfl ?_
  refine AW_sld 591 hX dL_law_590 rfl (j := 5 * t + 1) hs (by omega) hL (nI_add (5 * t) 1) ?_
  refine AW_cV (As := [_]) 594 hX dL_law_591 rfl ml_L_94 mw_X6_count (by first | assumption | exact hset_eq | exact (hset_ne (by omega)).trans (by first | assumption | exact hset_eq | exact (hset_ne (by omega)).trans (by first | assumption | exact hset_eq | exact (hset_ne (by omega)).trans (by first | assumption | exact hset_eq | exact (hset_ne (by omega)).trans (by first | assumption | exact hset_eq))))) (by decide) rfl rfl rfl (Nat.le_of_ble_eq_true rfl) (by decide) ⟨(Nat.le_of_ble_eq_true rfl), (Nat.le_of_ble_eq_true rfl)⟩ (C_count g ok.1 (xs (5 * t + 1)) (fun h2 ⟨mp2, ms2, g2⟩ fr2 => ?_))
  have gm2 := MH_fr gm fr2
  have b2 := gm2.1
  refine AW_aload_n 595 hX dL_law_594 rfl rfl ?_
  refine AW_aload_n 596 hX dL_law_595 rfl rfl ?_
  refine AW_iload_n 597 hX dL_law_596 rfl rfl ?_
  refine AW_iconst 598 hX dL_law_597 rfl ic_1 ?_
  refine AW_iadd 599 hX dL_law_598 rfl ?_
  refine AW_sld 600 hX dL_law_599 rfl (j := 5 * t + 1) hs (by omega) hL (nI_add (5 * t) 1) ?_
  refine AW_cV (As := [_]) 603 hX dL_law_600 rfl ml_L_97 mw_X7_count (by first | assumption | exact hset_eq | exact (hset_ne (by omega)).trans (by first | assumption | exact hset_eq | exact (hset_ne (by omega)).trans (by first | assumption | exact hset_eq | exact (hset_ne (by omega)).trans (by first | assumption | exact hset_eq | exact (hset_ne (by omega)).trans (by first | assumption | exact hset_eq))))) (by decide) rfl rfl rfl (Nat.le_of_ble_eq_true rfl) (by decide) ⟨(Nat.le_of_ble_eq_true rfl), (Nat.le_of_ble_eq_true rfl)⟩ (D_count gm2 r ok.1 (xs (5 * t + 1)) (fun h3 hm3 fr3 => ?_))
  refine AW_icmp_eq 606 622 hX dL_law_603 rfl (by decide) (fun c603 => ?_) (fun c603 => absurd rfl c603)
  exact next h3 _ ⟨mp2, ms2, CJ_fr g2 fr3⟩ hm3 (k_Count ht9 ok (xs (5 * t + 1)))
set_option maxRecDepth 100000 in
set_option maxHeartbeats 4000000 in
theorem lc_20 {X : Cx} {h : AH} {b L t : Nat} {nm : String} {xs : Nat → Int32} (hX : CxOk X (⟨RL, nm, ""⟩ : MethodName) cL_law 14 47 1041) (hs : SX X b L xs) (hL : L ≤ 320) (hi : 5 * t + 5 ≤ L) {kp yd qk pm n ht p s : Nat} {pg ks : Nat → Nat} {stp fl : Int32} {m : Nat} {hd : HD} {w : SV} (hC : CI h (kp, yd, qk, pm, pg, (n, ks, ht, p, s, stp, fl, m, hd), w)) (hM : MJ h (kp, yd, qk, pm, pg, (n, ks, ht, p, s, stp, fl, m, hd), w)) (ok : Okt t (kp, yd, qk, pm, pg, (n, ks, ht, p, s, stp, fl, m, hd), w)) (next : ∀ (h' : AH) (S' : ST), CI h' S' → MJ h' S' → Okt (t + 1) S' → AW X 47 1041 622 [some (.ref (b + 2000)), some (.ref 0), some (.ref 34), some (.int (nI (5 * t)))] [] h') : AW X 47 1041 608 [some (.ref (b + 2000)), some (.ref 0), some (.ref 34), some (.int (nI (5 * t)))] [] h := by
  obtain ⟨mp, ms, g⟩ := hC
  obtain ⟨I, sd, hh, F, gm, r⟩ := hM
  have ha0 := g.1
  unfold yO at ha0
  have hb0 := gm.1
  have ht9 : t < 900000 := by omega
  refine AW_aload_n 609 hX dL_law_608 rfl rfl ?_
  refine AW_cV (As := []) 612 hX dL_law_609 rfl ml_L_98 mw_X6_digest (by first | assumption | exact hset_eq | exact (hset_ne (by omega)).trans (by first | assumption | exact hset_eq | exact (hset_ne (by omega)).trans (by first | assumption | exact hset_eq | exact (hset_ne (by omega)).trans (by first | assumption | exact hset_eq | exact (hset_ne (by omega)).trans (by first | assumption | exact hset_eq))))) (by decide) rfl rfl rfl (Nat.le_of_ble_eq_true rfl) (by decide) ⟨(Nat.le_of_ble_eq_true rfl), (Nat.le_of_ble_eq_true rfl)⟩ (C_digest g ok.1 (fun h2 ⟨mp2, ms2, g2⟩ fr2 => ?_))
  have gm2 := MH_fr gm fr2
  have b2 := gm2.1
  refine AW_aload_n 613 hX dL_law_612 rfl rfl ?_
  refine AW_cV (As := []) 616 hX dL_law_613 rfl ml_L_102 mw_X7_digest (by first | assumption | exact hset_eq | exact (hset_ne (by omega)).trans (by first | assumption | exact hset_eq | exact (hset_ne (by omega)).trans (by first | assumption | exact hset_eq | exact (hset_ne (by omega)).trans (by first | assumption | exact hset_eq | exact (hset_ne (by omega)).trans (by first | assumption | exact hset_eq))))) (by decide) rfl rfl rfl (Nat.le_of_ble_eq_true rfl) (by decide) ⟨(Nat.le_of_ble_eq_true rfl), (Nat.le_of_ble_eq_true rfl)⟩ (D_digest gm2 r ok.1 (fun h3 hm3 fr3 => ?_))
  refine AW_lcmp 617 hX dL_law_616 rfl ?_
  refine AW_if_eq 620 622 hX dL_law_617 rfl (by decide) (fun c617 => ?_) (fun c617 => absurd (cmp_self _) c617)
  exact next h3 _ ⟨mp2, ms2, CJ_fr g2 fr3⟩ hm3 (Okt_s ok)
set_option maxRecDepth 100000 in
set_option maxHeartbeats 4000000 in
theorem law_go {X : Cx} {b L : Nat} {nm : String} {xs : Nat → Int32} (hX : CxOk X (⟨RL, nm, ""⟩ : MethodName) cL_law 14 47 1041) (hs : SX X b L xs) (hL : L ≤ 320) (hR : ∀ (ls : List (Option Value)) (h : AH), AW X 47 1041 629 ls [.int 1] h) : ∀ e t, t + e = 65 → ∀ (S : ST) (h : AH), CI h S → MJ h S → Okt t S → AW X 47 1041 18 [some (.ref (b + 2000)), some (.ref 0), some (.ref 34), some (.int (nI (5 * t)))] [] h := by
  intro e
  induction e with
  | zero =>
    intro t ht S h hC hM ok
    refine AW_iload_n 19 hX dL_law_18 rfl rfl ?_
    refine AW_aload_n 20 hX dL_law_19 rfl rfl ?_
    refine AW_slen 21 hX dL_law_20 rfl hs ?_
    refine AW_iconst 22 hX dL_law_21 rfl ic_5 ?_
    refine AW_isub 23 hX dL_law_22 rfl ?_
    refine AW_icmp_gt 26 628 hX dL_law_23 rfl (by decide) (fun c23 => ?_) (fun c23 => absurd ((sub5_lt hL (by omega)).mpr (by omega)) c23)
    refine AW_iconst 629 hX dL_law_628 rfl ic_1 ?_
    exact hR _ _
  | succ e ih =>
    intro t ht S h hC hM ok
    have nx0 : ∀ (h' : AH) (S' : ST), CI h' S' → MJ h' S' → Okt (t + 1) S' → AW X 47 1041 622 [some (.ref (b + 2000)), some (.ref 0), some (.ref 34), some (.int (nI (5 * t)))] [] h' := by
      intro h' S' c1 c2 c3
      refine AW_iinc 625 hX dL_law_622 rfl rfl (iincp ic_5) (Nat.le_of_ble_eq_true rfl) rfl ?_
      refine AW_goto 18 hX dL_law_625 (by decide) ?_
      rw [show nI (5 * t) + 5 = nI (5 * (t + 1)) from nI_add (5 * t) 5]
      exact ih (t + 1) (by omega) S' h' c1 c2 c3
    refine AW_iload_n 19 hX dL_law_18 rfl rfl ?_
    refine AW_aload_n 20 hX dL_law_19 rfl rfl ?_
    refine AW_slen 21 hX dL_law_20 rfl hs ?_
    refine AW_iconst 22 hX dL_law_21 rfl ic_5 ?_
    refine AW_isub 23 hX dL_law_22 rfl ?_
    refine AW_icmp_gt 26 628 hX dL_law_23 rfl (by decide) (fun c23 => ?_) (fun c23 => ?_)
    · refine AW_iconst 629 hX dL_law_628 rfl ic_1 ?_
      exact hR _ _
    · refine AW_aload_n 27 hX dL_law_26 rfl rfl ?_
      refine AW_iload_n 28 hX dL_law_27 rfl rfl ?_
      refine AW_sld 29 hX dL_law_28 rfl (j := 5 * t) hs (by have : ¬ L < 5 * t + 5 := fun q => c23 ((sub5_lt hL (by omega)).mpr q); omega) hL rfl ?_
      refine AW_bipush 31 hX dL_law_29 rfl bp_31 ?_
      refine AW_iand 32 hX dL_law_31 rfl ?_
      have hi : 5 * t + 5 ≤ L := by have : ¬ L < 5 * t + 5 := fun q => c23 ((sub5_lt hL (by omega)).mpr q); omega
      obtain ⟨kp, yd, qk, pm, pg, ⟨n, ks, ht, p, s, stp, fl, m, hd⟩, w⟩ := S
      have nx := nx0
      obtain ⟨j, hj, ej⟩ := pk_andE (xs (5 * t)) (m := 31) 5 (by decide)
      rw [ej]
      rcases (show j = 0 ∨ j = 1 ∨ j = 2 ∨ j = 3 ∨ j = 4 ∨ j = 5 ∨ j = 6 ∨ j = 7 ∨ j = 8 ∨ j = 9 ∨ j = 10 ∨ j = 11 ∨ j = 12 ∨ j = 13 ∨ j = 14 ∨ j = 15 ∨ j = 16 ∨ j = 17 ∨ j = 18 ∨ j = 19 ∨ j = 20 ∨ 21 ≤ j by omega) with rfl | rfl | rfl | rfl | rfl | rfl | rfl | rfl | rfl | rfl | rfl | rfl | rfl | rfl | rfl | rfl | rfl | rfl | rfl | rfl | rfl | hj21
      · refine AW_tab (off := 100) 132 hX dL_law_32 (by decide) (by decide) (by decide) (by decide) ?_
        exact lc_0 hX hs hL hi hC hM ok nx
      · refine AW_tab (off := 123) 155 hX dL_law_32 (by decide) (by decide) (by decide) (by decide) ?_
        exact lc_1 hX hs hL hi hC hM ok nx
      · refine AW_tab (off := 136) 168 hX dL_law_32 (by decide) (by decide) (by decide) (by decide) ?_
        exact lc_2 hX hs hL hi hC hM ok nx
      · refine AW_tab (off := 149) 181 hX dL_law_32 (by decide) (by decide) (by decide) (by decide) ?_
        exact lc_3 hX hs hL hi hC hM ok nx
      · refine AW_tab (off := 162) 194 hX dL_law_32 (by decide) (by decide) (by decide) (by decide) ?_
        exact lc_4 hX hs hL hi hC hM ok nx
      · refine AW_tab (off := 195) 227 hX dL_law_32 (by decide) (by decide) (by decide) (by decide) ?_
        exact lc_5 hX hs hL hi hC hM ok nx
      · refine AW_tab (off := 228) 260 hX dL_law_32 (by decide) (by decide) (by decide) (by decide) ?_
        exact lc_6 hX hs hL hi hC hM ok nx
      · refine AW_tab (off := 261) 293 hX dL_law_32 (by decide) (by decide) (by decide) (by decide) ?_
        exact lc_7 hX hs hL hi hC hM ok nx
      · refine AW_tab (off := 284) 316 hX dL_law_32 (by decide) (by decide) (by decide) (by decide) ?_
        exact lc_8 hX hs hL hi hC hM ok nx
      · refine AW_tab (off := 307) 339 hX dL_law_32 (by decide) (by decide) (by decide) (by decide) ?_
        exact lc_9 hX hs hL hi hC hM ok nx
      · refine AW_tab (off := 330) 362 hX dL_law_32 (by decide) (by decide) (by decide) (by decide) ?_
        exact lc_10 hX hs hL hi hC hM ok nx
      · refine AW_tab (off := 353) 385 hX dL_law_32 (by decide) (by decide) (by decide) (by decide) ?_
        exact lc_11 hX hs hL hi hC hM ok nx
      · refine AW_tab (off := 366) 398 hX dL_law_32 (by decide) (by decide) (by decide) (by decide) ?_
        exact lc_12 hX hs hL hi hC hM ok nx
      · refine AW_tab (off := 389) 421 hX dL_law_32 (by decide) (by decide) (by decide) (by decide) ?_
        exact lc_13 hX hs hL hi hC hM ok nx
      · refine AW_tab (off := 458) 490 hX dL_law_32 (by decide) (by decide) (by decide) (by decide) ?_
        exact lc_14 hX hs hL hi hC hM ok nx
      · refine AW_tab (off := 471) 503 hX dL_law_32 (by decide) (by decide) (by decide) (by decide) ?_
        exact lc_15 hX hs hL hi hC hM ok nx
      · refine AW_tab (off := 484) 516 hX dL_law_32 (by decide) (by decide) (by decide) (by decide) ?_
        exact lc_16 hX hs hL hi hC hM ok nx
      · refine AW_tab (off := 527) 559 hX dL_law_32 (by decide) (by decide) (by decide) (by decide) ?_
        exact lc_17 hX hs hL hi hC hM ok nx
      · refine AW_tab (off := 540) 572 hX dL_law_32 (by decide) (by decide) (by decide) (by decide) ?_
        exact lc_18 hX hs hL hi hC hM ok nx
      · refine AW_tab (off := 553) 585 hX dL_law_32 (by decide) (by decide) (by decide) (by decide) ?_
        exact lc_19 hX hs hL hi hC hM ok nx
      · refine AW_tab (off := 576) 608 hX dL_law_32 (by decide) (by decide) (by decide) (by decide) ?_
        exact lc_20 hX hs hL hi hC hM ok nx
      · refine AW_tabO 622 hX dL_law_32 (Or.inr (by rw [nI_toInt (by omega)]; omega)) (by decide) ?_
        exact nx h _ hC hM (Okt_s ok)
