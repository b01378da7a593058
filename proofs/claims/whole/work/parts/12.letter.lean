/-- the kind that a letter tells; 5: none -/
def kn (c : Nat) : Nat := if c = 112 then 0 else if c = 108 then 1 else if c = 103 then 2 else if c = 98 then 3 else if c = 111 then 4 else 5
def kr (c : Nat) : Int32 := if kn c < 5 then nI (kn c) else -1
def LT : List Int32 := [112, 108, 103, 98, 111]
theorem b128 : ∀ c, c < 128 → (nI c).toInt8.toInt32 = nI c := by decide +kernel
theorem c128 : ∀ c, c < 128 → ((nI c).toUInt32 % 65536).toInt32 = nI c := by decide +kernel
theorem kr_at : ∀ c, c < 128 → ∀ i, i < 5 → LT.getD i 0 = nI c → kr c = nI i := by decide +kernel
theorem kr_no : ∀ c, c < 128 → (∀ i, i < 5 → LT.getD i 0 ≠ nI c) → kr c = -1 := by decide +kernel
set_option maxRecDepth 100000 in
set_option maxHeartbeats 4000000 in
theorem c_jcoder {h : AH} {K : Option Value → AH → Prop} (hK : K (some (.int 0)) h) : aJ0_coder_7d493 0 [.ref 1001] h K := by
  refine AM.of [some (.ref 1001)] pn_J0_coder_7d493 rfl (Nat.le_of_ble_eq_true rfl) (fun X hX hE => ?_)
  refine AW_compact 3 hX dJ0_coder_7d493_0 rfl fj_J0_38 ?_
  refine AW_if_eq 6 13 hX dJ0_coder_7d493_3 rfl (by decide) (fun c3 => absurd c3 (by decide)) (fun c3 => ?_)
  refine AW_aload_n 7 hX dJ0_coder_7d493_6 rfl rfl ?_
  refine AW_coder 10 hX dJ0_coder_7d493_7 rfl fj_J0_15 ?_
  refine AW_goto 14 hX dJ0_coder_7d493_10 (by decide) ?_
  refine AW_iret hX hE dJ0_coder_7d493_14 rfl (Nat.le_refl _) (Nat.le_refl _) ?_
  exact hK
set_option maxRecDepth 100000 in
set_option maxHeartbeats 4000000 in
theorem c_jlatin {h : AH} {K : Option Value → AH → Prop} (hK : K (some (.int 1)) h) : aJ0_isLatin1_aae02 0 [.ref 1001] h K := by
  refine AM.of [some (.ref 1001)] pn_J0_isLatin1_aae02 rfl (Nat.le_of_ble_eq_true rfl) (fun X hX hE => ?_)
  refine AW_compact 3 hX dJ0_isLatin1_aae02_0 rfl fj_J0_38 ?_
  refine AW_if_eq 6 17 hX dJ0_isLatin1_aae02_3 rfl (by decide) (fun c3 => absurd c3 (by decide)) (fun c3 => ?_)
  refine AW_aload_n 7 hX dJ0_isLatin1_aae02_6 rfl rfl ?_
  refine AW_coder 10 hX dJ0_isLatin1_aae02_7 rfl fj_J0_15 ?_
  refine AW_if_ne 13 17 hX dJ0_isLatin1_aae02_10 rfl (by decide) (fun c10 => absurd rfl c10) (fun c10 => ?_)
  refine AW_iconst 14 hX dJ0_isLatin1_aae02_13 rfl ic_1 ?_
  refine AW_goto 18 hX dJ0_isLatin1_aae02_14 (by decide) ?_
  refine AW_iret hX hE dJ0_isLatin1_aae02_18 rfl (Nat.le_refl _) (Nat.le_refl _) ?_
  exact hK
set_option maxRecDepth 100000 in
set_option maxHeartbeats 4000000 in
theorem c_jlength {h : AH} {K : Option Value → AH → Prop} (hK : K (some (.int 5)) h) : aJ0_length_8abf5 1 [.ref 1001] h K := by
  refine AM.of [some (.ref 1001)] pn_J0_length_8abf5 rfl (Nat.le_of_ble_eq_true rfl) (fun X hX hE => ?_)
  refine AW_aload_n 1 hX dJ0_length_8abf5_0 rfl rfl ?_
  refine AW_value 4 hX dJ0_length_8abf5_1 rfl fj_J0_9 ?_
  refine AW_textLen 5 hX dJ0_length_8abf5_4 rfl ?_
  refine AW_aload_n 6 hX dJ0_length_8abf5_5 rfl rfl ?_
  refine AW_callT (As := []) 9 hX dJ0_length_8abf5_6 rfl ml_J0_335 mw_J0_coder_7d493 rfl rfl rfl (Nat.le_of_ble_eq_true rfl) (by decide) ⟨(Nat.le_refl _), (Nat.le_refl _)⟩ (c_jcoder ?_)
  refine AW_ishr 10 hX dJ0_length_8abf5_9 rfl ?_
  rw [sb_shr0]
  refine AW_iret hX hE dJ0_length_8abf5_10 rfl (Nat.le_refl _) (Nat.le_refl _) ?_
  exact hK
set_option maxRecDepth 100000 in
set_option maxHeartbeats 4000000 in
theorem c_jenc {h : AH} {K : Option Value → AH → Prop} (c : Nat) (hc : c < 128) (hK : K (some (.int 1)) h) : aJ1_canEncode_9a6ad 0 [.int (nI c)] h K := by
  refine AM.of [some (.int (nI c))] pn_J1_canEncode_9a6ad rfl (Nat.le_of_ble_eq_true rfl) (fun X hX hE => ?_)
  refine AW_iload_n 1 hX dJ1_canEncode_9a6ad_0 rfl rfl ?_
  refine AW_if_lt 4 15 hX dJ1_canEncode_9a6ad_1 rfl (by decide) (fun c1 => absurd c1 (nI_pos (by omega))) (fun c1 => ?_)
  refine AW_iload_n 5 hX dJ1_canEncode_9a6ad_4 rfl rfl ?_
  refine AW_sipush 8 hX dJ1_canEncode_9a6ad_5 rfl sp_255 ?_
  refine AW_icmp_gt 11 15 hX dJ1_canEncode_9a6ad_8 rfl (by decide) (fun c8 => absurd c8 (nI_nlt (b := c) (a := 255) (by omega) (by decide))) (fun c8 => ?_)
  refine AW_iconst 12 hX dJ1_canEncode_9a6ad_11 rfl ic_1 ?_
  refine AW_goto 16 hX dJ1_canEncode_9a6ad_12 (by decide) ?_
  refine AW_iret hX hE dJ1_canEncode_9a6ad_16 rfl (Nat.le_refl _) (Nat.le_refl _) ?_
  exact hK
set_option maxRecDepth 100000 in
set_option maxHeartbeats 4000000 in
theorem c_jchar {h : AH} {K : Option Value → AH → Prop} (c : Nat) (hc : c < 128) (hK : K (some (.int (kr c))) h) : aJ1_indexOfChar_4cfef 0 [.ref 1002, .int (nI c), .int 0, .int 5] h K := by
  refine AM.of [some (.ref 1002), some (.int (nI c)), some (.int 0), some (.int 5), none, none] pn_J1_indexOfChar_4cfef rfl (Nat.le_of_ble_eq_true rfl) (fun X hX hE => ?_)
  have loop : ∀ d i, i + d = 5 → (∀ j, j < i → LT.getD j 0 ≠ nI c) → AW X 0 0 7 [some (.ref 1002), some (.int (nI c)), some (.int 0), some (.int 5), some (.int (nI c)), some (.int (nI i))] [] h := by
    intro d
    induction d with
    | zero =>
      intro i hi hno
      refine AW_iload 9 hX dJ1_indexOfChar_4cfef_7 rfl rfl ?_
      refine AW_iload_n 10 hX dJ1_indexOfChar_4cfef_9 rfl rfl ?_
      refine AW_icmp_ge 13 31 hX dJ1_indexOfChar_4cfef_10 rfl (by decide) (fun c10 => ?_) (fun c10 => absurd (nI_le (a := 5) (b := i) (by omega) (by omega)) c10)
      refine AW_iconst 32 hX dJ1_indexOfChar_4cfef_31 rfl ic_m1 ?_
      refine AW_iret hX hE dJ1_indexOfChar_4cfef_32 rfl (Nat.le_refl _) (Nat.le_refl _) ?_
      rw [kr_no c hc (fun j hj => hno j (by omega))] at hK
      exact hK
    | succ d ih =>
      intro i hi hno
      refine AW_iload 9 hX dJ1_indexOfChar_4cfef_7 rfl rfl ?_
      refine AW_iload_n 10 hX dJ1_indexOfChar_4cfef_9 rfl rfl ?_
      refine AW_icmp_ge 13 31 hX dJ1_indexOfChar_4cfef_10 rfl (by decide) (fun c10 => absurd c10 (nI_ge (a := i) (b := 5) (by omega) (by decide))) (fun c10 => ?_)
      refine AW_aload_n 14 hX dJ1_indexOfChar_4cfef_13 rfl rfl ?_
      refine AW_iload 16 hX dJ1_indexOfChar_4cfef_14 rfl rfl ?_
      refine AW_textAt 17 hX dJ1_indexOfChar_4cfef_16 rfl (j := i) (by omega) rfl ?_
      refine AW_iload 19 hX dJ1_indexOfChar_4cfef_17 rfl rfl ?_
      refine AW_icmp_ne 22 25 hX dJ1_indexOfChar_4cfef_19 rfl (by decide) (fun c19 => ?_) (fun c19 => ?_)
      · refine AW_iinc 28 hX dJ1_indexOfChar_4cfef_25 rfl rfl (iincp ic_1) (Nat.le_of_ble_eq_true rfl) rfl ?_
        refine AW_goto 7 hX dJ1_indexOfChar_4cfef_28 (by decide) ?_
        rw [nI_1]
        refine ih (i + 1) (by omega) (fun j hj => ?_)
        by_cases e : j = i
        · subst e; exact c19
        · exact hno j (by omega)
      · refine AW_iload 24 hX dJ1_indexOfChar_4cfef_22 rfl rfl ?_
        refine AW_iret hX hE dJ1_indexOfChar_4cfef_24 rfl (Nat.le_refl _) (Nat.le_refl _) ?_
        rw [kr_at c hc i (by omega) c19] at hK
        exact hK
  refine AW_iload_n 1 hX dJ1_indexOfChar_4cfef_0 rfl rfl ?_
  refine AW_i2b 2 hX dJ1_indexOfChar_4cfef_1 rfl ?_
  rw [b128 c hc]
  refine AW_istore 4 hX dJ1_indexOfChar_4cfef_2 rfl (Nat.le_of_ble_eq_true rfl) rfl ?_
  refine AW_iload_n 5 hX dJ1_indexOfChar_4cfef_4 rfl rfl ?_
  refine AW_istore 7 hX dJ1_indexOfChar_4cfef_5 rfl (Nat.le_of_ble_eq_true rfl) rfl ?_
  exact loop 5 0 (by omega) (fun j hj => by omega)
set_option maxRecDepth 100000 in
set_option maxHeartbeats 4000000 in
theorem c_jlidx {h : AH} {K : Option Value → AH → Prop} (c : Nat) (hc : c < 128) (hK : K (some (.int (kr c))) h) : aJ1_indexOf_4cfef 1 [.ref 1002, .int (nI c), .int 0, .int 5] h K := by
  refine AM.of [some (.ref 1002), some (.int (nI c)), some (.int 0), some (.int 5)] pn_J1_indexOf_4cfef rfl (Nat.le_of_ble_eq_true rfl) (fun X hX hE => ?_)
  refine AW_iload_n 1 hX dJ1_indexOf_4cfef_0 rfl rfl ?_
  refine AW_cS (As := [_]) 4 hX dJ1_indexOf_4cfef_1 rfl ml_J1_88 mw_J1_canEncode_9a6ad rfl rfl (Nat.le_of_ble_eq_true rfl) (by decide) ⟨(Nat.le_refl _), (Nat.le_refl _)⟩ (c_jenc c hc ?_)
  refine AW_if_ne 7 9 hX dJ1_indexOf_4cfef_4 rfl (by decide) (fun c4 => ?_) (fun c4 => absurd c4 (by decide))
  refine AW_iload_n 10 hX dJ1_indexOf_4cfef_9 rfl rfl ?_
  refine AW_iconst 11 hX dJ1_indexOf_4cfef_10 rfl ic_0 ?_
  refine AW_max 14 hX dJ1_indexOf_4cfef_11 rfl mk_J1_92 (Nat.le_of_ble_eq_true rfl) (by decide) ⟨(Nat.le_refl _), (Nat.le_refl _)⟩ ?_
  rw [show (if (0 : Int32) < 0 then (0 : Int32) else 0) = 0 from by decide]
  refine AW_istore_n 15 hX dJ1_indexOf_4cfef_14 rfl (Nat.le_of_ble_eq_true rfl) rfl ?_
  refine AW_iload_n 16 hX dJ1_indexOf_4cfef_15 rfl rfl ?_
  refine AW_aload_n 17 hX dJ1_indexOf_4cfef_16 rfl rfl ?_
  refine AW_textLen 18 hX dJ1_indexOf_4cfef_17 rfl ?_
  refine AW_min 21 hX dJ1_indexOf_4cfef_18 rfl mk_J1_38 (Nat.le_of_ble_eq_true rfl) (by decide) ⟨(Nat.le_refl _), (Nat.le_refl _)⟩ ?_
  rw [show (if (5 : Int32) < 5 then (5 : Int32) else 5) = 5 from by decide]
  refine AW_istore_n 22 hX dJ1_indexOf_4cfef_21 rfl (Nat.le_of_ble_eq_true rfl) rfl ?_
  refine AW_iload_n 23 hX dJ1_indexOf_4cfef_22 rfl rfl ?_
  refine AW_iload_n 24 hX dJ1_indexOf_4cfef_23 rfl rfl ?_
  refine AW_icmp_lt 27 29 hX dJ1_indexOf_4cfef_24 rfl (by decide) (fun c24 => ?_) (fun c24 => absurd (by decide) c24)
  refine AW_aload_n 30 hX dJ1_indexOf_4cfef_29 rfl rfl ?_
  refine AW_iload_n 31 hX dJ1_indexOf_4cfef_30 rfl rfl ?_
  refine AW_iload_n 32 hX dJ1_indexOf_4cfef_31 rfl rfl ?_
  refine AW_iload_n 33 hX dJ1_indexOf_4cfef_32 rfl rfl ?_
  refine AW_cS (As := [_, _, _, _]) 36 hX dJ1_indexOf_4cfef_33 rfl ml_J1_95 mw_J1_indexOfChar_4cfef rfl rfl (Nat.le_of_ble_eq_true rfl) (by decide) ⟨(Nat.le_refl _), (Nat.le_refl _)⟩ (c_jchar c hc ?_)
  refine AW_iret hX hE dJ1_indexOf_4cfef_36 rfl (Nat.le_refl _) (Nat.le_refl _) ?_
  exact hK
set_option maxRecDepth 100000 in
set_option maxHeartbeats 4000000 in
theorem c_jidx2 {h : AH} {K : Option Value → AH → Prop} (c : Nat) (hc : c < 128) (hK : K (some (.int (kr c))) h) : aJ0_indexOf_7cf53 2 [.ref 1001, .int (nI c), .int 0] h K := by
  refine AM.of [some (.ref 1001), some (.int (nI c)), some (.int 0)] pn_J0_indexOf_7cf53 rfl (Nat.le_of_ble_eq_true rfl) (fun X hX hE => ?_)
  refine AW_aload_n 1 hX dJ0_indexOf_7cf53_0 rfl rfl ?_
  refine AW_callT (As := []) 4 hX dJ0_indexOf_7cf53_1 rfl ml_J0_492 mw_J0_isLatin1_aae02 rfl rfl rfl (Nat.le_of_ble_eq_true rfl) (by decide) ⟨(Nat.le_refl _), (Nat.le_refl _)⟩ (c_jlatin ?_)
  refine AW_if_eq 7 23 hX dJ0_indexOf_7cf53_4 rfl (by decide) (fun c4 => absurd c4 (by decide)) (fun c4 => ?_)
  refine AW_aload_n 8 hX dJ0_indexOf_7cf53_7 rfl rfl ?_
  refine AW_value 11 hX dJ0_indexOf_7cf53_8 rfl fj_J0_9 ?_
  refine AW_iload_n 12 hX dJ0_indexOf_7cf53_11 rfl rfl ?_
  refine AW_iload_n 13 hX dJ0_indexOf_7cf53_12 rfl rfl ?_
  refine AW_aload_n 14 hX dJ0_indexOf_7cf53_13 rfl rfl ?_
  refine AW_callT (As := []) 17 hX dJ0_indexOf_7cf53_14 rfl ml_J0_505 mw_J0_length_8abf5 rfl rfl rfl (Nat.le_of_ble_eq_true rfl) (by decide) ⟨(Nat.le_refl _), (Nat.le_refl _)⟩ (c_jlength ?_)
  refine AW_cS (As := [_, _, _, _]) 20 hX dJ0_indexOf_7cf53_17 rfl ml_J0_637 mw_J1_indexOf_4cfef rfl rfl (Nat.le_of_ble_eq_true rfl) (by decide) ⟨(Nat.le_refl _), (Nat.le_refl _)⟩ (c_jlidx c hc ?_)
  refine AW_goto 36 hX dJ0_indexOf_7cf53_20 (by decide) ?_
  refine AW_iret hX hE dJ0_indexOf_7cf53_36 rfl (Nat.le_refl _) (Nat.le_refl _) ?_
  exact hK
set_option maxRecDepth 100000 in
set_option maxHeartbeats 4000000 in
theorem c_jidx1 {h : AH} {K : Option Value → AH → Prop} (c : Nat) (hc : c < 128) (hK : K (some (.int (kr c))) h) : aJ0_indexOf_0f7a4 3 [.ref 1001, .int (nI c)] h K := by
  refine AM.of [some (.ref 1001), some (.int (nI c))] pn_J0_indexOf_0f7a4 rfl (Nat.le_of_ble_eq_true rfl) (fun X hX hE => ?_)
  refine AW_aload_n 1 hX dJ0_indexOf_0f7a4_0 rfl rfl ?_
  refine AW_iload_n 2 hX dJ0_indexOf_0f7a4_1 rfl rfl ?_
  refine AW_iconst 3 hX dJ0_indexOf_0f7a4_2 rfl ic_0 ?_
  refine AW_callT (As := [_, _]) 6 hX dJ0_indexOf_0f7a4_3 rfl ml_J0_633 mw_J0_indexOf_7cf53 rfl rfl rfl (Nat.le_of_ble_eq_true rfl) (by decide) ⟨(Nat.le_refl _), (Nat.le_refl _)⟩ (c_jidx2 c hc ?_)
  refine AW_iret hX hE dJ0_indexOf_0f7a4_6 rfl (Nat.le_refl _) (Nat.le_refl _) ?_
  exact hK
set_option maxRecDepth 100000 in
set_option maxHeartbeats 4000000 in
theorem c_ofLetter {h : AH} {K : Option Value → AH → Prop} (c : Nat) (hc : c < 128) (hK : K (some (.int (kr c))) h) : aX2_ofLetter 4 [.int (nI c)] h K := by
  refine AM.of [some (.int (nI c))] pn_X2_ofLetter rfl (Nat.le_of_ble_eq_true rfl) (fun X hX hE => ?_)
  refine AW_ldcS 2 hX dX2_ofLetter_0 rfl rfl ?_
  refine AW_iload_n 3 hX dX2_ofLetter_2 rfl rfl ?_
  refine AW_i2c 4 hX dX2_ofLetter_3 rfl ?_
  rw [c128 c hc]
  refine AW_callT (As := [_]) 7 hX dX2_ofLetter_4 rfl ml_X2_11 mw_J0_indexOf_0f7a4 rfl rfl rfl (Nat.le_of_ble_eq_true rfl) (by decide) ⟨(Nat.le_refl _), (Nat.le_refl _)⟩ (c_jidx1 c hc ?_)
  refine AW_iret hX hE dX2_ofLetter_7 rfl (Nat.le_refl _) (Nat.le_refl _) ?_
  exact hK
