/-- a Ground at a: how many places, what lies where -/
def gr (h : AH) (a n : Nat) (f : Nat → Int32) : Prop := h a = some (.inl (0, [.ref (a + 1), .int (nI n)])) ∧ h (a + 1) = some (.inr (0, 12, f)) ∧ n ≤ 12
/-- nothing outside changes -/
def fr (h h' : AH) (lo hi : Nat) : Prop := ∀ q, (q < lo ∨ hi ≤ q) → h' q = h q
theorem fr_rf (h : AH) (lo hi : Nat) : fr h h lo hi := fun _ _ => rfl
theorem fr_tr {h h1 h2 : AH} {lo hi : Nat} (a : fr h h1 lo hi) (b : fr h1 h2 lo hi) : fr h h2 lo hi := fun q hq => (b q hq).trans (a q hq)
theorem fr_set {h : AH} {lo hi a : Nat} {c : AC} (h1 : lo ≤ a) (h2 : a < hi) : fr h (hset h a c) lo hi := fun q hq => hset_ne (by omega)
theorem fr_wide {h h1 : AH} {lo hi lo' hi' : Nat} (a : fr h h1 lo hi) (e1 : lo' ≤ lo) (e2 : hi ≤ hi') : fr h h1 lo' hi' := fun q hq => a q (by omega)
theorem gr_fr {h h' : AH} {a n lo hi : Nat} {f : Nat → Int32} (g : gr h a n f) (q : fr h h' lo hi) (ho : a + 2 ≤ lo ∨ hi ≤ a) : gr h' a n f := ⟨(q a (by omega)).trans g.1, (q (a + 1) (by omega)).trans g.2.1, g.2.2⟩
set_option maxRecDepth 100000 in
set_option maxHeartbeats 4000000 in
theorem c_places {h : AH} {K : Option Value → AH → Prop} {a b : Nat} {x : Int32} (ha : h a = some (.inl (0, [.ref b, .int x]))) (hK : K (some (.int x)) h) : aX0_places 0 [.ref a] h K := by
  refine AM.of [some (.ref a)] pn_X0_places rfl (Nat.le_of_ble_eq_true rfl) (fun X hX hE => ?_)
  refine AW_aload_n 1 hX dX0_places_0 rfl rfl ?_
  refine AW_get 4 hX dX0_places_1 rfl fl_X0_15 (by first | assumption | exact hset_eq | exact (hset_ne (by omega)).trans (by first | assumption | exact hset_eq | exact (hset_ne (by omega)).trans (by first | assumption | exact hset_eq | exact (hset_ne (by omega)).trans (by first | assumption | exact hset_eq | exact (hset_ne (by omega)).trans (by first | assumption | exact hset_eq))))) rfl ?_
  refine AW_iret hX hE dX0_places_4 rfl (Nat.le_refl _) (Nat.le_refl _) ?_
  exact hK
set_option maxRecDepth 100000 in
set_option maxHeartbeats 4000000 in
theorem c_has {h : AH} {K : Option Value → AH → Prop} {a n : Nat} {f : Nat → Int32} (hg : gr h a n f) (x : Int32) (h1 : ∀ p : Nat, p < n → x = nI p → K (some (.int 1)) h) (h0 : (∀ p : Nat, p < n → x ≠ nI p) → K (some (.int 0)) h) : aX0_has 0 [.ref a, .int x] h K := by
  obtain ⟨ha, hb, hn⟩ := hg
  refine AM.of [some (.ref a), some (.int x)] pn_X0_has rfl (Nat.le_of_ble_eq_true rfl) (fun X hX hE => ?_)
  refine AW_iload_n 1 hX dX0_has_0 rfl rfl ?_
  refine AW_if_lt 4 22 hX dX0_has_1 rfl (by decide) (fun c1 => ?_) (fun c1 => ?_)
  · refine AW_iconst 23 hX dX0_has_22 rfl ic_0 ?_
    refine AW_iret hX hE dX0_has_23 rfl (Nat.le_refl _) (Nat.le_refl _) ?_
    exact h0 (fun p hp e => absurd c1 (by rw [e]; exact nI_pos (by omega)))
  · refine AW_iload_n 5 hX dX0_has_4 rfl rfl ?_
    refine AW_aload_n 6 hX dX0_has_5 rfl rfl ?_
    refine AW_get 9 hX dX0_has_6 rfl fl_X0_15 (by first | assumption | exact hset_eq | exact (hset_ne (by omega)).trans (by first | assumption | exact hset_eq | exact (hset_ne (by omega)).trans (by first | assumption | exact hset_eq | exact (hset_ne (by omega)).trans (by first | assumption | exact hset_eq | exact (hset_ne (by omega)).trans (by first | assumption | exact hset_eq))))) rfl ?_
    refine AW_icmp_ge 12 22 hX dX0_has_9 rfl (by decide) (fun c9 => ?_) (fun c9 => ?_)
    · refine AW_iconst 23 hX dX0_has_22 rfl ic_0 ?_
      refine AW_iret hX hE dX0_has_23 rfl (Nat.le_refl _) (Nat.le_refl _) ?_
      exact h0 (fun p hp e => absurd c9 (by rw [e]; exact nI_ge hp (by omega)))
    · refine AW_iload_n 13 hX dX0_has_12 rfl rfl ?_
      refine AW_bipush 15 hX dX0_has_13 rfl bp_12 ?_
      refine AW_icmp_ge 18 22 hX dX0_has_15 rfl (by decide) (fun c15 => ?_) (fun c15 => ?_)
      · refine AW_iconst 23 hX dX0_has_22 rfl ic_0 ?_
        refine AW_iret hX hE dX0_has_23 rfl (Nat.le_refl _) (Nat.le_refl _) ?_
        exact h0 (fun p hp e => absurd c15 (by rw [e]; exact nI_ge (b := 12) (by omega) (by decide)))
      · refine AW_iconst 19 hX dX0_has_18 rfl ic_1 ?_
        refine AW_goto 23 hX dX0_has_19 (by decide) ?_
        refine AW_iret hX hE dX0_has_23 rfl (Nat.le_refl _) (Nat.le_refl _) ?_
        obtain ⟨p, hp, e, -⟩ := pk_mu c1 c9 (by omega)
        exact h1 p hp e
set_option maxRecDepth 100000 in
set_option maxHeartbeats 4000000 in
theorem c_kindAt {h : AH} {K : Option Value → AH → Prop} {a n p : Nat} {f : Nat → Int32} (hg : gr h a n f) (hp : p < n) (hK : K (some (.int (f p))) h) : aX0_kindAt 1 [.ref a, .int (nI p)] h K := by
  obtain ⟨ha, hb, hn⟩ := id hg
  refine AM.of [some (.ref a), some (.int (nI p))] pn_X0_kindAt rfl (Nat.le_of_ble_eq_true rfl) (fun X hX hE => ?_)
  refine AW_aload_n 1 hX dX0_kindAt_0 rfl rfl ?_
  refine AW_iload_n 2 hX dX0_kindAt_1 rfl rfl ?_
  refine AW_cV (As := [_]) 5 hX dX0_kindAt_2 rfl ml_X0_19 mw_X0_has (by first | assumption | exact hset_eq | exact (hset_ne (by omega)).trans (by first | assumption | exact hset_eq | exact (hset_ne (by omega)).trans (by first | assumption | exact hset_eq | exact (hset_ne (by omega)).trans (by first | assumption | exact hset_eq | exact (hset_ne (by omega)).trans (by first | assumption | exact hset_eq))))) (by decide) rfl rfl rfl (Nat.le_of_ble_eq_true rfl) (by decide) ⟨(Nat.le_refl _), (Nat.le_refl _)⟩ (c_has hg (nI p) (fun q hq eq => ?_) (fun hno => absurd rfl (hno p hp)))
  refine AW_if_eq 8 17 hX dX0_kindAt_5 rfl (by decide) (fun c5 => absurd c5 (by decide)) (fun c5 => ?_)
  refine AW_aload_n 9 hX dX0_kindAt_8 rfl rfl ?_
  refine AW_get 12 hX dX0_kindAt_9 rfl fl_X0_9 (by first | assumption | exact hset_eq | exact (hset_ne (by omega)).trans (by first | assumption | exact hset_eq | exact (hset_ne (by omega)).trans (by first | assumption | exact hset_eq | exact (hset_ne (by omega)).trans (by first | assumption | exact hset_eq | exact (hset_ne (by omega)).trans (by first | assumption | exact hset_eq))))) rfl ?_
  refine AW_iload_n 13 hX dX0_kindAt_12 rfl rfl ?_
  refine AW_iald 14 hX dX0_kindAt_13 rfl (by first | assumption | exact hset_eq | exact (hset_ne (by omega)).trans (by first | assumption | exact hset_eq | exact (hset_ne (by omega)).trans (by first | assumption | exact hset_eq | exact (hset_ne (by omega)).trans (by first | assumption | exact hset_eq | exact (hset_ne (by omega)).trans (by first | assumption | exact hset_eq))))) (j := p) (by omega) rfl ?_
  refine AW_goto 18 hX dX0_kindAt_14 (by decide) ?_
  refine AW_iret hX hE dX0_kindAt_18 rfl (Nat.le_refl _) (Nat.le_refl _) ?_
  exact hK
set_option maxRecDepth 100000 in
set_option maxHeartbeats 4000000 in
theorem c_put {h : AH} {K : Option Value → AH → Prop} {a n p : Nat} {f : Nat → Int32} {v : Int32} (hg : gr h a n f) (hp : p < n) (hK : K (some (.int (f p))) (hset h (a + 1) (.inr (0, 12, upd f p v)))) : aX0_put 1 [.ref a, .int (nI p), .int v] h K := by
  obtain ⟨ha, hb, hn⟩ := id hg
  refine AM.of [some (.ref a), some (.int (nI p)), some (.int v), none] pn_X0_put rfl (Nat.le_of_ble_eq_true rfl) (fun X hX hE => ?_)
  refine AW_aload_n 1 hX dX0_put_0 rfl rfl ?_
  refine AW_iload_n 2 hX dX0_put_1 rfl rfl ?_
  refine AW_cV (As := [_]) 5 hX dX0_put_2 rfl ml_X0_19 mw_X0_has (by first | assumption | exact hset_eq | exact (hset_ne (by omega)).trans (by first | assumption | exact hset_eq | exact (hset_ne (by omega)).trans (by first | assumption | exact hset_eq | exact (hset_ne (by omega)).trans (by first | assumption | exact hset_eq | exact (hset_ne (by omega)).trans (by first | assumption | exact hset_eq))))) (by decide) rfl rfl rfl (Nat.le_of_ble_eq_true rfl) (by decide) ⟨(Nat.le_refl _), (Nat.le_refl _)⟩ (c_has hg (nI p) (fun q hq eq => ?_) (fun hno => absurd rfl (hno p hp)))
  refine AW_if_ne 8 10 hX dX0_put_5 rfl (by decide) (fun c5 => ?_) (fun c5 => absurd c5 (by decide))
  refine AW_aload_n 11 hX dX0_put_10 rfl rfl ?_
  refine AW_get 14 hX dX0_put_11 rfl fl_X0_9 (by first | assumption | exact hset_eq | exact (hset_ne (by omega)).trans (by first | assumption | exact hset_eq | exact (hset_ne (by omega)).trans (by first | assumption | exact hset_eq | exact (hset_ne (by omega)).trans (by first | assumption | exact hset_eq | exact (hset_ne (by omega)).trans (by first | assumption | exact hset_eq))))) rfl ?_
  refine AW_iload_n 15 hX dX0_put_14 rfl rfl ?_
  refine AW_iald 16 hX dX0_put_15 rfl (by first | assumption | exact hset_eq | exact (hset_ne (by omega)).trans (by first | assumption | exact hset_eq | exact (hset_ne (by omega)).trans (by first | assumption | exact hset_eq | exact (hset_ne (by omega)).trans (by first | assumption | exact hset_eq | exact (hset_ne (by omega)).trans (by first | assumption | exact hset_eq))))) (j := p) (by omega) rfl ?_
  refine AW_istore_n 17 hX dX0_put_16 rfl (Nat.le_of_ble_eq_true rfl) rfl ?_
  refine AW_aload_n 18 hX dX0_put_17 rfl rfl ?_
  refine AW_get 21 hX dX0_put_18 rfl fl_X0_9 (by first | assumption | exact hset_eq | exact (hset_ne (by omega)).trans (by first | assumption | exact hset_eq | exact (hset_ne (by omega)).trans (by first | assumption | exact hset_eq | exact (hset_ne (by omega)).trans (by first | assumption | exact hset_eq | exact (hset_ne (by omega)).trans (by first | assumption | exact hset_eq))))) rfl ?_
  refine AW_iload_n 22 hX dX0_put_21 rfl rfl ?_
  refine AW_iload_n 23 hX dX0_put_22 rfl rfl ?_
  refine AW_iast 24 hX dX0_put_23 rfl (by first | assumption | exact hset_eq | exact (hset_ne (by omega)).trans (by first | assumption | exact hset_eq | exact (hset_ne (by omega)).trans (by first | assumption | exact hset_eq | exact (hset_ne (by omega)).trans (by first | assumption | exact hset_eq | exact (hset_ne (by omega)).trans (by first | assumption | exact hset_eq))))) (j := p) (by omega) rfl ?_
  try rw [hset_hset]
  refine AW_iload_n 25 hX dX0_put_24 rfl rfl ?_
  refine AW_iret hX hE dX0_put_25 rfl (Nat.le_refl _) (Nat.le_refl _) ?_
  exact hK
set_option maxRecDepth 100000 in
set_option maxHeartbeats 4000000 in
theorem c_plainPlaces {h : AH} {K : Option Value → AH → Prop} {a n : Nat} {f : Nat → Int32} (hg : gr h a n f) (hK : K (some (.int (nI (cntP f n)))) h) : aX0_plainPlaces 2 [.ref a] h K := by
  obtain ⟨ha, hb, hn⟩ := id hg
  refine AM.of [some (.ref a), none, none] pn_X0_plainPlaces rfl (Nat.le_of_ble_eq_true rfl) (fun X hX hE => ?_)
  have loop : ∀ d i, i + d = n → AW X 0 0 4 [some (.ref a), some (.int (nI (cntP f i))), some (.int (nI i))] [] h := by
    intro d
    induction d with
    | zero =>
      intro i hi
      refine AW_iload_n 5 hX dX0_plainPlaces_4 rfl rfl ?_
      refine AW_aload_n 6 hX dX0_plainPlaces_5 rfl rfl ?_
      refine AW_get 9 hX dX0_plainPlaces_6 rfl fl_X0_15 (by first | assumption | exact hset_eq | exact (hset_ne (by omega)).trans (by first | assumption | exact hset_eq | exact (hset_ne (by omega)).trans (by first | assumption | exact hset_eq | exact (hset_ne (by omega)).trans (by first | assumption | exact hset_eq | exact (hset_ne (by omega)).trans (by first | assumption | exact hset_eq))))) rfl ?_
      refine AW_icmp_ge 12 29 hX dX0_plainPlaces_9 rfl (by decide) (fun c9 => ?_) (fun c9 => absurd (nI_le (by omega) (by omega)) c9)
      refine AW_iload_n 30 hX dX0_plainPlaces_29 rfl rfl ?_
      refine AW_iret hX hE dX0_plainPlaces_30 rfl (Nat.le_refl _) (Nat.le_refl _) ?_
      rw [show i = n by omega]; exact hK
    | succ d ih =>
      intro i hi
      refine AW_iload_n 5 hX dX0_plainPlaces_4 rfl rfl ?_
      refine AW_aload_n 6 hX dX0_plainPlaces_5 rfl rfl ?_
      refine AW_get 9 hX dX0_plainPlaces_6 rfl fl_X0_15 (by first | assumption | exact hset_eq | exact (hset_ne (by omega)).trans (by first | assumption | exact hset_eq | exact (hset_ne (by omega)).trans (by first | assumption | exact hset_eq | exact (hset_ne (by omega)).trans (by first | assumption | exact hset_eq | exact (hset_ne (by omega)).trans (by first | assumption | exact hset_eq))))) rfl ?_
      refine AW_icmp_ge 12 29 hX dX0_plainPlaces_9 rfl (by decide) (fun c9 => absurd c9 (nI_ge (by omega) (by omega))) (fun c9 => ?_)
      refine AW_aload_n 13 hX dX0_plainPlaces_12 rfl rfl ?_
      refine AW_iload_n 14 hX dX0_plainPlaces_13 rfl rfl ?_
      refine AW_cV (As := [_]) 17 hX dX0_plainPlaces_14 rfl ml_X0_25 mw_X0_kindAt (by first | assumption | exact hset_eq | exact (hset_ne (by omega)).trans (by first | assumption | exact hset_eq | exact (hset_ne (by omega)).trans (by first | assumption | exact hset_eq | exact (hset_ne (by omega)).trans (by first | assumption | exact hset_eq | exact (hset_ne (by omega)).trans (by first | assumption | exact hset_eq))))) (by decide) rfl rfl rfl (Nat.le_of_ble_eq_true rfl) (by decide) ⟨(Nat.le_refl _), (Nat.le_refl _)⟩ (c_kindAt hg (by omega) ?_)
      refine AW_if_ne 20 23 hX dX0_plainPlaces_17 rfl (by decide) (fun c17 => ?_) (fun c17 => ?_)
      · refine AW_iinc 26 hX dX0_plainPlaces_23 rfl rfl (iincp ic_1) (Nat.le_of_ble_eq_true rfl) rfl ?_
        refine AW_goto 4 hX dX0_plainPlaces_26 (by decide) ?_
        rw [nI_1]
        have := ih (i + 1) (by omega)
        simp only [cntP, if_neg c17, Nat.add_zero] at this
        exact this
      · refine AW_iinc 23 hX dX0_plainPlaces_20 rfl rfl (iincp ic_1) (Nat.le_of_ble_eq_true rfl) rfl ?_
        refine AW_iinc 26 hX dX0_plainPlaces_23 rfl rfl (iincp ic_1) (Nat.le_of_ble_eq_true rfl) rfl ?_
        refine AW_goto 4 hX dX0_plainPlaces_26 (by decide) ?_
        rw [nI_1, nI_1]
        have := ih (i + 1) (by omega)
        simp only [cntP, if_pos c17] at this
        exact this
  refine AW_iconst 1 hX dX0_plainPlaces_0 rfl ic_0 ?_
  refine AW_istore_n 2 hX dX0_plainPlaces_1 rfl (Nat.le_of_ble_eq_true rfl) rfl ?_
  refine AW_iconst 3 hX dX0_plainPlaces_2 rfl ic_0 ?_
  refine AW_istore_n 4 hX dX0_plainPlaces_3 rfl (Nat.le_of_ble_eq_true rfl) rfl ?_
  exact loop n 0 (by omega)
set_option maxRecDepth 100000 in
set_option maxHeartbeats 4000000 in
theorem c_gcopy {h : AH} {K : Option Value → AH → Prop} {a b n m : Nat} {f fb : Nat → Int32} (hg : gr h a m f) (ho : gr h b n fb) (hab : a + 2 ≤ b ∨ b + 2 ≤ a) (hK : ∀ (h' : AH) (f' : Nat → Int32), gr h' a n f' → (∀ j, j < n → f' j = fb j) → fr h h' a (a + 2) → K none h') : aX0_copyFrom 2 [.ref a, .ref b] h K := by
  obtain ⟨ha, hb, hm⟩ := id hg
  obtain ⟨hoa, hob, hn⟩ := id ho
  refine AM.of [some (.ref a), some (.ref b), none] pn_X0_copyFrom rfl (Nat.le_of_ble_eq_true rfl) (fun X hX hE => ?_)
  have loop : ∀ d i, i + d = n → ∀ (h' : AH) (f' : Nat → Int32), gr h' a n f' → (∀ j, j < i → f' j = fb j) → fr h h' a (a + 2) → AW X 0 0 10 [some (.ref a), some (.ref b), some (.int (nI i))] [] h' := by
    intro d
    induction d with
    | zero =>
      intro i hi h' f' hg' hf' hfr
      obtain ⟨ha', hb', hm'⟩ := id hg'
      refine AW_iload_n 11 hX dX0_copyFrom_10 rfl rfl ?_
      refine AW_aload_n 12 hX dX0_copyFrom_11 rfl rfl ?_
      refine AW_get 15 hX dX0_copyFrom_12 rfl fl_X0_15 (by first | assumption | exact hset_eq | exact (hset_ne (by omega)).trans (by first | assumption | exact hset_eq | exact (hset_ne (by omega)).trans (by first | assumption | exact hset_eq | exact (hset_ne (by omega)).trans (by first | assumption | exact hset_eq | exact (hset_ne (by omega)).trans (by first | assumption | exact hset_eq))))) rfl ?_
      refine AW_icmp_ge 18 35 hX dX0_copyFrom_15 rfl (by decide) (fun c15 => ?_) (fun c15 => absurd (nI_le (by omega) (by omega)) c15)
      refine AW_vret hX hE dX0_copyFrom_35 (Nat.le_refl _) (Nat.le_refl _) ?_
      exact hK h' f' hg' (fun j hj => hf' j (by omega)) hfr
    | succ d ih =>
      intro i hi h' f' hg' hf' hfr
      obtain ⟨ha', hb', hm'⟩ := id hg'
      have ho' := gr_fr ho hfr (by omega)
      obtain ⟨hoa', hob', -⟩ := id ho'
      refine AW_iload_n 11 hX dX0_copyFrom_10 rfl rfl ?_
      refine AW_aload_n 12 hX dX0_copyFrom_11 rfl rfl ?_
      refine AW_get 15 hX dX0_copyFrom_12 rfl fl_X0_15 (by first | assumption | exact hset_eq | exact (hset_ne (by omega)).trans (by first | assumption | exact hset_eq | exact (hset_ne (by omega)).trans (by first | assumption | exact hset_eq | exact (hset_ne (by omega)).trans (by first | assumption | exact hset_eq | exact (hset_ne (by omega)).trans (by first | assumption | exact hset_eq))))) rfl ?_
      refine AW_icmp_ge 18 35 hX dX0_copyFrom_15 rfl (by decide) (fun c15 => absurd c15 (nI_ge (by omega) (by omega))) (fun c15 => ?_)
      refine AW_aload_n 19 hX dX0_copyFrom_18 rfl rfl ?_
      refine AW_iload_n 20 hX dX0_copyFrom_19 rfl rfl ?_
      refine AW_aload_n 21 hX dX0_copyFrom_20 rfl rfl ?_
      refine AW_iload_n 22 hX dX0_copyFrom_21 rfl rfl ?_
      refine AW_cV (As := [_]) 25 hX dX0_copyFrom_22 rfl ml_X0_25 mw_X0_kindAt (by first | assumption | exact hset_eq | exact (hset_ne (by omega)).trans (by first | assumption | exact hset_eq | exact (hset_ne (by omega)).trans (by first | assumption | exact hset_eq | exact (hset_ne (by omega)).trans (by first | assumption | exact hset_eq | exact (hset_ne (by omega)).trans (by first | assumption | exact hset_eq))))) (by decide) rfl rfl rfl (Nat.le_of_ble_eq_true rfl) (by decide) ⟨(Nat.le_refl _), (Nat.le_refl _)⟩ (c_kindAt ho' (by omega) ?_)
      refine AW_cV (As := [_, _]) 28 hX dX0_copyFrom_25 rfl ml_X0_41 mw_X0_put (by first | assumption | exact hset_eq | exact (hset_ne (by omega)).trans (by first | assumption | exact hset_eq | exact (hset_ne (by omega)).trans (by first | assumption | exact hset_eq | exact (hset_ne (by omega)).trans (by first | assumption | exact hset_eq | exact (hset_ne (by omega)).trans (by first | assumption | exact hset_eq))))) (by decide) rfl rfl rfl (Nat.le_of_ble_eq_true rfl) (by decide) ⟨(Nat.le_refl _), (Nat.le_refl _)⟩ (c_put hg' (by omega) ?_)
      refine AW_pop 29 hX dX0_copyFrom_28 rfl rfl ?_
      refine AW_iinc 32 hX dX0_copyFrom_29 rfl rfl (iincp ic_1) (Nat.le_of_ble_eq_true rfl) rfl ?_
      refine AW_goto 10 hX dX0_copyFrom_32 (by decide) ?_
      rw [nI_1]
      refine ih (i + 1) (by omega) _ (upd f' i (fb i)) ⟨(hset_ne (by omega)).trans ha', hset_eq, hm'⟩ (fun j hj => ?_) (fr_tr hfr (fr_set (by omega) (by omega)))
      by_cases e : j = i
      · subst e; exact pk_us
      · rw [pk_un e]; exact hf' j (by omega)
  refine AW_aload_n 1 hX dX0_copyFrom_0 rfl rfl ?_
  refine AW_aload_n 2 hX dX0_copyFrom_1 rfl rfl ?_
  refine AW_get 5 hX dX0_copyFrom_2 rfl fl_X0_15 (by first | assumption | exact hset_eq | exact (hset_ne (by omega)).trans (by first | assumption | exact hset_eq | exact (hset_ne (by omega)).trans (by first | assumption | exact hset_eq | exact (hset_ne (by omega)).trans (by first | assumption | exact hset_eq | exact (hset_ne (by omega)).trans (by first | assumption | exact hset_eq))))) rfl ?_
  refine AW_put 8 hX dX0_copyFrom_5 rfl fl_X0_15 (by first | assumption | exact hset_eq | exact (hset_ne (by omega)).trans (by first | assumption | exact hset_eq | exact (hset_ne (by omega)).trans (by first | assumption | exact hset_eq | exact (hset_ne (by omega)).trans (by first | assumption | exact hset_eq | exact (hset_ne (by omega)).trans (by first | assumption | exact hset_eq))))) rfl (fun _ => rfl) (fun _ => rfl) (Nat.le_of_ble_eq_true rfl) ?_
  try rw [hset_hset]
  refine AW_iconst 9 hX dX0_copyFrom_8 rfl ic_0 ?_
  refine AW_istore_n 10 hX dX0_copyFrom_9 rfl (Nat.le_of_ble_eq_true rfl) rfl ?_
  exact loop n 0 (by omega) _ f ⟨hset_eq, (hset_ne (by omega)).trans hb, hn⟩ (fun j hj => by omega) (fr_set (by omega) (by omega))
