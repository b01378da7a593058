/-! THE YARD AS A GRAPH: a spot is 12 * place + sway -/
def vm (n : Nat) (ks : Nat → Nat) (B u c : Nat) : Prop := c ≤ 3 ∧ u / 12 + c < n ∧ sa (ks (u / 12 + c)) (u % 12) c ≤ B
def tv (ks : Nat → Nat) (u c : Nat) : Nat := 12 * (u / 12 + c) + sa (ks (u / 12 + c)) (u % 12) c
/-- the end can be reached from u in k steps -/
def can (n : Nat) (ks : Nat → Nat) (B : Nat) : Nat → Nat → Prop
  | 0, u => u / 12 = n - 1
  | k + 1, u => ∃ c, vm n ks B u c ∧ can n ks B k (tv ks u c)
/-- the first step of the first of the shortest ways (k + 1 steps) -/
def fst1 (n : Nat) (ks : Nat → Nat) (B k u c : Nat) : Prop := vm n ks B u c ∧ can n ks B k (tv ks u c) ∧ ∀ c', c' < c → ¬ (vm n ks B u c' ∧ can n ks B k (tv ks u c'))
/-- its step j (from 1) -/
def LWy (n : Nat) (ks : Nat → Nat) (B : Nat) : Nat → Nat → Nat → Nat → Prop
  | _, _, 0, _ => False
  | 0, _, _ + 1, _ => False
  | k + 1, u, 1, c => fst1 n ks B k u c
  | k + 1, u, j + 2, c => ∃ c0, fst1 n ks B k u c0 ∧ LWy n ks B k (tv ks u c0) (j + 1) c
theorem fst1_one {n : Nat} {ks : Nat → Nat} {B k u c c' : Nat} (h : fst1 n ks B k u c) (h' : fst1 n ks B k u c') : c = c' := by
  rcases Nat.lt_trichotomy c c' with q | q | q
  · exact absurd ⟨h.1, h.2.1⟩ (h'.2.2 c q)
  · exact q
  · exact absurd ⟨h'.1, h'.2.1⟩ (h.2.2 c' q)
theorem LWy_one {n : Nat} {ks : Nat → Nat} {B : Nat} : ∀ (k u j c c' : Nat), LWy n ks B k u j c → LWy n ks B k u j c' → c = c'
  | 0, _, 0, _, _, h, _ => h.elim
  | 0, _, _ + 1, _, _, h, _ => h.elim
  | _ + 1, _, 0, _, _, h, _ => h.elim
  | k + 1, u, 1, c, c', h, h' => fst1_one h h'
  | k + 1, u, j + 2, c, c', ⟨c0, h1, h2⟩, ⟨c1, h3, h4⟩ => by
    have e := fst1_one h1 h3
    subst e
    exact LWy_one k (tv ks u c0) (j + 1) c c' h2 h4
theorem tv_d {ks : Nat → Nat} {u c B : Nat} (hB : B ≤ 11) (h : sa (ks (u / 12 + c)) (u % 12) c ≤ B) : tv ks u c / 12 = u / 12 + c ∧ tv ks u c % 12 = sa (ks (u / 12 + c)) (u % 12) c := by
  simp only [tv]
  omega
/-! the search: N spots so far; the t-th is Qs t, came from the (par t)-th by a step of cb t, dp t steps away -/
def ap {α : Type} (f : Nat → α) (N : Nat) (x : α) : Nat → α := fun t => if t = N then x else f t
theorem ap_eq {α : Type} {f : Nat → α} {N : Nat} {x : α} : ap f N x N = x := by simp [ap]
theorem ap_ne {α : Type} {f : Nat → α} {N t : Nat} {x : α} (h : t ≠ N) : ap f N x t = f t := by simp [ap, h]
theorem ap_lt {α : Type} {f : Nat → α} {N t : Nat} {x : α} (h : t < N) : ap f N x t = f t := ap_ne (by omega)
def BI (n : Nat) (ks : Nat → Nat) (B st N : Nat) (Qs par cb dp : Nat → Nat) : Prop :=
  (0 < N ∧ Qs 0 = st ∧ dp 0 = 0) ∧
  (∀ t, 0 < t → t < N → par t < t ∧ vm n ks B (Qs (par t)) (cb t) ∧ Qs t = tv ks (Qs (par t)) (cb t) ∧ dp t = dp (par t) + 1) ∧
  (∀ a b, a < N → b < N → Qs a = Qs b → a = b) ∧
  (∀ a b, a ≤ b → b < N → dp a ≤ dp b) ∧
  (∀ t, 0 < t → t < N → ∀ j c, (j < par t ∨ (j = par t ∧ c < cb t)) → vm n ks B (Qs j) c → ∃ t', t' < t ∧ Qs t' = tv ks (Qs j) c)
/-- what has been tried so far: all of the spots before the i-th, of the i-th the steps below c -/
def BN (n : Nat) (ks : Nat → Nat) (B N : Nat) (Qs dp : Nat → Nat) (i c : Nat) : Prop := ∀ j c', (j < i ∨ (j = i ∧ c' < c)) → j < N → dp j < 40 → vm n ks B (Qs j) c' → ∃ t', t' < N ∧ Qs t' = tv ks (Qs j) c'
def BP (N : Nat) (par : Nat → Nat) (i : Nat) : Prop := ∀ t, 0 < t → t < N → par t ≤ i
theorem BI_0 (n : Nat) (ks : Nat → Nat) (B st : Nat) (Qs par cb dp : Nat → Nat) (h1 : Qs 0 = st) (h2 : dp 0 = 0) : BI n ks B st 1 Qs par cb dp := by
  refine ⟨⟨by omega, h1, h2⟩, fun t h1 h2 => by omega, fun a b ha hb _ => by omega, fun a b ha hb => ?_, fun t h1 h2 => by omega⟩
  rw [show a = b by omega]
  exact Nat.le_refl _
theorem BI_in {n : Nat} {ks : Nat → Nat} {B st N : Nat} {Qs par cb dp : Nat → Nat} (hB : B ≤ 11) (h : BI n ks B st N Qs par cb dp) (h1 : st / 12 < n) (h2 : st % 12 ≤ B) : ∀ t, t < N → Qs t / 12 < n ∧ Qs t % 12 ≤ B := by
  intro t ht
  by_cases h0 : t = 0
  · subst h0
    rw [h.1.2.1]
    exact ⟨h1, h2⟩
  · obtain ⟨q1, q2, q3, q4⟩ := h.2.1 t (by omega) ht
    obtain ⟨e1, e2⟩ := tv_d hB q2.2.2
    rw [q3, e1, e2]
    exact q2.2
theorem BI_add {n : Nat} {ks : Nat → Nat} {B st N : Nat} {Qs par cb dp : Nat → Nat} {i c : Nat} (h : BI n ks B st N Qs par cb dp) (hi : i < N) (hd : dp i < 40) (hv : vm n ks B (Qs i) c) (hnew : ∀ t, t < N → Qs t ≠ tv ks (Qs i) c) (hN : BN n ks B N Qs dp i c) (hP : BP N par i) :
    BI n ks B st (N + 1) (ap Qs N (tv ks (Qs i) c)) (ap par N i) (ap cb N c) (ap dp N (dp i + 1)) := by
  obtain ⟨⟨a1, a2, a3⟩, b, cc, e, cov⟩ := h
  refine ⟨⟨by omega, by rw [ap_lt a1]; exact a2, by rw [ap_lt a1]; exact a3⟩, fun t h1 h2 => ?_, fun x y hx hy hxy => ?_, fun x y hx hy => ?_, fun t h1 h2 j c' hj hm => ?_⟩
  · by_cases ht : t = N
    · subst ht
      rw [ap_eq, ap_eq, ap_eq, ap_eq, ap_lt hi, ap_lt hi]
      exact ⟨hi, hv, rfl, rfl⟩
    · have ht' : t < N := by omega
      obtain ⟨q1, q2, q3, q4⟩ := b t h1 ht'
      rw [ap_lt ht', ap_lt ht', ap_lt ht', ap_lt ht', ap_lt (by omega), ap_lt (by omega)]
      exact ⟨q1, q2, q3, q4⟩
  · by_cases hxN : x = N <;> by_cases hyN : y = N
    · omega
    · subst hxN
      rw [ap_eq, ap_lt (by omega)] at hxy
      exact absurd hxy.symm (hnew y (by omega))
    · subst hyN
      rw [ap_eq, ap_lt (by omega)] at hxy
      exact absurd hxy (hnew x (by omega))
    · rw [ap_lt (by omega), ap_lt (by omega)] at hxy
      exact cc x y (by omega) (by omega) hxy
  · by_cases hyN : y = N
    · subst hyN
      rw [ap_eq]
      by_cases hxN : x = y
      · subst hxN
        rw [ap_eq]
        exact Nat.le_refl _
      · rw [ap_lt (by omega)]
        by_cases hx0 : x = 0
        · subst hx0; omega
        · obtain ⟨q1, q2, q3, q4⟩ := b x (by omega) (by omega)
          have := e (par x) i (hP x (by omega) (by omega)) hi
          omega
    · rw [ap_lt (by omega), ap_lt (by omega)]
      exact e x y hx (by omega)
  · by_cases ht : t = N
    · subst ht
      rw [ap_eq, ap_eq] at hj
      have hjt : j < t := by omega
      rw [ap_lt hjt] at hm ⊢
      have := e j i (by omega) hi
      obtain ⟨t', q1, q2⟩ := hN j c' hj hjt (by omega) hm
      exact ⟨t', q1, by rw [ap_lt q1]; exact q2⟩
    · have ht' : t < N := by omega
      obtain ⟨q1, -⟩ := b t h1 ht'
      rw [ap_lt ht', ap_lt ht'] at hj
      have hjt : j < N := by omega
      rw [ap_lt hjt] at hm ⊢
      obtain ⟨t', q1, q2⟩ := cov t h1 ht' j c' hj hm
      exact ⟨t', q1, by rw [ap_lt (by omega)]; exact q2⟩
theorem BN_add {n : Nat} {ks : Nat → Nat} {B N : Nat} {Qs dp : Nat → Nat} {i c v D : Nat} (hN : BN n ks B N Qs dp i c) (hi : i < N) (hv : v = tv ks (Qs i) c) : BN n ks B (N + 1) (ap Qs N v) (ap dp N D) i (c + 1) := by
  intro j c' hj hjN hd hm
  have hjN' : j < N := by omega
  rw [ap_lt hjN'] at hd hm ⊢
  by_cases e : j = i ∧ c' = c
  · obtain ⟨rfl, rfl⟩ := e
    exact ⟨N, by omega, by rw [ap_eq]; exact hv⟩
  · obtain ⟨t', q1, q2⟩ := hN j c' (by omega) hjN' hd hm
    exact ⟨t', by omega, by rw [ap_lt q1]; exact q2⟩
theorem BN_old {n : Nat} {ks : Nat → Nat} {B N : Nat} {Qs dp : Nat → Nat} {i c : Nat} (hN : BN n ks B N Qs dp i c) (h : vm n ks B (Qs i) c → ∃ t', t' < N ∧ Qs t' = tv ks (Qs i) c) : BN n ks B N Qs dp i (c + 1) := by
  intro j c' hj hjN hd hm
  by_cases e : j = i ∧ c' = c
  · obtain ⟨rfl, rfl⟩ := e
    exact h hm
  · exact hN j c' (by omega) hjN hd hm
/-- the i-th is through -/
theorem BN_next {n : Nat} {ks : Nat → Nat} {B N : Nat} {Qs dp : Nat → Nat} {i c : Nat} (hN : BN n ks B N Qs dp i c) (h : dp i < 40 → ∀ c', c ≤ c' → ¬ vm n ks B (Qs i) c') : BN n ks B N Qs dp (i + 1) 0 := by
  intro j c' hj hjN hd hm
  rcases Nat.lt_or_ge c' c with q | q
  · exact hN j c' (by omega) hjN hd hm
  · by_cases e : j = i
    · subst e
      exact absurd hm (h hd c' q)
    · exact hN j c' (by omega) hjN hd hm
/-- the way back from the last spot -/
def chn (par : Nat → Nat) (N : Nat) : Nat → Nat
  | 0 => N - 1
  | k + 1 => par (chn par N k)
section BFS
variable {n : Nat} {ks : Nat → Nat} {B st N : Nat} {Qs par cb dp : Nat → Nat}
theorem chn_dp (h : BI n ks B st N Qs par cb dp) : ∀ k, k ≤ dp (N - 1) → chn par N k < N ∧ dp (chn par N k) = dp (N - 1) - k
  | 0, _ => ⟨by have := h.1.1; simp only [chn]; omega, rfl⟩
  | k + 1, hk => by
    obtain ⟨q1, q2⟩ := chn_dp h k (by omega)
    have h0 : 0 < chn par N k := by
      rcases Nat.eq_zero_or_pos (chn par N k) with e | e
      · rw [e, h.1.2.2] at q2; omega
      · exact e
    obtain ⟨p1, p2, p3, p4⟩ := h.2.1 _ h0 q1
    simp only [chn]
    omega
theorem chn_pos (h : BI n ks B st N Qs par cb dp) {k : Nat} (hk : k < dp (N - 1)) : 0 < chn par N k := by
  obtain ⟨q1, q2⟩ := chn_dp h k (by omega)
  rcases Nat.eq_zero_or_pos (chn par N k) with e | e
  · rw [e, h.1.2.2] at q2; omega
  · exact e
theorem chn_end (h : BI n ks B st N Qs par cb dp) : Qs (chn par N (dp (N - 1))) = st := by
  obtain ⟨q1, q2⟩ := chn_dp h (dp (N - 1)) (Nat.le_refl _)
  have : chn par N (dp (N - 1)) = 0 := by
    rcases Nat.eq_zero_or_pos (chn par N (dp (N - 1))) with e | e
    · exact e
    · obtain ⟨p1, p2, p3, p4⟩ := h.2.1 _ e q1
      omega
  rw [this]
  exact h.1.2.1
/-- nothing that was found before the way's own spots leads to the end so quickly -/
theorem chn_no (h : BI n ks B st N Qs par cb dp) (hL : ∀ t, t < N - 1 → Qs t / 12 ≠ n - 1) : ∀ k, k ≤ dp (N - 1) → ∀ t, t < chn par N k → ¬ can n ks B k (Qs t)
  | 0, _, t, ht => fun q => hL t ht q
  | k + 1, hk, t, ht => by
    rintro ⟨c, hm, hc⟩
    obtain ⟨q1, q2⟩ := chn_dp h k (by omega)
    have h0 := chn_pos h (k := k) (by omega)
    obtain ⟨t', p1, p2⟩ := h.2.2.2.2 _ h0 q1 t c (Or.inl ht) hm
    rw [← p2] at hc
    exact chn_no h hL k (by omega) t' p1 hc
theorem chn_can (h : BI n ks B st N Qs par cb dp) (hE : Qs (N - 1) / 12 = n - 1) : ∀ k, k ≤ dp (N - 1) → can n ks B k (Qs (chn par N k))
  | 0, _ => hE
  | k + 1, hk => by
    obtain ⟨q1, q2⟩ := chn_dp h k (by omega)
    have h0 := chn_pos h (k := k) (by omega)
    obtain ⟨p1, p2, p3, p4⟩ := h.2.1 _ h0 q1
    exact ⟨cb (chn par N k), p2, by rw [show tv ks (Qs (chn par N (k + 1))) (cb (chn par N k)) = Qs (chn par N k) from p3.symm]; exact chn_can h hE k (by omega)⟩
theorem chn_fst (h : BI n ks B st N Qs par cb dp) (hE : Qs (N - 1) / 12 = n - 1) (hL : ∀ t, t < N - 1 → Qs t / 12 ≠ n - 1) {k : Nat} (hk : k + 1 ≤ dp (N - 1)) : fst1 n ks B k (Qs (chn par N (k + 1))) (cb (chn par N k)) ∧ tv ks (Qs (chn par N (k + 1))) (cb (chn par N k)) = Qs (chn par N k) := by
  obtain ⟨q1, q2⟩ := chn_dp h k (by omega)
  have h0 := chn_pos h (k := k) (by omega)
  obtain ⟨p1, p2, p3, p4⟩ := h.2.1 _ h0 q1
  refine ⟨⟨p2, ?_, fun c' hc' => ?_⟩, p3.symm⟩
  · rw [show tv ks (Qs (chn par N (k + 1))) (cb (chn par N k)) = Qs (chn par N k) from p3.symm]
    exact chn_can h hE k (by omega)
  · rintro ⟨hm, hc⟩
    obtain ⟨t', r1, r2⟩ := h.2.2.2.2 _ h0 q1 (par (chn par N k)) c' (Or.inr ⟨rfl, hc'⟩) hm
    rw [show tv ks (Qs (chn par N (k + 1))) c' = tv ks (Qs (par (chn par N k))) c' from rfl, ← r2] at hc
    exact chn_no h hL k (by omega) t' r1 hc
theorem chn_LWy (h : BI n ks B st N Qs par cb dp) (hE : Qs (N - 1) / 12 = n - 1) (hL : ∀ t, t < N - 1 → Qs t / 12 ≠ n - 1) : ∀ j k, j + 1 ≤ k → k ≤ dp (N - 1) → LWy n ks B k (Qs (chn par N k)) (j + 1) (cb (chn par N (k - (j + 1))))
  | _, 0, h1, _ => by omega
  | 0, k + 1, _, hk => (chn_fst h hE hL hk).1
  | j + 1, k + 1, h1, hk => by
    obtain ⟨a, b⟩ := chn_fst h hE hL hk
    refine ⟨_, a, ?_⟩
    rw [b, show k + 1 - (j + 1 + 1) = k - (j + 1) by omega]
    exact chn_LWy h hE hL j k (by omega) (by omega)
/-- found: so few, and by which steps -/
theorem bfs_yes (h : BI n ks B st N Qs par cb dp) (hE : Qs (N - 1) / 12 = n - 1) (hL : ∀ t, t < N - 1 → Qs t / 12 ≠ n - 1) : can n ks B (dp (N - 1)) st ∧ (∀ k, k < dp (N - 1) → ¬ can n ks B k st) ∧ ∀ j, 1 ≤ j → j ≤ dp (N - 1) → LWy n ks B (dp (N - 1)) st j (cb (chn par N (dp (N - 1) - j))) := by
  have e := chn_end h
  refine ⟨?_, fun k hk hc => ?_, fun j h1 h2 => ?_⟩
  · have := chn_can h hE _ (Nat.le_refl _)
    rw [e] at this
    exact this
  · rw [← h.1.2.1] at hc
    exact chn_no h hL k (by omega) 0 (chn_pos h hk) hc
  · obtain ⟨j', rfl⟩ : ∃ j', j = j' + 1 := ⟨j - 1, by omega⟩
    have := chn_LWy h hE hL j' _ h2 (Nat.le_refl _)
    rw [e] at this
    exact this
theorem bfs_dp (h : BI n ks B st N Qs par cb dp) {t t' c : Nat} (ht : t < N) (ht' : t' < N) (hm : vm n ks B (Qs t) c) (e : Qs t' = tv ks (Qs t) c) : dp t' ≤ dp t + 1 := by
  rcases Nat.lt_or_ge (dp t + 1) (dp t') with q | q
  · exfalso
    have h0 : 0 < t' := by
      rcases Nat.eq_zero_or_pos t' with e | e
      · rw [e, h.1.2.2] at q; omega
      · exact e
    obtain ⟨p1, p2, p3, p4⟩ := h.2.1 _ h0 ht'
    have hlt : t < par t' := by
      rcases Nat.lt_or_ge t (par t') with r | r
      · exact r
      · have := h.2.2.2.1 (par t') t r ht
        omega
    obtain ⟨t'', r1, r2⟩ := h.2.2.2.2 _ h0 ht' t c (Or.inl hlt) hm
    have := h.2.2.1 t'' t' (by omega) ht' (by rw [r2, e])
    omega
  · exact q
/-- nothing found -/
theorem bfs_no (h : BI n ks B st N Qs par cb dp) (hN : BN n ks B N Qs dp N 0) (hL : ∀ t, t < N → Qs t / 12 ≠ n - 1) : ∀ k t, t < N → dp t + k ≤ 40 → ¬ can n ks B k (Qs t)
  | 0, t, ht, _ => fun q => hL t ht q
  | k + 1, t, ht, hk => by
    rintro ⟨c, hm, hc⟩
    obtain ⟨t', p1, p2⟩ := hN t c (Or.inl ht) ht (by omega) hm
    rw [← p2] at hc
    have := bfs_dp h ht p1 hm p2
    exact bfs_no h hN hL k t' p1 (by omega) hc
theorem bfs_not (h : BI n ks B st N Qs par cb dp) (hN : BN n ks B N Qs dp N 0) (hL : ∀ t, t < N → Qs t / 12 ≠ n - 1) : ∀ k, k ≤ 40 → ¬ can n ks B k st := by
  intro k hk
  have := bfs_no h hN hL k 0 h.1.1 (by rw [h.1.2.2]; omega)
  rw [h.1.2.1] at this
  exact this
end BFS
/-- more things than places (began as a row of the kit's laws) -/
theorem fb_holes : ∀ (m n : Nat) (f : Nat → Nat), (∀ i, i < n → f i < m) → (∀ i j, i < j → j < n → f i ≠ f j) → n ≤ m := by
  intro m
  induction m with
  | zero =>
    intro n f h1 h2
    rcases Nat.eq_zero_or_pos n with e | e
    · omega
    · exact absurd (h1 0 e) (Nat.not_lt_zero _)
  | succ m ih =>
    intro n f h1 h2
    by_cases hx : ∃ i, i < n ∧ f i = m
    · obtain ⟨i0, hi0, e0⟩ := hx
      have := ih (n - 1) (fun i => f (if i < i0 then i else i + 1)) (fun i hi => ?_) (fun i j hij hj => ?_)
      · omega
      · have a : (if i < i0 then i else i + 1) < n := by split <;> omega
        have b := h1 _ a
        have c : f (if i < i0 then i else i + 1) ≠ m := by
          intro q
          rcases Nat.lt_trichotomy (if i < i0 then i else i + 1) i0 with z | z | z
          · exact h2 _ _ z hi0 (q.trans e0.symm)
          · split at z <;> omega
          · exact h2 _ _ z a (e0.trans q.symm)
        show f (if i < i0 then i else i + 1) < m
        omega
      · refine h2 _ _ ?_ ?_
        · split <;> split <;> omega
        · split <;> omega
    · refine Nat.le_succ_of_le (ih n f (fun i hi => ?_) h2)
      have a := h1 i hi
      have b : f i ≠ m := fun q => hx ⟨i, hi, q⟩
      omega
