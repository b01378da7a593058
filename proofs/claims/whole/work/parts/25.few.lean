/-! the model's own way: how few from every spot, made less until nothing is less -/
def vD (n : Nat) (ks : Nat → Nat) (B : Nat) (d : Nat → Nat) : Prop := (∀ u, u < 144 → d u ≤ 268435456) ∧ (∀ u, u < 144 → d u < 268435456 → can n ks B (d u) u) ∧ (∀ u, u < 144 → u / 12 = n - 1 → d u = 0)
def fx (n : Nat) (ks : Nat → Nat) (B : Nat) (d : Nat → Nat) (u : Nat) : Prop := ∀ c, vm n ks B u c → d u ≤ d (tv ks u c) + 1
def smD (d : Nat → Nat) : Nat → Nat
  | 0 => 0
  | N + 1 => smD d N + d N
theorem smD_le {d d' : Nat → Nat} : ∀ {N : Nat}, (∀ j, j < N → d' j ≤ d j) → smD d' N ≤ smD d N
  | 0, _ => Nat.le_refl _
  | N + 1, h => by
    have h1 := smD_le (N := N) (fun j hj => h j (by omega))
    have h2 := h N (by omega)
    simp only [smD]
    omega
theorem smD_lt {d d' : Nat → Nat} {u : Nat} : ∀ {N : Nat}, (∀ j, j < N → d' j ≤ d j) → u < N → d' u < d u → smD d' N < smD d N
  | 0, _, h, _ => by omega
  | N + 1, h, hu, hl => by
    have h2 := h N (by omega)
    simp only [smD]
    by_cases e : u = N
    · subst e
      have h1 := smD_le (N := u) (fun j hj => h j (by omega))
      omega
    · have h1 := smD_lt (N := N) (fun j hj => h j (by omega)) (by omega) hl
      omega
theorem vm_in {n : Nat} {ks : Nat → Nat} {B u c : Nat} (hB : B ≤ 11) (hn : n ≤ 12) (h : vm n ks B u c) : tv ks u c < 144 ∧ tv ks u c / 12 < n ∧ tv ks u c % 12 ≤ B := by
  obtain ⟨e1, e2⟩ := tv_d hB h.2.2
  have := h.2.1
  have := h.2.2
  refine ⟨?_, by omega, by omega⟩
  simp only [tv]
  omega
theorem vD_upd {n : Nat} {ks : Nat → Nat} {B u c : Nat} {d : Nat → Nat} (hB : B ≤ 11) (hn : n ≤ 12) (h : vD n ks B d) (hu : u < 144) (hp : u / 12 ≠ n - 1) (hm : vm n ks B u c) (hx : d (tv ks u c) + 1 < d u) : vD n ks B (ap d u (d (tv ks u c) + 1)) := by
  obtain ⟨h1, h2, h3⟩ := h
  have hu1 := h1 u hu
  refine ⟨fun v hv => ?_, fun v hv hl => ?_, fun v hv he => ?_⟩
  · by_cases e : v = u
    · subst e; rw [ap_eq]; omega
    · rw [ap_ne e]; exact h1 v hv
  · by_cases e : v = u
    · subst e
      rw [ap_eq]
      exact ⟨c, hm, h2 _ (vm_in hB hn hm).1 (by omega)⟩
    · rw [ap_ne e] at hl ⊢
      exact h2 v hv hl
  · by_cases e : v = u
    · subst e; exact absurd he hp
    · rw [ap_ne e]; exact h3 v hv he
/-- nothing is less any more: these are the distances -/
theorem bf_le {n : Nat} {ks : Nat → Nat} {B : Nat} {d : Nat → Nat} (hB : B ≤ 11) (hn : n ≤ 12) (h : vD n ks B d) (hf : ∀ u, u < 144 → u / 12 + 1 < n → u % 12 ≤ B → fx n ks B d u) : ∀ k u, u < 144 → u / 12 < n → u % 12 ≤ B → can n ks B k u → d u ≤ k
  | 0, u, hu, _, _, hc => by rw [h.2.2 u hu hc]; exact Nat.le_refl _
  | k + 1, u, hu, h1, h2, ⟨c, hm, hc⟩ => by
    obtain ⟨e1, e2, e3⟩ := vm_in hB hn hm
    have ih := bf_le hB hn h hf k _ e1 e2 e3 hc
    by_cases hl : u / 12 = n - 1
    · rw [h.2.2 u hu hl]; omega
    · have := hf u hu (by omega) h2 c hm
      omega
theorem bf_DD {n : Nat} {ks : Nat → Nat} {B : Nat} {d : Nat → Nat} (hB : B ≤ 11) (hn : n ≤ 12) (h : vD n ks B d) (hf : ∀ u, u < 144 → u / 12 + 1 < n → u % 12 ≤ B → fx n ks B d u) {u : Nat} (hu : u < 144) (h1 : u / 12 < n) (h2 : u % 12 ≤ B) : (d u ≤ 40 → DD n ks B u = d u) ∧ (40 < d u → DD n ks B u = 41) := by
  refine ⟨fun hl => DD_yes hl (h.2.1 u hu (by omega)) (fun k hk hc => ?_), fun hl => DD_no (fun k hk hc => ?_)⟩
  · have := bf_le hB hn h hf k u hu h1 h2 hc
    omega
  · have := bf_le hB hn h hf k u hu h1 h2 hc
    omega
theorem bf_fst {n : Nat} {ks : Nat → Nat} {B : Nat} {d : Nat → Nat} (hB : B ≤ 11) (hn : n ≤ 12) (h : vD n ks B d) (hf : ∀ u, u < 144 → u / 12 + 1 < n → u % 12 ≤ B → fx n ks B d u) {u k : Nat} (hu : u < 144) (h1 : u / 12 + 1 < n) (h2 : u % 12 ≤ B) (hd : d u = k + 1) (hk : k < 1000) {c : Nat} : (vm n ks B u c ∧ can n ks B k (tv ks u c)) ↔ (vm n ks B u c ∧ d (tv ks u c) = k) := by
  constructor
  · rintro ⟨hm, hc⟩
    obtain ⟨e1, e2, e3⟩ := vm_in hB hn hm
    have a := bf_le hB hn h hf k _ e1 e2 e3 hc
    have b := hf u hu h1 h2 c hm
    exact ⟨hm, by omega⟩
  · rintro ⟨hm, hc⟩
    have := h.2.1 _ (vm_in hB hn hm).1 (by omega)
    rw [hc] at this
    exact ⟨hm, this⟩
/-- the first way, from its start: the spot behind j steps -/
def PT (n : Nat) (ks : Nat → Nat) (B : Nat) : Nat → Nat → Nat → Nat → Prop
  | 0, _, u, v => u = v
  | _ + 1, 0, _, _ => False
  | j + 1, d + 1, u, v => ∃ c, fst1 n ks B d u c ∧ PT n ks B j d (tv ks u c) v
theorem PT_snoc {n : Nat} {ks : Nat → Nat} {B : Nat} : ∀ (j d u v c : Nat), PT n ks B j d u v → j + 1 ≤ d → fst1 n ks B (d - j - 1) v c → PT n ks B (j + 1) d u (tv ks v c) ∧ LWy n ks B d u (j + 1) c
  | 0, 0, u, v, c, _, hd, _ => by omega
  | 0, d + 1, u, v, c, hp, _, hf => by
    have hp : u = v := hp
    subst hp
    exact ⟨⟨c, hf, rfl⟩, hf⟩
  | j + 1, 0, _, _, _, hp, _, _ => hp.elim
  | j + 1, d + 1, u, v, c, ⟨c0, hp1, hp2⟩, hd, hf => by
    rw [show d + 1 - (j + 1) - 1 = d - j - 1 by omega] at hf
    obtain ⟨a, b⟩ := PT_snoc j d (tv ks u c0) v c hp2 (by omega) hf
    exact ⟨⟨c0, hp1, a⟩, ⟨c0, hp1, b⟩⟩
set_option maxRecDepth 100000 in
set_option maxHeartbeats 4000000 in
theorem M_fewBy {h : AH} {K : Option Value → AH → Prop} {I : Nat → Int32} {sd hh : Int64} {F : AF} (g : MH h I sd hh F) {n : Nat} {ks : Nat → Nat} (e1 : I 1 = nI n) (hn12 : n ≤ 12) (rk : ∀ j, j < n → F 0 j = nI (ks j)) (ok2 : ∀ j, j < n → ks j ≤ 4) {d : Nat → Nat} (hF : ∀ j, j < 144 → F 6 j = nI (d j)) (hdl : ∀ j, j < 144 → d j ≤ 268435456) {B : Nat} (hB : B ≤ 11) (p s c : Nat) (hp : p < n) (hs : s ≤ B) (hc : c ≤ 3) (h1 : vm n ks B (12 * p + s) c → K (some (.int (nI (d (tv ks (12 * p + s) c) + 1)))) h) (h0 : ¬ vm n ks B (12 * p + s) c → K (some (.int (nI 268435456))) h) : aX7_fewBy 2 [.ref 34, .int (nI p), .int (nI s), .int (nI c), .int (nI B)] h K := by
  obtain ⟨g0, a0, a1, a2, a3, a4, a5, a6, -⟩ := id g
  have eu1 : (12 * p + s) / 12 = p := by omega
  have eu2 : (12 * p + s) % 12 = s := by omega
  refine AM.of [some (.ref 34), some (.int (nI p)), some (.int (nI s)), some (.int (nI c)), some (.int (nI B)), none] pn_X7_fewBy rfl (Nat.le_of_ble_eq_true rfl) (fun X hX hE => ?_)
  refine AW_aload_n 1 hX dX7_fewBy_0 rfl rfl ?_
  refine AW_iload_n 2 hX dX7_fewBy_1 rfl rfl ?_
  refine AW_iload_n 3 hX dX7_fewBy_2 rfl rfl ?_
  refine AW_iadd 4 hX dX7_fewBy_3 rfl ?_
  rw [nI_add]
  refine AW_cV (As := [_]) 7 hX dX7_fewBy_4 rfl ml_X7_104 mw_X7_isPlace (by first | assumption | exact hset_eq | exact (hset_ne (by omega)).trans (by first | assumption | exact hset_eq | exact (hset_ne (by omega)).trans (by first | assumption | exact hset_eq | exact (hset_ne (by omega)).trans (by first | assumption | exact hset_eq | exact (hset_ne (by omega)).trans (by first | assumption | exact hset_eq))))) (by decide) rfl rfl rfl (Nat.le_of_ble_eq_true rfl) (by decide) ⟨(Nat.le_refl _), (Nat.le_refl _)⟩ (M_isPlace g e1 hn12 _ (fun q hq eq => ?_) (fun hno => ?_))
  · have hpc : p + c < n := by have := iEq eq; omega
    have hsa := sa_le (k := ks (p + c)) (s := s) hc
    refine AW_if_ne 10 13 hX dX7_fewBy_7 rfl (by decide) (fun c7 => ?_) (fun c7 => absurd c7 (by decide))
    refine AW_aload_n 14 hX dX7_fewBy_13 rfl rfl ?_
    refine AW_iload_n 15 hX dX7_fewBy_14 rfl rfl ?_
    refine AW_iload_n 16 hX dX7_fewBy_15 rfl rfl ?_
    refine AW_iadd 17 hX dX7_fewBy_16 rfl ?_
    rw [nI_add]
    refine AW_iload_n 18 hX dX7_fewBy_17 rfl rfl ?_
    refine AW_iload_n 19 hX dX7_fewBy_18 rfl rfl ?_
    refine AW_cV (As := [_, _, _]) 22 hX dX7_fewBy_19 rfl ml_X7_97 mw_X7_swayBy (by first | assumption | exact hset_eq | exact (hset_ne (by omega)).trans (by first | assumption | exact hset_eq | exact (hset_ne (by omega)).trans (by first | assumption | exact hset_eq | exact (hset_ne (by omega)).trans (by first | assumption | exact hset_eq | exact (hset_ne (by omega)).trans (by first | assumption | exact hset_eq))))) (by decide) rfl rfl rfl (Nat.le_of_ble_eq_true rfl) (by decide) ⟨(Nat.le_refl _), (Nat.le_refl _)⟩ (M_swayBy g (p := p + c) (by omega) (rk _ hpc) (ok2 _ hpc) c s (by omega) (by omega) ?_)
    refine AW_istore 24 hX dX7_fewBy_22 rfl (Nat.le_of_ble_eq_true rfl) rfl ?_
    refine AW_iload 26 hX dX7_fewBy_24 rfl rfl ?_
    refine AW_iload 28 hX dX7_fewBy_26 rfl rfl ?_
    refine AW_icmp_le 31 36 hX dX7_fewBy_28 rfl (by decide) (fun c28 => ?_) (fun c28 => ?_)
    · refine AW_aload_n 37 hX dX7_fewBy_36 rfl rfl ?_
      refine AW_get 40 hX dX7_fewBy_37 rfl fl_X7_29 (by first | assumption | exact hset_eq | exact (hset_ne (by omega)).trans (by first | assumption | exact hset_eq | exact (hset_ne (by omega)).trans (by first | assumption | exact hset_eq | exact (hset_ne (by omega)).trans (by first | assumption | exact hset_eq | exact (hset_ne (by omega)).trans (by first | assumption | exact hset_eq))))) rfl ?_
      refine AW_bipush 42 hX dX7_fewBy_40 rfl bp_12 ?_
      refine AW_iload_n 43 hX dX7_fewBy_42 rfl rfl ?_
      refine AW_iload_n 44 hX dX7_fewBy_43 rfl rfl ?_
      refine AW_iadd 45 hX dX7_fewBy_44 rfl ?_
      refine AW_imul 46 hX dX7_fewBy_45 rfl ?_
      refine AW_iload 48 hX dX7_fewBy_46 rfl rfl ?_
      refine AW_iadd 49 hX dX7_fewBy_48 rfl ?_
      rw [nI_add, show (12 : Int32) = nI 12 from rfl, pk_mul, nI_add]
      refine AW_iald 50 hX dX7_fewBy_49 rfl (by first | assumption | exact hset_eq | exact (hset_ne (by omega)).trans (by first | assumption | exact hset_eq | exact (hset_ne (by omega)).trans (by first | assumption | exact hset_eq | exact (hset_ne (by omega)).trans (by first | assumption | exact hset_eq | exact (hset_ne (by omega)).trans (by first | assumption | exact hset_eq))))) (j := tv ks (12 * p + s) c) (by have := iLe c28; simp only [tv, eu1, eu2]; omega) (by simp only [tv, eu1, eu2]) ?_
      refine AW_iconst 51 hX dX7_fewBy_50 rfl ic_1 ?_
      refine AW_iadd 52 hX dX7_fewBy_51 rfl ?_
      refine AW_iret hX hE dX7_fewBy_52 rfl (Nat.le_refl _) (Nat.le_refl _) ?_
      have hle := iLe c28
      have htv : tv ks (12 * p + s) c < 144 := by simp only [tv, eu1, eu2]; omega
      rw [hF _ htv, nI_1]
      exact h1 ⟨hc, by rw [eu1]; exact hpc, by rw [eu1, eu2]; exact hle⟩
    · refine AW_ldc 33 hX dX7_fewBy_31 rfl kc_X7_118 ?_
      refine AW_goto 52 hX dX7_fewBy_33 (by decide) ?_
      refine AW_iret hX hE dX7_fewBy_52 rfl (Nat.le_refl _) (Nat.le_refl _) ?_
      exact h0 (fun q => by have := q.2.2; rw [eu1, eu2] at this; have := iNle c28; omega)
  · refine AW_if_ne 10 13 hX dX7_fewBy_7 rfl (by decide) (fun c7 => absurd rfl c7) (fun c7 => ?_)
    refine AW_ldc 12 hX dX7_fewBy_10 rfl kc_X7_118 ?_
    refine AW_iret hX hE dX7_fewBy_12 rfl (Nat.le_refl _) (Nat.le_refl _) ?_
    exact h0 (fun q => by have := q.2.1; rw [eu1] at this; exact hno _ this rfl)
theorem fa_same (f : Nat → Int32) (i : Nat) : upd f i (f i) = f := by
  funext j
  simp only [upd]
  split
  next q => rw [q]
  next => rfl
set_option maxRecDepth 100000 in
set_option maxHeartbeats 4000000 in
theorem M_isShorter {h : AH} {K : Option Value → AH → Prop} {I : Nat → Int32} {sd hh : Int64} {F : AF} (g : MH h I sd hh F) {n : Nat} {ks : Nat → Nat} (e1 : I 1 = nI n) (hn12 : n ≤ 12) (rk : ∀ j, j < n → F 0 j = nI (ks j)) (ok2 : ∀ j, j < n → ks j ≤ 4) {d : Nat → Nat} (hF : ∀ j, j < 144 → F 6 j = nI (d j)) {B : Nat} (hB : B ≤ 11) (hv : vD n ks B d) (p s : Nat) (hp : p + 1 < n) (hs : s ≤ B) (hK : ∀ (h' : AH) (F' : AF) (d' : Nat → Nat) (b : Nat), MH h' I sd hh F' → (∀ k, k ≠ 6 → F' k = F k) → (∀ j, j < 144 → F' 6 j = nI (d' j)) → vD n ks B d' → (∀ j, j ≠ 12 * p + s → d' j = d j) → d' (12 * p + s) ≤ d (12 * p + s) → fx n ks B d' (12 * p + s) → (b = 1 → d' (12 * p + s) < d (12 * p + s)) → (b = 0 → d' (12 * p + s) = d (12 * p + s)) → b ≤ 1 → fr h h' 34 47 → K (some (.int (nI b))) h') : aX7_isShorter 3 [.ref 34, .int (nI p), .int (nI s), .int (nI B)] h K := by
  obtain ⟨g0, a0, a1, a2, a3, a4, a5, a6, -⟩ := id g
  have hu : 12 * p + s < 144 := by omega
  have hpl : (12 * p + s) / 12 ≠ n - 1 := by omega
  refine AM.of [some (.ref 34), some (.int (nI p)), some (.int (nI s)), some (.int (nI B)), none, none, none] pn_X7_isShorter rfl (Nat.le_of_ble_eq_true rfl) (fun X hX hE => ?_)
  have loop : ∀ e c, c + e = 4 → ∀ (h' : AH) (F' : AF) (d' : Nat → Nat) (z : Option Value), MH h' I sd hh F' → (∀ k, k ≠ 6 → F' k = F k) → (∀ j, j < 144 → F' 6 j = nI (d' j)) → vD n ks B d' → (∀ j, j ≠ 12 * p + s → d' j = d j) → d' (12 * p + s) ≤ d (12 * p + s) → (∀ c', c' < c → vm n ks B (12 * p + s) c' → d' (12 * p + s) ≤ d' (tv ks (12 * p + s) c') + 1) → fr h h' 34 47 → AW X 0 0 16 [some (.ref 34), some (.int (nI p)), some (.int (nI s)), some (.int (nI B)), some (.int (nI (d (12 * p + s)))), some (.int (nI c)), z] [] h' := by
    intro e
    induction e with
    | zero =>
      intro c hc h' F' d' z g' ef hF' hv' hd' hle hfx hfr
      obtain ⟨b0, c0, c1, c2, c3, c4, c5, c6, -⟩ := id g'
      have hdu := hv'.1 _ hu
      have hdu0 := hv.1 _ hu
      refine AW_iload 18 hX dX7_isShorter_16 rfl rfl ?_
      refine AW_iconst 19 hX dX7_isShorter_18 rfl ic_3 ?_
      refine AW_icmp_gt 22 82 hX dX7_isShorter_19 rfl (by decide) (fun c19 => ?_) (fun c19 => absurd (nI_lt (a := 3) (b := c) (by omega) (by omega)) c19)
      refine AW_aload_n 83 hX dX7_isShorter_82 rfl rfl ?_
      refine AW_get 86 hX dX7_isShorter_83 rfl fl_X7_29 (by first | assumption | exact hset_eq | exact (hset_ne (by omega)).trans (by first | assumption | exact hset_eq | exact (hset_ne (by omega)).trans (by first | assumption | exact hset_eq | exact (hset_ne (by omega)).trans (by first | assumption | exact hset_eq | exact (hset_ne (by omega)).trans (by first | assumption | exact hset_eq))))) rfl ?_
      refine AW_bipush 88 hX dX7_isShorter_86 rfl bp_12 ?_
      refine AW_iload_n 89 hX dX7_isShorter_88 rfl rfl ?_
      refine AW_imul 90 hX dX7_isShorter_89 rfl ?_
      refine AW_iload_n 91 hX dX7_isShorter_90 rfl rfl ?_
      refine AW_iadd 92 hX dX7_isShorter_91 rfl ?_
      rw [show (12 : Int32) = nI 12 from rfl, pk_mul, nI_add]
      refine AW_iald 93 hX dX7_isShorter_92 rfl (by first | assumption | exact hset_eq | exact (hset_ne (by omega)).trans (by first | assumption | exact hset_eq | exact (hset_ne (by omega)).trans (by first | assumption | exact hset_eq | exact (hset_ne (by omega)).trans (by first | assumption | exact hset_eq | exact (hset_ne (by omega)).trans (by first | assumption | exact hset_eq))))) (j := 12 * p + s) hu rfl ?_
      rw [hF' _ hu]
      refine AW_iload 95 hX dX7_isShorter_93 rfl rfl ?_
      refine AW_icmp_ge 98 102 hX dX7_isShorter_95 rfl (by decide) (fun c95 => ?_) (fun c95 => ?_)
      · refine AW_iconst 103 hX dX7_isShorter_102 rfl ic_0 ?_
        refine AW_iret hX hE dX7_isShorter_103 rfl (Nat.le_refl _) (Nat.le_refl _) ?_
        have := iLe c95
        exact hK h' F' d' 0 g' ef hF' hv' hd' hle (fun c' hm => hfx c' (by have := hm.1; omega) hm) (fun q => by omega) (fun _ => by omega) (by omega) hfr
      · refine AW_iconst 99 hX dX7_isShorter_98 rfl ic_1 ?_
        refine AW_goto 103 hX dX7_isShorter_99 (by decide) ?_
        refine AW_iret hX hE dX7_isShorter_103 rfl (Nat.le_refl _) (Nat.le_refl _) ?_
        have := iNle c95
        exact hK h' F' d' 1 g' ef hF' hv' hd' hle (fun c' hm => hfx c' (by have := hm.1; omega) hm) (fun _ => this) (fun q => by omega) (by omega) hfr
    | succ e ih =>
      intro c hc h' F' d' z g' ef hF' hv' hd' hle hfx hfr
      obtain ⟨b0, c0, c1, c2, c3, c4, c5, c6, -⟩ := id g'
      have hdu := hv'.1 _ hu
      have rk' : ∀ j, j < n → F' 0 j = nI (ks j) := fun j hj => by rw [ef 0 (by decide)]; exact rk j hj
      -- nothing less by this step
      have keep : ∀ (x : Int32) (z6 : Option Value), x = F' 6 (12 * p + s) → (vm n ks B (12 * p + s) c → d' (12 * p + s) ≤ d' (tv ks (12 * p + s) c) + 1) → AW X 0 0 75 [some (.ref 34), some (.int (nI p)), some (.int (nI s)), some (.int (nI B)), some (.int (nI (d (12 * p + s)))), some (.int (nI c)), z6] [.int x, .int (nI (12 * p + s)), .ref 41] h' := by
        intro x z6 ex hc1
        subst ex
        refine AW_iast 76 hX dX7_isShorter_75 rfl (by first | assumption | exact hset_eq | exact (hset_ne (by omega)).trans (by first | assumption | exact hset_eq | exact (hset_ne (by omega)).trans (by first | assumption | exact hset_eq | exact (hset_ne (by omega)).trans (by first | assumption | exact hset_eq | exact (hset_ne (by omega)).trans (by first | assumption | exact hset_eq))))) (j := 12 * p + s) hu rfl ?_
        try rw [hset_hset]
        refine AW_iinc 79 hX dX7_isShorter_76 rfl rfl (iincp ic_1) (Nat.le_of_ble_eq_true rfl) rfl ?_
        refine AW_goto 16 hX dX7_isShorter_79 (by decide) ?_
        rw [nI_1, fa_same (F' 6)]
        refine ih (c + 1) (by omega) _ (upF F' 6 (F' 6)) d' z6 (MH_arr6 g') (fun k hk => ?_) hF' hv' hd' hle (fun c' hc' hm => ?_) (fr_tr hfr (fr_set (by omega) (by omega)))
        · simp only [upF, if_neg hk]; exact ef k hk
        · by_cases e2 : c' = c
          · subst e2; exact hc1 hm
          · exact hfx c' (by omega) hm
      have less : ∀ (z6 : Option Value), vm n ks B (12 * p + s) c → d' (tv ks (12 * p + s) c) + 1 < d' (12 * p + s) → AW X 0 0 75 [some (.ref 34), some (.int (nI p)), some (.int (nI s)), some (.int (nI B)), some (.int (nI (d (12 * p + s)))), some (.int (nI c)), z6] [.int (nI (d' (tv ks (12 * p + s) c) + 1)), .int (nI (12 * p + s)), .ref 41] h' := by
        intro z6 hm hlt
        have htn : tv ks (12 * p + s) c ≠ 12 * p + s := fun q => by rw [q] at hlt; omega
        refine AW_iast 76 hX dX7_isShorter_75 rfl (by first | assumption | exact hset_eq | exact (hset_ne (by omega)).trans (by first | assumption | exact hset_eq | exact (hset_ne (by omega)).trans (by first | assumption | exact hset_eq | exact (hset_ne (by omega)).trans (by first | assumption | exact hset_eq | exact (hset_ne (by omega)).trans (by first | assumption | exact hset_eq))))) (j := 12 * p + s) hu rfl ?_
        try rw [hset_hset]
        refine AW_iinc 79 hX dX7_isShorter_76 rfl rfl (iincp ic_1) (Nat.le_of_ble_eq_true rfl) rfl ?_
        refine AW_goto 16 hX dX7_isShorter_79 (by decide) ?_
        rw [nI_1]
        refine ih (c + 1) (by omega) _ (upF F' 6 (upd (F' 6) (12 * p + s) (nI (d' (tv ks (12 * p + s) c) + 1)))) (ap d' (12 * p + s) (d' (tv ks (12 * p + s) c) + 1)) z6 (MH_arr6 g') (fun k hk => ?_) (fun j hj => ?_) (vD_upd hB hn12 hv' hu hpl hm hlt) (fun j hj => by rw [ap_ne hj]; exact hd' j hj) (by rw [ap_eq]; omega) (fun c' hc' hm' => ?_) (fr_tr hfr (fr_set (by omega) (by omega)))
        · simp only [upF, if_neg hk]; exact ef k hk
        · show upd (F' 6) (12 * p + s) (nI (d' (tv ks (12 * p + s) c) + 1)) j = _
          by_cases e2 : j = 12 * p + s
          · subst e2; rw [pk_us, ap_eq]
          · rw [pk_un e2, ap_ne e2]; exact hF' j hj
        · rw [ap_eq]
          by_cases e2 : c' = c
          · subst e2; rw [ap_ne htn]; exact Nat.le_refl _
          · have h5 := hfx c' (by omega) hm'
            by_cases e3 : tv ks (12 * p + s) c' = 12 * p + s
            · rw [e3, ap_eq]; omega
            · rw [ap_ne e3]; omega
      refine AW_iload 18 hX dX7_isShorter_16 rfl rfl ?_
      refine AW_iconst 19 hX dX7_isShorter_18 rfl ic_3 ?_
      refine AW_icmp_gt 22 82 hX dX7_isShorter_19 rfl (by decide) (fun c19 => absurd c19 (nI_nlt (a := 3) (b := c) (by omega) (by omega))) (fun c19 => ?_)
      refine AW_aload_n 23 hX dX7_isShorter_22 rfl rfl ?_
      refine AW_iload_n 24 hX dX7_isShorter_23 rfl rfl ?_
      refine AW_iload_n 25 hX dX7_isShorter_24 rfl rfl ?_
      refine AW_iload 27 hX dX7_isShorter_25 rfl rfl ?_
      refine AW_iload_n 28 hX dX7_isShorter_27 rfl rfl ?_
      refine AW_cV (As := [_, _, _, _]) 31 hX dX7_isShorter_28 rfl ml_X7_119 mw_X7_fewBy (by first | assumption | exact hset_eq | exact (hset_ne (by omega)).trans (by first | assumption | exact hset_eq | exact (hset_ne (by omega)).trans (by first | assumption | exact hset_eq | exact (hset_ne (by omega)).trans (by first | assumption | exact hset_eq | exact (hset_ne (by omega)).trans (by first | assumption | exact hset_eq))))) (by decide) rfl rfl rfl (Nat.le_of_ble_eq_true rfl) (by decide) ⟨(Nat.le_refl _), (Nat.le_refl _)⟩ (M_fewBy g' e1 hn12 rk' ok2 hF' hv'.1 hB p s c (by omega) hs (by omega) (fun hm => ?_) (fun hm => ?_))
      · have htl := hv'.1 _ (vm_in hB hn12 hm).1
        refine AW_istore 33 hX dX7_isShorter_31 rfl (Nat.le_of_ble_eq_true rfl) rfl ?_
        refine AW_aload_n 34 hX dX7_isShorter_33 rfl rfl ?_
        refine AW_get 37 hX dX7_isShorter_34 rfl fl_X7_29 (by first | assumption | exact hset_eq | exact (hset_ne (by omega)).trans (by first | assumption | exact hset_eq | exact (hset_ne (by omega)).trans (by first | assumption | exact hset_eq | exact (hset_ne (by omega)).trans (by first | assumption | exact hset_eq | exact (hset_ne (by omega)).trans (by first | assumption | exact hset_eq))))) rfl ?_
        refine AW_bipush 39 hX dX7_isShorter_37 rfl bp_12 ?_
        refine AW_iload_n 40 hX dX7_isShorter_39 rfl rfl ?_
        refine AW_imul 41 hX dX7_isShorter_40 rfl ?_
        refine AW_iload_n 42 hX dX7_isShorter_41 rfl rfl ?_
        refine AW_iadd 43 hX dX7_isShorter_42 rfl ?_
        rw [show (12 : Int32) = nI 12 from rfl, pk_mul, nI_add]
        refine AW_iload 45 hX dX7_isShorter_43 rfl rfl ?_
        refine AW_aload_n 46 hX dX7_isShorter_45 rfl rfl ?_
        refine AW_get 49 hX dX7_isShorter_46 rfl fl_X7_29 (by first | assumption | exact hset_eq | exact (hset_ne (by omega)).trans (by first | assumption | exact hset_eq | exact (hset_ne (by omega)).trans (by first | assumption | exact hset_eq | exact (hset_ne (by omega)).trans (by first | assumption | exact hset_eq | exact (hset_ne (by omega)).trans (by first | assumption | exact hset_eq))))) rfl ?_
        refine AW_bipush 51 hX dX7_isShorter_49 rfl bp_12 ?_
        refine AW_iload_n 52 hX dX7_isShorter_51 rfl rfl ?_
        refine AW_imul 53 hX dX7_isShorter_52 rfl ?_
        refine AW_iload_n 54 hX dX7_isShorter_53 rfl rfl ?_
        refine AW_iadd 55 hX dX7_isShorter_54 rfl ?_
        rw [show (12 : Int32) = nI 12 from rfl, pk_mul, nI_add]
        refine AW_iald 56 hX dX7_isShorter_55 rfl (by first | assumption | exact hset_eq | exact (hset_ne (by omega)).trans (by first | assumption | exact hset_eq | exact (hset_ne (by omega)).trans (by first | assumption | exact hset_eq | exact (hset_ne (by omega)).trans (by first | assumption | exact hset_eq | exact (hset_ne (by omega)).trans (by first | assumption | exact hset_eq))))) (j := 12 * p + s) hu rfl ?_
        rw [hF' _ hu]
        refine AW_icmp_ge 59 64 hX dX7_isShorter_56 rfl (by decide) (fun c56 => ?_) (fun c56 => ?_)
        · refine AW_aload_n 65 hX dX7_isShorter_64 rfl rfl ?_
          refine AW_get 68 hX dX7_isShorter_65 rfl fl_X7_29 (by first | assumption | exact hset_eq | exact (hset_ne (by omega)).trans (by first | assumption | exact hset_eq | exact (hset_ne (by omega)).trans (by first | assumption | exact hset_eq | exact (hset_ne (by omega)).trans (by first | assumption | exact hset_eq | exact (hset_ne (by omega)).trans (by first | assumption | exact hset_eq))))) rfl ?_
          refine AW_bipush 70 hX dX7_isShorter_68 rfl bp_12 ?_
          refine AW_iload_n 71 hX dX7_isShorter_70 rfl rfl ?_
          refine AW_imul 72 hX dX7_isShorter_71 rfl ?_
          refine AW_iload_n 73 hX dX7_isShorter_72 rfl rfl ?_
          refine AW_iadd 74 hX dX7_isShorter_73 rfl ?_
          rw [show (12 : Int32) = nI 12 from rfl, pk_mul, nI_add]
          refine AW_iald 75 hX dX7_isShorter_74 rfl (by first | assumption | exact hset_eq | exact (hset_ne (by omega)).trans (by first | assumption | exact hset_eq | exact (hset_ne (by omega)).trans (by first | assumption | exact hset_eq | exact (hset_ne (by omega)).trans (by first | assumption | exact hset_eq | exact (hset_ne (by omega)).trans (by first | assumption | exact hset_eq))))) (j := 12 * p + s) hu rfl ?_
          exact keep _ _ rfl (fun _ => iLe c56)
        · refine AW_iload 61 hX dX7_isShorter_59 rfl rfl ?_
          refine AW_goto 75 hX dX7_isShorter_61 (by decide) ?_
          exact less _ hm (iNle c56)
      · refine AW_istore 33 hX dX7_isShorter_31 rfl (Nat.le_of_ble_eq_true rfl) rfl ?_
        refine AW_aload_n 34 hX dX7_isShorter_33 rfl rfl ?_
        refine AW_get 37 hX dX7_isShorter_34 rfl fl_X7_29 (by first | assumption | exact hset_eq | exact (hset_ne (by omega)).trans (by first | assumption | exact hset_eq | exact (hset_ne (by omega)).trans (by first | assumption | exact hset_eq | exact (hset_ne (by omega)).trans (by first | assumption | exact hset_eq | exact (hset_ne (by omega)).trans (by first | assumption | exact hset_eq))))) rfl ?_
        refine AW_bipush 39 hX dX7_isShorter_37 rfl bp_12 ?_
        refine AW_iload_n 40 hX dX7_isShorter_39 rfl rfl ?_
        refine AW_imul 41 hX dX7_isShorter_40 rfl ?_
        refine AW_iload_n 42 hX dX7_isShorter_41 rfl rfl ?_
        refine AW_iadd 43 hX dX7_isShorter_42 rfl ?_
        rw [show (12 : Int32) = nI 12 from rfl, pk_mul, nI_add]
        refine AW_iload 45 hX dX7_isShorter_43 rfl rfl ?_
        refine AW_aload_n 46 hX dX7_isShorter_45 rfl rfl ?_
        refine AW_get 49 hX dX7_isShorter_46 rfl fl_X7_29 (by first | assumption | exact hset_eq | exact (hset_ne (by omega)).trans (by first | assumption | exact hset_eq | exact (hset_ne (by omega)).trans (by first | assumption | exact hset_eq | exact (hset_ne (by omega)).trans (by first | assumption | exact hset_eq | exact (hset_ne (by omega)).trans (by first | assumption | exact hset_eq))))) rfl ?_
        refine AW_bipush 51 hX dX7_isShorter_49 rfl bp_12 ?_
        refine AW_iload_n 52 hX dX7_isShorter_51 rfl rfl ?_
        refine AW_imul 53 hX dX7_isShorter_52 rfl ?_
        refine AW_iload_n 54 hX dX7_isShorter_53 rfl rfl ?_
        refine AW_iadd 55 hX dX7_isShorter_54 rfl ?_
        rw [show (12 : Int32) = nI 12 from rfl, pk_mul, nI_add]
        refine AW_iald 56 hX dX7_isShorter_55 rfl (by first | assumption | exact hset_eq | exact (hset_ne (by omega)).trans (by first | assumption | exact hset_eq | exact (hset_ne (by omega)).trans (by first | assumption | exact hset_eq | exact (hset_ne (by omega)).trans (by first | assumption | exact hset_eq | exact (hset_ne (by omega)).trans (by first | assumption | exact hset_eq))))) (j := 12 * p + s) hu rfl ?_
        rw [hF' _ hu]
        refine AW_icmp_ge 59 64 hX dX7_isShorter_56 rfl (by decide) (fun c56 => ?_) (fun c56 => ?_)
        · refine AW_aload_n 65 hX dX7_isShorter_64 rfl rfl ?_
          refine AW_get 68 hX dX7_isShorter_65 rfl fl_X7_29 (by first | assumption | exact hset_eq | exact (hset_ne (by omega)).trans (by first | assumption | exact hset_eq | exact (hset_ne (by omega)).trans (by first | assumption | exact hset_eq | exact (hset_ne (by omega)).trans (by first | assumption | exact hset_eq | exact (hset_ne (by omega)).trans (by first | assumption | exact hset_eq))))) rfl ?_
          refine AW_bipush 70 hX dX7_isShorter_68 rfl bp_12 ?_
          refine AW_iload_n 71 hX dX7_isShorter_70 rfl rfl ?_
          refine AW_imul 72 hX dX7_isShorter_71 rfl ?_
          refine AW_iload_n 73 hX dX7_isShorter_72 rfl rfl ?_
          refine AW_iadd 74 hX dX7_isShorter_73 rfl ?_
          rw [show (12 : Int32) = nI 12 from rfl, pk_mul, nI_add]
          refine AW_iald 75 hX dX7_isShorter_74 rfl (by first | assumption | exact hset_eq | exact (hset_ne (by omega)).trans (by first | assumption | exact hset_eq | exact (hset_ne (by omega)).trans (by first | assumption | exact hset_eq | exact (hset_ne (by omega)).trans (by first | assumption | exact hset_eq | exact (hset_ne (by omega)).trans (by first | assumption | exact hset_eq))))) (j := 12 * p + s) hu rfl ?_
          exact keep _ _ rfl (fun q => absurd q hm)
        · refine AW_iload 61 hX dX7_isShorter_59 rfl rfl ?_
          refine AW_goto 75 hX dX7_isShorter_61 (by decide) ?_
          exact absurd (nI_le hdu (by decide)) c56
  refine AW_aload_n 1 hX dX7_isShorter_0 rfl rfl ?_
  refine AW_get 4 hX dX7_isShorter_1 rfl fl_X7_29 (by first | assumption | exact hset_eq | exact (hset_ne (by omega)).trans (by first | assumption | exact hset_eq | exact (hset_ne (by omega)).trans (by first | assumption | exact hset_eq | exact (hset_ne (by omega)).trans (by first | assumption | exact hset_eq | exact (hset_ne (by omega)).trans (by first | assumption | exact hset_eq))))) rfl ?_
  refine AW_bipush 6 hX dX7_isShorter_4 rfl bp_12 ?_
  refine AW_iload_n 7 hX dX7_isShorter_6 rfl rfl ?_
  refine AW_imul 8 hX dX7_isShorter_7 rfl ?_
  refine AW_iload_n 9 hX dX7_isShorter_8 rfl rfl ?_
  refine AW_iadd 10 hX dX7_isShorter_9 rfl ?_
  rw [show (12 : Int32) = nI 12 from rfl, pk_mul, nI_add]
  refine AW_iald 11 hX dX7_isShorter_10 rfl (by first | assumption | exact hset_eq | exact (hset_ne (by omega)).trans (by first | assumption | exact hset_eq | exact (hset_ne (by omega)).trans (by first | assumption | exact hset_eq | exact (hset_ne (by omega)).trans (by first | assumption | exact hset_eq | exact (hset_ne (by omega)).trans (by first | assumption | exact hset_eq))))) (j := 12 * p + s) hu rfl ?_
  rw [hF _ hu]
  refine AW_istore 13 hX dX7_isShorter_11 rfl (Nat.le_of_ble_eq_true rfl) rfl ?_
  refine AW_iconst 14 hX dX7_isShorter_13 rfl ic_0 ?_
  refine AW_istore 16 hX dX7_isShorter_14 rfl (Nat.le_of_ble_eq_true rfl) rfl ?_
  exact loop 4 0 (by omega) h F d none g (fun _ _ => rfl) hF hv (fun _ _ => rfl) (Nat.le_refl _) (fun c' hc' => by omega) (fr_rf _ _ _)
