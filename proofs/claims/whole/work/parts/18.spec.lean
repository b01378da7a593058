/-! WHAT EACH CALL ANSWERS, and what the state is then: one mathematical value for both sides -/
noncomputable def cif {α : Sort _} (p : Prop) (a b : α) : α := @ite α p (Classical.propDecidable p) a b
theorem cif_pos {α : Sort _} {p : Prop} {a b : α} (h : p) : cif p a b = a := if_pos h
theorem cif_neg {α : Sort _} {p : Prop} {a b : α} (h : ¬ p) : cif p a b = b := if_neg h
/-- the first number from k on, of d, that has P; k + d, if there is none -/
noncomputable def lsF (P : Nat → Prop) : Nat → Nat → Nat
  | 0, k => k
  | d + 1, k => cif (P k) k (lsF P d (k + 1))
theorem lsF_no (P : Nat → Prop) : ∀ d k, (∀ j, k ≤ j → j < k + d → ¬ P j) → lsF P d k = k + d
  | 0, k, _ => rfl
  | d + 1, k, h => by
    rw [lsF, cif_neg (h k (Nat.le_refl _) (by omega)), lsF_no P d (k + 1) (fun j h1 h2 => h j (by omega) (by omega))]
    omega
theorem lsF_yes (P : Nat → Prop) : ∀ d k x, k ≤ x → x < k + d → P x → (∀ j, k ≤ j → j < x → ¬ P j) → lsF P d k = x
  | 0, k, x, h1, h2, _, _ => by omega
  | d + 1, k, x, h1, h2, h3, h4 => by
    by_cases e : k = x
    · subst e
      rw [lsF, cif_pos h3]
    · rw [lsF, cif_neg (h4 k (Nat.le_refl _) (by omega))]
      exact lsF_yes P d (k + 1) x (by omega) (by omega) h3 (fun j a b => h4 j (by omega) b)
/-- in how few steps from the spot u; 41: not in 40 -/
noncomputable def DD (n : Nat) (ks : Nat → Nat) (B u : Nat) : Nat := lsF (fun k => can n ks B k u) 41 0
theorem DD_yes {n : Nat} {ks : Nat → Nat} {B u d : Nat} (hd : d ≤ 40) (h1 : can n ks B d u) (h2 : ∀ k, k < d → ¬ can n ks B k u) : DD n ks B u = d := lsF_yes _ 41 0 d (Nat.zero_le _) (by omega) h1 (fun j _ hj => h2 j hj)
theorem DD_no {n : Nat} {ks : Nat → Nat} {B u : Nat} (h : ∀ k, k ≤ 40 → ¬ can n ks B k u) : DD n ks B u = 41 := lsF_no _ 41 0 (fun j _ hj => h j (by omega))
noncomputable def dA (d : Nat) : Int32 := cif (d ≤ 40) (nI d) (-1)
/-- how far the j-th step of the first way is -/
noncomputable def lA (n : Nat) (ks : Nat → Nat) (B u j : Nat) : Int32 := cif (DD n ks B u ≤ 40 ∧ lsF (fun c => LWy n ks B (DD n ks B u) u j c) 4 0 < 4) (nI (lsF (fun c => LWy n ks B (DD n ks B u) u j c) 4 0)) (-1)
theorem LWy_le {n : Nat} {ks : Nat → Nat} {B : Nat} : ∀ (k u j c : Nat), LWy n ks B k u j c → c ≤ 3 ∧ j ≤ k ∧ 1 ≤ j
  | 0, _, 0, _, h => h.elim
  | 0, _, _ + 1, _, h => h.elim
  | _ + 1, _, 0, _, h => h.elim
  | k + 1, u, 1, c, h => ⟨h.1.1, by omega, by omega⟩
  | k + 1, u, j + 2, c, ⟨c0, _, h2⟩ => by
    have := LWy_le k _ (j + 1) c h2
    omega
theorem lA_yes {n : Nat} {ks : Nat → Nat} {B u j d c : Nat} (hD : DD n ks B u = d) (hd : d ≤ 40) (h : LWy n ks B d u j c) : lA n ks B u j = nI c := by
  have hc := LWy_le _ _ _ _ h
  have e : lsF (fun c => LWy n ks B (DD n ks B u) u j c) 4 0 = c := lsF_yes _ 4 0 c (Nat.zero_le _) (by omega) (by rw [hD]; exact h) (fun x _ hx q => by
    rw [hD] at q
    have := LWy_one _ _ _ _ _ h q
    omega)
  simp only [lA, e]
  exact cif_pos ⟨by omega, by omega⟩
theorem lA_no {n : Nat} {ks : Nat → Nat} {B u j : Nat} (h : DD n ks B u ≤ 40 → DD n ks B u < j) : lA n ks B u j = -1 := by
  simp only [lA]
  refine cif_neg (fun q => ?_)
  have e := lsF_no (fun c => LWy n ks B (DD n ks B u) u j c) 4 0 (fun c _ _ hc => by
    have := (LWy_le _ _ _ _ hc).2.1
    have := h q.1
    omega)
  have := q.2
  omega
/-- the greatest height, up to H -/
noncomputable def hiF (n : Nat) (ks : Nat → Nat) : Nat → Int32
  | 0 => -1
  | H + 1 => cif (DD n ks (12 - (H + 1)) 0 ≤ 40) (nI (H + 1)) (hiF n ks H)
/-- which place to mend, in how few steps then, among the first i -/
def kz (ks : Nat → Nat) (p : Nat) : Nat → Nat := fun j => if j = p then 0 else ks j
noncomputable def mnF (n : Nat) (ks : Nat → Nat) (B : Nat) : Nat → Int32 × Nat
  | 0 => (-1, DD n ks B 0)
  | i + 1 => cif (DD n (kz ks i) B 0 < (mnF n ks B i).2) (nI i, DD n (kz ks i) B 0) (mnF n ks B i)
noncomputable def mnS (x : Int32 × Nat) : Int32 := cif (x.1 = -1) (-1) (nI x.2)
/-! the state: (is an image kept, yards read, quick() done, letters, page, now, kept) -/
abbrev ST : Type := Nat × Nat × Nat × Nat × (Nat → Nat) × SV × SV
/-- a number that names a place -/
def isP (n : Nat) (x : Int32) : Prop := ∃ q, q < n ∧ x = nI q
def ab (ks : Nat → Nat) (hd : HD) (m q k : Nat) : Int32 := if k = 0 then nI (ks q) else if k = 4 then onS (ks q) + 2 else if k = 5 then tryC ks hd m q else nI (gw (ks q) k)
def cN (x : Int32) : Nat := x.toNatClampNeg
theorem cN_nI {q : Nat} (h : q < 2 ^ 31) : cN (nI q) = q := nI_clamp h
noncomputable def spLetter (S : ST) (x : Int32) : Int32 × ST := match S with
  | (kp, yd, qk, pm, pg, v, w) => cif (x < 32 ∨ 126 < x) (-102, S) (cif (pm = 16) (-104, S) (nI (pm + 1), (kp, yd, qk, pm + 1, fun j => if j = pm then cN x else pg j, v, w)))
def spBlank (S : ST) : Int32 × ST := match S with
  | (kp, yd, qk, pm, pg, v, w) => (nI pm, (kp, yd, qk, 0, pg, v, w))
def spFault (S : ST) : Int32 × ST := match S with
  | (_, _, _, pm, pg, _, _) => (nI (fw pm pg), S)
noncomputable def spYard (S : ST) : Int32 × ST := match S with
  | (_, yd, qk, pm, pg, v, w) => cif (pwh pm pg) (nI (plc pm pg), (0, yd + 1, qk, 0, pg, (plc pm pg, fun j => kn (pAt pm pg j), pAt pm pg (pm - 1) - 48, 0, 0, 0, 0, 0, v.2.2.2.2.2.2.2.2), w)) (-103, S)
noncomputable def spAbout (S : ST) (x y : Int32) : Int32 × ST := match S with
  | (_, _, _, _, _, (n, ks, _, _, _, _, _, m, hd), _) => (cif (isP n x) (cif (isP 6 y) (ab ks hd m (cN x) (cN y)) (-102)) (-101), S)
noncomputable def spAs (S : ST) (x y : Int32) : Int32 × ST := match S with
  | (_, _, _, _, _, (n, ks, _, _, _, _, _, _, _), _) => (cif (isP n x) (cif (isP 5 y) (cif (isA (ks (cN x)) (cN y)) x (-1)) (-102)) (-101), S)
noncomputable def spLay (S : ST) (x y : Int32) : Int32 × ST := match S with
  | (kp, yd, qk, pm, pg, (n, ks, ht, p, s, stp, fl, m, hd), w) => cif (isP n x) (cif (isP 5 y) (nI (ks (cN x)), (kp, yd, qk, pm, pg, (n, fun j => if j = cN x then cN y else ks j, ht, p, s, stp, fl, m, hd), w)) (-102, S)) (-101, S)
noncomputable def spBlocks (S : ST) (x : Int32) : Int32 × ST := match S with
  | (kp, yd, qk, pm, pg, (n, ks, ht, _, _, stp, fl, m, hd), w) => cif (x < 1 ∨ 9 < x) (-102, S) (cif (n = 0) (-103, S) (nI ht, (kp, yd, qk, pm, pg, (n, ks, cN x, 0, 0, stp, fl, m, hd), w)))
noncomputable def spStep (S : ST) (x : Int32) : Int32 × ST := match S with
  | (kp, yd, qk, pm, pg, (n, ks, ht, p, s, stp, fl, m, hd), w) => cif (isP 4 x) (cif (p + cN x < n) (cif (12 - ht < sa (ks (p + cN x)) s (cN x)) (-1, (kp, yd, qk, pm, pg, (n, ks, ht, 0, 0, stp + 1, fl + 1, m, hd), w)) (nI (p + cN x), (kp, yd, qk, pm, pg, (n, ks, ht, p + cN x, sa (ks (p + cN x)) s (cN x), stp + 1, fl, m, hd), w))) (-103, S)) (-102, S)
noncomputable def spWould (S : ST) (x : Int32) : Int32 × ST := match S with
  | (_, _, _, _, _, (n, ks, _, p, s, _, _, _, _), _) => (cif (isP 4 x) (cif (p + cN x < n) (nI (sa (ks (p + cN x)) s (cN x))) (-103)) (-102), S)
noncomputable def spQuick (S : ST) (x : Int32) : Int32 × ST := match S with
  | (kp, yd, qk, pm, pg, (n, ks, ht, p, s, stp, fl, m, hd), w) => cif (x ≠ 0 ∧ (x < 10 ∨ 13 < x)) (-102, S) (cif (n = 0 ∨ 40 ≤ qk) (-103, S) (cif (x = 0) (dA (DD n ks (12 - ht) (12 * p + s))) (lA n ks (12 - ht) (12 * p + s) (cN x - 9)), (kp, yd, qk + 1, pm, pg, (n, ks, ht, p, s, stp, fl, m, hd), w)))
noncomputable def spHigh (S : ST) : Int32 × ST := match S with
  | (_, _, _, _, _, (n, ks, _, _, _, _, _, _, _), _) => (cif (n = 0) (-103) (hiF n ks 9), S)
noncomputable def spMend (S : ST) (x : Int32) : Int32 × ST := match S with
  | (_, _, _, _, _, (n, ks, ht, _, _, _, _, _, _), _) => (cif (isP 2 x) (cif (n = 0) (-103) (cif (x = 0) (mnF n ks (12 - ht) n).1 (mnS (mnF n ks (12 - ht) n)))) (-102), S)
noncomputable def spHear (S : ST) (x y z b : Int32) : Int32 × ST := match S with
  | (kp, yd, qk, pm, pg, (n, ks, ht, p, s, stp, fl, m, hd), w) => cif (isP n x) (cif ((y < 1 ∨ 3 < y) ∨ (z < 0 ∨ 11 < z)) (-102, S) (cif (m = 6) (-104, S) (nI (m + 1), (kp, yd, qk, pm, pg, (n, ks, ht, p, s, stp, fl, m + 1, fun j => if j = m then (cN x, cN y, cN z, cN b) else hd j), w)))) (-101, S)
def spForget (S : ST) : Int32 × ST := match S with
  | (kp, yd, qk, pm, pg, (n, ks, ht, p, s, stp, fl, m, hd), w) => (nI m, (kp, yd, qk, pm, pg, (n, ks, ht, p, s, stp, fl, 0, hd), w))
noncomputable def spHeights (S : ST) : Int32 × ST := match S with
  | (_, _, _, _, _, (n, ks, _, _, _, _, _, m, hd), _) => (cif (n = 0) (-103) (hB ks hd m), S)
noncomputable def spRaces (S : ST) (x y z : Int32) : Int32 × ST := match S with
  | (_, _, _, _, _, (n, ks, ht, p, s, _, _, _, _), _) => (cif ((x < 1 ∨ 60 < x) ∨ y < 0 ∨ (z < 0 ∨ 2 < z)) (-102) (cif (n = 0) (-103) (cif (z = 0) (nI (rI n ks ht (p, s, cN y, 0) (cN x)).2.2.2) (cif (z = 1) (nI (rI n ks ht (p, s, cN y, 0) (cN x)).1) (nI (rI n ks ht (p, s, cN y, 0) (cN x)).2.2.1)))), S)
noncomputable def spImage (S : ST) : Int32 × ST := match S with
  | (_, yd, qk, pm, pg, v, _) => cif (v.1 = 0) (-103, S) (v.2.2.2.2.2.1, (1, yd, qk, pm, pg, v, v))
noncomputable def spRestore (S : ST) : Int32 × ST := match S with
  | (kp, yd, qk, pm, pg, _, w) => cif (kp = 0) (-103, S) (w.2.2.2.2.2.1, (kp, yd, qk, pm, pg, w, w))
def ctA (S : ST) (k : Nat) : Int32 := match S with
  | (_, yd, qk, pm, _, (n, ks, ht, p, s, stp, fl, m, _), _) => if k = 0 then nI n else if k = 1 then nI ht else if k = 2 then nI p else if k = 3 then nI s else if k = 4 then stp else if k = 5 then fl else if k = 6 then (if n = 0 then 0 else nI (12 - ht)) else if k = 7 then nI (cntP (fun j => nI (ks j)) n) else if k = 8 then nI m else if k = 9 then nI pm else if k = 10 then nI yd else nI qk
noncomputable def spCount (S : ST) (x : Int32) : Int32 × ST := (cif (isP 12 x) (ctA S (cN x)) (-102), S)
/-! the digest -/
def dg6 (ks : Nat → Nat) (hd : HD) (m q : Nat) (z : Int64) : Nat → Int64
  | 0 => z
  | k + 1 => 31 * dg6 ks hd m q z k + (ab ks hd m q k).toInt64
def dgP (ks : Nat → Nat) (hd : HD) (m : Nat) : Nat → Int64
  | 0 => 1063
  | q + 1 => dg6 ks hd m q (dgP ks hd m q) 6
noncomputable def dgY (S : ST) : Int64 := match S with
  | (_, _, _, _, _, (n, ks, ht, p, s, _, _, m, hd), _) => cif (n = 0) (dgP ks hd m n) (31 * (31 * (31 * (31 * (31 * dgP ks hd m n + (nI (sa (ks p) s 0)).toInt64) + (hiF n ks 9).toInt64) + ((mnF n ks (12 - ht) n).1).toInt64) + (mnS (mnF n ks (12 - ht) n)).toInt64) + (hB ks hd m).toInt64)
def dgL (pg : Nat → Nat) (z : Int64) : Nat → Int64
  | 0 => z
  | i + 1 => 31 * dgL pg z i + (nI (pg i)).toInt64
def dgC (S : ST) (z : Int64) : Nat → Int64
  | 0 => z
  | k + 1 => 31 * dgC S z k + (ctA S k).toInt64
noncomputable def dgA (S : ST) : Int64 := match S with
  | (_, _, _, pm, pg, _, _) => dgC S (dgL pg (dgY S) pm) 12
/-- what holds of every state that comes about -/
def Sok (S : ST) : Prop := match S with
  | (kp, yd, qk, pm, pg, v, w) => svok v ∧ kp ≤ 1 ∧ (kp = 1 → svok w ∧ w.1 = v.1 ∧ 0 < v.1) ∧ qk ≤ 40 ∧ pm ≤ 16 ∧ (∀ j, j < pm → pg j < 128) ∧ yd < 1000000
theorem isP_no {n : Nat} (hn : n < 2 ^ 31) {x : Int32} (h : x < 0 ∨ nI n ≤ x) : ¬ isP n x := by
  rintro ⟨q, hq, rfl⟩
  rcases h with h | h
  · exact nI_pos (by omega) h
  · exact nI_ge hq hn h
theorem isP_of {n : Nat} (hn : n < 2 ^ 31) {x : Int32} (h1 : ¬ x < 0) (h2 : ¬ nI n ≤ x) : isP n x := by
  obtain ⟨p, hp, e, -⟩ := pk_mu h1 h2 hn
  exact ⟨p, hp, e⟩
