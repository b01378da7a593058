/-! THE ABSTRACT MACHINE: a heap is a function from small numbers to objects and arrays; cell k lies at base + k. -/
abbrev AC : Type := (Nat × List Value) ⊕ (Nat × Nat × (Nat → Int32))
abbrev AH : Type := Nat → Option AC
def hset (h : AH) (a : Nat) (c : AC) : AH := fun q => if q = a then some c else h q
theorem hset_eq {h : AH} {a : Nat} {c : AC} : hset h a c a = some c := by simp [hset]
theorem hset_ne {h : AH} {a b : Nat} {c : AC} (n : b ≠ a) : hset h a c b = h b := by simp [hset, n]
/-- base, the kit's numbers of classes and slots, the array classes, the text constant and its bytes -/
abbrev Gl : Type := Nat × va_G × (Nat → ClassId) × Nat × Nat
/-- an abstract value as the machine has it: references below 1000 are cells of the world; 1001 is the text constant, 1002 its bytes; from 2000 on they are old cells -/
def cv (g : Gl) : Value → Value
  | .ref k => .ref (if k < 1000 then g.1 + k else if k = 1001 then g.2.2.2.1 else if k = 1002 then g.2.2.2.2 else k - 2000)
  | v => v
theorem cv_cat (b : Gl) (v : Value) : (cv b v).category = v.category := by
  cases v <;> rfl
theorem cv_ref {b : Gl} {a : Nat} (h : a < 1000) : cv b (.ref a) = .ref (b.1 + a) := by
  show Value.ref (if a < 1000 then _ else _) = _
  rw [if_pos h]
theorem cv_str {b : Gl} : cv b (.ref 1001) = .ref b.2.2.2.1 := rfl
theorem cv_byt {b : Gl} : cv b (.ref 1002) = .ref b.2.2.2.2 := rfl
theorem cv_old {b : Gl} {a : Nat} : cv b (.ref (a + 2000)) = .ref a := by
  show Value.ref (if a + 2000 < 1000 then _ else if a + 2000 = 1001 then _ else if a + 2000 = 1002 then _ else a + 2000 - 2000) = _
  rw [if_neg (by omega), if_neg (by omega), if_neg (by omega), Nat.add_sub_cancel]
def tyN : Nat → FieldType
  | 0 => .int
  | 1 => .byte
  | _ => .boolean
def ce (g : Gl) (c : AC) : va_E := match c with
  | .inl q => .inr (q.1, q.2.map (cv g))
  | .inr q => .inl (g.2.2.1 q.1, q.2.1, .inl q.2.2)
def gty (g : Gl) : List (ClassId × FieldType) := [(g.2.2.1 0, .int), (g.2.2.1 1, .byte), (g.2.2.1 2, .boolean)]
def cg (ci : Nat) : vw_C := match ci with
  | 0 => (RX0, TX0, 2)
  | 1 => (RX1, TX1, 5)
  | 2 => (RX3, TX3, 2)
  | 3 => (RX4, TX4, 6)
  | 4 => (RX5, TX5, 7)
  | 5 => (RX6, TX6, 11)
  | _ => (RX7, TX7, 34)
def tg (ci : Nat) : Nat → FieldType := match ci with
  | 0 => tyX0
  | 1 => tyX1
  | 2 => tyX3
  | 3 => tyX4
  | 4 => tyX5
  | 5 => tyX6
  | _ => tyX7
/-- the tables' words that a call carries along -/
def gt : List Cond := lw_tbl.filter goodWord
theorem gt_of {w : Cond} (h : w ∈ lw_tbl) (hg : goodWord w = true) : w ∈ gt := List.mem_filter.mpr ⟨h, hg⟩
theorem gt_at {w : Cond} (i : Nat) (h : lw_tbl[i]? = some w) (hg : goodWord w = true) : w ∈ gt := gt_of (List.mem_of_getElem? h) hg
theorem gt_good {w : Cond} (h : w ∈ gt) : (w.onTables && w.keeps) = true ∨ ∃ ty, w = .arrayClass ty := good_of_word (List.mem_filter.mp h).2
def CLp (ci : Nat) : Prop := vwCl[ci]? = some ((cg ci).1, (cg ci).2.1, (cg ci).2.2) ∧ (∀ w ∈ u_ws (cg ci).1 (cg ci).2.1 (cg ci).2.2, w ∈ gt) ∧ (∀ j, j < (cg ci).2.2 → parseFieldDescriptor ((cg ci).2.1 j).2.2.1 = some (tg ci j)) ∧ (∀ a, a < (cg ci).2.2 → ∀ b, b < (cg ci).2.2 → a ≠ b → ((cg ci).2.1 a).2.1 ≠ ((cg ci).2.1 b).2.1)
theorem ugt {ws : List Cond} (h : ∀ w ∈ ws, w ∈ lw_tbl) (hg : ∀ w ∈ ws, goodWord w = true) : ∀ w ∈ ws, w ∈ gt := fun w hw => gt_of (h w hw) (hg w hw)
theorem CL0 : CLp 0 := ⟨rfl, ugt (by decide +kernel) (by decide +kernel), tyX0_ok, nmX0⟩
theorem CL1 : CLp 1 := ⟨rfl, ugt (by decide +kernel) (by decide +kernel), tyX1_ok, nmX1⟩
theorem CL2 : CLp 2 := ⟨rfl, ugt (by decide +kernel) (by decide +kernel), tyX3_ok, nmX3⟩
theorem CL3 : CLp 3 := ⟨rfl, ugt (by decide +kernel) (by decide +kernel), tyX4_ok, nmX4⟩
theorem CL4 : CLp 4 := ⟨rfl, ugt (by decide +kernel) (by decide +kernel), tyX5_ok, nmX5⟩
theorem CL5 : CLp 5 := ⟨rfl, ugt (by decide +kernel) (by decide +kernel), tyX6_ok, nmX6⟩
theorem CL6 : CLp 6 := ⟨rfl, ugt (by decide +kernel) (by decide +kernel), tyX7_ok, nmX7⟩
theorem CLs (ci : Nat) (h : ci < 7) : CLp ci := by
  match ci, h with
  | 0, _ => exact CL0
  | 1, _ => exact CL1
  | 2, _ => exact CL2
  | 3, _ => exact CL3
  | 4, _ => exact CL4
  | 5, _ => exact CL5
  | 6, _ => exact CL6
/-- the heap holds the world -/
def wh (g : Gl) (h : AH) (H : Heap) : Prop := ∃ n, n ≤ 1000 ∧ H.size = g.1 + n ∧ (∀ k, n ≤ k → h k = none) ∧ ∀ k, k < n → ∃ c, h k = some c ∧ va_at g.2.1 vwCl (g.1 + k, ce g c) H
theorem wh_at {g : Gl} {h : AH} {H : Heap} {a : Nat} {c : AC} (w : wh g h H) (e : h a = some c) : a < 1000 ∧ va_at g.2.1 vwCl (g.1 + a, ce g c) H := by
  obtain ⟨n, h1, h2, h3, h4⟩ := w
  have ha : a < n := by
    rcases Nat.lt_or_ge a n with q | q
    · exact q
    · rw [h3 a q] at e; cases e
  obtain ⟨c', e', h5⟩ := h4 a ha
  rw [e] at e'
  cases e'
  exact ⟨by omega, h5⟩
theorem wh_set {g : Gl} {h : AH} {H H1 : Heap} {a : Nat} {c0 c : AC} (w : wh g h H) (e : h a = some c0) (z : H1.size = H.size) (oq : ∀ q : Nat, q ≠ g.1 + a → H1[q]? = H[q]?) (e1 : va_at g.2.1 vwCl (g.1 + a, ce g c) H1) : wh g (hset h a c) H1 := by
  obtain ⟨n, h1, h2, h3, h4⟩ := w
  have ha : a < n := by
    rcases Nat.lt_or_ge a n with q | q
    · exact q
    · rw [h3 a q] at e; cases e
  refine ⟨n, h1, by rw [z]; exact h2, fun k hk => by rw [hset_ne (by omega)]; exact h3 k hk, fun k hk => ?_⟩
  by_cases hka : k = a
  · subst hka
    exact ⟨c, hset_eq, e1⟩
  · obtain ⟨c', e', h5⟩ := h4 k hk
    exact ⟨c', by rw [hset_ne hka]; exact e', h5.kept (oq _ (by show g.1 + k ≠ g.1 + a; omega))⟩
/-- the world has n cells -/
def hsz (h : AH) (n : Nat) : Prop := (∀ k, n ≤ k → h k = none) ∧ ∀ k, k < n → h k ≠ none
theorem hsz_set {h : AH} {n a : Nat} {c : AC} (z : hsz h n) (ha : a < n) : hsz (hset h a c) n := by
  refine ⟨fun k hk => by rw [hset_ne (by omega)]; exact z.1 k hk, fun k hk => ?_⟩
  by_cases hka : k = a
  · subst hka; rw [hset_eq]; exact fun e => by cases e
  · rw [hset_ne hka]; exact z.2 k hk
theorem hsz_new {h : AH} {n : Nat} {c : AC} (z : hsz h n) : hsz (hset h n c) (n + 1) := by
  refine ⟨fun k hk => by rw [hset_ne (by omega)]; exact z.1 k (by omega), fun k hk => ?_⟩
  by_cases hka : k = n
  · subst hka; rw [hset_eq]; exact fun e => by cases e
  · rw [hset_ne hka]; exact z.2 k (by omega)
theorem wh_size {g : Gl} {h : AH} {H : Heap} {n : Nat} (w : wh g h H) (hz : hsz h n) : H.size = g.1 + n := by
  obtain ⟨n', h1, h2, h3, h4⟩ := w
  have e : n' = n := by
    rcases Nat.lt_trichotomy n' n with q | q | q
    · exact absurd (h3 n' (Nat.le_refl _)) (hz.2 n' q)
    · exact q
    · obtain ⟨c', e', -⟩ := h4 n q
      rw [hz.1 n (Nat.le_refl _)] at e'
      cases e'
  rw [← e]; exact h2
theorem wh_push {g : Gl} {h : AH} {H H1 : Heap} {n : Nat} {c : AC} (w : wh g h H) (hz : hsz h n) (hn : n < 1000) (z : H1.size = H.size + 1) (oq : ∀ q : Nat, q < H.size → H1[q]? = H[q]?) (e1 : va_at g.2.1 vwCl (g.1 + n, ce g c) H1) : wh g (hset h n c) H1 := by
  have hs := wh_size w hz
  obtain ⟨n', h1, h2, h3, h4⟩ := w
  have e : n' = n := by omega
  subst e
  refine ⟨n' + 1, hn, by rw [z, h2]; omega, fun k hk => by rw [hset_ne (by omega)]; exact h3 k (by omega), fun k hk => ?_⟩
  by_cases hka : k = n'
  · subst hka
    exact ⟨c, hset_eq, e1⟩
  · obtain ⟨c', e', h5⟩ := h4 k (by omega)
    exact ⟨c', by rw [hset_ne hka]; exact e', h5.kept (oq _ (by show g.1 + k < H.size; omega))⟩
/-- the nest's private methods that are called across classes -/
def nwT : List (String × Nat × MethodName × String) := [("StiltYard", 9, ⟨"StiltYard$Page", "<init>", "()V"⟩, "StiltYard"), ("StiltYard", 18, ⟨"StiltYard$Scene", "<init>", "()V"⟩, "StiltYard"), ("StiltYard$Scene", 9, ⟨"StiltYard$Ground", "<init>", "()V"⟩, "StiltYard"), ("StiltYard$Scene", 18, ⟨"StiltYard$Heard", "<init>", "()V"⟩, "StiltYard"), ("StiltYard", 31, ⟨"StiltYard$Ground", "<init>", "()V"⟩, "StiltYard"), ("StiltYard", 38, ⟨"StiltYard$Route", "<init>", "()V"⟩, "StiltYard"), ("StiltYard$Heard", 49, ⟨"StiltYard", "bearable", "(I)I"⟩, "StiltYard"), ("StiltYard$Scene", 74, ⟨"StiltYard", "bearable", "(I)I"⟩, "StiltYard"), ("StiltYard$Route", 41, ⟨"StiltYard", "bearable", "(I)I"⟩, "StiltYard")]
def we (g : Gl) (U : State) : Prop := va_K g.2.1 vwCl (gty g) U ∧ (∀ q ∈ nwT, va_Nw (.methodLinkNest q.1 q.2.1 q.2.2.1 q.2.2.2) U) ∧ vk_R "StiltYard$Kind" 9 "plgbo" g.2.2.2.1 U
def wf (g : Gl) (U : State) (H : Heap) : Prop := vk_S 1 [5] [[112, 108, 103, 98, 111]] (fun _ => g.2.2.2.1) (fun _ => g.2.2.2.2) (fun q => g.1 ≤ q) U H ∧ va_Z "java/lang/String" "COMPACT_STRINGS" "Z" (.int 1) (fun q => g.1 ≤ q) U H
def wo (g : Gl) (h : AH) (U : State) : Prop := we g U ∧ wf g U U.heap ∧ wh g h U.heap
theorem we_warm {g : Gl} {s U : State} (hW : s.WarmedH U.vm) (h : we g s) : we g U := ⟨va_K.moved hW.alike h.1, fun q hq => va_Nw.warmM hW (h.2.1 q hq), vk_R.warm hW h.2.2⟩
theorem we_same {g : Gl} {u U : State} (hv : U.vm = u.vm) (h : we g u) : we g U := ⟨va_K.moved (by rw [hv]; exact Vm.Alike.refl _) h.1, fun q hq => va_Nw.same rfl hv.symm (h.2.1 q hq), vk_R.same hv h.2.2⟩
theorem wf_moved {g : Gl} {u U : State} {H H1 : Heap} (hvm : u.vm.Alike U.vm) (hq : ∀ a : Nat, a < H.size → ¬ g.1 ≤ a → H1[a]? = H[a]?) (h : wf g u H) : wf g U H1 := ⟨vk_S.moved hvm (h.1.kept hq), va_Z.moved hvm (h.2.kept hq)⟩
theorem wo_blind {g : Gl} {h : AH} {av : List Value} : FrameBlind (va_Pc av (fun U => wo g h U)) := fun a U f mk q => ⟨q.1, we_same (u := U) (U := U.calling f mk a) rfl q.2.1, wf_moved (u := U) (U := U.calling f mk a) (Vm.Alike.refl U.vm) (fun _ _ _ => rfl) q.2.2.1, q.2.2.2⟩
/-! locals, by their places -/
def lg : List (Option Value) → Nat → Option Value
  | [], _ => none
  | x :: _, 0 => x
  | _ :: r, n + 1 => lg r n
def lst : List (Option Value) → Nat → Option Value → List (Option Value)
  | [], _, _ => []
  | _ :: r, 0, v => v :: r
  | x :: r, n + 1, v => x :: lst r n v
def lp (b : Gl) : Nat → List (Option Value) → List (Nat × Value)
  | _, [] => []
  | i, none :: r => lp b (i + 1) r
  | i, some v :: r => (i, cv b v) :: lp b (i + 1) r
def lh (b : Gl) (la : Array Slot) (n : Nat) (ls : List (Option Value)) : Prop := ls.length ≤ n ∧ lv_has la n (lp b 0 ls)
theorem lst_len : ∀ (ls : List (Option Value)) (i : Nat) (v : Option Value), (lst ls i v).length = ls.length
  | [], _, _ => rfl
  | _ :: _, 0, _ => rfl
  | _ :: r, i + 1, v => by simp [lst, lst_len r i v]
theorem lst_some : ∀ (ls : List (Option Value)) (i j : Nat) (x : Option Value) (w : Value), lg (lst ls i x) j = some w → (j = i ∧ x = some w) ∨ (j ≠ i ∧ lg ls j = some w)
  | [], _, _, _, _, h => by simp [lst, lg] at h
  | _ :: _, 0, 0, _, _, h => Or.inl ⟨rfl, h⟩
  | _ :: _, 0, j + 1, _, _, h => Or.inr ⟨by omega, h⟩
  | _ :: _, i + 1, 0, _, _, h => Or.inr ⟨by omega, h⟩
  | _ :: r, i + 1, j + 1, x, w, h => by
    rcases lst_some r i j x w h with ⟨e, q⟩ | ⟨e, q⟩
    · exact Or.inl ⟨by omega, q⟩
    · exact Or.inr ⟨by omega, q⟩
theorem lp_in (b : Gl) : ∀ (ls : List (Option Value)) (i d : Nat) (v : Value), lg ls d = some v → (i + d, cv b v) ∈ lp b i ls
  | [], _, _, _, h => by simp [lg] at h
  | none :: r, i, 0, v, h => by simp [lg] at h
  | some x :: r, i, 0, v, h => by
    simp only [lg] at h
    cases h
    exact List.mem_cons_self
  | none :: r, i, d + 1, v, h => by
    have := lp_in b r (i + 1) d v h
    rw [show i + (d + 1) = i + 1 + d by omega]
    exact this
  | some x :: r, i, d + 1, v, h => by
    have := lp_in b r (i + 1) d v h
    rw [show i + (d + 1) = i + 1 + d by omega]
    exact List.mem_cons_of_mem _ this
theorem lp_out (b : Gl) : ∀ (ls : List (Option Value)) (i : Nat) (q : Nat × Value), q ∈ lp b i ls → ∃ d v, q.1 = i + d ∧ lg ls d = some v ∧ q.2 = cv b v
  | [], _, _, h => by simp [lp] at h
  | none :: r, i, q, h => by
    obtain ⟨d, v, h1, h2, h3⟩ := lp_out b r (i + 1) q h
    exact ⟨d + 1, v, by omega, h2, h3⟩
  | some x :: r, i, q, h => by
    rcases List.mem_cons.mp h with e | h
    · subst e
      exact ⟨0, x, rfl, rfl, rfl⟩
    · obtain ⟨d, v, h1, h2, h3⟩ := lp_out b r (i + 1) q h
      exact ⟨d + 1, v, by omega, h2, h3⟩
theorem lh_at {b : Gl} {la : Array Slot} {n : Nat} {ls : List (Option Value)} {i : Nat} {v : Value} (h : lh b la n ls) (e : lg ls i = some v) : la[i]? = some (.val (cv b v)) := by
  have h1 := lp_in b ls 0 i v e
  rw [Nat.zero_add] at h1
  exact h.2.2.2 _ h1
/-- a store at i leaves no long that reached into i -/
def okS (ls : List (Option Value)) (i : Nat) : Bool := match i with
  | 0 => true
  | j + 1 => match lg ls j with
    | some v => v.category == 1
    | none => true
theorem okS_spec {ls : List (Option Value)} {i j : Nat} {v : Value} (h : okS ls i = true) (hj : j + 1 = i) (e : lg ls j = some v) : ¬ v.category = 2 := by
  subst hj
  simp only [okS, e] at h
  intro h2
  rw [h2] at h
  cases h
theorem lh_store1 {b : Gl} {la : Array Slot} {n : Nat} {ls : List (Option Value)} {i : Nat} {v : Value} (hlen : ls.length ≤ n) (ok : okS ls i = true) (h : lv_has la n ((i, cv b v) :: (lp b 0 ls).filter (fun q => !(q.1 == i) && !(q.1 + 1 == i && q.2.category == 2)))) : lh b la n (lst ls i (some v)) := by
  refine ⟨by rw [lst_len]; exact hlen, h.1, h.2.1, fun q hq => ?_⟩
  obtain ⟨d, w, h1, h2, h3⟩ := lp_out b _ _ _ hq
  rw [Nat.zero_add] at h1
  rcases lst_some _ _ _ _ _ h2 with ⟨e, e2⟩ | ⟨e, e2⟩
  · cases e2
    have : q = (i, cv b v) := by rw [← e, ← h1, ← h3]
    rw [this]
    exact h.2.2 _ List.mem_cons_self
  · refine h.2.2 _ (List.mem_cons_of_mem _ (List.mem_filter.mpr ⟨?_, ?_⟩))
    · have := lp_in b ls 0 d w e2
      rw [Nat.zero_add] at this
      rw [show q = (d, cv b w) by rw [← h1, ← h3]]
      exact this
    · rw [h1, h3, cv_cat]
      simp only [Bool.and_eq_true, Bool.not_eq_true', beq_eq_false_iff_ne, Bool.and_eq_false_iff]
      refine ⟨e, ?_⟩
      by_cases hd : d + 1 = i
      · exact Or.inr (okS_spec ok hd e2)
      · exact Or.inl hd
theorem lh_store2 {b : Gl} {la : Array Slot} {n : Nat} {ls : List (Option Value)} {i : Nat} {v : Value} (hlen : ls.length ≤ n) (ok : okS ls i = true) (h : lv_has la n ((i, cv b v) :: (lp b 0 ls).filter (fun q => !(q.1 == i) && (!(q.1 == i + 1) && !(q.1 + 1 == i && q.2.category == 2))))) : lh b la n (lst (lst ls i (some v)) (i + 1) none) := by
  refine ⟨by rw [lst_len, lst_len]; exact hlen, h.1, h.2.1, fun q hq => ?_⟩
  obtain ⟨d, w, h1, h2, h3⟩ := lp_out b _ _ _ hq
  rw [Nat.zero_add] at h1
  rcases lst_some _ _ _ _ _ h2 with ⟨e, e2⟩ | ⟨e1, e2⟩
  · cases e2
  rcases lst_some _ _ _ _ _ e2 with ⟨e, e2⟩ | ⟨e, e2⟩
  · cases e2
    have : q = (i, cv b v) := by rw [← e, ← h1, ← h3]
    rw [this]
    exact h.2.2 _ List.mem_cons_self
  · refine h.2.2 _ (List.mem_cons_of_mem _ (List.mem_filter.mpr ⟨?_, ?_⟩))
    · have := lp_in b ls 0 d w e2
      rw [Nat.zero_add] at this
      rw [show q = (d, cv b w) by rw [← h1, ← h3]]
      exact this
    · rw [h1, h3, cv_cat]
      simp only [Bool.and_eq_true, Bool.not_eq_true', beq_eq_false_iff_ne, Bool.and_eq_false_iff]
      refine ⟨e, e1, ?_⟩
      by_cases hd : d + 1 = i
      · exact Or.inr (okS_spec ok hd e2)
      · exact Or.inl hd
/-! the locals at a method's start -/
def en : List Value → List (Option Value)
  | [] => []
  | v :: r => if v.category = 2 then some v :: none :: en r else some v :: en r
def en2 (n : Nat) (av : List Value) : List (Option Value) := en av ++ List.replicate (n - (en av).length) none
theorem en_len (b : Gl) : ∀ av : List Value, (lg_sl (av.map (cv b))).length = (en av).length
  | [] => rfl
  | v :: r => by
    have ih := en_len b r
    simp only [lg_sl] at ih
    simp only [List.map_cons, lg_sl, List.flatMap_cons, cv_cat, en, List.length_append]
    split <;> simp [ih] <;> omega
theorem en_in (b : Gl) : ∀ (av : List Value) (n i d : Nat) (v : Value), lg (en av ++ List.replicate n none) d = some v → (i + d, cv b v) ∈ lv_args i (av.map (cv b))
  | [], n, i, d, v, h => by
    exfalso
    have : ∀ (n d : Nat), lg (List.replicate n none) d = none := by
      intro n
      induction n with
      | zero => intro d; rfl
      | succ n ih => intro d; cases d with
        | zero => rfl
        | succ d => exact ih d
    simp only [en, List.nil_append, this] at h
    cases h
  | w :: r, n, i, d, v, h => by
    simp only [en] at h
    simp only [List.map_cons, lv_args, cv_cat]
    split at h
    next hc =>
      rw [if_pos hc]
      cases d with
      | zero =>
        simp only [List.cons_append, lg] at h
        cases h
        exact List.mem_cons_self
      | succ d => cases d with
        | zero => simp only [List.cons_append, lg] at h; cases h
        | succ d =>
          have := en_in b r n (i + 2) d v h
          rw [show i + (d + 1 + 1) = i + 2 + d by omega]
          exact List.mem_cons_of_mem _ this
    next hc =>
      rw [if_neg hc]
      cases d with
      | zero =>
        simp only [List.cons_append, lg] at h
        cases h
        exact List.mem_cons_self
      | succ d =>
        have := en_in b r n (i + 1) d v h
        rw [show i + (d + 1) = i + 1 + d by omega]
        exact List.mem_cons_of_mem _ this
/-! the context of a walk -/
abbrev Cx : Type := Program × Launch × Env × Room × State × MethodId × Array Value × List Frame × Method × Code × (State → Prop) × Gl
def AW (X : Cx) (cs ss pc : Nat) (ls : List (Option Value)) (st : List Value) (h : AH) : Prop := match X with
  | (p, l, e, R, s, m, args, below, meth, c, Q, g) => ∀ (H : Heap) (locs : List Loc) (la : Array Slot), wh g h H → va_S (fun q => g.1 ≤ q) s.heap H locs → lh g la c.maxLocals ls → W p l e R s m args below meth c H locs cs ss Q (F0 m pc la (st.map (cv g)))
def CxOk (X : Cx) (y : MethodName) (cc : ByteArray) (k rc rs : Nat) : Prop := match X with
  | (p, _, _, R, s, m, args, _, meth, c, _, g) => p.tables.exec = Jvm.exec ∧ c.code = cc ∧ s.vm.findClass y.cls = some m.cls ∧ (∀ w ∈ gt, w.before args s = true) ∧ we g s ∧ wf g s s.heap ∧ (k ≤ R.frames ∧ 37 * k ≤ R.locals ∧ R.cells = rc ∧ R.slots = rs) ∧ meth.name = y.name
def Qk (g : Gl) (K : Option Value → AH → Prop) : Array Value → State → Outcome → State → Prop := fun _ st o t => (∃ (r : Option Value) (h' : AH), o = .returned (r.map (cv g)) ∧ K r h' ∧ wo g h' t) ∧ va_F (fun q => g.1 ≤ q) st t
def Ex (X : Cx) (ret : Option FieldType) (rc rs : Nat) (K : Option Value → AH → Prop) : Prop := match X with
  | (_, _, _, _, s, _, args, below, meth, _, Q, g) => meth.sig.returnType = ret ∧ meth.locks = false ∧ Q = MQ below (Qk g K) args s rc rs (fun q => g.1 ≤ q)
def rmk (k mc ms : Nat) : Room := { frames := k, cells := mc, slots := ms, locals := 37 * k }
/-- the contract of a method: from the world h, with these arguments, it returns, and K holds of its answer and of the world then -/
def AM (k mc ms : Nat) (z : MethodName) (cz : ByteArray) (mz : Nat) (rz : Option FieldType) (av : List Value) (h : AH) (K : Option Value → AH → Prop) : Prop := ∀ (l : Launch) (g : Gl), Met l z (Cond.code z cz mz rz :: gt) (rmk k mc ms) (va_Pc (av.map (cv g)) (fun U => wo g h U)) (Qk g K) mc ms (fun q => g.1 ≤ q)
theorem AM.of {k mc ms : Nat} {z : MethodName} {cz : ByteArray} {mz : Nat} {rz : Option FieldType} {av : List Value} {h : AH} {K : Option Value → AH → Prop} (ls : List (Option Value)) (hp : plainName z.cls = true) (hls : en2 mz av = ls) (hlen : (en av).length ≤ mz) (body : ∀ X, CxOk X z cz k mc ms → Ex X rz mc ms K → AW X 0 0 0 ls [] h) : AM k mc ms z cz mz rz av h K := by
  intro l g
  refine Met.ofW (cc := cz) (maxL := mz) (ret := rz) hp rfl ?_
  intro p e s m args below meth c s₁ B hml hv
  obtain ⟨rfl, hwo⟩ := hv
  have hts := atoms_spec (ws := Cond.code z cz mz rz :: gt) B.pre
  have hown : s.vm.findClass z.cls = some m.cls := findClass_of_methodNamed B.named
  have hb := body (p, l, e, rmk k mc ms, s, m, (av.map (cv g)).toArray, below, meth, c, MQ below (Qk g K) (av.map (cv g)).toArray s mc ms (fun q => g.1 ≤ q), g)
    ⟨B.exec, B.bytes, hown, fun w hw => hts w (List.mem_cons_of_mem _ hw), hwo.1, hwo.2.1, ⟨Nat.le_refl _, Nat.le_refl _, rfl, rfl⟩, (name_of_methodNamed B.named B.method).1⟩ ⟨B.returns, B.notSynchronized, rfl⟩
  have hl := lv_entry (av.map (cv g)) (n := mz) (by rw [en_len]; exact hlen)
  rw [lg_entry_eq]
  subst hls
  refine hb s.heap [] _ hwo.2.2 va_S.rf ⟨?_, ?_⟩
  · rw [hml]
    simp only [en2, List.length_append, List.length_replicate]
    omega
  · rw [hml]
    refine ⟨hl.1, hl.2.1, fun q hq => hl.2.2 q ?_⟩
    obtain ⟨d, v, h1, h2, h3⟩ := lp_out g _ _ _ hq
    have := en_in g av _ 0 d v h2
    rw [Nat.zero_add] at this h1
    rw [show q = (d, cv g v) by rw [← h1, ← h3]]
    exact this
def pushR (r : Option Value) (st : List Value) : List Value := match r with
  | some v => v :: st
  | none => st
section AWR
variable {X : Cx} {cs ss pc k rc rs : Nat} {y : MethodName} {cc : ByteArray} {ls : List (Option Value)} {st : List Value} {h : AH} {K : Option Value → AH → Prop}
theorem AW_widen {cs' ss' : Nat} (hc : cs ≤ cs') (hs : ss ≤ ss') (kk : AW X cs' ss' pc ls st h) : AW X cs ss pc ls st h := by
  obtain ⟨p, l, e, R, s, m, args, below, meth, c, Q, g⟩ := X
  intro H locs la hw hS hl
  exact W.widen hc hs (kk H locs la hw hS hl)
theorem AW_iconst (n' : Nat) (hX : CxOk X y cc k rc rs) {z : Int} {v : Int32} (hd : decode cc pc = .ok (.iconst z, 1)) (hn : pc + 1 = n') (hv : Int32.ofInt z = v) (kk : AW X cs ss n' ls (.int v :: st) h) : AW X cs ss pc ls (st) h := by
  subst hn
  obtain ⟨p, l, e, R, s, m, args, below, meth, c, Q, g⟩ := X
  obtain ⟨hx, hb, hown, hts, -⟩ := hX
  intro H locs la hw hS hl
  exact lv_iconst hx hb hd hv (kk H locs la hw hS hl)
theorem AW_bipush (n' : Nat) (hX : CxOk X y cc k rc rs) {z : Int} {v : Int32} (hd : decode cc pc = .ok (.bipush z, 2)) (hn : pc + 2 = n') (hv : (Int8.ofInt z).toInt32 = v) (kk : AW X cs ss n' ls (.int v :: st) h) : AW X cs ss pc ls (st) h := by
  subst hn
  obtain ⟨p, l, e, R, s, m, args, below, meth, c, Q, g⟩ := X
  obtain ⟨hx, hb, hown, hts, -⟩ := hX
  intro H locs la hw hS hl
  exact lv_bipush hx hb hd hv (kk H locs la hw hS hl)
theorem AW_sipush (n' : Nat) (hX : CxOk X y cc k rc rs) {z : Int} {v : Int32} (hd : decode cc pc = .ok (.sipush z, 3)) (hn : pc + 3 = n') (hv : (Int16.ofInt z).toInt32 = v) (kk : AW X cs ss n' ls (.int v :: st) h) : AW X cs ss pc ls (st) h := by
  subst hn
  obtain ⟨p, l, e, R, s, m, args, below, meth, c, Q, g⟩ := X
  obtain ⟨hx, hb, hown, hts, -⟩ := hX
  intro H locs la hw hS hl
  exact lv_sipush hx hb hd hv (kk H locs la hw hS hl)
theorem AW_ldc (n' : Nat) (hX : CxOk X y cc k rc rs) {ix : Nat} {v : Int32} (hd : decode cc pc = .ok (.ldc ix, 2)) (hn : pc + 2 = n') (hq0 : Cond.constant y.cls ix v ∈ gt) (kk : AW X cs ss n' ls (.int v :: st) h) : AW X cs ss pc ls (st) h := by
  subst hn
  obtain ⟨p, l, e, R, s, m, args, below, meth, c, Q, g⟩ := X
  obtain ⟨hx, hb, hown, hts, -⟩ := hX
  intro H locs la hw hS hl
  exact lv_ldc hx hb hown (hts _ hq0) hd (kk H locs la hw hS hl)
theorem AW_ldc2 (n' : Nat) (hX : CxOk X y cc k rc rs) {ix : Nat} {v : Int64} (hd : decode cc pc = .ok (.ldc2_w ix, 3)) (hn : pc + 3 = n') (hq0 : Cond.constantLong y.cls ix v ∈ gt) (kk : AW X cs ss n' ls (.long v :: st) h) : AW X cs ss pc ls (st) h := by
  subst hn
  obtain ⟨p, l, e, R, s, m, args, below, meth, c, Q, g⟩ := X
  obtain ⟨hx, hb, hown, hts, -⟩ := hX
  intro H locs la hw hS hl
  exact lv_ldc2 hx hb hown (hts _ hq0) hd (kk H locs la hw hS hl)
theorem AW_iload (n' : Nat) (hX : CxOk X y cc k rc rs) {i : Nat} {x : Int32} (hd : decode cc pc = .ok (.iload i, 2)) (hn : pc + 2 = n') (hv : lg ls i = some (.int x)) (kk : AW X cs ss n' ls (.int x :: st) h) : AW X cs ss pc ls (st) h := by
  subst hn
  obtain ⟨p, l, e, R, s, m, args, below, meth, c, Q, g⟩ := X
  obtain ⟨hx, hb, hown, hts, -⟩ := hX
  intro H locs la hw hS hl
  exact lv_iload hx hb hd (lh_at hl hv) (kk H locs la hw hS hl)
theorem AW_iload_n (n' : Nat) (hX : CxOk X y cc k rc rs) {i : Fin 4} {x : Int32} (hd : decode cc pc = .ok (.iload_n i, 1)) (hn : pc + 1 = n') (hv : lg ls i.val = some (.int x)) (kk : AW X cs ss n' ls (.int x :: st) h) : AW X cs ss pc ls (st) h := by
  subst hn
  obtain ⟨p, l, e, R, s, m, args, below, meth, c, Q, g⟩ := X
  obtain ⟨hx, hb, hown, hts, -⟩ := hX
  intro H locs la hw hS hl
  exact lv_iload_n hx hb hd rfl (lh_at hl hv) (kk H locs la hw hS hl)
theorem AW_lload_n (n' : Nat) (hX : CxOk X y cc k rc rs) {i : Fin 4} {x : Int64} (hd : decode cc pc = .ok (.lload_n i, 1)) (hn : pc + 1 = n') (hv : lg ls i.val = some (.long x)) (kk : AW X cs ss n' ls (.long x :: st) h) : AW X cs ss pc ls (st) h := by
  subst hn
  obtain ⟨p, l, e, R, s, m, args, below, meth, c, Q, g⟩ := X
  obtain ⟨hx, hb, hown, hts, -⟩ := hX
  intro H locs la hw hS hl
  exact lv_lload_n hx hb hd rfl (lh_at hl hv) (kk H locs la hw hS hl)
theorem AW_iadd (n' : Nat) (hX : CxOk X y cc k rc rs) {x z : Int32} (hd : decode cc pc = .ok (.iadd, 1)) (hn : pc + 1 = n')  (kk : AW X cs ss n' ls (.int (x + z) :: st) h) : AW X cs ss pc ls (.int z :: .int x :: st) h := by
  subst hn
  obtain ⟨p, l, e, R, s, m, args, below, meth, c, Q, g⟩ := X
  obtain ⟨hx, hb, hown, hts, -⟩ := hX
  intro H locs la hw hS hl
  exact lv_iadd hx hb hd (kk H locs la hw hS hl)
theorem AW_isub (n' : Nat) (hX : CxOk X y cc k rc rs) {x z : Int32} (hd : decode cc pc = .ok (.isub, 1)) (hn : pc + 1 = n')  (kk : AW X cs ss n' ls (.int (x - z) :: st) h) : AW X cs ss pc ls (.int z :: .int x :: st) h := by
  subst hn
  obtain ⟨p, l, e, R, s, m, args, below, meth, c, Q, g⟩ := X
  obtain ⟨hx, hb, hown, hts, -⟩ := hX
  intro H locs la hw hS hl
  exact lv_isub hx hb hd (kk H locs la hw hS hl)
theorem AW_imul (n' : Nat) (hX : CxOk X y cc k rc rs) {x z : Int32} (hd : decode cc pc = .ok (.imul, 1)) (hn : pc + 1 = n')  (kk : AW X cs ss n' ls (.int (x * z) :: st) h) : AW X cs ss pc ls (.int z :: .int x :: st) h := by
  subst hn
  obtain ⟨p, l, e, R, s, m, args, below, meth, c, Q, g⟩ := X
  obtain ⟨hx, hb, hown, hts, -⟩ := hX
  intro H locs la hw hS hl
  exact lv_imul hx hb hd (kk H locs la hw hS hl)
theorem AW_iand (n' : Nat) (hX : CxOk X y cc k rc rs) {x z : Int32} (hd : decode cc pc = .ok (.iand, 1)) (hn : pc + 1 = n')  (kk : AW X cs ss n' ls (.int (x &&& z) :: st) h) : AW X cs ss pc ls (.int z :: .int x :: st) h := by
  subst hn
  obtain ⟨p, l, e, R, s, m, args, below, meth, c, Q, g⟩ := X
  obtain ⟨hx, hb, hown, hts, -⟩ := hX
  intro H locs la hw hS hl
  exact lv_iand hx hb hd (kk H locs la hw hS hl)
theorem AW_ior (n' : Nat) (hX : CxOk X y cc k rc rs) {x z : Int32} (hd : decode cc pc = .ok (.ior, 1)) (hn : pc + 1 = n')  (kk : AW X cs ss n' ls (.int (x ||| z) :: st) h) : AW X cs ss pc ls (.int z :: .int x :: st) h := by
  subst hn
  obtain ⟨p, l, e, R, s, m, args, below, meth, c, Q, g⟩ := X
  obtain ⟨hx, hb, hown, hts, -⟩ := hX
  intro H locs la hw hS hl
  exact lv_ior hx hb hd (kk H locs la hw hS hl)
theorem AW_ishl (n' : Nat) (hX : CxOk X y cc k rc rs) {x z : Int32} (hd : decode cc pc = .ok (.ishl, 1)) (hn : pc + 1 = n')  (kk : AW X cs ss n' ls (.int (x <<< (z &&& 31)) :: st) h) : AW X cs ss pc ls (.int z :: .int x :: st) h := by
  subst hn
  obtain ⟨p, l, e, R, s, m, args, below, meth, c, Q, g⟩ := X
  obtain ⟨hx, hb, hown, hts, -⟩ := hX
  intro H locs la hw hS hl
  exact lv_ishl hx hb hd (kk H locs la hw hS hl)
theorem AW_ishr (n' : Nat) (hX : CxOk X y cc k rc rs) {x z : Int32} (hd : decode cc pc = .ok (.ishr, 1)) (hn : pc + 1 = n')  (kk : AW X cs ss n' ls (.int (x >>> (z &&& 31)) :: st) h) : AW X cs ss pc ls (.int z :: .int x :: st) h := by
  subst hn
  obtain ⟨p, l, e, R, s, m, args, below, meth, c, Q, g⟩ := X
  obtain ⟨hx, hb, hown, hts, -⟩ := hX
  intro H locs la hw hS hl
  exact lv_ishr hx hb hd (kk H locs la hw hS hl)
theorem AW_idiv (n' : Nat) (hX : CxOk X y cc k rc rs) {x z : Int32} (hd : decode cc pc = .ok (.idiv, 1)) (hn : pc + 1 = n') (hz : ¬ z = 0) (kk : AW X cs ss n' ls (.int (x / z) :: st) h) : AW X cs ss pc ls (.int z :: .int x :: st) h := by
  subst hn
  obtain ⟨p, l, e, R, s, m, args, below, meth, c, Q, g⟩ := X
  obtain ⟨hx, hb, hown, hts, -⟩ := hX
  intro H locs la hw hS hl
  exact lv_idiv hx hb hd hz (kk H locs la hw hS hl)
theorem AW_irem (n' : Nat) (hX : CxOk X y cc k rc rs) {x z : Int32} (hd : decode cc pc = .ok (.irem, 1)) (hn : pc + 1 = n') (hz : ¬ z = 0) (kk : AW X cs ss n' ls (.int (x - x / z * z) :: st) h) : AW X cs ss pc ls (.int z :: .int x :: st) h := by
  subst hn
  obtain ⟨p, l, e, R, s, m, args, below, meth, c, Q, g⟩ := X
  obtain ⟨hx, hb, hown, hts, -⟩ := hX
  intro H locs la hw hS hl
  exact lv_irem hx hb hd hz (kk H locs la hw hS hl)
theorem AW_ladd (n' : Nat) (hX : CxOk X y cc k rc rs) {x z : Int64} (hd : decode cc pc = .ok (.ladd, 1)) (hn : pc + 1 = n')  (kk : AW X cs ss n' ls (.long (x + z) :: st) h) : AW X cs ss pc ls (.long z :: .long x :: st) h := by
  subst hn
  obtain ⟨p, l, e, R, s, m, args, below, meth, c, Q, g⟩ := X
  obtain ⟨hx, hb, hown, hts, -⟩ := hX
  intro H locs la hw hS hl
  exact lv_ladd hx hb hd (kk H locs la hw hS hl)
theorem AW_lmul (n' : Nat) (hX : CxOk X y cc k rc rs) {x z : Int64} (hd : decode cc pc = .ok (.lmul, 1)) (hn : pc + 1 = n')  (kk : AW X cs ss n' ls (.long (x * z) :: st) h) : AW X cs ss pc ls (.long z :: .long x :: st) h := by
  subst hn
  obtain ⟨p, l, e, R, s, m, args, below, meth, c, Q, g⟩ := X
  obtain ⟨hx, hb, hown, hts, -⟩ := hX
  intro H locs la hw hS hl
  exact lv_lmul hx hb hd (kk H locs la hw hS hl)
theorem AW_land (n' : Nat) (hX : CxOk X y cc k rc rs) {x z : Int64} (hd : decode cc pc = .ok (.land, 1)) (hn : pc + 1 = n')  (kk : AW X cs ss n' ls (.long (x &&& z) :: st) h) : AW X cs ss pc ls (.long z :: .long x :: st) h := by
  subst hn
  obtain ⟨p, l, e, R, s, m, args, below, meth, c, Q, g⟩ := X
  obtain ⟨hx, hb, hown, hts, -⟩ := hX
  intro H locs la hw hS hl
  exact lv_land hx hb hd (kk H locs la hw hS hl)
theorem AW_ldiv (n' : Nat) (hX : CxOk X y cc k rc rs) {x z : Int64} (hd : decode cc pc = .ok (.ldiv, 1)) (hn : pc + 1 = n') (hz : ¬ z = 0) (kk : AW X cs ss n' ls (.long (x / z) :: st) h) : AW X cs ss pc ls (.long z :: .long x :: st) h := by
  subst hn
  obtain ⟨p, l, e, R, s, m, args, below, meth, c, Q, g⟩ := X
  obtain ⟨hx, hb, hown, hts, -⟩ := hX
  intro H locs la hw hS hl
  exact lv_ldiv hx hb hd hz (kk H locs la hw hS hl)
theorem AW_lrem (n' : Nat) (hX : CxOk X y cc k rc rs) {x z : Int64} (hd : decode cc pc = .ok (.lrem, 1)) (hn : pc + 1 = n') (hz : ¬ z = 0) (kk : AW X cs ss n' ls (.long (x - x / z * z) :: st) h) : AW X cs ss pc ls (.long z :: .long x :: st) h := by
  subst hn
  obtain ⟨p, l, e, R, s, m, args, below, meth, c, Q, g⟩ := X
  obtain ⟨hx, hb, hown, hts, -⟩ := hX
  intro H locs la hw hS hl
  exact lv_lrem hx hb hd hz (kk H locs la hw hS hl)
theorem AW_lshr (n' : Nat) (hX : CxOk X y cc k rc rs) {x : Int64} {z : Int32} (hd : decode cc pc = .ok (.lshr, 1)) (hn : pc + 1 = n')  (kk : AW X cs ss n' ls (.long (x >>> (z.toInt64 &&& 63)) :: st) h) : AW X cs ss pc ls (.int z :: .long x :: st) h := by
  subst hn
  obtain ⟨p, l, e, R, s, m, args, below, meth, c, Q, g⟩ := X
  obtain ⟨hx, hb, hown, hts, -⟩ := hX
  intro H locs la hw hS hl
  exact lv_lshr hx hb hd rfl (kk H locs la hw hS hl)
theorem AW_iushr (n' : Nat) (hX : CxOk X y cc k rc rs) {x z : Int32} (hd : decode cc pc = .ok (.iushr, 1)) (hn : pc + 1 = n')  (kk : AW X cs ss n' ls (.int ((x.toUInt32 >>> (z.toUInt32 &&& Int32.toUInt32 31)).toInt32) :: st) h) : AW X cs ss pc ls (.int z :: .int x :: st) h := by
  subst hn
  obtain ⟨p, l, e, R, s, m, args, below, meth, c, Q, g⟩ := X
  obtain ⟨hx, hb, hown, hts, -⟩ := hX
  intro H locs la hw hS hl
  exact lv_iushr hx hb hd rfl (kk H locs la hw hS hl)
theorem AW_lcmp (n' : Nat) (hX : CxOk X y cc k rc rs) {x z : Int64} (hd : decode cc pc = .ok (.lcmp, 1)) (hn : pc + 1 = n')  (kk : AW X cs ss n' ls (.int (lg_cmp x z) :: st) h) : AW X cs ss pc ls (.long z :: .long x :: st) h := by
  subst hn
  obtain ⟨p, l, e, R, s, m, args, below, meth, c, Q, g⟩ := X
  obtain ⟨hx, hb, hown, hts, -⟩ := hX
  intro H locs la hw hS hl
  exact W.lcmp hx hb hd (kk H locs la hw hS hl)
theorem AW_i2l (n' : Nat) (hX : CxOk X y cc k rc rs) {x : Int32} (hd : decode cc pc = .ok (.i2l, 1)) (hn : pc + 1 = n')  (kk : AW X cs ss n' ls (.long x.toInt64 :: st) h) : AW X cs ss pc ls (.int x :: st) h := by
  subst hn
  obtain ⟨p, l, e, R, s, m, args, below, meth, c, Q, g⟩ := X
  obtain ⟨hx, hb, hown, hts, -⟩ := hX
  intro H locs la hw hS hl
  exact lv_i2l hx hb hd rfl (kk H locs la hw hS hl)
theorem AW_l2i (n' : Nat) (hX : CxOk X y cc k rc rs) {x : Int64} (hd : decode cc pc = .ok (.l2i, 1)) (hn : pc + 1 = n')  (kk : AW X cs ss n' ls (.int x.toInt32 :: st) h) : AW X cs ss pc ls (.long x :: st) h := by
  subst hn
  obtain ⟨p, l, e, R, s, m, args, below, meth, c, Q, g⟩ := X
  obtain ⟨hx, hb, hown, hts, -⟩ := hX
  intro H locs la hw hS hl
  exact lv_l2i hx hb hd rfl (kk H locs la hw hS hl)
theorem AW_i2b (n' : Nat) (hX : CxOk X y cc k rc rs) {x : Int32} (hd : decode cc pc = .ok (.i2b, 1)) (hn : pc + 1 = n')  (kk : AW X cs ss n' ls (.int x.toInt8.toInt32 :: st) h) : AW X cs ss pc ls (.int x :: st) h := by
  subst hn
  obtain ⟨p, l, e, R, s, m, args, below, meth, c, Q, g⟩ := X
  obtain ⟨hx, hb, hown, hts, -⟩ := hX
  intro H locs la hw hS hl
  exact lv_i2b hx hb hd rfl (kk H locs la hw hS hl)
theorem AW_i2c (n' : Nat) (hX : CxOk X y cc k rc rs) {x : Int32} (hd : decode cc pc = .ok (.i2c, 1)) (hn : pc + 1 = n')  (kk : AW X cs ss n' ls (.int (x.toUInt32 % 65536).toInt32 :: st) h) : AW X cs ss pc ls (.int x :: st) h := by
  subst hn
  obtain ⟨p, l, e, R, s, m, args, below, meth, c, Q, g⟩ := X
  obtain ⟨hx, hb, hown, hts, -⟩ := hX
  intro H locs la hw hS hl
  exact lv_i2c hx hb hd rfl (kk H locs la hw hS hl)
theorem AW_dup (n' : Nat) (hX : CxOk X y cc k rc rs) {v : Value} (hd : decode cc pc = .ok (.dup, 1)) (hn : pc + 1 = n') (hv : v.category = 1) (kk : AW X cs ss n' ls (v :: v :: st) h) : AW X cs ss pc ls (v :: st) h := by
  subst hn
  obtain ⟨p, l, e, R, s, m, args, below, meth, c, Q, g⟩ := X
  obtain ⟨hx, hb, hown, hts, -⟩ := hX
  intro H locs la hw hS hl
  exact lv_dup hx hb hd (by rw [cv_cat]; exact hv) (kk H locs la hw hS hl)
theorem AW_pop (n' : Nat) (hX : CxOk X y cc k rc rs) {v : Value} (hd : decode cc pc = .ok (.pop, 1)) (hn : pc + 1 = n') (hv : v.category = 1) (kk : AW X cs ss n' ls (st) h) : AW X cs ss pc ls (v :: st) h := by
  subst hn
  obtain ⟨p, l, e, R, s, m, args, below, meth, c, Q, g⟩ := X
  obtain ⟨hx, hb, hown, hts, -⟩ := hX
  intro H locs la hw hS hl
  exact lv_pop hx hb hd (by rw [cv_cat]; exact hv) (kk H locs la hw hS hl)
theorem AW_aload_n (n' : Nat) (hX : CxOk X y cc k rc rs) {i : Fin 4} {a : Nat} (hd : decode cc pc = .ok (.aload_n i, 1)) (hn : pc + 1 = n') (hv : lg ls i.val = some (.ref a)) (kk : AW X cs ss n' ls (.ref a :: st) h) : AW X cs ss pc ls st h := by
  subst hn
  obtain ⟨p, l, e, R, s, m, args, below, meth, c, Q, g⟩ := X
  obtain ⟨hx, hb, hown, hts, -⟩ := hX
  intro H locs la hw hS hl
  exact lv_aload_n hx hb hd rfl (lh_at hl hv) (kk H locs la hw hS hl)
theorem AW_istore_n (n' : Nat) (hX : CxOk X y cc k rc rs) {i : Fin 4} {x : Int32} (hd : decode cc pc = .ok (.istore_n i, 1)) (hn : pc + 1 = n') (hi : i.val < ls.length) (ok : okS ls i.val = true) (kk : AW X cs ss n' (lst ls i.val (some (.int x))) st h) : AW X cs ss pc ls (.int x :: st) h := by
  subst hn
  obtain ⟨p, l, e, R, s, m, args, below, meth, c, Q, g⟩ := X
  obtain ⟨hx, hb, hown, hts, -⟩ := hX
  intro H locs la hw hS hl
  exact lv_istore_n hx hb hd rfl hl.2 (Nat.lt_of_lt_of_le hi hl.1) rfl (fun la' hl' => kk H locs la' hw hS (lh_store1 (v := .int x) hl.1 ok hl'))
theorem AW_istore (n' : Nat) (hX : CxOk X y cc k rc rs) {i : Nat} {x : Int32} (hd : decode cc pc = .ok (.istore i, 2)) (hn : pc + 2 = n') (hi : i < ls.length) (ok : okS ls i = true) (kk : AW X cs ss n' (lst ls i (some (.int x))) st h) : AW X cs ss pc ls (.int x :: st) h := by
  subst hn
  obtain ⟨p, l, e, R, s, m, args, below, meth, c, Q, g⟩ := X
  obtain ⟨hx, hb, hown, hts, -⟩ := hX
  intro H locs la hw hS hl
  exact lv_istore hx hb hd hl.2 (Nat.lt_of_lt_of_le hi hl.1) rfl (fun la' hl' => kk H locs la' hw hS (lh_store1 (v := .int x) hl.1 ok hl'))
theorem AW_lstore_n (n' : Nat) (hX : CxOk X y cc k rc rs) {i : Fin 4} {x : Int64} (hd : decode cc pc = .ok (.lstore_n i, 1)) (hn : pc + 1 = n') (hi : i.val + 1 < ls.length) (ok : okS ls i.val = true) (kk : AW X cs ss n' (lst (lst ls i.val (some (.long x))) (i.val + 1) none) st h) : AW X cs ss pc ls (.long x :: st) h := by
  subst hn
  obtain ⟨p, l, e, R, s, m, args, below, meth, c, Q, g⟩ := X
  obtain ⟨hx, hb, hown, hts, -⟩ := hX
  intro H locs la hw hS hl
  exact lv_lstore_n hx hb hd rfl hl.2 (Nat.lt_of_lt_of_le hi hl.1) rfl (fun la' hl' => kk H locs la' hw hS (lh_store2 (v := .long x) hl.1 ok hl'))
theorem AW_astore_n (n' : Nat) (hX : CxOk X y cc k rc rs) {i : Fin 4} {a : Nat} (hd : decode cc pc = .ok (.astore_n i, 1)) (hn : pc + 1 = n') (hi : i.val < ls.length) (ok : okS ls i.val = true) (kk : AW X cs ss n' (lst ls i.val (some (.ref a))) st h) : AW X cs ss pc ls (.ref a :: st) h := by
  subst hn
  obtain ⟨p, l, e, R, s, m, args, below, meth, c, Q, g⟩ := X
  obtain ⟨hx, hb, hown, hts, -⟩ := hX
  intro H locs la hw hS hl
  exact lv_astore_n hx hb hd rfl hl.2 (Nat.lt_of_lt_of_le hi hl.1) rfl (fun la' hl' => kk H locs la' hw hS (lh_store1 (v := .ref a) hl.1 ok hl'))
theorem AW_iinc (n' : Nat) (hX : CxOk X y cc k rc rs) {i : Nat} {z : Int} {x v : Int32} (hd : decode cc pc = .ok (.iinc i z, 3)) (hn : pc + 3 = n') (hv : lg ls i = some (.int x)) (hz : x + Int32.ofInt z = v) (hi : i < ls.length) (ok : okS ls i = true) (kk : AW X cs ss n' (lst ls i (some (.int v))) st h) : AW X cs ss pc ls st h := by
  subst hn
  obtain ⟨p, l, e, R, s, m, args, below, meth, c, Q, g⟩ := X
  obtain ⟨hx, hb, hown, hts, -⟩ := hX
  intro H locs la hw hS hl
  have h1 := lp_in g ls 0 i _ hv
  rw [Nat.zero_add] at h1
  obtain ⟨j, hj⟩ := List.getElem?_of_mem h1
  exact lv_iinc hx hb hd hl.2 hj hz (Nat.lt_of_lt_of_le hi hl.1) rfl (fun la' hl' => kk H locs la' hw hS (lh_store1 (v := .int v) hl.1 ok hl'))
theorem AW_goto (t' : Nat) (hX : CxOk X y cc k rc rs) {off : Int} (hd : decode cc pc = .ok (.goto off, 3)) (ht : (pc : Int) + off = (t' : Int)) (kk : AW X cs ss t' ls st h) : AW X cs ss pc ls st h := by
  obtain ⟨p, l, e, R, s, m, args, below, meth, c, Q, g⟩ := X
  obtain ⟨hx, hb, hown, hts, -⟩ := hX
  intro H locs la hw hS hl
  exact lv_goto hx hb hd ht (kk H locs la hw hS hl)
theorem AW_if_eq (n' t' : Nat) (hX : CxOk X y cc k rc rs) {off : Int} {x : Int32} (hd : decode cc pc = .ok (.ifCond .eq off, 3)) (hn : pc + 3 = n') (ht : (pc : Int) + off = (t' : Int)) (kt : x = 0 → AW X cs ss t' ls st h) (kf : ¬ x = 0 → AW X cs ss n' ls st h) : AW X cs ss pc ls (.int x :: st) h := by
  subst hn
  obtain ⟨p, l, e, R, s, m, args, below, meth, c, Q, g⟩ := X
  obtain ⟨hx, hb, hown, hts, -⟩ := hX
  intro H locs la hw hS hl
  exact lv_if_eq hx hb hd ht (fun q => kt q H locs la hw hS hl) (fun q => kf q H locs la hw hS hl)
theorem AW_icmp_eq (n' t' : Nat) (hX : CxOk X y cc k rc rs) {off : Int} {x z : Int32} (hd : decode cc pc = .ok (.if_icmp .eq off, 3)) (hn : pc + 3 = n') (ht : (pc : Int) + off = (t' : Int)) (kt : x = z → AW X cs ss t' ls st h) (kf : ¬ x = z → AW X cs ss n' ls st h) : AW X cs ss pc ls (.int z :: .int x :: st) h := by
  subst hn
  obtain ⟨p, l, e, R, s, m, args, below, meth, c, Q, g⟩ := X
  obtain ⟨hx, hb, hown, hts, -⟩ := hX
  intro H locs la hw hS hl
  exact lv_icmp_eq hx hb hd ht (fun q => kt q H locs la hw hS hl) (fun q => kf q H locs la hw hS hl)
theorem AW_if_ne (n' t' : Nat) (hX : CxOk X y cc k rc rs) {off : Int} {x : Int32} (hd : decode cc pc = .ok (.ifCond .ne off, 3)) (hn : pc + 3 = n') (ht : (pc : Int) + off = (t' : Int)) (kt : ¬ x = 0 → AW X cs ss t' ls st h) (kf : x = 0 → AW X cs ss n' ls st h) : AW X cs ss pc ls (.int x :: st) h := by
  subst hn
  obtain ⟨p, l, e, R, s, m, args, below, meth, c, Q, g⟩ := X
  obtain ⟨hx, hb, hown, hts, -⟩ := hX
  intro H locs la hw hS hl
  exact lv_if_ne hx hb hd ht (fun q => kt q H locs la hw hS hl) (fun q => kf q H locs la hw hS hl)
theorem AW_icmp_ne (n' t' : Nat) (hX : CxOk X y cc k rc rs) {off : Int} {x z : Int32} (hd : decode cc pc = .ok (.if_icmp .ne off, 3)) (hn : pc + 3 = n') (ht : (pc : Int) + off = (t' : Int)) (kt : ¬ x = z → AW X cs ss t' ls st h) (kf : x = z → AW X cs ss n' ls st h) : AW X cs ss pc ls (.int z :: .int x :: st) h := by
  subst hn
  obtain ⟨p, l, e, R, s, m, args, below, meth, c, Q, g⟩ := X
  obtain ⟨hx, hb, hown, hts, -⟩ := hX
  intro H locs la hw hS hl
  exact lv_icmp_ne hx hb hd ht (fun q => kt q H locs la hw hS hl) (fun q => kf q H locs la hw hS hl)
theorem AW_if_lt (n' t' : Nat) (hX : CxOk X y cc k rc rs) {off : Int} {x : Int32} (hd : decode cc pc = .ok (.ifCond .lt off, 3)) (hn : pc + 3 = n') (ht : (pc : Int) + off = (t' : Int)) (kt : x < 0 → AW X cs ss t' ls st h) (kf : ¬ x < 0 → AW X cs ss n' ls st h) : AW X cs ss pc ls (.int x :: st) h := by
  subst hn
  obtain ⟨p, l, e, R, s, m, args, below, meth, c, Q, g⟩ := X
  obtain ⟨hx, hb, hown, hts, -⟩ := hX
  intro H locs la hw hS hl
  exact lv_if_lt hx hb hd ht (fun q => kt q H locs la hw hS hl) (fun q => kf q H locs la hw hS hl)
theorem AW_icmp_lt (n' t' : Nat) (hX : CxOk X y cc k rc rs) {off : Int} {x z : Int32} (hd : decode cc pc = .ok (.if_icmp .lt off, 3)) (hn : pc + 3 = n') (ht : (pc : Int) + off = (t' : Int)) (kt : x < z → AW X cs ss t' ls st h) (kf : ¬ x < z → AW X cs ss n' ls st h) : AW X cs ss pc ls (.int z :: .int x :: st) h := by
  subst hn
  obtain ⟨p, l, e, R, s, m, args, below, meth, c, Q, g⟩ := X
  obtain ⟨hx, hb, hown, hts, -⟩ := hX
  intro H locs la hw hS hl
  exact lv_icmp_lt hx hb hd ht (fun q => kt q H locs la hw hS hl) (fun q => kf q H locs la hw hS hl)
theorem AW_if_ge (n' t' : Nat) (hX : CxOk X y cc k rc rs) {off : Int} {x : Int32} (hd : decode cc pc = .ok (.ifCond .ge off, 3)) (hn : pc + 3 = n') (ht : (pc : Int) + off = (t' : Int)) (kt : 0 ≤ x → AW X cs ss t' ls st h) (kf : ¬ 0 ≤ x → AW X cs ss n' ls st h) : AW X cs ss pc ls (.int x :: st) h := by
  subst hn
  obtain ⟨p, l, e, R, s, m, args, below, meth, c, Q, g⟩ := X
  obtain ⟨hx, hb, hown, hts, -⟩ := hX
  intro H locs la hw hS hl
  exact lv_if_ge hx hb hd ht (fun q => kt q H locs la hw hS hl) (fun q => kf q H locs la hw hS hl)
theorem AW_icmp_ge (n' t' : Nat) (hX : CxOk X y cc k rc rs) {off : Int} {x z : Int32} (hd : decode cc pc = .ok (.if_icmp .ge off, 3)) (hn : pc + 3 = n') (ht : (pc : Int) + off = (t' : Int)) (kt : z ≤ x → AW X cs ss t' ls st h) (kf : ¬ z ≤ x → AW X cs ss n' ls st h) : AW X cs ss pc ls (.int z :: .int x :: st) h := by
  subst hn
  obtain ⟨p, l, e, R, s, m, args, below, meth, c, Q, g⟩ := X
  obtain ⟨hx, hb, hown, hts, -⟩ := hX
  intro H locs la hw hS hl
  exact lv_icmp_ge hx hb hd ht (fun q => kt q H locs la hw hS hl) (fun q => kf q H locs la hw hS hl)
theorem AW_if_gt (n' t' : Nat) (hX : CxOk X y cc k rc rs) {off : Int} {x : Int32} (hd : decode cc pc = .ok (.ifCond .gt off, 3)) (hn : pc + 3 = n') (ht : (pc : Int) + off = (t' : Int)) (kt : 0 < x → AW X cs ss t' ls st h) (kf : ¬ 0 < x → AW X cs ss n' ls st h) : AW X cs ss pc ls (.int x :: st) h := by
  subst hn
  obtain ⟨p, l, e, R, s, m, args, below, meth, c, Q, g⟩ := X
  obtain ⟨hx, hb, hown, hts, -⟩ := hX
  intro H locs la hw hS hl
  exact lv_if_gt hx hb hd ht (fun q => kt q H locs la hw hS hl) (fun q => kf q H locs la hw hS hl)
theorem AW_icmp_gt (n' t' : Nat) (hX : CxOk X y cc k rc rs) {off : Int} {x z : Int32} (hd : decode cc pc = .ok (.if_icmp .gt off, 3)) (hn : pc + 3 = n') (ht : (pc : Int) + off = (t' : Int)) (kt : z < x → AW X cs ss t' ls st h) (kf : ¬ z < x → AW X cs ss n' ls st h) : AW X cs ss pc ls (.int z :: .int x :: st) h := by
  subst hn
  obtain ⟨p, l, e, R, s, m, args, below, meth, c, Q, g⟩ := X
  obtain ⟨hx, hb, hown, hts, -⟩ := hX
  intro H locs la hw hS hl
  exact lv_icmp_gt hx hb hd ht (fun q => kt q H locs la hw hS hl) (fun q => kf q H locs la hw hS hl)
theorem AW_if_le (n' t' : Nat) (hX : CxOk X y cc k rc rs) {off : Int} {x : Int32} (hd : decode cc pc = .ok (.ifCond .le off, 3)) (hn : pc + 3 = n') (ht : (pc : Int) + off = (t' : Int)) (kt : x ≤ 0 → AW X cs ss t' ls st h) (kf : ¬ x ≤ 0 → AW X cs ss n' ls st h) : AW X cs ss pc ls (.int x :: st) h := by
  subst hn
  obtain ⟨p, l, e, R, s, m, args, below, meth, c, Q, g⟩ := X
  obtain ⟨hx, hb, hown, hts, -⟩ := hX
  intro H locs la hw hS hl
  exact lv_if_le hx hb hd ht (fun q => kt q H locs la hw hS hl) (fun q => kf q H locs la hw hS hl)
theorem AW_icmp_le (n' t' : Nat) (hX : CxOk X y cc k rc rs) {off : Int} {x z : Int32} (hd : decode cc pc = .ok (.if_icmp .le off, 3)) (hn : pc + 3 = n') (ht : (pc : Int) + off = (t' : Int)) (kt : x ≤ z → AW X cs ss t' ls st h) (kf : ¬ x ≤ z → AW X cs ss n' ls st h) : AW X cs ss pc ls (.int z :: .int x :: st) h := by
  subst hn
  obtain ⟨p, l, e, R, s, m, args, below, meth, c, Q, g⟩ := X
  obtain ⟨hx, hb, hown, hts, -⟩ := hX
  intro H locs la hw hS hl
  exact lv_icmp_le hx hb hd ht (fun q => kt q H locs la hw hS hl) (fun q => kf q H locs la hw hS hl)
end AWR
