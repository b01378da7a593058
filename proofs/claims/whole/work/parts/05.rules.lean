/-! heap, calls, returns, the text constant, new, switches -/
def FL (own : String) (ix ci kf : Nat) : Prop := ci < 7 ∧ kf < (cg ci).2.2 ∧ Cond.fieldLink own ix ((cg ci).2.1 kf).1 ((cg ci).2.1 kf).2.1 ((cg ci).2.1 kf).2.2.1 ∈ gt
/-- a method's own words: its code, its class, how many arguments -/
def MB (z : MethodName) (cz : ByteArray) (mz : Nat) (rz : Option FieldType) (nz : Nat) : Prop := Cond.code z cz mz rz ∈ gt ∧ Cond.initialized z.cls ∈ gt ∧ (z.cls ≠ "java/lang/invoke/MethodHandle" ∧ z.cls ≠ "java/lang/invoke/VarHandle" ∧ (parseMethodDescriptor z.desc).map (fun d => d.parameters.length) = some nz) ∧ mz ≤ 18
def MV (z : MethodName) (cz : ByteArray) (mz : Nat) (rz : Option FieldType) (nz : Nat) : Prop := MB z cz mz rz nz ∧ Cond.instanceMethod z ∈ gt ∧ Cond.selects z.cls z z ∈ gt
def MS (z : MethodName) (cz : ByteArray) (mz : Nat) (rz : Option FieldType) (nz : Nat) : Prop := MB z cz mz rz nz ∧ Cond.static z ∈ gt
def MI (z : MethodName) (cz : ByteArray) (mz : Nat) (nz : Nat) : Prop := MB z cz mz none nz ∧ z.name = "<init>" ∧ Cond.instanceMethod z ∈ gt
theorem good_gt {z : MethodName} {cz : ByteArray} {mz nz : Nat} {rz : Option FieldType} (h : MB z cz mz rz nz) : GoodIn gt (Cond.code z cz mz rz :: gt) := fun w hw => (List.mem_cons.mp hw).elim (fun e => by subst e; exact ⟨h.1, gt_good h.1⟩) (fun hw => ⟨hw, gt_good hw⟩)
theorem map_set_cv (g : Gl) (fs : List Value) (k : Nat) (v : Value) : (fs.map (cv g)).set k (cv g v) = (fs.set k v).map (cv g) := List.map_set.symm
theorem vp1 {D : va_G} {q : Nat × va_E} {H : Heap} (h : va_at D vwCl q H) : va_P D vwCl [q] H := by
  intro k r hk
  have hz : k < 1 := (List.getElem?_eq_some_iff.mp hk).1
  rw [show k = 0 by omega] at hk
  cases hk
  exact h
theorem gty_at (g : Gl) {t : Nat} (ht : t < 3) : (gty g)[t]? = some (g.2.2.1 t, tyN t) := by
  match t, ht with
  | 0, _ => rfl
  | 1, _ => rfl
  | 2, _ => rfl
section AWH
variable {X : Cx} {cs ss pc k rc rs : Nat} {y : MethodName} {cc : ByteArray} {ls : List (Option Value)} {st : List Value} {h : AH} {K : Option Value → AH → Prop}
theorem AW_get (n' : Nat) (hX : CxOk X y cc k rc rs) {ix ci kf a : Nat} {fs : List Value} {v : Value} (hd : decode cc pc = .ok (.getfield ix, 3)) (hn : pc + 3 = n') (hl : FL y.cls ix ci kf) (ha : h a = some (.inl (ci, fs))) (hv : fs[kf]? = some v) (kk : AW X cs ss n' ls (v :: st) h) : AW X cs ss pc ls (.ref a :: st) h := by
  subst hn
  obtain ⟨p, l, e, R, s, m, args, below, meth, c, Q, g⟩ := X
  obtain ⟨hx, hb, hown, hts, hwe, hwf, ⟨hkf, hkl, hrc, hrs⟩, hnm⟩ := hX
  intro H locs la hw hS hla
  obtain ⟨ha1, ha2⟩ := wh_at hw ha
  have CL := CLs ci hl.1
  simp only [List.map_cons, cv_ref ha1]
  refine va_get (D := g.2.1) (ci := ci) (C := (cg ci).1) (T := (cg ci).2.1) (N := (cg ci).2.2) (v := cv g v) hx hb hts CL.2.1 hown hwe.1 (vp1 ha2) 0 rfl CL.1 kf hl.2.1 (hts _ hl.2.2) (fun _ h9 => h9) ?_ hd (kk H locs la hw hS hla)
  show (fs.map (cv g))[kf]? = _
  rw [List.getElem?_map, hv]
  rfl
theorem AW_put (n' : Nat) (hX : CxOk X y cc k rc rs) {ix ci kf a : Nat} {fs : List Value} {v : Value} (hd : decode cc pc = .ok (.putfield ix, 3)) (hn : pc + 3 = n') (hl : FL y.cls ix ci kf) (ha : h a = some (.inl (ci, fs))) (hfin : ((cg ci).2.1 kf).2.2.2 = false) (hnv : ∀ b, narrow (tg ci kf) (cv b v) = cv b v) (hfv : ∀ b, fits (tg ci kf) (cv b v) = true) (hlen : kf < fs.length) (kk : AW X cs ss n' ls st (hset h a (.inl (ci, fs.set kf v)))) : AW X cs ss pc ls (v :: .ref a :: st) h := by
  subst hn
  obtain ⟨p, l, e, R, s, m, args, below, meth, c, Q, g⟩ := X
  obtain ⟨hx, hb, hown, hts, hwe, hwf, ⟨hkf, hkl, hrc, hrs⟩, hnm⟩ := hX
  intro H locs la hw hS hla
  obtain ⟨ha1, ha2⟩ := wh_at hw ha
  have CL := CLs ci hl.1
  have hk := hl.2.1
  simp only [List.map_cons, cv_ref ha1]
  have hap := va_apart (D := g.2.1) (own := y.cls) hts CL.2.1 (tg ci) CL.2.2.1 CL.2.2.2 hwe.1 CL.1
  obtain ⟨r, h1, cell, q1, q2, q3, q4⟩ := ha2
  have hr : r = ((cg ci).1, (cg ci).2.1, (cg ci).2.2) := Option.some.inj (h1.symm.trans CL.1)
  subst hr
  obtain ⟨hSl, hfc, kC, hkC, hkind⟩ := hwe.1.1 ci _ CL.1
  obtain ⟨cf, kf', fi, f, hi, hsl⟩ := hSl kf hk
  have hlay := hts _ (CL.2.1 _ (u_in_lay hk))
  unfold u_lay at hlay
  rw [if_neg (by rw [hfin]; decide)] at hlay
  have hst := (u_facts hfc hkC (u_lays hts CL.2.1 hk) hi).1
  have h6 := u_store hfc hkC hkind hlay hi (CL.2.2.1 kf hk) (hnv g) (hfv g)
  refine W.putK hx hb (f := f) ⟨hown, hts _ hl.2.2, ⟨_, _, _, hi⟩, hst⟩ (by rw [q2]; exact h6) q1 q3 (by rw [hsl]; exact k2_hasslot (q4 kf hk)) rfl rfl hd fun H' e1 e2 e3 => ?_
  rw [hsl] at e1 ⊢
  refine kk H' _ la (wh_set hw ha e2 e3 ⟨_, CL.1, t_OB.to (V := updV (vp_V (fs.map (cv g))) kf (cv g v)) ⟨_, e1, q2, q3, t_set q4 hap hk _⟩ (fun j _ => ?_)⟩) (hS.put e2 e3 (Nat.le_add_right _ _)) hla
  rw [vp_updV_set (by rw [List.length_map]; exact hlen), map_set_cv]
theorem AW_putF (n' : Nat) (hX : CxOk X y cc k rc rs) {ix ci kf a : Nat} {fs : List Value} {v : Value} (hd : decode cc pc = .ok (.putfield ix, 3)) (hn : pc + 3 = n') (hl : FL y.cls ix ci kf) (ha : h a = some (.inl (ci, fs))) (hfin : ((cg ci).2.1 kf).2.2.2 = true) (hini : y.name = "<init>") (hdecl : ((cg ci).2.1 kf).1 = y.cls) (hnv : ∀ b, narrow (tg ci kf) (cv b v) = cv b v) (hfv : ∀ b, fits (tg ci kf) (cv b v) = true) (hlen : kf < fs.length) (kk : AW X cs ss n' ls st (hset h a (.inl (ci, fs.set kf v)))) : AW X cs ss pc ls (v :: .ref a :: st) h := by
  subst hn
  obtain ⟨p, l, e, R, s, m, args, below, meth, c, Q, g⟩ := X
  obtain ⟨hx, hb, hown, hts, hwe, hwf, ⟨hkf, hkl, hrc, hrs⟩, hnm⟩ := hX
  intro H locs la hw hS hla
  obtain ⟨ha1, ha2⟩ := wh_at hw ha
  have CL := CLs ci hl.1
  have hk := hl.2.1
  simp only [List.map_cons, cv_ref ha1]
  have hap := va_apart (D := g.2.1) (own := y.cls) hts CL.2.1 (tg ci) CL.2.2.1 CL.2.2.2 hwe.1 CL.1
  obtain ⟨r, h1, cell, q1, q2, q3, q4⟩ := ha2
  have hr : r = ((cg ci).1, (cg ci).2.1, (cg ci).2.2) := Option.some.inj (h1.symm.trans CL.1)
  subst hr
  obtain ⟨hSl, hfc, kC, hkC, hkind⟩ := hwe.1.1 ci _ CL.1
  obtain ⟨cf, kf', fi, f, hi, hsl⟩ := hSl kf hk
  have hlay := hts _ (CL.2.1 _ (u_in_lay hk))
  unfold u_lay at hlay
  rw [if_pos hfin] at hlay
  have hst := (u_facts hfc hkC (u_lays hts CL.2.1 hk) hi).1
  have hcf : m.cls = cf := by
    obtain ⟨_, _, c', _, _, _, -, -, hf', -, -, -, hown2, -⟩ := Cond.laysFinal_spec hlay
    have e1 : c' = cf := by have := hi.symm.trans hf'; simp at this; exact this.1.symm
    rw [hdecl] at hown2
    rw [← e1]; exact Option.some.inj (hown.symm.trans hown2)
  have h6 := u_fits hfc hkC hkind (Or.inr hlay) hi (CL.2.2.1 kf hk) (hnv g) (hfv g)
  refine W.putFinK hx hb hown (hts _ hl.2.2) hi hst hcf (hnm.trans hini) (by rw [q2]; exact h6) q1 q3 (by rw [hsl]; exact k2_hasslot (q4 kf hk)) rfl rfl hd fun H' e1 e2 e3 => ?_
  rw [hsl] at e1 ⊢
  refine kk H' _ la (wh_set hw ha e2 e3 ⟨_, CL.1, t_OB.to (V := updV (vp_V (fs.map (cv g))) kf (cv g v)) ⟨_, e1, q2, q3, t_set q4 hap hk _⟩ (fun j _ => ?_)⟩) (hS.put e2 e3 (Nat.le_add_right _ _)) hla
  rw [vp_updV_set (by rw [List.length_map]; exact hlen), map_set_cv]
theorem AW_iald (n' : Nat) (hX : CxOk X y cc k rc rs) {a n j : Nat} {f : Nat → Int32} {x : Int32} (hd : decode cc pc = .ok (.iaload, 1)) (hn : pc + 1 = n') (ha : h a = some (.inr (0, n, f))) (hj : j < n) (hi : x = nI j) (kk : AW X cs ss n' ls (.int (f j) :: st) h) (hN : n < 2 ^ 31 := by decide) : AW X cs ss pc ls (.int x :: .ref a :: st) h := by
  subst hn
  subst hi
  obtain ⟨p, l, e, R, s, m, args, below, meth, c, Q, g⟩ := X
  obtain ⟨hx, hb, hown, hts, hwe, hwf, ⟨hkf, hkl, hrc, hrs⟩, hnm⟩ := hX
  intro H locs la hw hS hla
  obtain ⟨ha1, ha2⟩ := wh_at hw ha
  simp only [List.map_cons, cv_ref ha1]
  have h1 := kk H locs la hw hS hla
  refine va_iald (D := g.2.1) hx hb hwe.1 (vp1 ha2) 0 0 rfl (gty_at g (by decide)) (vp_in_nI hj hN) hd ?_
  rw [nI_clamp (Nat.lt_trans hj hN)]
  exact h1
theorem AW_bald (n' : Nat) (hX : CxOk X y cc k rc rs) {a n j : Nat} {f : Nat → Int32} {x : Int32} (hd : decode cc pc = .ok (.baload, 1)) (hn : pc + 1 = n') (ha : h a = some (.inr (1, n, f))) (hj : j < n) (hi : x = nI j) (kk : AW X cs ss n' ls (.int (f j) :: st) h) (hN : n < 2 ^ 31 := by decide) : AW X cs ss pc ls (.int x :: .ref a :: st) h := by
  subst hn
  subst hi
  obtain ⟨p, l, e, R, s, m, args, below, meth, c, Q, g⟩ := X
  obtain ⟨hx, hb, hown, hts, hwe, hwf, ⟨hkf, hkl, hrc, hrs⟩, hnm⟩ := hX
  intro H locs la hw hS hla
  obtain ⟨ha1, ha2⟩ := wh_at hw ha
  simp only [List.map_cons, cv_ref ha1]
  have h1 := kk H locs la hw hS hla
  refine va_bald (D := g.2.1) hx hb hwe.1 (vp1 ha2) 0 1 rfl (gty_at g (by decide)) (vp_in_nI hj hN) hd ?_
  rw [nI_clamp (Nat.lt_trans hj hN)]
  exact h1
theorem AW_zald (n' : Nat) (hX : CxOk X y cc k rc rs) {a n j : Nat} {f : Nat → Int32} {x : Int32} (hd : decode cc pc = .ok (.baload, 1)) (hn : pc + 1 = n') (ha : h a = some (.inr (2, n, f))) (hj : j < n) (hi : x = nI j) (kk : AW X cs ss n' ls (.int (f j) :: st) h) (hN : n < 2 ^ 31 := by decide) : AW X cs ss pc ls (.int x :: .ref a :: st) h := by
  subst hn
  subst hi
  obtain ⟨p, l, e, R, s, m, args, below, meth, c, Q, g⟩ := X
  obtain ⟨hx, hb, hown, hts, hwe, hwf, ⟨hkf, hkl, hrc, hrs⟩, hnm⟩ := hX
  intro H locs la hw hS hla
  obtain ⟨ha1, ha2⟩ := wh_at hw ha
  simp only [List.map_cons, cv_ref ha1]
  have h1 := kk H locs la hw hS hla
  refine va_zald (D := g.2.1) hx hb hwe.1 (vp1 ha2) 0 2 rfl (gty_at g (by decide)) (vp_in_nI hj hN) hd ?_
  rw [nI_clamp (Nat.lt_trans hj hN)]
  exact h1
theorem AW_iast (n' : Nat) (hX : CxOk X y cc k rc rs) {a n j : Nat} {f : Nat → Int32} {x v : Int32} (hd : decode cc pc = .ok (.iastore, 1)) (hn : pc + 1 = n') (ha : h a = some (.inr (0, n, f))) (hj : j < n) (hi : x = nI j) (kk : AW X cs ss n' ls st (hset h a (.inr (0, n, upd f j (v))))) (hN : n < 2 ^ 31 := by decide) : AW X cs ss pc ls (.int v :: .int x :: .ref a :: st) h := by
  subst hn
  subst hi
  obtain ⟨p, l, e, R, s, m, args, below, meth, c, Q, g⟩ := X
  obtain ⟨hx, hb, hown, hts, hwe, hwf, ⟨hkf, hkl, hrc, hrs⟩, hnm⟩ := hX
  intro H locs la hw hS hla
  obtain ⟨ha1, ha2⟩ := wh_at hw ha
  simp only [List.map_cons, cv_ref ha1]
  have hcl : (nI j).toNatClampNeg = j := nI_clamp (Nat.lt_trans hj hN)
  refine W.iast hx hb ha2 ((hwe.1.2 0 _ (gty_at g (by decide))).1 n (fun j => .int (f j))) (fun q => by cases q) (by show ¬ (_ ∨ (arrV _ _ _).slots.size ≤ _); rw [arrV_size]; exact vp_in_nI hj hN) rfl rfl hd fun H1 e z oq => ?_
  rw [hcl] at e ⊢
  refine kk H1 _ la (wh_set hw ha z oq ?_) (hS.put z oq (Nat.le_add_right _ _)) hla
  show H1[_]? = some (vp_cell _ _)
  rw [e]
  show some (Cell.setSlot (vp_cell _ _) _ _) = _
  rw [vp_cell_i, vp_cell_i, arrV_store]
  congr 2
  funext q
  by_cases hq : q = j
  · subst hq
    simp [updV, upd]
    try rfl
  · simp [updV, upd, hq]
theorem AW_bast (n' : Nat) (hX : CxOk X y cc k rc rs) {a n j : Nat} {f : Nat → Int32} {x v : Int32} (hd : decode cc pc = .ok (.bastore, 1)) (hn : pc + 1 = n') (ha : h a = some (.inr (1, n, f))) (hj : j < n) (hi : x = nI j) (kk : AW X cs ss n' ls st (hset h a (.inr (1, n, upd f j (vp_nar .byte v))))) (hN : n < 2 ^ 31 := by decide) : AW X cs ss pc ls (.int v :: .int x :: .ref a :: st) h := by
  subst hn
  subst hi
  obtain ⟨p, l, e, R, s, m, args, below, meth, c, Q, g⟩ := X
  obtain ⟨hx, hb, hown, hts, hwe, hwf, ⟨hkf, hkl, hrc, hrs⟩, hnm⟩ := hX
  intro H locs la hw hS hla
  obtain ⟨ha1, ha2⟩ := wh_at hw ha
  simp only [List.map_cons, cv_ref ha1]
  have hcl : (nI j).toNatClampNeg = j := nI_clamp (Nat.lt_trans hj hN)
  refine W.bast hx hb ha2 ((hwe.1.2 1 _ (gty_at g (by decide))).1 n (fun j => .int (f j))) (fun q => by cases q) (by show ¬ (_ ∨ (arrV _ _ _).slots.size ≤ _); rw [arrV_size]; exact vp_in_nI hj hN) rfl rfl hd fun H1 e z oq => ?_
  rw [hcl] at e ⊢
  refine kk H1 _ la (wh_set hw ha z oq ?_) (hS.put z oq (Nat.le_add_right _ _)) hla
  show H1[_]? = some (vp_cell _ _)
  rw [e]
  show some (Cell.setSlot (vp_cell _ _) _ _) = _
  rw [vp_cell_i, vp_cell_i, arrV_store]
  congr 2
  funext q
  by_cases hq : q = j
  · subst hq
    simp [updV, upd, vp_nar]
    try rfl
  · simp [updV, upd, hq]
theorem AW_zast (n' : Nat) (hX : CxOk X y cc k rc rs) {a n j : Nat} {f : Nat → Int32} {x v : Int32} (hd : decode cc pc = .ok (.bastore, 1)) (hn : pc + 1 = n') (ha : h a = some (.inr (2, n, f))) (hj : j < n) (hi : x = nI j) (kk : AW X cs ss n' ls st (hset h a (.inr (2, n, upd f j (vp_nar .boolean v))))) (hN : n < 2 ^ 31 := by decide) : AW X cs ss pc ls (.int v :: .int x :: .ref a :: st) h := by
  subst hn
  subst hi
  obtain ⟨p, l, e, R, s, m, args, below, meth, c, Q, g⟩ := X
  obtain ⟨hx, hb, hown, hts, hwe, hwf, ⟨hkf, hkl, hrc, hrs⟩, hnm⟩ := hX
  intro H locs la hw hS hla
  obtain ⟨ha1, ha2⟩ := wh_at hw ha
  simp only [List.map_cons, cv_ref ha1]
  have hcl : (nI j).toNatClampNeg = j := nI_clamp (Nat.lt_trans hj hN)
  refine W.zast hx hb ha2 ((hwe.1.2 2 _ (gty_at g (by decide))).1 n (fun j => .int (f j))) (fun q => by cases q) (by show ¬ (_ ∨ (arrV _ _ _).slots.size ≤ _); rw [arrV_size]; exact vp_in_nI hj hN) rfl rfl hd fun H1 e z oq => ?_
  rw [hcl] at e ⊢
  refine kk H1 _ la (wh_set hw ha z oq ?_) (hS.put z oq (Nat.le_add_right _ _)) hla
  show H1[_]? = some (vp_cell _ _)
  rw [e]
  show some (Cell.setSlot (vp_cell _ _) _ _) = _
  rw [vp_cell_i, vp_cell_i, arrV_store]
  congr 2
  funext q
  by_cases hq : q = j
  · subst hq
    simp [updV, upd, vp_nar]
    try rfl
  · simp [updV, upd, hq]
theorem AW_iret (hX : CxOk X y cc k rc rs) {v : Int32} {ty : FieldType} (hE : Ex X (some ty) rc rs K) (hd : decode cc pc = .ok (.ireturn, 1)) (hn : narrow ty (.int v) = .int v) (hc : cs ≤ rc) (hs : ss ≤ rs) (hK : K (some (.int v)) h) : AW X cs ss pc ls [.int v] h := by
  obtain ⟨p, l, e, R, s, m, args, below, meth, c, Q, g⟩ := X
  obtain ⟨hx, hb, hown, hts, hwe, hwf, ⟨hkf, hkl, hrc, hrs⟩, hnm⟩ := hX
  obtain ⟨hr, hlk, rfl⟩ := hE
  intro H locs la hw hS hla
  refine W.widen hc hs ?_
  exact W.zret hx hb hr hn (fun t ht hW => ⟨⟨some (.int v), h, rfl, hK, we_warm hW hwe, wf_moved hW.alike (fun a h1 h2 => by rw [ht]; exact hS.2.1 a h1 h2) hwf, by rw [ht]; exact hw⟩, hS.F ht⟩) hS.2.2 hd hlk
theorem AW_lret (hX : CxOk X y cc k rc rs) {v : Int64} (hE : Ex X (some .long) rc rs K) (hd : decode cc pc = .ok (.lreturn, 1)) (hc : cs ≤ rc) (hs : ss ≤ rs) (hK : K (some (.long v)) h) : AW X cs ss pc ls [.long v] h := by
  obtain ⟨p, l, e, R, s, m, args, below, meth, c, Q, g⟩ := X
  obtain ⟨hx, hb, hown, hts, hwe, hwf, ⟨hkf, hkl, hrc, hrs⟩, hnm⟩ := hX
  obtain ⟨hr, hlk, rfl⟩ := hE
  intro H locs la hw hS hla
  refine W.widen hc hs ?_
  exact W.lret hx hb hr (fun t ht hW => ⟨⟨some (.long v), h, rfl, hK, we_warm hW hwe, wf_moved hW.alike (fun a h1 h2 => by rw [ht]; exact hS.2.1 a h1 h2) hwf, by rw [ht]; exact hw⟩, hS.F ht⟩) hS.2.2 hd hlk
theorem AW_vret (hX : CxOk X y cc k rc rs) (hE : Ex X none rc rs K) (hd : decode cc pc = .ok (.return_, 1)) (hc : cs ≤ rc) (hs : ss ≤ rs) (hK : K none h) : AW X cs ss pc ls [] h := by
  obtain ⟨p, l, e, R, s, m, args, below, meth, c, Q, g⟩ := X
  obtain ⟨hx, hb, hown, hts, hwe, hwf, ⟨hkf, hkl, hrc, hrs⟩, hnm⟩ := hX
  obtain ⟨hr, hlk, rfl⟩ := hE
  intro H locs la hw hS hla
  refine W.widen hc hs ?_
  exact W.vret hx hb hr (fun t ht hW => ⟨⟨none, h, rfl, hK, we_warm hW hwe, wf_moved hW.alike (fun a h1 h2 => by rw [ht]; exact hS.2.1 a h1 h2) hwf, by rw [ht]; exact hw⟩, hS.F ht⟩) hS.2.2 hd hlk
theorem AW_run {p : Program} {l : Launch} {e : Env} {R : Room} {s : State} {m : MethodId} {args : Array Value} {below : List Frame} {meth : Method} {c : Code} {Q : State → Prop} {g : Gl} {H : Heap} {locs : List Loc} {la : Array Slot} {mc ms : Nat} {st0 : List Value} {av : Array Value} {rest : List Value}
    (hr : va_Run p l e R s m args below meth c H locs cs ss mc ms (F0 m pc la st0) (rest.map (cv g)) (Qk g (fun r h' => AW (p, l, e, R, s, m, args, below, meth, c, Q, g) (cs + mc) (ss + ms) (pc + 3) ls (pushR r rest) h') av) (fun q => g.1 ≤ q)) (hS : va_S (fun q => g.1 ≤ q) s.heap H locs) (hla : lh g la c.maxLocals ls) : W p l e R s m args below meth c H locs cs ss Q (F0 m pc la st0) := by
  intro T hT Xs
  obtain ⟨v, st₀, t, T', L, h0, X', hL, e1, e2, ⟨⟨r, h', hv, hK, hwo⟩, hz, hkp⟩, stp⟩ := hr T hT Xs
  have hv' : v = r.map (cv g) := by injection hv
  subst hv'
  rw [h0] at hz hkp
  have hS' : va_S (fun q => g.1 ≤ q) s.heap T'.heap (locs ++ L) := ⟨Nat.le_trans hS.1 (by rw [e1]; exact hz), fun q h1 h2 => by rw [e1, hkp q (Nat.lt_of_lt_of_le h1 hS.1) h2]; exact hS.2.1 q h1 h2, fun q hq => by
    rcases List.mem_append.mp hq with h | h
    · exact hS.2.2 q h
    · exact hL q h⟩
  obtain ⟨t2, a1, b1⟩ := hK T'.heap (locs ++ L) la (by rw [e1]; exact hwo.2.2) hS' hla T' rfl X'
  refine ⟨t2, stp t2 ?_, b1⟩
  cases r <;> exact a1
theorem rest_cat {g : Gl} {m : MethodId} {la : Array Slot} {st0 rest : List Value} (hr : (rest.map fun v => v.category).sum ≤ 8) : 2 * (F0 m pc la st0).monitorRoom + ((rest.map (cv g)).map fun v => v.category).sum ≤ 8 := by
  refine lv_room ?_
  rw [List.map_map]
  have : ((fun v : Value => v.category) ∘ cv g) = fun v : Value => v.category := funext fun v => cv_cat g v
  rw [this]
  exact hr
theorem AW_callV (n' : Nat) (hX : CxOk X y cc k rc rs) {z : MethodName} {cz : ByteArray} {mz nz kz mc ms : Nat} {rz : Option FieldType} {ix b ci : Nat} {As rest : List Value} {fs : List Value} (hd : decode cc pc = .ok (.invokevirtual ix, 3)) (hn : pc + 3 = n') (hl : Cond.methodLink y.cls ix z ∈ gt) (mw : MV z cz mz rz nz) (hbb : h b = some (.inl (ci, fs))) (hci : ci < 7) (hc : (cg ci).1 = z.cls) (hA : As.length = nz) (hst : st = As.reverse ++ .ref b :: rest) (hr : (rest.map fun v => v.category).sum ≤ 8) (hk : kz < k) (hcc : cs + mc ≤ rc ∧ ss + ms ≤ rs) (hM : AM kz mc ms z cz mz rz (.ref b :: As) h (fun r h' => AW X (cs + mc) (ss + ms) n' ls (pushR r rest) h')) : AW X cs ss pc ls st h := by
  subst hn
  subst hst
  obtain ⟨p, l, e, R, s, m, args, below, meth, c, Q, g⟩ := X
  obtain ⟨hx, hb, hown, hts, hwe, hwf, ⟨hkf, hkl, hrc, hrs⟩, hnm⟩ := hX
  intro H locs la hw hS hla
  obtain ⟨ha1, ha2⟩ := wh_at hw hbb
  have CL := CLs ci hci
  obtain ⟨⟨m1, m2, m3, m4⟩, m5, m6⟩ := mw
  have hM' := hM l g
  rw [List.map_cons, cv_ref ha1] at hM'
  refine AW_run (mc := mc) (ms := ms) (rest := rest) (va_runV (As := As.map (cv g)) (b := g.1 + b) (nL := c.maxLocals) (C := z.cls) ⟨hx, hb, rfl, hown, hts⟩ hM' ⟨callB_of nz hts (good_gt (nz := nz) ⟨m1, m2, m3, m4⟩) rfl rfl rfl (hts _ m2) (hts _ hl) m3 ⟨by show kz + 1 ≤ _; omega, by show 8 + (mz + 11) + 37 * kz ≤ _; omega⟩, hts _ m5, hts _ m6⟩ ⟨wo_blind, ?_, fun U hU hW => ⟨rfl, we_warm hW hwe, wf_moved hW.alike (fun a h1 h2 => by rw [hU]; exact hS.2.1 a h1 h2) hwf, by rw [hU]; exact hw⟩⟩ rfl (by rw [List.length_map]; exact hA) hla.2.1 ?_ (rest_cat hr) hd ⟨by rw [hrc]; exact hcc.1, by rw [hrs]; exact hcc.2⟩) hS hla
  · have := va_recv (q0 := 0) hwe.1 (vp1 ha2) CL.1 rfl
    rw [← hc]
    exact this
  · simp only [List.map_append, List.map_reverse, List.map_cons, cv_ref ha1]
theorem AW_callI (n' : Nat) (hX : CxOk X y cc k rc rs) {z : MethodName} {cz : ByteArray} {mz nz kz mc ms : Nat} {ix b : Nat} {As rest : List Value} {cell : AC} (hd : decode cc pc = .ok (.invokespecial ix, 3)) (hn : pc + 3 = n') (hl : Cond.methodLink y.cls ix z ∈ gt) (mw : MI z cz mz nz) (hbb : h b = some cell) (hA : As.length = nz) (hst : st = As.reverse ++ .ref b :: rest) (hr : (rest.map fun v => v.category).sum ≤ 8) (hk : kz < k) (hcc : cs + mc ≤ rc ∧ ss + ms ≤ rs) (hM : AM kz mc ms z cz mz none (.ref b :: As) h (fun r h' => AW X (cs + mc) (ss + ms) n' ls (pushR r rest) h')) : AW X cs ss pc ls st h := by
  subst hn
  subst hst
  obtain ⟨p, l, e, R, s, m, args, below, meth, c, Q, g⟩ := X
  obtain ⟨hx, hb, hown, hts, hwe, hwf, ⟨hkf, hkl, hrc, hrs⟩, hnm⟩ := hX
  intro H locs la hw hS hla
  obtain ⟨ha1, ha2⟩ := wh_at hw hbb
  obtain ⟨⟨m1, m2, m3, m4⟩, m5, m6⟩ := mw
  have hM' := hM l g
  rw [List.map_cons, cv_ref ha1] at hM'
  refine AW_run (mc := mc) (ms := ms) (rest := rest) (va_runI (As := As.map (cv g)) (b := g.1 + b) (nL := c.maxLocals) ⟨hx, hb, rfl, hown, hts⟩ hM' ⟨callB_of nz hts (good_gt (nz := nz) ⟨m1, m2, m3, m4⟩) rfl rfl rfl (hts _ m2) (hts _ hl) m3 ⟨by show kz + 1 ≤ _; omega, by show 8 + (mz + 11) + 37 * kz ≤ _; omega⟩, m5, hts _ m6⟩ ⟨wo_blind, fun U hU hW => ⟨rfl, we_warm hW hwe, wf_moved hW.alike (fun a h1 h2 => by rw [hU]; exact hS.2.1 a h1 h2) hwf, by rw [hU]; exact hw⟩⟩ rfl (by rw [List.length_map]; exact hA) hla.2.1 ?_ (rest_cat hr) hd ⟨by rw [hrc]; exact hcc.1, by rw [hrs]; exact hcc.2⟩) hS hla
  simp only [List.map_append, List.map_reverse, List.map_cons, cv_ref ha1]
theorem AW_callIN (n' : Nat) (hX : CxOk X y cc k rc rs) {z : MethodName} {cz : ByteArray} {mz nz kz mc ms : Nat} {ix b : Nat} {host : String} {As rest : List Value} {cell : AC} (hd : decode cc pc = .ok (.invokespecial ix, 3)) (hn : pc + 3 = n') (hl : (y.cls, ix, z, host) ∈ nwT) (mw : MI z cz mz nz) (hbb : h b = some cell) (hA : As.length = nz) (hst : st = As.reverse ++ .ref b :: rest) (hr : (rest.map fun v => v.category).sum ≤ 8) (hk : kz < k) (hcc : cs + mc ≤ rc ∧ ss + ms ≤ rs) (hM : AM kz mc ms z cz mz none (.ref b :: As) h (fun r h' => AW X (cs + mc) (ss + ms) n' ls (pushR r rest) h')) : AW X cs ss pc ls st h := by
  subst hn
  subst hst
  obtain ⟨p, l, e, R, s, m, args, below, meth, c, Q, g⟩ := X
  obtain ⟨hx, hb, hown, hts, hwe, hwf, ⟨hkf, hkl, hrc, hrs⟩, hnm⟩ := hX
  intro H locs la hw hS hla
  obtain ⟨ha1, ha2⟩ := wh_at hw hbb
  obtain ⟨⟨m1, m2, m3, m4⟩, m5, m6⟩ := mw
  have hM' := hM l g
  rw [List.map_cons, cv_ref ha1] at hM'
  refine AW_run (mc := mc) (ms := ms) (rest := rest) (va_runIN (As := As.map (cv g)) (b := g.1 + b) (nL := c.maxLocals) (host := host) ⟨hx, hb, rfl, hown, hts⟩ hM' ⟨va_cnB nz hts (good_gt (nz := nz) ⟨m1, m2, m3, m4⟩) rfl rfl rfl (hwe.2.1 _ hl) (hts _ m2) m3 ⟨by show kz + 1 ≤ _; omega, by show 8 + (mz + 11) + 37 * kz ≤ _; omega⟩, m5, hts _ m6⟩ ⟨wo_blind, fun U hU hW => ⟨rfl, we_warm hW hwe, wf_moved hW.alike (fun a h1 h2 => by rw [hU]; exact hS.2.1 a h1 h2) hwf, by rw [hU]; exact hw⟩⟩ rfl (by rw [List.length_map]; exact hA) hla.2.1 ?_ (rest_cat hr) hd ⟨by rw [hrc]; exact hcc.1, by rw [hrs]; exact hcc.2⟩) hS hla
  simp only [List.map_append, List.map_reverse, List.map_cons, cv_ref ha1]
theorem AW_callS (n' : Nat) (hX : CxOk X y cc k rc rs) {z : MethodName} {cz : ByteArray} {mz nz kz mc ms : Nat} {rz : Option FieldType} {ix : Nat} {As rest : List Value} (hd : decode cc pc = .ok (.invokestatic ix, 3)) (hn : pc + 3 = n') (hl : Cond.methodLink y.cls ix z ∈ gt) (mw : MS z cz mz rz nz) (hA : As.length = nz) (hst : st = As.reverse ++ rest) (hr : (rest.map fun v => v.category).sum ≤ 8) (hk : kz < k) (hcc : cs + mc ≤ rc ∧ ss + ms ≤ rs) (hM : AM kz mc ms z cz mz rz As h (fun r h' => AW X (cs + mc) (ss + ms) n' ls (pushR r rest) h')) : AW X cs ss pc ls st h := by
  subst hn
  subst hst
  obtain ⟨p, l, e, R, s, m, args, below, meth, c, Q, g⟩ := X
  obtain ⟨hx, hb, hown, hts, hwe, hwf, ⟨hkf, hkl, hrc, hrs⟩, hnm⟩ := hX
  intro H locs la hw hS hla
  obtain ⟨⟨m1, m2, m3, m4⟩, m5⟩ := mw
  refine AW_run (mc := mc) (ms := ms) (rest := rest) (va_runS (As := As.map (cv g)) (nL := c.maxLocals) ⟨hx, hb, rfl, hown, hts⟩ (hM l g) ⟨callB_of nz hts (good_gt (nz := nz) ⟨m1, m2, m3, m4⟩) rfl rfl rfl (hts _ m2) (hts _ hl) m3 ⟨by show kz + 1 ≤ _; omega, by show 8 + (mz + 11) + 37 * kz ≤ _; omega⟩, hts _ m5⟩ ⟨wo_blind, fun U hU hW => ⟨rfl, we_warm hW hwe, wf_moved hW.alike (fun a h1 h2 => by rw [hU]; exact hS.2.1 a h1 h2) hwf, by rw [hU]; exact hw⟩⟩ rfl (by rw [List.length_map]; exact hA) hla.2.1 ?_ (rest_cat hr) hd ⟨by rw [hrc]; exact hcc.1, by rw [hrs]; exact hcc.2⟩) hS hla
  simp only [List.map_append, List.map_reverse]
theorem AW_callSN (n' : Nat) (hX : CxOk X y cc k rc rs) {z : MethodName} {cz : ByteArray} {mz nz kz mc ms : Nat} {rz : Option FieldType} {ix : Nat} {host : String} {As rest : List Value} (hd : decode cc pc = .ok (.invokestatic ix, 3)) (hn : pc + 3 = n') (hl : (y.cls, ix, z, host) ∈ nwT) (mw : MS z cz mz rz nz) (hA : As.length = nz) (hst : st = As.reverse ++ rest) (hr : (rest.map fun v => v.category).sum ≤ 8) (hk : kz < k) (hcc : cs + mc ≤ rc ∧ ss + ms ≤ rs) (hM : AM kz mc ms z cz mz rz As h (fun r h' => AW X (cs + mc) (ss + ms) n' ls (pushR r rest) h')) : AW X cs ss pc ls st h := by
  subst hn
  subst hst
  obtain ⟨p, l, e, R, s, m, args, below, meth, c, Q, g⟩ := X
  obtain ⟨hx, hb, hown, hts, hwe, hwf, ⟨hkf, hkl, hrc, hrs⟩, hnm⟩ := hX
  intro H locs la hw hS hla
  obtain ⟨⟨m1, m2, m3, m4⟩, m5⟩ := mw
  refine AW_run (mc := mc) (ms := ms) (rest := rest) (va_runSN (As := As.map (cv g)) (nL := c.maxLocals) (host := host) ⟨hx, hb, rfl, hown, hts⟩ (hM l g) ⟨va_cnB nz hts (good_gt (nz := nz) ⟨m1, m2, m3, m4⟩) rfl rfl rfl (hwe.2.1 _ hl) (hts _ m2) m3 ⟨by show kz + 1 ≤ _; omega, by show 8 + (mz + 11) + 37 * kz ≤ _; omega⟩, hts _ m5, trivial⟩ ⟨wo_blind, fun U hU hW => ⟨rfl, we_warm hW hwe, wf_moved hW.alike (fun a h1 h2 => by rw [hU]; exact hS.2.1 a h1 h2) hwf, by rw [hU]; exact hw⟩⟩ rfl (by rw [List.length_map]; exact hA) hla.2.1 ?_ (rest_cat hr) hd ⟨by rw [hrc]; exact hcc.1, by rw [hrs]; exact hcc.2⟩) hS hla
  simp only [List.map_append, List.map_reverse]
theorem AW_callT (n' : Nat) (hX : CxOk X y cc k rc rs) {z : MethodName} {cz : ByteArray} {mz nz kz : Nat} {rz : Option FieldType} {ix : Nat} {As rest : List Value} (hd : decode cc pc = .ok (.invokevirtual ix, 3)) (hn : pc + 3 = n') (hl : Cond.methodLink y.cls ix z ∈ gt) (mw : MV z cz mz rz nz) (hc : z.cls = "java/lang/String") (hA : As.length = nz) (hst : st = As.reverse ++ .ref 1001 :: rest) (hr : (rest.map fun v => v.category).sum ≤ 8) (hk : kz < k) (hcc : cs ≤ rc ∧ ss ≤ rs) (hM : AM kz 0 0 z cz mz rz (.ref 1001 :: As) h (fun r h' => AW X cs ss n' ls (pushR r rest) h')) : AW X cs ss pc ls st h := by
  subst hn
  subst hst
  obtain ⟨p, l, e, R, s, m, args, below, meth, c, Q, g⟩ := X
  obtain ⟨hx, hb, hown, hts, hwe, hwf, ⟨hkf, hkl, hrc, hrs⟩, hnm⟩ := hX
  intro H locs la hw hS hla
  obtain ⟨⟨m1, m2, m3, m4⟩, m5, m6⟩ := mw
  refine AW_run (mc := 0) (ms := 0) (rest := rest) (va_runV (As := As.map (cv g)) (b := g.2.2.2.1) (nL := c.maxLocals) (C := z.cls) ⟨hx, hb, rfl, hown, hts⟩ (hM l g) ⟨callB_of nz hts (good_gt (nz := nz) ⟨m1, m2, m3, m4⟩) rfl rfl rfl (hts _ m2) (hts _ hl) m3 ⟨by show kz + 1 ≤ _; omega, by show 8 + (mz + 11) + 37 * kz ≤ _; omega⟩, hts _ m5, hts _ m6⟩ ⟨wo_blind, ?_, fun U hU hW => ⟨rfl, we_warm hW hwe, wf_moved hW.alike (fun a h1 h2 => by rw [hU]; exact hS.2.1 a h1 h2) hwf, by rw [hU]; exact hw⟩⟩ rfl (by rw [List.length_map]; exact hA) hla.2.1 ?_ (rest_cat hr) hd ⟨by rw [hrc]; exact hcc.1, by rw [hrs]; exact hcc.2⟩) hS hla
  · rw [hc]
    exact vk_recv hwf.1 (i := 0) (by decide) hS
  · simp only [List.map_append, List.map_reverse, List.map_cons, cv_str]
theorem AW_ldcS (n' : Nat) (hX : CxOk X y cc k rc rs) (hd : decode cc pc = .ok (.ldc 9, 2)) (hn : pc + 2 = n') (hy : y.cls = "StiltYard$Kind") (kk : AW X cs ss n' ls (.ref 1001 :: st) h) : AW X cs ss pc ls st h := by
  subst hn
  obtain ⟨p, l, e, R, s, m, args, below, meth, c, Q, g⟩ := X
  obtain ⟨hx, hb, hown, hts, hwe, hwf, ⟨hkf, hkl, hrc, hrs⟩, hnm⟩ := hX
  intro H locs la hw hS hla
  rw [hy] at hown
  exact va_ldcS hx hb hown hwe.2.2 hd (kk H locs la hw hS hla)
theorem AW_coder (n' : Nat) (hX : CxOk X y cc k rc rs) {ix : Nat} (hd : decode cc pc = .ok (.getfield ix, 3)) (hn : pc + 3 = n') (hl : Cond.fieldLink y.cls ix "java/lang/String" "coder" "B" ∈ gt) (kk : AW X cs ss n' ls (.int 0 :: st) h) : AW X cs ss pc ls (.ref 1001 :: st) h := by
  subst hn
  obtain ⟨p, l, e, R, s, m, args, below, meth, c, Q, g⟩ := X
  obtain ⟨hx, hb, hown, hts, hwe, hwf, ⟨hkf, hkl, hrc, hrs⟩, hnm⟩ := hX
  intro H locs la hw hS hla
  exact vk_getf hx hb ((hwf.1.1 0 (by decide)).2.1) hS hown (hts _ hl) (fun _ h9 => h9) hd (kk H locs la hw hS hla)
theorem AW_value (n' : Nat) (hX : CxOk X y cc k rc rs) {ix : Nat} (hd : decode cc pc = .ok (.getfield ix, 3)) (hn : pc + 3 = n') (hl : Cond.fieldLink y.cls ix "java/lang/String" "value" "[B" ∈ gt) (kk : AW X cs ss n' ls (.ref 1002 :: st) h) : AW X cs ss pc ls (.ref 1001 :: st) h := by
  subst hn
  obtain ⟨p, l, e, R, s, m, args, below, meth, c, Q, g⟩ := X
  obtain ⟨hx, hb, hown, hts, hwe, hwf, ⟨hkf, hkl, hrc, hrs⟩, hnm⟩ := hX
  intro H locs la hw hS hla
  exact vk_getf hx hb ((hwf.1.1 0 (by decide)).2.2.1) hS hown (hts _ hl) (fun _ h9 => h9) hd (kk H locs la hw hS hla)
theorem AW_compact (n' : Nat) (hX : CxOk X y cc k rc rs) {ix : Nat} (hd : decode cc pc = .ok (.getstatic ix, 3)) (hn : pc + 3 = n') (hl : Cond.fieldLink y.cls ix "java/lang/String" "COMPACT_STRINGS" "Z" ∈ gt) (kk : AW X cs ss n' ls (.int 1 :: st) h) : AW X cs ss pc ls st h := by
  subst hn
  obtain ⟨p, l, e, R, s, m, args, below, meth, c, Q, g⟩ := X
  obtain ⟨hx, hb, hown, hts, hwe, hwf, ⟨hkf, hkl, hrc, hrs⟩, hnm⟩ := hX
  intro H locs la hw hS hla
  exact va_gets hx hb hwf.2 hS hown (hts _ hl) (fun _ h9 => h9) hd (kk H locs la hw hS hla)
theorem AW_textAt (n' : Nat) (hX : CxOk X y cc k rc rs) {x : Int32} {j : Nat} (hd : decode cc pc = .ok (.baload, 1)) (hn : pc + 1 = n') (hj : j < 5) (hi : x = nI j) (kk : AW X cs ss n' ls (.int (([112, 108, 103, 98, 111] : List Int32).getD j 0) :: st) h) : AW X cs ss pc ls (.int x :: .ref 1002 :: st) h := by
  subst hn
  subst hi
  obtain ⟨p, l, e, R, s, m, args, below, meth, c, Q, g⟩ := X
  obtain ⟨hx, hb, hown, hts, hwe, hwf, ⟨hkf, hkl, hrc, hrs⟩, hnm⟩ := hX
  intro H locs la hw hS hla
  refine va_tb hx hb ((hwf.1.1 0 (by decide)).2.2.2) hS (vp_in_nI hj (by decide)) (v := .int (([112, 108, 103, 98, 111] : List Int32).getD j 0)) ?_ hd (kk H locs la hw hS hla)
  rw [nI_clamp (by omega)]
  rfl
theorem AW_textLen (n' : Nat) (hX : CxOk X y cc k rc rs) (hd : decode cc pc = .ok (.arraylength, 1)) (hn : pc + 1 = n') (kk : AW X cs ss n' ls (.int 5 :: st) h) : AW X cs ss pc ls (.ref 1002 :: st) h := by
  subst hn
  obtain ⟨p, l, e, R, s, m, args, below, meth, c, Q, g⟩ := X
  obtain ⟨hx, hb, hown, hts, hwe, hwf, ⟨hkf, hkl, hrc, hrs⟩, hnm⟩ := hX
  intro H locs la hw hS hla
  exact va_tlen hx hb ((hwf.1.1 0 (by decide)).2.2.2) hS (v := 5) (by decide) hd (kk H locs la hw hS hla)
theorem AW_new (n' : Nat) (hX : CxOk X y cc k rc rs) {ix ci n : Nat} (fs : List Value) (hd : decode cc pc = .ok (.new ix, 3)) (hn : pc + 3 = n') (hci : ci < 7) (hcl : Cond.classLink y.cls ix (cg ci).1 ∈ gt) (hins : Cond.instantiable (cg ci).1 (cg ci).2.2 ∈ gt) (hini : Cond.initialized (cg ci).1 ∈ gt) (hz : hsz h n) (hn1 : n < 1000) (hfs : ∀ j, j < (cg ci).2.2 → defaultValue (tg ci j) = vp_V fs j) (hcv : ∀ b, fs.map (cv b) = fs) (hc : cs + 1 ≤ rc) (hs : ss + (cg ci).2.2 ≤ rs) (kk : AW X (cs + 1) (ss + (cg ci).2.2) n' ls (.ref n :: st) (hset h n (.inl (ci, fs)))) : AW X cs ss pc ls st h := by
  subst hn
  obtain ⟨p, l, e, R, s, m, args, below, meth, c, Q, g⟩ := X
  obtain ⟨hx, hb, hown, hts, hwe, hwf, ⟨hkf, hkl, hrc, hrs⟩, hnm⟩ := hX
  intro H locs la hw hS hla
  have CL := CLs ci hci
  have hKn := hwe.1.1 ci _ CL.1
  have hsz := wh_size hw hz
  refine W.newcK hx hb hown (hts _ hcl) (hts _ hins) (hts _ hini) rfl hd (by rw [hrc]; exact hc) (by rw [hrs]; exact hs) hKn.2.1 rfl fun H1 kC hkC e1 z1 o1 => ?_
  have h1 := kk H1 locs la (wh_push hw hz hn1 z1 o1 (c := .inl (ci, fs)) ⟨_, CL.1, ?_⟩) ⟨Nat.le_trans hS.1 (by omega), fun x h1 h2 => (o1 x (Nat.lt_of_lt_of_le h1 hS.1)).trans (hS.2.1 x h1 h2), hS.2.2⟩ hla
  · simp only [List.map_cons, cv_ref hn1] at h1
    rw [← hsz] at h1
    exact h1
  · show t_OB (g.1 + n) _ _ _ _ (vp_V (fs.map (cv g)))
    rw [hcv, ← hsz]
    exact (u_born (tg ci) hts CL.2.1 hKn hkC e1 CL.2.2.1).to hfs
theorem AW_newa (n' : Nat) (hX : CxOk X y cc k rc rs) {n N t : Nat} {x : Int32} {aty : ArrayType} (hd : decode cc pc = .ok (.newarray aty, 2)) (hn : pc + 2 = n') (ht : t < 3) (hty : newarray.typeOf aty = tyN t) (harr : Cond.arrayClass (tyN t) ∈ gt) (hz : hsz h n) (hn1 : n < 1000) (hN : N ≤ 1000) (hx0 : x = nI N) (hc : cs + 1 ≤ rc) (hs : ss + N ≤ rs) (kk : AW X (cs + 1) (ss + N) n' ls (.ref n :: st) (hset h n (.inr (t, N, fun _ => 0)))) : AW X cs ss pc ls (.int x :: st) h := by
  subst hn
  subst hx0
  obtain ⟨p, l, e, R, s, m, args, below, meth, c, Q, g⟩ := X
  obtain ⟨hx, hb, hown, hts, hwe, hwf, ⟨hkf, hkl, hrc, hrs⟩, hnm⟩ := hX
  intro H locs la hw hS hla
  have hsz := wh_size hw hz
  have hcl : (nI N).toNatClampNeg = N := nI_clamp (by omega)
  refine va_newaK hx hb (by rw [hty]; exact hts _ harr) rfl hd rfl (nI_pos (by omega)) hcl (by rw [hty]; match t, ht with | 0, _ => (show N * 4 ≤ _; omega) | 1, _ => (show N * 1 ≤ _; omega) | 2, _ => (show N * 1 ≤ _; omega)) (by rw [hrc]; exact hc) (by rw [hrs]; exact hs) rfl fun H1 cA e1 z1 o1 hAr hNm => ?_
  have hcA : cA = g.2.2.1 t := by
    have h2 := (hwe.1.2 t _ (gty_at g ht)).2
    rw [hty] at hNm
    match t, ht, h2, hNm with
    | 0, _, h2, hNm => exact Option.some.inj (hNm.symm.trans h2)
    | 1, _, h2, hNm => exact Option.some.inj (hNm.symm.trans h2)
    | 2, _, h2, hNm => exact Option.some.inj (hNm.symm.trans h2)
  have h1 := kk H1 locs la (wh_push hw hz hn1 z1 o1 (c := .inr (t, N, fun _ => 0)) ?_) ⟨Nat.le_trans hS.1 (by omega), fun x h1 h2 => (o1 x (Nat.lt_of_lt_of_le h1 hS.1)).trans (hS.2.1 x h1 h2), hS.2.2⟩ hla
  · simp only [List.map_cons, cv_ref hn1] at h1
    rw [← hsz] at h1
    exact h1
  · show H1[g.1 + n]? = some (vp_cell (g.2.2.1 t) (N, .inl fun _ => 0))
    rw [← hsz, e1, ← hcA, hty]
    match t, ht with
    | 0, _ => rfl
    | 1, _ => rfl
    | 2, _ => rfl
theorem AW_objInit (n' : Nat) (hX : CxOk X y cc k rc rs) {ix a : Nat} {rest : List Value} (hd : decode cc pc = .ok (.invokespecial ix, 3)) (hn : pc + 3 = n') (hl : Cond.methodLink y.cls ix objectInit ∈ gt) (hl2 : Cond.instanceMethod objectInit ∈ gt) (hl3 : Cond.code objectInit ⟨#[0xb1]⟩ 1 none ∈ gt) (hr : (rest.map fun v => v.category).sum ≤ 8) (hk : 1 ≤ k) (kk : AW X cs ss n' ls rest h) : AW X cs ss pc ls (.ref a :: rest) h := by
  subst hn
  obtain ⟨p, l, e, R, s, m, args, below, meth, c, Q, g⟩ := X
  obtain ⟨hx, hb, hown, hts, hwe, hwf, ⟨hkf, hkl, hrc, hrs⟩, hnm⟩ := hX
  intro H locs la hw hS hla
  have h0 := rest_cat (pc := pc) (g := g) (m := m) (la := la) (st0 := []) hr
  refine W.objInit hx hb hown (hts _ hl) (hts _ hl2) (hts _ hl3) rfl hla.2.1 rfl hd (by omega) ?_ (kk H locs la hw hS hla)
  show 2 * 0 + _ + 12 ≤ _
  have : ((rest.map (cv g)).map fun v => v.category).sum ≤ 8 := by
    have h1 : 2 * 0 + ((rest.map (cv g)).map fun v => v.category).sum ≤ 8 := h0
    omega
  omega
theorem AW_tab (t' : Nat) (hX : CxOk X y cc k rc rs) {dflt lo hi off : Int} {offs : Array Int} {len : Nat} {x : Int32} (hd : decode cc pc = .ok (.tableswitch dflt lo hi offs, len)) (h1 : ¬ x.toInt < lo) (h2 : ¬ hi < x.toInt) (ho : offs[(x.toInt - lo).toNat]? = some off) (ht : (pc : Int) + off = (t' : Int)) (kk : AW X cs ss t' ls st h) : AW X cs ss pc ls (.int x :: st) h := by
  obtain ⟨p, l, e, R, s, m, args, below, meth, c, Q, g⟩ := X
  obtain ⟨hx, hb, hown, hts, hwe, hwf, ⟨hkf, hkl, hrc, hrs⟩, hnm⟩ := hX
  intro H locs la hw hS hla
  exact lv_tableIn hx hb hd h1 h2 ho ht (kk H locs la hw hS hla)
theorem AW_tabO (t' : Nat) (hX : CxOk X y cc k rc rs) {dflt lo hi : Int} {offs : Array Int} {len : Nat} {x : Int32} (hd : decode cc pc = .ok (.tableswitch dflt lo hi offs, len)) (h1 : x.toInt < lo ∨ hi < x.toInt) (ht : (pc : Int) + dflt = (t' : Int)) (kk : AW X cs ss t' ls st h) : AW X cs ss pc ls (.int x :: st) h := by
  obtain ⟨p, l, e, R, s, m, args, below, meth, c, Q, g⟩ := X
  obtain ⟨hx, hb, hown, hts, hwe, hwf, ⟨hkf, hkl, hrc, hrs⟩, hnm⟩ := hX
  intro H locs la hw hS hla
  exact lv_tableOut hx hb hd h1 ht (kk H locs la hw hS hla)
theorem AW_look (t' : Nat) (hX : CxOk X y cc k rc rs) {dflt off : Int} {ps : Array (Int × Int)} {len : Nat} {x : Int32} (hd : decode cc pc = .ok (.lookupswitch dflt ps, len)) (hp : (ps.toList.zip (ps.toList.drop 1)).all (fun (a, next) => a.1 < next.1) = true) (ho : Op.lookupswitch.offset ps.toList dflt x.toInt = off) (ht : (pc : Int) + off = (t' : Int)) (kk : AW X cs ss t' ls st h) : AW X cs ss pc ls (.int x :: st) h := by
  obtain ⟨p, l, e, R, s, m, args, below, meth, c, Q, g⟩ := X
  obtain ⟨hx, hb, hown, hts, hwe, hwf, ⟨hkf, hkl, hrc, hrs⟩, hnm⟩ := hX
  intro H locs la hw hS hla
  exact lv_lookup hx hb hd hp ho ht (kk H locs la hw hS hla)
end AWH
