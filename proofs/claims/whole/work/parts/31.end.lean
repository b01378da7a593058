/-! THE CLAIM OUT OF ONE WALK OF THE LAW'S BODY. Your part is whole_start (and what it stands on); all else here is the same for every law, but numbers. -/
def R_law : String := "StiltYardLaw"
def lw_P (b : Addr) (xs : List Int32) (args : Array Value) (s : State) : Prop := args = #[.ref b] ∧ s.IntsAt b xs ∧ xs.length ≤ 320 ∧ (Jvm.Cond.and given_1 narrow_1).before args s = true
def lw_Q (_ : Array Value) (s : State) (o : Outcome) (t : State) : Prop := o = .returned (some (.int 1)) ∧ Framed s o t [] 47 1041
def lw_Z (below : List Frame) (a : Array Value) (s : State) : State → Prop := fun t => ∃ o, t.status = .running ∧ Ended t below o ∧ lw_Q a s o t
/-- the law's own end, with 1 on the stack, nothing written that was there before, its room as the claim has it -/
theorem lw_ret {p : Program} {l : Launch} {e : Env} {s : State} {m : MethodId} {below : List Frame} {meth : Method} {c : Code} {b : Nat} (hx : p.tables.exec = Jvm.exec) (hb : c.code = code) (hr : meth.sig.returnType = ret) (hlocks : meth.locks = false) {pc : Nat} {H : Heap} {ls : Array Slot} (hdg : decode code pc = .ok (.ireturn, 1)) : W p l e room_1 s m #[Value.ref b] below meth c H [] 47 1041 (lw_Z below #[Value.ref b] s) (F0 m pc ls [.int 1]) := by
  intro T hT X
  obtain ⟨fs, hret, hrun, hended, hW, hframe⟩ := X.leave (v := some (.int 1)) (hlocks := hlocks) (fun h => by rw [hr] at h; cases h)
  have hmeth' : T.vm.method? m = some meth := X.method'
  refine ⟨T.setFrames fs, ?_, .returned (some (.int 1)), hrun, hended, rfl, ⟨_, rfl⟩, hW, hframe⟩
  jvm_step X.here [X.here.top, hx, hb, hdg, hmeth', hr, ret, narrow_b1]
  (try refine ⟨rfl, ?_⟩); (try refine ⟨rfl, ?_⟩)
  first | (intro acts; rw [hret _ acts rfl rfl rfl]) | rw [hret _ _ rfl rfl rfl]
  exact Steps.refl _
/-- what holds at the law's entry: the machine, the code, the tables' words (any of lw_tbl by 'hts w (by decide +kernel)'), the script of L ints xs at the cell b, what the Statement gives of the start (any of its parts by flat_of_before) -/
def lw_At (p : Program) (s : State) (m : MethodId) (meth : Method) (c : Code) (b L : Nat) (xs : Nat → Int32) : Prop :=
  p.tables.exec = Jvm.exec ∧ c.code = code ∧ meth.sig.returnType = ret ∧ c.maxLocals = 4 ∧ s.vm.findClass R_law = some m.cls ∧ (∀ w ∈ lw_tbl, w.before #[Value.ref b] s = true) ∧ va_X b L xs s s.heap ∧ b < s.heap.size ∧ meth.locks = false ∧ (Jvm.Cond.and given_1 narrow_1).before #[Value.ref b] s = true
theorem in_all : ∀ ci, ci < 7 → Cond.instantiable (cg ci).1 (cg ci).2.2 ∈ gt
  | 0, _ => in_X0
  | 1, _ => in_X1
  | 2, _ => in_X3
  | 3, _ => in_X4
  | 4, _ => in_X5
  | 5, _ => in_X6
  | 6, _ => in_X7
theorem nw_all : ∀ q ∈ nwT, Cond.methodLinkNest q.1 q.2.1 q.2.2.1 q.2.2.2 ∈ lw_tbl := by decide +kernel
theorem MR_0 : MR S0 (fun _ => 0) (fun _ _ => 0) := ⟨⟨rfl, rfl, rfl, rfl, rfl, rfl, rfl, rfl, rfl, rfl⟩, fun j hj => absurd hj (Nat.not_lt_zero j), fun j hj => absurd hj (Nat.not_lt_zero j), fun j hj => absurd hj (Nat.not_lt_zero j), fun q => absurd q (by decide), fun _ => Or.inl rfl⟩
theorem Okt_0 : Okt 0 S0 := ⟨⟨⟨by decide, fun j hj => absurd hj (Nat.not_lt_zero j), by decide, by decide, fun j hj => absurd hj (Nat.not_lt_zero j), by decide, fun q => absurd q (by decide), fun _ => ⟨rfl, rfl, rfl, rfl⟩⟩, by decide, fun q => absurd q (by decide), by decide, by decide, fun j hj => absurd hj (Nat.not_lt_zero j), by decide⟩, Nat.le_refl _⟩
set_option maxRecDepth 100000 in
set_option maxHeartbeats 4000000 in
theorem start_w {X : Cx} {b L : Nat} {nm : String} {xs : Nat → Int32} (hX : CxOk X (⟨RL, nm, ""⟩ : MethodName) cL_law 14 47 1041) (hs : SX X b L xs) (hL : L ≤ 320) (hR : ∀ (ls : List (Option Value)) (h : AH), AW X 47 1041 629 ls [.int 1] h) : AW X 0 0 0 [some (.ref (b + 2000)), none, none, none] [] (fun _ => none) := by
  have hz0 : hsz (fun _ => none) 0 := ⟨fun _ _ => rfl, fun k hk => absurd hk (Nat.not_lt_zero k)⟩
  refine AW_new (ci := 5) 3 hX zf5 dL_law_0 rfl (by decide) cl_L_7 in_X6 iz_X6 (hz0) (by omega) df5 (fun _ => rfl) (Nat.le_of_ble_eq_true rfl) (Nat.le_of_ble_eq_true rfl) ?_
  refine AW_dup 4 hX dL_law_3 rfl rfl ?_
  refine AW_callI (kz := 3) (mc := 33) (ms := 764) (As := []) 7 hX dL_law_4 rfl ml_L_9 mw_X6_init (by first | assumption | exact hset_eq | exact (hset_ne (by omega)).trans (by first | assumption | exact hset_eq | exact (hset_ne (by omega)).trans (by first | assumption | exact hset_eq | exact (hset_ne (by omega)).trans (by first | assumption | exact hset_eq | exact (hset_ne (by omega)).trans (by first | assumption | exact hset_eq))))) rfl rfl (Nat.le_of_ble_eq_true rfl) (by decide) ⟨(Nat.le_of_ble_eq_true rfl), (Nat.le_of_ble_eq_true rfl)⟩ (i_Yard (hsz_new hz0) hset_eq (fun h2 hz2 g2 => ?_))
  refine AW_astore_n 8 hX dL_law_7 rfl (Nat.le_of_ble_eq_true rfl) rfl ?_
  refine AW_new (ci := 6) 11 hX zf6 dL_law_8 rfl (by decide) cl_L_10 in_X7 iz_X7 (show hsz _ 34 from hz2) (by omega) df6 (fun _ => rfl) (Nat.le_of_ble_eq_true rfl) (Nat.le_of_ble_eq_true rfl) ?_
  refine AW_dup 12 hX dL_law_11 rfl rfl ?_
  refine AW_callI (kz := 1) (mc := 12) (ms := 232) (As := []) 15 hX dL_law_12 rfl ml_L_12 mw_X7_init (by first | assumption | exact hset_eq | exact (hset_ne (by omega)).trans (by first | assumption | exact hset_eq | exact (hset_ne (by omega)).trans (by first | assumption | exact hset_eq | exact (hset_ne (by omega)).trans (by first | assumption | exact hset_eq | exact (hset_ne (by omega)).trans (by first | assumption | exact hset_eq))))) rfl rfl (Nat.le_of_ble_eq_true rfl) (by decide) ⟨(Nat.le_of_ble_eq_true rfl), (Nat.le_of_ble_eq_true rfl)⟩ (i_Model (hsz_new hz2) hset_eq (fun h3 hz3 fr3 gm => ?_))
  refine AW_astore_n 16 hX dL_law_15 rfl (Nat.le_of_ble_eq_true rfl) rfl ?_
  refine AW_iconst 17 hX dL_law_16 rfl ic_0 ?_
  refine AW_istore_n 18 hX dL_law_17 rfl (Nat.le_of_ble_eq_true rfl) rfl ?_
  exact law_go hX hs hL hR 65 0 (by omega) S0 h3 ⟨-1, -1, CJ_fr (CJ_fr g2 (fr_set (by omega) (by omega))) fr3⟩ ⟨_, _, _, _, gm, MR_0⟩ Okt_0
set_option maxRecDepth 100000 in
set_option maxHeartbeats 4000000 in
theorem start_g {p : Program} {e : Env} {s : State} {m : MethodId} {below : List Frame} {meth : Method} {c : Code} (l : Launch) {b L : Nat} {xs : Nat → Int32} (hL : L ≤ 320) (C0 : lw_At p s m meth c b L xs) (g : Gl) (hg1 : g.1 = s.heap.size) (hwe : we g s) (hwf : wf g s s.heap) : W p l e room_1 s m #[Value.ref b] below meth c s.heap [] 0 0 (lw_Z below #[Value.ref b] s) (entryFrame m ([Value.ref b] : List Value).toArray 4) := by
  obtain ⟨hx, hb, hr, hml, hown, hts, hXs, hbl, hlk, hgv⟩ := C0
  have hgt : ∀ w ∈ gt, w.before #[Value.ref b] s = true := fun w hw => hts w (List.mem_filter.mp hw).1
  have hbody := start_w (X := (p, l, e, room_1, s, m, #[Value.ref b], below, meth, c, lw_Z below #[Value.ref b] s, g)) (b := b) (L := L) (nm := meth.name) (xs := xs) ⟨hx, hb, hown, hgt, hwe, hwf, ⟨by decide, by decide, rfl, rfl⟩, rfl⟩ ⟨hXs, hbl, hg1⟩ hL (fun ls h => by
    intro H locs la hw hS hla
    refine va_forget (fun q hq => ?_) ?_
    · have h9 : g.1 ≤ q.base := hS.2.2 q hq
      rw [hg1] at h9
      exact h9
    · exact lw_ret hx hb hr hlk dL_law_629)
  have e1 : ([.ref (b + 2000)] : List Value).map (cv g) = [.ref b] := by
    simp only [List.map_cons, List.map_nil, cv_old]
  have hl := lv_entry (([.ref (b + 2000)] : List Value).map (cv g)) (n := 4) (by rw [en_len]; exact (show 1 ≤ 4 by omega))
  rw [e1] at hl
  rw [lg_entry_eq]
  refine hbody s.heap [] _ ⟨0, by omega, by rw [hg1]; rfl, fun _ _ => rfl, fun k hk => absurd hk (Nat.not_lt_zero k)⟩ va_S.rf ⟨?_, ?_⟩
  · rw [hml]
    exact Nat.le_refl 4
  · rw [hml]
    refine ⟨hl.1, hl.2.1, fun q hq => hl.2.2 q ?_⟩
    have hq9 : q ∈ [(0, cv g (.ref (b + 2000)))] := hq
    rw [List.mem_singleton.mp hq9, cv_old]
    exact List.mem_cons_self
set_option maxRecDepth 100000 in
set_option maxHeartbeats 4000000 in
theorem whole_start {p : Program} {e : Env} {s : State} {m : MethodId} {below : List Frame} {meth : Method} {c : Code} (l : Launch) {b L : Nat} {xs : Nat → Int32} (hL : L ≤ 320) (C0 : lw_At p s m meth c b L xs) : W p l e room_1 s m #[Value.ref b] below meth c s.heap [] 0 0 (lw_Z below #[Value.ref b] s) (entryFrame m ([Value.ref b] : List Value).toArray 4) := by
  obtain ⟨hx, hb, hr, hml, hown, hts, hXs, hbl, hlk, hgv⟩ := id C0
  have hgt : ∀ w ∈ gt, w.before #[Value.ref b] s = true := fun w hw => hts w (List.mem_filter.mp hw).1
  have hfl := flat_of_before _ hgv
  have kn : ∀ ci : Nat, ∃ q : ClassId × (Nat → Nat), ci < 7 → u_Kn s (cg ci).1 (cg ci).2.1 (cg ci).2.2 q.1 q.2 := by
    intro ci
    by_cases h : ci < 7
    · obtain ⟨cC, iS, hk⟩ := u_known hgt (CLs ci h).2.1 (hgt _ (in_all ci h))
      exact ⟨(cC, iS), fun _ => hk⟩
    · exact ⟨(m.cls, fun _ => 0), fun q => absurd q h⟩
  obtain ⟨D, hD⟩ := Classical.axiomOfChoice kn
  obtain ⟨cI, kI, compI, fI, gI, hI⟩ := Cond.arrayClass_spec (hgt _ ac_int)
  obtain ⟨cB, kB, compB, fB, gB, hB⟩ := Cond.arrayClass_spec (hgt _ ac_byte)
  obtain ⟨cZ, kZ, compZ, fZ, gZ, hZ⟩ := Cond.arrayClass_spec (hgt _ ac_boolean)
  have hA : ∀ a : Nat, a < s.heap.size → ¬ s.heap.size ≤ a := fun a ha q => by omega
  obtain ⟨adK, adV, hS, hev⟩ := vk_Sof (args := #[Value.ref b]) (s := s) (N := 1) (tm := fun _ => Term.string "StiltYard$Kind" 9) (len := [5]) (byt := [[112, 108, 103, 98, 111]]) (A := fun q => s.heap.size ≤ q) (fun i hi => by rw [show i = 0 by omega]; decide) (fun i _ => hfl _ (by decide +kernel)) (fun i _ => hfl _ (by decide +kernel)) (fun i _ => hfl _ (by decide +kernel)) (fun i hi => by rw [show i = 0 by omega]; exact hfl _ (by decide +kernel)) (fun i hi j hj => by
      have e0 : i = 0 := by omega
      subst e0
      have hj5 : j < 5 := hj
      rcases (show j = 0 ∨ j = 1 ∨ j = 2 ∨ j = 3 ∨ j = 4 by omega) with rfl | rfl | rfl | rfl | rfl
      · exact hfl _ (by decide +kernel)
      · exact hfl _ (by decide +kernel)
      · exact hfl _ (by decide +kernel)
      · exact hfl _ (by decide +kernel)
      · exact hfl _ (by decide +kernel)) (fun i j hi hj hij => by omega) hA
  refine start_g l hL C0 (s.heap.size, (fun k => (D k).1, fun k => (D k).2), (fun t => match t with | 0 => cI | 1 => cB | _ => cZ), adK 0, adV 0) rfl ⟨⟨fun k q hq => ?_, fun k q hq => ?_⟩, fun q hq => va_Nw.of rfl (hts _ (nw_all q hq)), vk_R.of (hts _ (by decide +kernel)) (hev 0 (by decide))⟩ ⟨⟨fun i hi => ?_, fun i j hi hj _ => by omega⟩, va_Zof (hts _ (by decide +kernel)) (hts _ (by decide +kernel)) (va_eqi (hfl _ (by decide +kernel))) hA⟩
  · have hk : k < 7 := (List.getElem?_eq_some_iff.mp hq).1
    have e9 := (CLs k hk).1.symm.trans hq
    cases e9
    exact hD k hk
  · have hk : k < 3 := (List.getElem?_eq_some_iff.mp hq).1
    rcases (show k = 0 ∨ k = 1 ∨ k = 2 by omega) with rfl | rfl | rfl
    · cases hq
      exact ⟨fun n z => ⟨(fun k h => by cases h), kI, gI, compI, hI⟩, fI⟩
    · cases hq
      exact ⟨fun n z => ⟨(fun k h => by cases h), kB, gB, compB, hB⟩, fB⟩
    · cases hq
      exact ⟨fun n z => ⟨(fun k h => by cases h), kZ, gZ, compZ, hZ⟩, fZ⟩
  · rw [show i = 0 by omega]
    exact hS.1 0 (by decide)
set_option maxHeartbeats 4000000 in
theorem lw_walk (l : Launch) (b : Addr) (xs : List Int32) : MetFree l x (headSpec (Jvm.Cond.code x code maxLocals ret :: tables_1) room_1) (lw_P b xs) (fun _ _ _ _ _ => True) lw_Q := by
  refine MetFree.of_bodyS (code := code) (maxLocals := maxLocals) (ret := ret) (by decide) ?_ ?_
  · intro args s m h hn
    obtain ⟨meth, c, h1, h2, h3, h4, h5, h6, -, -⟩ := Cond.code_spec hn (atoms_spec (ws := Jvm.Cond.code x code maxLocals ret :: tables_1) h _ List.mem_cons_self)
    exact ⟨meth, c, h1, h2, h3, h4, h5, h6⟩
  · intro p e s m args below meth c s₁ B hml0 hP _
    obtain ⟨rfl, hx, hbd, hgv⟩ := hP
    obtain ⟨scr, harrAt, hlist, hof, hsmall⟩ := hx
    obtain ⟨hcb, hkn, -, -⟩ := State.arrayAt?_spec harrAt
    have hown : s.vm.findClass R_law = some m.cls := findClass_of_methodNamed B.named
    have hts0 : ∀ c ∈ (Jvm.Cond.code x code maxLocals ret :: tables_1), c.before #[Value.ref b] s = true := atoms_spec (ws := Jvm.Cond.code x code maxLocals ret :: tables_1) B.pre
    have hts : ∀ w ∈ lw_tbl, w.before #[Value.ref b] s = true := k2_hts_sels lw_privs (fun w hw => hts0 w (List.mem_cons_of_mem _ hw)) lw_privs_ok
    have hml : c.maxLocals = 4 := B.maxLocals_eq (hts0 _ List.mem_cons_self)
    have X₀ : Stand p l e room_1 s m #[Value.ref b] below meth c s₁ [] 0 0 := Stand.of_body B
    have hh0 : s₁.heap = s.heap := by rw [B.state]; rfl
    have hsz : scr.slots.size = xs.length := by rw [← Array.length_toList, hlist, List.length_map]
    have hval : ∀ j : Nat, j < xs.length → scr.slots[j]? = some (.int (xs.getD j 0)) := fun j hj => by
      rw [← Array.getElem?_toList, hlist]
      simp [hj]
    have hbl : b < s.heap.size := (Array.getElem?_eq_some_iff.mp hcb).1
    have hX : va_X b xs.length (fun j => xs.getD j 0) s s.heap := ⟨scr, hcb, hof, hkn, hsz, hval⟩
    have K : W p l e room_1 s m #[Value.ref b] below meth c s₁.heap [] 0 0 (lw_Z below #[Value.ref b] s) (entryFrame m ([Value.ref b] : List Value).toArray 4) := by
      rw [hh0]
      exact whole_start l hbd ⟨B.exec, B.bytes, B.returns, hml, hown, hts, hX, hbl, B.notSynchronized, hgv⟩
    obtain ⟨t, a1, o, b1, b2, b3⟩ := K s₁ rfl X₀
    exact ⟨t, o, a1, b1, b2, b3⟩
theorem lw_pre_spec {args : Array Value} {s : State} (h : (Jvm.Cond.and given_1 narrow_1).before args s = true) (hr : rest_1_c.before args s = true) : ∃ (b : Addr) (xs : List Int32), lw_P b xs args s := by
  have hs := flat_of_before _ h
  have hq := flat_of_before _ hr
  have hc : (Cond.count 1).before args s = true := hs _ (by decide +kernel)
  have harr : (Cond.arrayOf (.arg 0) .int).before args s = true := hs _ (by decide +kernel)
  have hle : (Cond.le (.length (.arg 0)) (.int 320)).before args s = true := hs _ (by decide +kernel)
  have hlen : (Cond.isInt (.length (.arg 0))).before args s = true := hq _ (by decide +kernel)
  have hall : (Cond.all (.arg 0) (.isInt (.elem (.arg 0) (.index 0)))).before args s = true := hq _ (by decide +kernel)
  obtain ⟨b, xs, hb, hx⟩ := State.ints_of_pre rfl harr hlen hall
  have hsm : xs.length < 2 ^ 31 := hx.choose_spec.2.2.2
  have hev : (Term.length (.arg 0)).eval args s none [] s = some (.int xs.length.toInt32) := hx.length_eval hb
  have hv := Cond.le_ints hev (show (Term.int 320).eval args s none [] s = some (.int 320) from rfl)
  have hd : xs.length.toInt32 ≤ 320 := by
    simpa [Cond.before, Cond.holds, hv] using hle
  have hN : xs.length ≤ 320 := (Int32.ofNat_le_ofNat hsm (by decide)).mp (show Int32.ofNat xs.length ≤ Int32.ofNat 320 from hd)
  exact ⟨b, xs, Cond.one_arg hc (show args[0]? = some (.ref b) from hb), hx, hN, h⟩
theorem lw_comes (l : Launch) : Comes l x (Jvm.Cond.code x code maxLocals ret :: tables_1) room_1 (fun tb e args s => Calls_1 tb e args s ∧ rest_1 tb e args s ∧ Pre_1 tb e args s)
    (fun _ _ args s o t => lw_Q args s o t) := by
  intro p e ha hc hk s m args below hf hfit hheap happ hpre
  obtain ⟨b, xs, hP⟩ := lw_pre_spec hpre.2.2 hpre.2.1
  obtain ⟨k, o, h1, h2, h3, hQ⟩ := lw_walk l b xs p e ha hc hk s m args below hf ((Spec.applies_iff_loose hf).mp happ).1 hP trivial
  exact ⟨k, o, h1, h2, h3, hQ⟩
theorem lw_frame {s t : State} {o : Outcome} {args : Array Value} (h : Framed s o t [] 47 1041) :
    Framed s o t (fieldLocs frame_1_writes args s ++ arrayLocs frame_1_arrays args s ++ staticLocs frame_1_statics s) 47 1041 := h
theorem lw_limb (L : Cond) (hL : ∀ (args : Array Value) (s t : State), L.after args s (.returned (some (.int 1))) t = true) :
    ArmFor flags0 classFile x code maxLocals ret World_1 tables_1 room_1 Calls_1 rest_1 Pre_1
      (fun tb e a s o t => postC L tb e a s o t ∧ Framed s o t (fieldLocs frame_1_writes a s ++ arrayLocs frame_1_arrays a s ++ staticLocs frame_1_statics s) 47 1041) := by
  intro l _ _ _ p e ha hc hk s m args below hf hfit hheap happ hpre
  obtain ⟨k, o, h1, h2, h3, rfl, hF⟩ := lw_comes l p e ha hc hk s m args below hf hfit hheap happ hpre
  exact ⟨k, _, h1, h2, h3, hL args s _, lw_frame hF⟩
theorem i_vc : Claimed_1_1 ∧ Claimed_1_2 := ⟨lw_limb limb_1_1 (fun args s t => by simp [limb_1_1, Cond.after, Cond.holds, Cond.value]), lw_limb limb_1_2 (fun args s t => Cond.after_iff.mpr (by
  first | (rw [show limb_1_2 = Cond.eq .result (.int 1) from rfl, Cond.eq_ints (x := 1) (y := 1) rfl rfl]; simp; done) | (simp [limb_1_2, Cond.value, Term.eval]; done)))⟩
