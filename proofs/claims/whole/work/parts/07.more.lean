theorem mm_max1 : Cond.static Lib.Math.max.name ∈ gt := gt_at 267 (by decide +kernel) rfl
theorem mm_max2 : Cond.code Lib.Math.max.name Lib.Math.max.code 2 (some .int) ∈ gt := gt_at 268 (by decide +kernel) rfl
theorem mm_min1 : Cond.static Lib.Math.min.name ∈ gt := gt_at 270 (by decide +kernel) rfl
theorem mm_min2 : Cond.code Lib.Math.min.name Lib.Math.min.code 2 (some .int) ∈ gt := gt_at 271 (by decide +kernel) rfl
theorem mm_ini : Cond.initialized "java/lang/Math" ∈ gt := gt_at 40 (by decide +kernel) rfl
theorem mk_X1_59 : Cond.methodLink RX1 59 Lib.Math.max.name ∈ gt := gt_at 403 (by decide +kernel) rfl
theorem mk_X2_20 : Cond.methodLink RX2 20 Lib.Math.max.name ∈ gt := gt_at 453 (by decide +kernel) rfl
theorem mk_X5_90 : Cond.methodLink RX5 90 Lib.Math.min.name ∈ gt := gt_at 558 (by decide +kernel) rfl
theorem mk_J1_38 : Cond.methodLink RJ1 38 Lib.Math.min.name ∈ gt := gt_at 269 (by decide +kernel) rfl
theorem mk_J1_92 : Cond.methodLink RJ1 92 Lib.Math.max.name ∈ gt := gt_at 266 (by decide +kernel) rfl
theorem mk_J2_183 : Cond.methodLink RJ2 183 Lib.Math.min.name ∈ gt := gt_at 279 (by decide +kernel) rfl
theorem mk_J2_224 : Cond.methodLink RJ2 224 Lib.Math.max.name ∈ gt := gt_at 278 (by decide +kernel) rfl
section AWM
variable {X : Cx} {cs ss pc k rc rs : Nat} {y : MethodName} {cc : ByteArray} {ls : List (Option Value)} {st : List Value} {h : AH} {K : Option Value → AH → Prop}
theorem AW_max (n' : Nat) (hX : CxOk X y cc k rc rs) {ix : Nat} {x z : Int32} (hd : decode cc pc = .ok (.invokestatic ix, 3)) (hn : pc + 3 = n') (hl : Cond.methodLink y.cls ix Lib.Math.max.name ∈ gt) (hr : (st.map fun v => v.category).sum ≤ 8) (hk : 1 ≤ k) (hcc : cs ≤ rc ∧ ss ≤ rs) (kk : AW X cs ss n' ls (.int (if x < z then z else x) :: st) h) : AW X cs ss pc ls (.int z :: .int x :: st) h := by
  subst hn
  obtain ⟨p, l, e, R, s, m, args, below, meth, c, Q, g⟩ := X
  obtain ⟨hx, hb, hown, hts, hwe, hwf, ⟨hkf, hkl, hrc, hrs⟩, hnm⟩ := hX
  intro H locs la hw hS hla
  have h0 := rest_cat (pc := pc) (g := g) (m := m) (la := la) (st0 := []) hr
  have h2 : ((st.map (cv g)).map fun v => v.category).sum ≤ 8 := by
    have h1 : 2 * 0 + ((st.map (cv g)).map fun v => v.category).sum ≤ 8 := h0
    omega
  exact va_mmax hx hb hla.2.1.symm hown (hts _ hl) (hts _ mm_max1) (hts _ mm_ini) (hts _ mm_max2) (by omega) (by omega) (by rw [hrc]; exact hcc.1) (by rw [hrs]; exact hcc.2) hd (kk H locs la hw hS hla)
theorem AW_min (n' : Nat) (hX : CxOk X y cc k rc rs) {ix : Nat} {x z : Int32} (hd : decode cc pc = .ok (.invokestatic ix, 3)) (hn : pc + 3 = n') (hl : Cond.methodLink y.cls ix Lib.Math.min.name ∈ gt) (hr : (st.map fun v => v.category).sum ≤ 8) (hk : 1 ≤ k) (hcc : cs ≤ rc ∧ ss ≤ rs) (kk : AW X cs ss n' ls (.int (if z < x then z else x) :: st) h) : AW X cs ss pc ls (.int z :: .int x :: st) h := by
  subst hn
  obtain ⟨p, l, e, R, s, m, args, below, meth, c, Q, g⟩ := X
  obtain ⟨hx, hb, hown, hts, hwe, hwf, ⟨hkf, hkl, hrc, hrs⟩, hnm⟩ := hX
  intro H locs la hw hS hla
  have h0 := rest_cat (pc := pc) (g := g) (m := m) (la := la) (st0 := []) hr
  have h2 : ((st.map (cv g)).map fun v => v.category).sum ≤ 8 := by
    have h1 : 2 * 0 + ((st.map (cv g)).map fun v => v.category).sum ≤ 8 := h0
    omega
  exact va_mmin hx hb hla.2.1.symm hown (hts _ hl) (hts _ mm_min1) (hts _ mm_ini) (hts _ mm_min2) (by omega) (by omega) (by rw [hrc]; exact hcc.1) (by rw [hrs]; exact hcc.2) hd (kk H locs la hw hS hla)
end AWM
