/-! helpers of the walks -/
theorem iincp {x a b : Int32} (h : a = b) : x + a = x + b := by rw [h]
theorem hset_hset {h : AH} {a : Nat} {c d : AC} : hset (hset h a c) a d = hset h a d := by
  funext q
  simp only [hset]
  split <;> rfl
section AWS
variable {X : Cx} {cs ss pc k rc rs : Nat} {y : MethodName} {cc : ByteArray} {ls : List (Option Value)} {st : List Value} {h : AH} {K : Option Value → AH → Prop}
theorem AW_cV (n' : Nat) (hX : CxOk X y cc k rc rs) {z : MethodName} {cz : ByteArray} {mz nz kz : Nat} {rz : Option FieldType} {ix b ci : Nat} {As rest : List Value} {fs : List Value} (hd : decode cc pc = .ok (.invokevirtual ix, 3)) (hn : pc + 3 = n') (hl : Cond.methodLink y.cls ix z ∈ gt) (mw : MV z cz mz rz nz) (hbb : h b = some (.inl (ci, fs))) (hci : ci < 7) (hc : (cg ci).1 = z.cls) (hA : As.length = nz) (hst : st = As.reverse ++ .ref b :: rest) (hr : (rest.map fun v => v.category).sum ≤ 8) (hk : kz < k) (hcc : cs ≤ rc ∧ ss ≤ rs) (hM : AM kz 0 0 z cz mz rz (.ref b :: As) h (fun r h' => AW X cs ss n' ls (pushR r rest) h')) : AW X cs ss pc ls st h :=
  AW_callV n' hX hd hn hl mw hbb hci hc hA hst hr hk hcc hM
theorem AW_cS (n' : Nat) (hX : CxOk X y cc k rc rs) {z : MethodName} {cz : ByteArray} {mz nz kz : Nat} {rz : Option FieldType} {ix : Nat} {As rest : List Value} (hd : decode cc pc = .ok (.invokestatic ix, 3)) (hn : pc + 3 = n') (hl : Cond.methodLink y.cls ix z ∈ gt) (mw : MS z cz mz rz nz) (hA : As.length = nz) (hst : st = As.reverse ++ rest) (hr : (rest.map fun v => v.category).sum ≤ 8) (hk : kz < k) (hcc : cs ≤ rc ∧ ss ≤ rs) (hM : AM kz 0 0 z cz mz rz As h (fun r h' => AW X cs ss n' ls (pushR r rest) h')) : AW X cs ss pc ls st h :=
  AW_callS n' hX hd hn hl mw hA hst hr hk hcc hM
theorem AW_cSN (n' : Nat) (hX : CxOk X y cc k rc rs) {z : MethodName} {cz : ByteArray} {mz nz kz : Nat} {rz : Option FieldType} {ix : Nat} {host : String} {As rest : List Value} (hd : decode cc pc = .ok (.invokestatic ix, 3)) (hn : pc + 3 = n') (hl : (y.cls, ix, z, host) ∈ nwT) (mw : MS z cz mz rz nz) (hA : As.length = nz) (hst : st = As.reverse ++ rest) (hr : (rest.map fun v => v.category).sum ≤ 8) (hk : kz < k) (hcc : cs ≤ rc ∧ ss ≤ rs) (hM : AM kz 0 0 z cz mz rz As h (fun r h' => AW X cs ss n' ls (pushR r rest) h')) : AW X cs ss pc ls st h :=
  AW_callSN n' hX hd hn hl mw hA hst hr hk hcc hM
end AWS
/-! numbers -/
theorem nI_lit (n : Nat) : (OfNat.ofNat n : Int32) = nI n := rfl
theorem nI_up (f : Nat → Nat) (p v : Nat) : upd (fun j => nI (f j)) p (nI v) = fun j => nI (if j = p then v else f j) := by
  funext j
  simp only [upd]
  split <;> rfl
theorem iLe {a b : Nat} (h : nI a ≤ nI b) (ha : a < 2 ^ 31 := by omega) (hb : b < 2 ^ 31 := by omega) : a ≤ b := (nI_leI ha hb).mp h
theorem iNle {a b : Nat} (h : ¬ nI a ≤ nI b) (ha : a < 2 ^ 31 := by omega) (hb : b < 2 ^ 31 := by omega) : b < a := Nat.not_le.mp fun q => h ((nI_leI ha hb).mpr q)
theorem iLt {a b : Nat} (h : nI a < nI b) (ha : a < 2 ^ 31 := by omega) (hb : b < 2 ^ 31 := by omega) : a < b := (nI_ltI ha hb).mp h
theorem iNlt {a b : Nat} (h : ¬ nI a < nI b) (ha : a < 2 ^ 31 := by omega) (hb : b < 2 ^ 31 := by omega) : b ≤ a := Nat.not_lt.mp fun q => h ((nI_ltI ha hb).mpr q)
theorem iEq {a b : Nat} (h : nI a = nI b) (ha : a < 2 ^ 31 := by omega) (hb : b < 2 ^ 31 := by omega) : a = b := (nI_eq ha hb).mp h
theorem iNe {a b : Nat} (h : ¬ nI a = nI b) : a ≠ b := fun q => h (by rw [q])
/-- the step's growth, the step's sway -/
def gw (k far : Nat) : Nat := if k = 1 then far + 1 else if k = 2 ∨ k = 4 then far + 2 else if k = 3 then far + far else far
def onS (k : Nat) : Int32 := if k = 1 then -1 else if k = 3 then 1 else if k = 4 then 0 else -2
def sa (k s far : Nat) : Nat := if far = 0 then (if k = 1 then s - 1 else if k = 3 then s + 1 else if k = 4 then s else s - 2) else s + gw k far
def isA (a b : Nat) : Prop := b = 0 ∨ a = b ∨ (b = 1 ∧ a = 4)
def cntP (f : Nat → Int32) : Nat → Nat
  | 0 => 0
  | n + 1 => cntP f n + if f n = 0 then 1 else 0
theorem cntP_le (f : Nat → Int32) : ∀ n, cntP f n ≤ n
  | 0 => Nat.le_refl 0
  | n + 1 => by
    have := cntP_le f n
    simp only [cntP]
    split <;> omega
theorem k5 {k : Nat} (h : k ≤ 4) : k = 0 ∨ k = 1 ∨ k = 2 ∨ k = 3 ∨ k = 4 := by omega
