/-! what holds of the state goes on to hold -/
theorem cif_ind {α : Type} {P : α → Prop} {p : Prop} {a b : α} (h1 : p → P a) (h0 : ¬ p → P b) : P (cif p a b) := by
  by_cases h : p
  · rw [cif_pos h]; exact h1 h
  · rw [cif_neg h]; exact h0 h
def Okt (t : Nat) (S : ST) : Prop := Sok S ∧ S.2.1 ≤ t
theorem Okt_s {t : Nat} {S : ST} (h : Okt t S) : Okt (t + 1) S := ⟨h.1, by have := h.2; omega⟩
set_option maxRecDepth 100000 in
set_option maxHeartbeats 4000000 in
theorem k_Letter {kp yd qk pm n ht p s : Nat} {pg ks : Nat → Nat} {stp fl : Int32} {m : Nat} {hd : HD} {w : SV} {t : Nat} (ht9 : t < 900000) (ok : Okt t (kp, yd, qk, pm, pg, (n, ks, ht, p, s, stp, fl, m, hd), w)) (x : Int32) : Okt (t + 1) (spLetter (kp, yd, qk, pm, pg, (n, ks, ht, p, s, stp, fl, m, hd), w) x).2 := by
  obtain ⟨⟨⟨ok1, ok2, ok3, ok4, ok5, ok6, ok7, ok8⟩, okp, okw, okq, okpm, okpg, oky⟩, okt⟩ := id ok
  have okt : yd ≤ t := okt
  have same := Okt_s ok
  refine cif_ind (P := fun r : Int32 × ST => Okt (t + 1) r.2) (fun c1 => ?_) (fun c1 => ?_)
  · exact same
  refine cif_ind (P := fun r : Int32 × ST => Okt (t + 1) r.2) (fun c2 => ?_) (fun c2 => ?_)
  · exact same
  obtain ⟨c, hc1, hc2, ec⟩ := rg (x := x) 32 126 (by decide) (by decide) (fun q => c1 (Or.inl q)) (fun q => c1 (Or.inr q))
  subst ec
  refine ⟨⟨⟨ok1, ok2, ok3, ok4, ok5, ok6, ok7, ok8⟩, okp, okw, okq, by omega, fun j hj => ?_, oky⟩, by show yd ≤ t + 1; omega⟩
  show (if j = pm then cN (nI c) else pg j) < 128
  rw [cN_nI (by omega)]
  split
  · omega
  · exact okpg j (by omega)
set_option maxRecDepth 100000 in
set_option maxHeartbeats 4000000 in
theorem k_Blank {kp yd qk pm n ht p s : Nat} {pg ks : Nat → Nat} {stp fl : Int32} {m : Nat} {hd : HD} {w : SV} {t : Nat} (ht9 : t < 900000) (ok : Okt t (kp, yd, qk, pm, pg, (n, ks, ht, p, s, stp, fl, m, hd), w)) : Okt (t + 1) (spBlank (kp, yd, qk, pm, pg, (n, ks, ht, p, s, stp, fl, m, hd), w)).2 := by
  obtain ⟨⟨⟨ok1, ok2, ok3, ok4, ok5, ok6, ok7, ok8⟩, okp, okw, okq, okpm, okpg, oky⟩, okt⟩ := id ok
  have okt : yd ≤ t := okt
  have same := Okt_s ok
  exact ⟨⟨⟨ok1, ok2, ok3, ok4, ok5, ok6, ok7, ok8⟩, okp, okw, okq, Nat.zero_le _, fun j hj => absurd hj (Nat.not_lt_zero j), oky⟩, by show yd ≤ t + 1; omega⟩
set_option maxRecDepth 100000 in
set_option maxHeartbeats 4000000 in
theorem k_Fault {kp yd qk pm n ht p s : Nat} {pg ks : Nat → Nat} {stp fl : Int32} {m : Nat} {hd : HD} {w : SV} {t : Nat} (ht9 : t < 900000) (ok : Okt t (kp, yd, qk, pm, pg, (n, ks, ht, p, s, stp, fl, m, hd), w)) : Okt (t + 1) (spFault (kp, yd, qk, pm, pg, (n, ks, ht, p, s, stp, fl, m, hd), w)).2 := by
  obtain ⟨⟨⟨ok1, ok2, ok3, ok4, ok5, ok6, ok7, ok8⟩, okp, okw, okq, okpm, okpg, oky⟩, okt⟩ := id ok
  have okt : yd ≤ t := okt
  have same := Okt_s ok
  exact same
set_option maxRecDepth 100000 in
set_option maxHeartbeats 4000000 in
theorem k_Yard {kp yd qk pm n ht p s : Nat} {pg ks : Nat → Nat} {stp fl : Int32} {m : Nat} {hd : HD} {w : SV} {t : Nat} (ht9 : t < 900000) (ok : Okt t (kp, yd, qk, pm, pg, (n, ks, ht, p, s, stp, fl, m, hd), w)) : Okt (t + 1) (spYard (kp, yd, qk, pm, pg, (n, ks, ht, p, s, stp, fl, m, hd), w)).2 := by
  obtain ⟨⟨⟨ok1, ok2, ok3, ok4, ok5, ok6, ok7, ok8⟩, okp, okw, okq, okpm, okpg, oky⟩, okt⟩ := id ok
  have okt : yd ≤ t := okt
  have same := Okt_s ok
  refine cif_ind (P := fun r : Int32 × ST => Okt (t + 1) r.2) (fun c1 => ?_) (fun c1 => ?_)
  · obtain ⟨w1, w2, w3, w4, w5⟩ := id c1
    have hpl := (plc_le pm pg).1
    have e9 : pAt pm pg (pm - 1) = pAt pm pg (plc pm pg + 1) := by rw [show pm - 1 = plc pm pg + 1 by omega]
    refine ⟨⟨⟨hpl, fun j hj => ?_, ?_, Nat.zero_le _, fun j hj => absurd hj (Nat.not_lt_zero j), Nat.zero_le _, fun _ => ⟨?_, ?_⟩, fun q => ?_⟩, by omega, fun q => by omega, okq, Nat.zero_le _, fun j hj => absurd hj (Nat.not_lt_zero j), ?_⟩, ?_⟩
    · have := plc_kn hj
      show kn (pAt pm pg j) ≤ 4
      omega
    · show pAt pm pg (pm - 1) - 48 ≤ 9
      omega
    · omega
    · omega
    · have : plc pm pg = 0 := q
      omega
    · omega
    · show yd + 1 ≤ t + 1
      omega
  · exact same
set_option maxRecDepth 100000 in
set_option maxHeartbeats 4000000 in
theorem k_About {kp yd qk pm n ht p s : Nat} {pg ks : Nat → Nat} {stp fl : Int32} {m : Nat} {hd : HD} {w : SV} {t : Nat} (ht9 : t < 900000) (ok : Okt t (kp, yd, qk, pm, pg, (n, ks, ht, p, s, stp, fl, m, hd), w)) (x y : Int32) : Okt (t + 1) (spAbout (kp, yd, qk, pm, pg, (n, ks, ht, p, s, stp, fl, m, hd), w) x y).2 := by
  obtain ⟨⟨⟨ok1, ok2, ok3, ok4, ok5, ok6, ok7, ok8⟩, okp, okw, okq, okpm, okpg, oky⟩, okt⟩ := id ok
  have okt : yd ≤ t := okt
  have same := Okt_s ok
  exact same
set_option maxRecDepth 100000 in
set_option maxHeartbeats 4000000 in
theorem k_As {kp yd qk pm n ht p s : Nat} {pg ks : Nat → Nat} {stp fl : Int32} {m : Nat} {hd : HD} {w : SV} {t : Nat} (ht9 : t < 900000) (ok : Okt t (kp, yd, qk, pm, pg, (n, ks, ht, p, s, stp, fl, m, hd), w)) (x y : Int32) : Okt (t + 1) (spAs (kp, yd, qk, pm, pg, (n, ks, ht, p, s, stp, fl, m, hd), w) x y).2 := by
  obtain ⟨⟨⟨ok1, ok2, ok3, ok4, ok5, ok6, ok7, ok8⟩, okp, okw, okq, okpm, okpg, oky⟩, okt⟩ := id ok
  have okt : yd ≤ t := okt
  have same := Okt_s ok
  exact same
set_option maxRecDepth 100000 in
set_option maxHeartbeats 4000000 in
theorem k_Would {kp yd qk pm n ht p s : Nat} {pg ks : Nat → Nat} {stp fl : Int32} {m : Nat} {hd : HD} {w : SV} {t : Nat} (ht9 : t < 900000) (ok : Okt t (kp, yd, qk, pm, pg, (n, ks, ht, p, s, stp, fl, m, hd), w)) (x : Int32) : Okt (t + 1) (spWould (kp, yd, qk, pm, pg, (n, ks, ht, p, s, stp, fl, m, hd), w) x).2 := by
  obtain ⟨⟨⟨ok1, ok2, ok3, ok4, ok5, ok6, ok7, ok8⟩, okp, okw, okq, okpm, okpg, oky⟩, okt⟩ := id ok
  have okt : yd ≤ t := okt
  have same := Okt_s ok
  exact same
set_option maxRecDepth 100000 in
set_option maxHeartbeats 4000000 in
theorem k_High {kp yd qk pm n ht p s : Nat} {pg ks : Nat → Nat} {stp fl : Int32} {m : Nat} {hd : HD} {w : SV} {t : Nat} (ht9 : t < 900000) (ok : Okt t (kp, yd, qk, pm, pg, (n, ks, ht, p, s, stp, fl, m, hd), w)) : Okt (t + 1) (spHigh (kp, yd, qk, pm, pg, (n, ks, ht, p, s, stp, fl, m, hd), w)).2 := by
  obtain ⟨⟨⟨ok1, ok2, ok3, ok4, ok5, ok6, ok7, ok8⟩, okp, okw, okq, okpm, okpg, oky⟩, okt⟩ := id ok
  have okt : yd ≤ t := okt
  have same := Okt_s ok
  exact same
set_option maxRecDepth 100000 in
set_option maxHeartbeats 4000000 in
theorem k_Mend {kp yd qk pm n ht p s : Nat} {pg ks : Nat → Nat} {stp fl : Int32} {m : Nat} {hd : HD} {w : SV} {t : Nat} (ht9 : t < 900000) (ok : Okt t (kp, yd, qk, pm, pg, (n, ks, ht, p, s, stp, fl, m, hd), w)) (x : Int32) : Okt (t + 1) (spMend (kp, yd, qk, pm, pg, (n, ks, ht, p, s, stp, fl, m, hd), w) x).2 := by
  obtain ⟨⟨⟨ok1, ok2, ok3, ok4, ok5, ok6, ok7, ok8⟩, okp, okw, okq, okpm, okpg, oky⟩, okt⟩ := id ok
  have okt : yd ≤ t := okt
  have same := Okt_s ok
  exact same
set_option maxRecDepth 100000 in
set_option maxHeartbeats 4000000 in
theorem k_Heights {kp yd qk pm n ht p s : Nat} {pg ks : Nat → Nat} {stp fl : Int32} {m : Nat} {hd : HD} {w : SV} {t : Nat} (ht9 : t < 900000) (ok : Okt t (kp, yd, qk, pm, pg, (n, ks, ht, p, s, stp, fl, m, hd), w)) : Okt (t + 1) (spHeights (kp, yd, qk, pm, pg, (n, ks, ht, p, s, stp, fl, m, hd), w)).2 := by
  obtain ⟨⟨⟨ok1, ok2, ok3, ok4, ok5, ok6, ok7, ok8⟩, okp, okw, okq, okpm, okpg, oky⟩, okt⟩ := id ok
  have okt : yd ≤ t := okt
  have same := Okt_s ok
  exact same
set_option maxRecDepth 100000 in
set_option maxHeartbeats 4000000 in
theorem k_Races {kp yd qk pm n ht p s : Nat} {pg ks : Nat → Nat} {stp fl : Int32} {m : Nat} {hd : HD} {w : SV} {t : Nat} (ht9 : t < 900000) (ok : Okt t (kp, yd, qk, pm, pg, (n, ks, ht, p, s, stp, fl, m, hd), w)) (x y z : Int32) : Okt (t + 1) (spRaces (kp, yd, qk, pm, pg, (n, ks, ht, p, s, stp, fl, m, hd), w) x y z).2 := by
  obtain ⟨⟨⟨ok1, ok2, ok3, ok4, ok5, ok6, ok7, ok8⟩, okp, okw, okq, okpm, okpg, oky⟩, okt⟩ := id ok
  have okt : yd ≤ t := okt
  have same := Okt_s ok
  exact same
set_option maxRecDepth 100000 in
set_option maxHeartbeats 4000000 in
theorem k_Count {kp yd qk pm n ht p s : Nat} {pg ks : Nat → Nat} {stp fl : Int32} {m : Nat} {hd : HD} {w : SV} {t : Nat} (ht9 : t < 900000) (ok : Okt t (kp, yd, qk, pm, pg, (n, ks, ht, p, s, stp, fl, m, hd), w)) (x : Int32) : Okt (t + 1) (spCount (kp, yd, qk, pm, pg, (n, ks, ht, p, s, stp, fl, m, hd), w) x).2 := by
  obtain ⟨⟨⟨ok1, ok2, ok3, ok4, ok5, ok6, ok7, ok8⟩, okp, okw, okq, okpm, okpg, oky⟩, okt⟩ := id ok
  have okt : yd ≤ t := okt
  have same := Okt_s ok
  exact same
set_option maxRecDepth 100000 in
set_option maxHeartbeats 4000000 in
theorem k_Lay {kp yd qk pm n ht p s : Nat} {pg ks : Nat → Nat} {stp fl : Int32} {m : Nat} {hd : HD} {w : SV} {t : Nat} (ht9 : t < 900000) (ok : Okt t (kp, yd, qk, pm, pg, (n, ks, ht, p, s, stp, fl, m, hd), w)) (x y : Int32) : Okt (t + 1) (spLay (kp, yd, qk, pm, pg, (n, ks, ht, p, s, stp, fl, m, hd), w) x y).2 := by
  obtain ⟨⟨⟨ok1, ok2, ok3, ok4, ok5, ok6, ok7, ok8⟩, okp, okw, okq, okpm, okpg, oky⟩, okt⟩ := id ok
  have okt : yd ≤ t := okt
  have same := Okt_s ok
  refine cif_ind (P := fun r : Int32 × ST => Okt (t + 1) r.2) (fun c1 => ?_) (fun c1 => ?_)
  · refine cif_ind (P := fun r : Int32 × ST => Okt (t + 1) r.2) (fun c2 => ?_) (fun c2 => ?_)
    · obtain ⟨q, hq, rfl⟩ := c1
      obtain ⟨k, hk, rfl⟩ := c2
      refine ⟨⟨⟨ok1, fun j hj => ?_, ok3, ok4, ok5, ok6, ok7, ok8⟩, okp, okw, okq, okpm, okpg, oky⟩, by show yd ≤ t + 1; omega⟩
      show (if j = cN (nI q) then cN (nI k) else ks j) ≤ 4
      rw [cN_nI (by omega), cN_nI (by omega)]
      split
      · omega
      · exact ok2 j hj
    · exact same
  · exact same
set_option maxRecDepth 100000 in
set_option maxHeartbeats 4000000 in
theorem k_Blocks {kp yd qk pm n ht p s : Nat} {pg ks : Nat → Nat} {stp fl : Int32} {m : Nat} {hd : HD} {w : SV} {t : Nat} (ht9 : t < 900000) (ok : Okt t (kp, yd, qk, pm, pg, (n, ks, ht, p, s, stp, fl, m, hd), w)) (x : Int32) : Okt (t + 1) (spBlocks (kp, yd, qk, pm, pg, (n, ks, ht, p, s, stp, fl, m, hd), w) x).2 := by
  obtain ⟨⟨⟨ok1, ok2, ok3, ok4, ok5, ok6, ok7, ok8⟩, okp, okw, okq, okpm, okpg, oky⟩, okt⟩ := id ok
  have okt : yd ≤ t := okt
  have same := Okt_s ok
  refine cif_ind (P := fun r : Int32 × ST => Okt (t + 1) r.2) (fun c1 => ?_) (fun c1 => ?_)
  · exact same
  refine cif_ind (P := fun r : Int32 × ST => Okt (t + 1) r.2) (fun c2 => ?_) (fun c2 => ?_)
  · exact same
  obtain ⟨c, hc1, hc2, ec⟩ := rg (x := x) 1 9 (by decide) (by decide) (fun q => c1 (Or.inl q)) (fun q => c1 (Or.inr q))
  subst ec
  rw [cN_nI (by omega)]
  exact ⟨⟨⟨ok1, ok2, hc2, Nat.zero_le _, ok5, ok6, fun q => ⟨q, hc1⟩, fun q => absurd q c2⟩, okp, okw, okq, okpm, okpg, oky⟩, by show yd ≤ t + 1; omega⟩
set_option maxRecDepth 100000 in
set_option maxHeartbeats 4000000 in
theorem k_Step {kp yd qk pm n ht p s : Nat} {pg ks : Nat → Nat} {stp fl : Int32} {m : Nat} {hd : HD} {w : SV} {t : Nat} (ht9 : t < 900000) (ok : Okt t (kp, yd, qk, pm, pg, (n, ks, ht, p, s, stp, fl, m, hd), w)) (x : Int32) : Okt (t + 1) (spStep (kp, yd, qk, pm, pg, (n, ks, ht, p, s, stp, fl, m, hd), w) x).2 := by
  obtain ⟨⟨⟨ok1, ok2, ok3, ok4, ok5, ok6, ok7, ok8⟩, okp, okw, okq, okpm, okpg, oky⟩, okt⟩ := id ok
  have okt : yd ≤ t := okt
  have same := Okt_s ok
  refine cif_ind (P := fun r : Int32 × ST => Okt (t + 1) r.2) (fun c1 => ?_) (fun c1 => ?_)
  · refine cif_ind (P := fun r : Int32 × ST => Okt (t + 1) r.2) (fun c2 => ?_) (fun c2 => ?_)
    · refine cif_ind (P := fun r : Int32 × ST => Okt (t + 1) r.2) (fun c3 => ?_) (fun c3 => ?_)
      · exact ⟨⟨⟨ok1, ok2, ok3, Nat.zero_le _, ok5, ok6, fun q => ⟨q, (ok7 q).2⟩, fun q => ⟨(ok8 q).1, rfl, rfl, (ok8 q).2.2.2⟩⟩, okp, okw, okq, okpm, okpg, oky⟩, by show yd ≤ t + 1; omega⟩
      · exact ⟨⟨⟨ok1, ok2, ok3, Nat.not_lt.mp c3, ok5, ok6, fun q => ⟨c2, (ok7 q).2⟩, fun q => by omega⟩, okp, okw, okq, okpm, okpg, oky⟩, by show yd ≤ t + 1; omega⟩
    · exact same
  · exact same
set_option maxRecDepth 100000 in
set_option maxHeartbeats 4000000 in
theorem k_Quick {kp yd qk pm n ht p s : Nat} {pg ks : Nat → Nat} {stp fl : Int32} {m : Nat} {hd : HD} {w : SV} {t : Nat} (ht9 : t < 900000) (ok : Okt t (kp, yd, qk, pm, pg, (n, ks, ht, p, s, stp, fl, m, hd), w)) (x : Int32) : Okt (t + 1) (spQuick (kp, yd, qk, pm, pg, (n, ks, ht, p, s, stp, fl, m, hd), w) x).2 := by
  obtain ⟨⟨⟨ok1, ok2, ok3, ok4, ok5, ok6, ok7, ok8⟩, okp, okw, okq, okpm, okpg, oky⟩, okt⟩ := id ok
  have okt : yd ≤ t := okt
  have same := Okt_s ok
  refine cif_ind (P := fun r : Int32 × ST => Okt (t + 1) r.2) (fun c1 => ?_) (fun c1 => ?_)
  · exact same
  refine cif_ind (P := fun r : Int32 × ST => Okt (t + 1) r.2) (fun c2 => ?_) (fun c2 => ?_)
  · exact same
  exact ⟨⟨⟨ok1, ok2, ok3, ok4, ok5, ok6, ok7, ok8⟩, okp, okw, by omega, okpm, okpg, oky⟩, by show yd ≤ t + 1; omega⟩
set_option maxRecDepth 100000 in
set_option maxHeartbeats 4000000 in
theorem k_Hear {kp yd qk pm n ht p s : Nat} {pg ks : Nat → Nat} {stp fl : Int32} {m : Nat} {hd : HD} {w : SV} {t : Nat} (ht9 : t < 900000) (ok : Okt t (kp, yd, qk, pm, pg, (n, ks, ht, p, s, stp, fl, m, hd), w)) (x y z : Int32) (b : Nat) (hb : b ≤ 1) : Okt (t + 1) (spHear (kp, yd, qk, pm, pg, (n, ks, ht, p, s, stp, fl, m, hd), w) x y z (nI b)).2 := by
  obtain ⟨⟨⟨ok1, ok2, ok3, ok4, ok5, ok6, ok7, ok8⟩, okp, okw, okq, okpm, okpg, oky⟩, okt⟩ := id ok
  have okt : yd ≤ t := okt
  have same := Okt_s ok
  refine cif_ind (P := fun r : Int32 × ST => Okt (t + 1) r.2) (fun c1 => ?_) (fun c1 => ?_)
  · refine cif_ind (P := fun r : Int32 × ST => Okt (t + 1) r.2) (fun c2 => ?_) (fun c2 => ?_)
    · exact same
    refine cif_ind (P := fun r : Int32 × ST => Okt (t + 1) r.2) (fun c3 => ?_) (fun c3 => ?_)
    · exact same
    obtain ⟨q, hq, rfl⟩ := c1
    obtain ⟨cy, hy1, hy2, ey⟩ := rg (x := y) 1 3 (by decide) (by decide) (fun q => c2 (Or.inl (Or.inl q))) (fun q => c2 (Or.inl (Or.inr q)))
    obtain ⟨cz, hz1, hz2, ez⟩ := rg (x := z) 0 11 (by decide) (by decide) (fun q => c2 (Or.inr (Or.inl q))) (fun q => c2 (Or.inr (Or.inr q)))
    subst ey
    subst ez
    refine ⟨⟨⟨ok1, ok2, ok3, ok4, fun j hj => ?_, by omega, ok7, fun q9 => by omega⟩, okp, okw, okq, okpm, okpg, oky⟩, by show yd ≤ t + 1; omega⟩
    rw [cN_nI (by omega), cN_nI (by omega), cN_nI (by omega), cN_nI (by omega)]
    dsimp only
    split
    · exact ⟨hq, hy1, hy2, hz2, hb⟩
    · exact ok5 j (by omega)
  · exact same
set_option maxRecDepth 100000 in
set_option maxHeartbeats 4000000 in
theorem k_Forget {kp yd qk pm n ht p s : Nat} {pg ks : Nat → Nat} {stp fl : Int32} {m : Nat} {hd : HD} {w : SV} {t : Nat} (ht9 : t < 900000) (ok : Okt t (kp, yd, qk, pm, pg, (n, ks, ht, p, s, stp, fl, m, hd), w)) : Okt (t + 1) (spForget (kp, yd, qk, pm, pg, (n, ks, ht, p, s, stp, fl, m, hd), w)).2 := by
  obtain ⟨⟨⟨ok1, ok2, ok3, ok4, ok5, ok6, ok7, ok8⟩, okp, okw, okq, okpm, okpg, oky⟩, okt⟩ := id ok
  have okt : yd ≤ t := okt
  have same := Okt_s ok
  exact ⟨⟨⟨ok1, ok2, ok3, ok4, fun j hj => absurd hj (Nat.not_lt_zero j), Nat.zero_le _, ok7, fun q => ⟨(ok8 q).1, (ok8 q).2.1, (ok8 q).2.2.1, rfl⟩⟩, okp, okw, okq, okpm, okpg, oky⟩, by show yd ≤ t + 1; omega⟩
set_option maxRecDepth 100000 in
set_option maxHeartbeats 4000000 in
theorem k_Image {kp yd qk pm n ht p s : Nat} {pg ks : Nat → Nat} {stp fl : Int32} {m : Nat} {hd : HD} {w : SV} {t : Nat} (ht9 : t < 900000) (ok : Okt t (kp, yd, qk, pm, pg, (n, ks, ht, p, s, stp, fl, m, hd), w)) : Okt (t + 1) (spImage (kp, yd, qk, pm, pg, (n, ks, ht, p, s, stp, fl, m, hd), w)).2 := by
  obtain ⟨⟨⟨ok1, ok2, ok3, ok4, ok5, ok6, ok7, ok8⟩, okp, okw, okq, okpm, okpg, oky⟩, okt⟩ := id ok
  have okt : yd ≤ t := okt
  have same := Okt_s ok
  refine cif_ind (P := fun r : Int32 × ST => Okt (t + 1) r.2) (fun c1 => ?_) (fun c1 => ?_)
  · exact same
  · exact ⟨⟨⟨ok1, ok2, ok3, ok4, ok5, ok6, ok7, ok8⟩, by omega, fun _ => ⟨⟨ok1, ok2, ok3, ok4, ok5, ok6, ok7, ok8⟩, rfl, Nat.pos_of_ne_zero c1⟩, okq, okpm, okpg, oky⟩, by show yd ≤ t + 1; omega⟩
set_option maxRecDepth 100000 in
set_option maxHeartbeats 4000000 in
theorem k_Restore {kp yd qk pm n ht p s : Nat} {pg ks : Nat → Nat} {stp fl : Int32} {m : Nat} {hd : HD} {w : SV} {t : Nat} (ht9 : t < 900000) (ok : Okt t (kp, yd, qk, pm, pg, (n, ks, ht, p, s, stp, fl, m, hd), w)) : Okt (t + 1) (spRestore (kp, yd, qk, pm, pg, (n, ks, ht, p, s, stp, fl, m, hd), w)).2 := by
  obtain ⟨⟨⟨ok1, ok2, ok3, ok4, ok5, ok6, ok7, ok8⟩, okp, okw, okq, okpm, okpg, oky⟩, okt⟩ := id ok
  have okt : yd ≤ t := okt
  have same := Okt_s ok
  refine cif_ind (P := fun r : Int32 × ST => Okt (t + 1) r.2) (fun c1 => ?_) (fun c1 => ?_)
  · exact same
  · obtain ⟨w1, w2, w3⟩ := okw (by omega)
    exact ⟨⟨w1, okp, fun _ => ⟨w1, rfl, by rw [w2]; exact w3⟩, okq, okpm, okpg, oky⟩, by show yd ≤ t + 1; omega⟩
