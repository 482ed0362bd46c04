/-! ===== the component's own methods ===== -/
/-- an answer: a refusal's number, 0 for none -/
def oR (k : Nat) (v : Int32) : Int32 := if k = 0 then v else -(nI k)
def rfs (I : Nat → Nat → Int32) (k : Nat) : Nat → Nat → Int32 := u2 I 3 k (I 3 k + nI 1)
def oM (k dc : Nat) (I : Nat → Nat → Int32) (L : Nat → Nat → Int64) (μ : Mem) : Mem := if k = 0 then μ else Mm dc (rfs I k) L
theorem oR0 (v : Int32) : oR 0 v = v := rfl
theorem oRk {k : Nat} (h : k ≠ 0) (v : Int32) : oR k v = -(nI k) := if_neg h
theorem oM0 (dc : Nat) (I : Nat → Nat → Int32) (L : Nat → Nat → Int64) (μ : Mem) : oM 0 dc I L μ = μ := rfl
theorem oMk {k : Nat} (h : k ≠ 0) (dc : Nat) (I : Nat → Nat → Int32) (L : Nat → Nat → Int64) (μ : Mem) : oM k dc I L μ = Mm dc (rfs I k) L := if_neg h
theorem ngs : ∀ k, k < 8 → 1 ≤ k → (¬ (-1 : Int32) < -(nI k)) ∧ (¬ -(nI k) < (-7 : Int32)) ∧ -(-(nI k)) = nI k ∧ ¬ -(nI k) = 0 := by decide
section OB
variable {G : GG} {y : MethodName} {cc : ByteArray} {nL : Nat} {ret : Option FieldType} {dep bc bs pc : Nat} {ls st : List Value} {μ : Mem} {Post : Option Value → Mem → Prop}
theorem v_e0 {v v' : Value} (h : v = v') (k : V G y cc nL ret dep bc bs pc ls (v' :: st) μ Post) : V G y cc nL ret dep bc bs pc ls (v :: st) μ Post := h ▸ k
theorem v_e1 {u v v' : Value} (h : v = v') (k : V G y cc nL ret dep bc bs pc ls (u :: v' :: st) μ Post) : V G y cc nL ret dep bc bs pc ls (u :: v :: st) μ Post := h ▸ k
theorem v_e2 {u w v v' : Value} (h : v = v') (k : V G y cc nL ret dep bc bs pc ls (u :: w :: v' :: st) μ Post) : V G y cc nL ret dep bc bs pc ls (u :: w :: v :: st) μ Post := h ▸ k
theorem v_ifeq_o {k : Nat} {off : Int} {tgt : Nat} (hk : k < 8) (hdg : decode cc pc = .ok (.ifCond .eq off, 3)) (ht : (pc : Int) + off = (tgt : Int)) (k1 : k = 0 → V G y cc nL ret dep bc bs tgt ls st μ Post) (k2 : ¬ k = 0 → V G y cc nL ret dep bc bs (pc + 3) ls st μ Post) : V G y cc nL ret dep bc bs pc ls (.int (oR k (nI 0)) :: st) μ Post := by
  refine v_if_eq hdg ht (fun h => k1 (Classical.byContradiction fun q => ?_)) (fun h => k2 fun q => h ?_)
  · rw [oRk q] at h
    exact (ngs k hk (by omega)).2.2.2 h
  · rw [q]; rfl
end OB

set_option maxRecDepth 4000 in
theorem c_X8_refuse {G : GG} {dc : Nat} {I : Nat → Nat → Int32} {L : Nat → Nat → Int64} {k : Nat} {x : Int32} (hx : x = -(nI k)) (hk : k < 8) (hk1 : 1 ≤ k) : Cn G yX8_refuse cX8_refuse 2 (some .int) 0 0 0 [.ref 0, .int x] (Mm dc I L) (Is (some (.int (-(nI k)))) (Mm dc (rfs I k) L)) := by
  subst hx
  refine Cn.of' (by decide) (Nat.le_of_ble_eq_true rfl) rfl ?_
  refine v_ild1 dX8_refuse_0 ?_
  refine v_icm1 dX8_refuse_1 ?_
  refine v_icmp_gt (tgt := 22) dX8_refuse_2 (by decide) (fun h2 => absurd h2 (ngs k hk hk1).1) (fun h2 => ?_)
  refine v_ild1 dX8_refuse_5 ?_
  refine v_bipush (v := -7) dX8_refuse_6 (by decide) ?_
  refine v_icmp_lt (tgt := 22) dX8_refuse_8 (by decide) (fun h8 => absurd h8 (ngs k hk hk1).2.1) (fun h8 => ?_)
  refine v_ald0 dX8_refuse_11 ?_
  refine v_getP (q := 3) dX8_refuse_12 fl_X8_21 (by first | rfl | exact lay_door (by omega) | exact lay_dt (by omega) | exact lay_da (by omega) | exact lay_sh (by omega) | exact lay_se (by omega)) rfl (by omega) rfl ?_
  refine v_ild1 dX8_refuse_15 ?_
  refine v_ineg dX8_refuse_16 ?_
  rw [(ngs k hk hk1).2.2.1]
  refine v_dup2 dX8_refuse_17 ?_
  refine v_iald dX8_refuse_18 (by first | rfl | exact lay_door (by omega) | exact lay_dt (by omega) | exact lay_da (by omega) | exact lay_sh (by omega) | exact lay_se (by omega)) (by omega) ⟨rfl, hk, by decide⟩ ?_
  refine v_icN (n := 1) dX8_refuse_19 (by decide) ?_
  refine v_iadd dX8_refuse_20 ?_
  refine v_iast dX8_refuse_21 (by first | rfl | exact lay_door (by omega) | exact lay_dt (by omega) | exact lay_da (by omega) | exact lay_sh (by omega) | exact lay_se (by omega)) (by omega) ⟨rfl, hk, by decide⟩ ?_
  refine v_ild1 dX8_refuse_22 ?_
  exact v_retI dX8_refuse_23 trivial ⟨rfl, rfl⟩

/-- a number within -/
def rg (x : Int32) (N : Nat) : Prop := x = nI (tn x) ∧ tn x ≤ N
/-- what the component's walks rest on -/
def Wx (dc : Nat) (I : Nat → Nat → Int32) : Prop := dc ≤ 24 ∧ I 0 7 = nI dc ∧ (∀ s, s < 8 → rg (I (23 + 2 * s) 2) 30) ∧ ∀ d, d < dc → rg (I (78 + 3 * d) 0) 5 ∧ rg (I (78 + 3 * d) 1) 3 ∧ rg (I (78 + 3 * d) 5) 12 ∧ rg (I (78 + 3 * d) 8) 12
theorem Wx.dc {dc : Nat} {I : Nat → Nat → Int32} (h : Wx dc I) : dc ≤ 24 := h.1
theorem Wx.sz {dc : Nat} {I : Nat → Nat → Int32} (h : Wx dc I) {s : Nat} (hs : s < 8) : I (23 + 2 * s) 2 = nI (tn (I (23 + 2 * s) 2)) ∧ tn (I (23 + 2 * s) 2) ≤ 30 := h.2.2.1 s hs
/-- why a shelf is no row: 2 it holds a door, 3 nothing; 0 it is one -/
def sk (I : Nat → Nat → Int32) (s : Nat) : Nat := if I (23 + 2 * s) 3 = -1 then (if I (23 + 2 * s) 1 = -1 then 3 else 0) else 2
theorem sk_lt (I : Nat → Nat → Int32) (s : Nat) : sk I s < 8 := by
  unfold sk
  split
  · split <;> decide
  · decide
/-- why a shelf is no door -/
def skD (I : Nat → Nat → Int32) (s : Nat) : Nat := if I (23 + 2 * s) 1 = -1 then (if I (23 + 2 * s) 3 = -1 then 3 else 0) else 2
theorem skD_lt (I : Nat → Nat → Int32) (s : Nat) : skD I s < 8 := by
  unfold skD
  split
  · split <;> decide
  · decide
theorem c_fitR {G : GG} {dc : Nat} {I : Nat → Nat → Int32} {L : Nat → Nat → Int64} {s : Nat} (hs : s < 8) : Cn G yX4_fitAsRow cX4_fitAsRow 1 (some .int) 1 0 0 [.ref (23 + 2 * s)] (Mm dc I L) (Is (some (.int (oR (sk I s) (nI 0)))) (Mm dc I L)) := by
  have h := c_X4_fitAsRow (G := G) (dc := dc) (I := I) (L := L) hs
  rw [show oR (sk I s) (nI 0) = (if ¬ I (23 + 2 * s) 3 = -1 then -2 else if ¬ I (23 + 2 * s) 1 = -1 then nI 0 else -3) by
    unfold sk
    by_cases h3 : I (23 + 2 * s) 3 = -1
    · by_cases h1 : I (23 + 2 * s) 1 = -1
      · simp [h3, h1]; decide
      · simp [h3, h1]; rfl
    · simp [h3]; decide]
  exact h
theorem c_fitD {G : GG} {dc : Nat} {I : Nat → Nat → Int32} {L : Nat → Nat → Int64} {s : Nat} (hs : s < 8) : Cn G yX4_fitAsDoor cX4_fitAsDoor 1 (some .int) 1 0 0 [.ref (23 + 2 * s)] (Mm dc I L) (Is (some (.int (oR (skD I s) (nI 0)))) (Mm dc I L)) := by
  have h := c_X4_fitAsDoor (G := G) (dc := dc) (I := I) (L := L) hs
  rw [show oR (skD I s) (nI 0) = (if ¬ I (23 + 2 * s) 1 = -1 then -2 else if ¬ I (23 + 2 * s) 3 = -1 then nI 0 else -3) by
    unfold skD
    by_cases h1 : I (23 + 2 * s) 1 = -1
    · by_cases h3 : I (23 + 2 * s) 3 = -1
      · simp [h3, h1]; decide
      · simp [h3, h1]; rfl
    · simp [h1]; decide]
  exact h
theorem c_isDoor {G : GG} {dc : Nat} {I : Nat → Nat → Int32} {L : Nat → Nat → Int64} {b : Int32} (hW : Wx dc I) : Cn G yX8_isDoor cX8_isDoor 2 (some .boolean) 0 0 0 [.ref 0, .int b] (Mm dc I L) (Is (some (.int (bI (inR b dc)))) (Mm dc I L)) := by
  have h := c_X8_isDoor (G := G) (dc := dc) (I := I) (L := L) (b := b)
  rw [hW.2.1] at h
  exact h

set_option maxRecDepth 4000 in
theorem c_doorAt {G : GG} {dc : Nat} {I : Nat → Nat → Int32} {L : Nat → Nat → Int64} {b : Int32} (hW : Wx dc I) (hb : inR b dc) : Cn G yX8_doorAt cX8_doorAt 2 (some (.object "CensusNight$Door")) 1 0 0 [.ref 0, .int b] (Mm dc I L) (Is (some (.ref (78 + 3 * tn b))) (Mm dc I L)) := by
  refine Cn.of' (by decide) (Nat.le_of_ble_eq_true rfl) rfl ?_
  refine v_ald0 dX8_doorAt_0 ?_
  refine v_ild1 dX8_doorAt_1 ?_
  refine v_V1 (c_isDoor hW) lk_X8_121 dX8_doorAt_2 (by decide) (Nat.le_of_ble_eq_true rfl) (by first | rfl | exact lay_door (by omega) | exact lay_dt (by omega) | exact lay_da (by omega) | exact lay_sh (by omega) | exact lay_se (by omega)) (show _ < 78 + 3 * _ by omega) ?_
  refine v_ifeq_b (tgt := 17) dX8_doorAt_5 (by decide) (fun h5 => absurd hb h5) (fun h5 => ?_)
  refine v_ald0 dX8_doorAt_8 ?_
  refine v_getP (q := 2) dX8_doorAt_9 fl_X8_17 (by first | rfl | exact lay_door (by omega) | exact lay_dt (by omega) | exact lay_da (by omega) | exact lay_sh (by omega) | exact lay_se (by omega)) rfl (by omega) rfl ?_
  refine v_ild1 dX8_doorAt_12 ?_
  refine v_aald13 dX8_doorAt_13 (by first | rfl | exact lay_door (by omega) | exact lay_dt (by omega) | exact lay_da (by omega) | exact lay_sh (by omega) | exact lay_se (by omega)) (by omega) ⟨(tn_lt rfl (by have := hW.1; omega) hb).2, by have := (tn_lt rfl (by have := hW.1; omega) hb).1; have := hW.1; omega, by decide⟩ (Pc_d (tn_lt rfl (by have := hW.1; omega) hb).1) ?_
  refine v_goto (tgt := 18) dX8_doorAt_14 (by decide) ?_
  exact v_retA dX8_doorAt_18 trivial ⟨rfl, rfl⟩

set_option maxRecDepth 4000 in
theorem c_doorAtN {G : GG} {dc : Nat} {I : Nat → Nat → Int32} {L : Nat → Nat → Int64} {b : Int32} (hW : Wx dc I) (hb : ¬ inR b dc) : Cn G yX8_doorAt cX8_doorAt 2 (some (.object "CensusNight$Door")) 1 0 0 [.ref 0, .int b] (Mm dc I L) (Is (some .null) (Mm dc I L)) := by
  refine Cn.of' (by decide) (Nat.le_of_ble_eq_true rfl) rfl ?_
  refine v_ald0 dX8_doorAt_0 ?_
  refine v_ild1 dX8_doorAt_1 ?_
  refine v_V1 (c_isDoor hW) lk_X8_121 dX8_doorAt_2 (by decide) (Nat.le_of_ble_eq_true rfl) (by first | rfl | exact lay_door (by omega) | exact lay_dt (by omega) | exact lay_da (by omega) | exact lay_sh (by omega) | exact lay_se (by omega)) (show _ < 78 + 3 * _ by omega) ?_
  refine v_ifeq_b (tgt := 17) dX8_doorAt_5 (by decide) (fun h5 => ?_) (fun h5 => absurd h5 hb)
  refine v_null dX8_doorAt_17 ?_
  exact v_retN dX8_doorAt_18 trivial ⟨rfl, rfl⟩

/-- two blocks come near -/
def jnI (I : Nat → Nat → Int32) (a b : Nat) : Nat → Nat → Int32 :=
  let J := u2 I 9 a (I 9 a ||| (nI 1 <<< (nI b &&& 31)))
  u2 J 9 b (J 9 b ||| (nI 1 <<< (nI a &&& 31)))

set_option maxRecDepth 4000 in
theorem c_X7_join {G : GG} {dc : Nat} {I : Nat → Nat → Int32} {L : Nat → Nat → Int64} {a b : Nat} (ha : a < 6) (hb : b < 6) : Cn G yX7_join cX7_join 4 (some .boolean) 0 0 0 [.ref 8, .int (nI a), .int (nI b)] (Mm dc I L) (Is (some (.int (bI (((I 9 a >>> (nI b &&& 31)) &&& nI 1) = 0)))) (Mm dc (jnI I a b) L)) := by
  refine Cn.of' (by decide) (Nat.le_of_ble_eq_true rfl) rfl ?_
  refine v_ald0 dX7_join_0 ?_
  refine v_getP (q := 9) dX7_join_1 fl_X7_9 (by first | rfl | exact lay_door (by omega) | exact lay_dt (by omega) | exact lay_da (by omega) | exact lay_sh (by omega) | exact lay_se (by omega)) rfl (by omega) rfl ?_
  refine v_ild1 dX7_join_4 ?_
  refine v_iald dX7_join_5 (by first | rfl | exact lay_door (by omega) | exact lay_dt (by omega) | exact lay_da (by omega) | exact lay_sh (by omega) | exact lay_se (by omega)) (by omega) ⟨rfl, by omega, by decide⟩ ?_
  refine v_ild2 dX7_join_6 ?_
  refine v_ishr dX7_join_7 ?_
  refine v_icN (n := 1) dX7_join_8 (by decide) ?_
  refine v_iand dX7_join_9 ?_
  refine v_if_ne (tgt := 17) dX7_join_10 (by decide) (fun h10 => ?_) (fun h10 => ?_)
  · refine v_icN (n := 0) dX7_join_17 (by decide) ?_
    refine v_ist3 dX7_join_18 rfl ?_
    refine v_ald0 dX7_join_19 ?_
    refine v_getP (q := 9) dX7_join_20 fl_X7_9 (by first | rfl | exact lay_door (by omega) | exact lay_dt (by omega) | exact lay_da (by omega) | exact lay_sh (by omega) | exact lay_se (by omega)) rfl (by omega) rfl ?_
    refine v_ild1 dX7_join_23 ?_
    refine v_dup2 dX7_join_24 ?_
    refine v_iald dX7_join_25 (by first | rfl | exact lay_door (by omega) | exact lay_dt (by omega) | exact lay_da (by omega) | exact lay_sh (by omega) | exact lay_se (by omega)) (by omega) ⟨rfl, by omega, by decide⟩ ?_
    refine v_icN (n := 1) dX7_join_26 (by decide) ?_
    refine v_ild2 dX7_join_27 ?_
    refine v_ishl dX7_join_28 ?_
    refine v_ior dX7_join_29 ?_
    refine v_iast dX7_join_30 (by first | rfl | exact lay_door (by omega) | exact lay_dt (by omega) | exact lay_da (by omega) | exact lay_sh (by omega) | exact lay_se (by omega)) (by omega) ⟨rfl, by omega, by decide⟩ ?_
    refine v_ald0 dX7_join_31 ?_
    refine v_getP (q := 9) dX7_join_32 fl_X7_9 (by first | rfl | exact lay_door (by omega) | exact lay_dt (by omega) | exact lay_da (by omega) | exact lay_sh (by omega) | exact lay_se (by omega)) rfl (by omega) rfl ?_
    refine v_ild2 dX7_join_35 ?_
    refine v_dup2 dX7_join_36 ?_
    refine v_iald dX7_join_37 (by first | rfl | exact lay_door (by omega) | exact lay_dt (by omega) | exact lay_da (by omega) | exact lay_sh (by omega) | exact lay_se (by omega)) (by omega) ⟨rfl, by omega, by decide⟩ ?_
    refine v_icN (n := 1) dX7_join_38 (by decide) ?_
    refine v_ild1 dX7_join_39 ?_
    refine v_ishl dX7_join_40 ?_
    refine v_ior dX7_join_41 ?_
    refine v_iast dX7_join_42 (by first | rfl | exact lay_door (by omega) | exact lay_dt (by omega) | exact lay_da (by omega) | exact lay_sh (by omega) | exact lay_se (by omega)) (by omega) ⟨rfl, by omega, by decide⟩ ?_
    refine v_ild3 dX7_join_43 ?_
    exact v_retI dX7_join_44 (by first | exact Or.inl rfl | exact Or.inr rfl | exact bI_01) (by first | (rw [bI_t h10]; exact ⟨rfl, rfl⟩) | (rw [bI_f h10]; exact ⟨rfl, rfl⟩))
  · refine v_icN (n := 1) dX7_join_13 (by decide) ?_
    refine v_goto (tgt := 18) dX7_join_14 (by decide) ?_
    refine v_ist3 dX7_join_18 rfl ?_
    refine v_ald0 dX7_join_19 ?_
    refine v_getP (q := 9) dX7_join_20 fl_X7_9 (by first | rfl | exact lay_door (by omega) | exact lay_dt (by omega) | exact lay_da (by omega) | exact lay_sh (by omega) | exact lay_se (by omega)) rfl (by omega) rfl ?_
    refine v_ild1 dX7_join_23 ?_
    refine v_dup2 dX7_join_24 ?_
    refine v_iald dX7_join_25 (by first | rfl | exact lay_door (by omega) | exact lay_dt (by omega) | exact lay_da (by omega) | exact lay_sh (by omega) | exact lay_se (by omega)) (by omega) ⟨rfl, by omega, by decide⟩ ?_
    refine v_icN (n := 1) dX7_join_26 (by decide) ?_
    refine v_ild2 dX7_join_27 ?_
    refine v_ishl dX7_join_28 ?_
    refine v_ior dX7_join_29 ?_
    refine v_iast dX7_join_30 (by first | rfl | exact lay_door (by omega) | exact lay_dt (by omega) | exact lay_da (by omega) | exact lay_sh (by omega) | exact lay_se (by omega)) (by omega) ⟨rfl, by omega, by decide⟩ ?_
    refine v_ald0 dX7_join_31 ?_
    refine v_getP (q := 9) dX7_join_32 fl_X7_9 (by first | rfl | exact lay_door (by omega) | exact lay_dt (by omega) | exact lay_da (by omega) | exact lay_sh (by omega) | exact lay_se (by omega)) rfl (by omega) rfl ?_
    refine v_ild2 dX7_join_35 ?_
    refine v_dup2 dX7_join_36 ?_
    refine v_iald dX7_join_37 (by first | rfl | exact lay_door (by omega) | exact lay_dt (by omega) | exact lay_da (by omega) | exact lay_sh (by omega) | exact lay_se (by omega)) (by omega) ⟨rfl, by omega, by decide⟩ ?_
    refine v_icN (n := 1) dX7_join_38 (by decide) ?_
    refine v_ild1 dX7_join_39 ?_
    refine v_ishl dX7_join_40 ?_
    refine v_ior dX7_join_41 ?_
    refine v_iast dX7_join_42 (by first | rfl | exact lay_door (by omega) | exact lay_dt (by omega) | exact lay_da (by omega) | exact lay_sh (by omega) | exact lay_se (by omega)) (by omega) ⟨rfl, by omega, by decide⟩ ?_
    refine v_ild3 dX7_join_43 ?_
    exact v_retI dX7_join_44 (by first | exact Or.inl rfl | exact Or.inr rfl | exact bI_01) (by first | (rw [bI_t h10]; exact ⟨rfl, rfl⟩) | (rw [bI_f h10]; exact ⟨rfl, rfl⟩))

set_option maxRecDepth 4000 in
theorem c_X7_numberOf {G : GG} {dc : Nat} {I : Nat → Nat → Int32} {L : Nat → Nat → Int64} {a : Nat} (ha : a < 6) : Cn G yX7_numberOf cX7_numberOf 2 (some .int) 0 0 0 [.ref 8, .int (nI a)] (Mm dc I L) (Is (some (.int (I 11 a))) (Mm dc I L)) := by
  refine Cn.of' (by decide) (Nat.le_of_ble_eq_true rfl) rfl ?_
  refine v_ald0 dX7_numberOf_0 ?_
  refine v_getP (q := 11) dX7_numberOf_1 fl_X7_18 (by first | rfl | exact lay_door (by omega) | exact lay_dt (by omega) | exact lay_da (by omega) | exact lay_sh (by omega) | exact lay_se (by omega)) rfl (by omega) rfl ?_
  refine v_ild1 dX7_numberOf_4 ?_
  refine v_iald dX7_numberOf_5 (by first | rfl | exact lay_door (by omega) | exact lay_dt (by omega) | exact lay_da (by omega) | exact lay_sh (by omega) | exact lay_se (by omega)) (by omega) ⟨rfl, by omega, by decide⟩ ?_
  exact v_retI dX7_numberOf_6 trivial ⟨rfl, rfl⟩

def dNear (a b : Int32) : Nat := if inR a 6 then (if inR b 6 then (if a = b then 6 else 0) else 1) else 1

set_option maxRecDepth 4000 in
theorem c_X8_near {G : GG} {dc : Nat} {I : Nat → Nat → Int32} {L : Nat → Nat → Int64} {a b : Int32} : Cn G yX8_near cX8_near 3 (some .int) 1 0 0 [.ref 0, .int a, .int b] (Mm dc I L) (Is (some (.int (oR (dNear a b) (bI (((I 9 (tn a) >>> (nI (tn b) &&& 31)) &&& nI 1) = 0))))) (oM (dNear a b) dc I L (Mm dc (jnI I (tn a) (tn b)) (L)))) := by
  refine Cn.of' (by decide) (Nat.le_of_ble_eq_true rfl) rfl ?_
  refine v_ild1 dX8_near_0 ?_
  refine v_S1 c_X8_isBlock lk_X8_54 dX8_near_1 (by decide) (Nat.le_of_ble_eq_true rfl) ?_
  refine v_ifeq_b (tgt := 14) dX8_near_4 (by decide) (fun h4 => ?_) (fun h4 => ?_)
  · refine v_ald0 dX8_near_14 ?_
    refine v_icm1 dX8_near_15 ?_
    refine v_V1 (c_X8_refuse (k := 1) (by decide) (by decide) (by decide)) lk_X8_58 dX8_near_16 (by decide) (Nat.le_of_ble_eq_true rfl) (by first | rfl | exact lay_door (by omega) | exact lay_dt (by omega) | exact lay_da (by omega) | exact lay_sh (by omega) | exact lay_se (by omega)) (show _ < 78 + 3 * _ by omega) ?_
    exact v_retI dX8_near_19 trivial (by simp only [dNear, if_neg h4]; exact ⟨rfl, rfl⟩)
  · refine v_ild2 dX8_near_7 ?_
    refine v_S1 c_X8_isBlock lk_X8_54 dX8_near_8 (by decide) (Nat.le_of_ble_eq_true rfl) ?_
    refine v_ifne_b (tgt := 20) dX8_near_11 (by decide) (fun h11 => ?_) (fun h11 => ?_)
    · refine v_ild1 dX8_near_20 ?_
      refine v_ild2 dX8_near_21 ?_
      refine v_icmp_ne (tgt := 32) dX8_near_22 (by decide) (fun h22 => ?_) (fun h22 => ?_)
      · refine v_ald0 dX8_near_32 ?_
        refine v_getP (q := 8) dX8_near_33 fl_X8_42 (by first | rfl | exact lay_door (by omega) | exact lay_dt (by omega) | exact lay_da (by omega) | exact lay_sh (by omega) | exact lay_se (by omega)) rfl (by omega) rfl ?_
        refine v_ild1 dX8_near_36 ?_
        refine v_ild2 dX8_near_37 ?_
        refine v_e0 (congrArg Value.int (ix_R (by decide) h11).1) ?_
        refine v_e1 (congrArg Value.int (ix_R (by decide) h4).1) ?_
        refine v_V2 (c_X7_join (ix_R (by decide) h4).2.1 (ix_R (by decide) h11).2.1) lk_X8_76 dX8_near_38 (by decide) (Nat.le_of_ble_eq_true rfl) (by first | rfl | exact lay_door (by omega) | exact lay_dt (by omega) | exact lay_da (by omega) | exact lay_sh (by omega) | exact lay_se (by omega)) (show _ < 78 + 3 * _ by omega) ?_
        refine v_ifeq_b (tgt := 48) dX8_near_41 (by decide) (fun h41 => ?_) (fun h41 => ?_)
        · refine v_icN (n := 0) dX8_near_48 (by decide) ?_
          exact v_retI dX8_near_49 trivial (by simp only [dNear, if_pos h4, if_pos h11, if_neg h22]; first | (rw [bI_t h41]; exact ⟨rfl, rfl⟩) | (have h42 : ¬ (((I 9 (tn a) >>> (nI (tn b) &&& 31)) &&& nI 1) = 0) := h41; rw [bI_f h42]; exact ⟨rfl, rfl⟩))
        · refine v_icN (n := 1) dX8_near_44 (by decide) ?_
          refine v_goto (tgt := 49) dX8_near_45 (by decide) ?_
          exact v_retI dX8_near_49 trivial (by simp only [dNear, if_pos h4, if_pos h11, if_neg h22]; first | (rw [bI_t h41]; exact ⟨rfl, rfl⟩) | (have h42 : ¬ (((I 9 (tn a) >>> (nI (tn b) &&& 31)) &&& nI 1) = 0) := h41; rw [bI_f h42]; exact ⟨rfl, rfl⟩))
      · refine v_ald0 dX8_near_25 ?_
        refine v_bipush (v := -6) dX8_near_26 (by decide) ?_
        refine v_V1 (c_X8_refuse (k := 6) (by decide) (by decide) (by decide)) lk_X8_58 dX8_near_28 (by decide) (Nat.le_of_ble_eq_true rfl) (by first | rfl | exact lay_door (by omega) | exact lay_dt (by omega) | exact lay_da (by omega) | exact lay_sh (by omega) | exact lay_se (by omega)) (show _ < 78 + 3 * _ by omega) ?_
        exact v_retI dX8_near_31 trivial (by simp only [dNear, if_pos h4, if_pos h11, if_pos h22]; exact ⟨rfl, rfl⟩)
    · refine v_ald0 dX8_near_14 ?_
      refine v_icm1 dX8_near_15 ?_
      refine v_V1 (c_X8_refuse (k := 1) (by decide) (by decide) (by decide)) lk_X8_58 dX8_near_16 (by decide) (Nat.le_of_ble_eq_true rfl) (by first | rfl | exact lay_door (by omega) | exact lay_dt (by omega) | exact lay_da (by omega) | exact lay_sh (by omega) | exact lay_se (by omega)) (show _ < 78 + 3 * _ by omega) ?_
      exact v_retI dX8_near_19 trivial (by simp only [dNear, if_pos h4, if_neg h11]; exact ⟨rfl, rfl⟩)
