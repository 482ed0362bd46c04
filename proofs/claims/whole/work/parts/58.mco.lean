/-! ===== the model: moves, could ===== -/
def agMv (I J : Nat → Nat → Int32) : Prop := ∀ x j, x ≠ 72 → J x j = I x j
def mvP (dc : Nat) (I : Nat → Nat → Int32) (L : Nat → Nat → Int64) (H : Nat → Prop) (M : Nat → Nat) (c v : Nat) : Option Value → Mem → Prop := fun r μ => r = none ∧ ∃ (J : Nat → Nat → Int32) (T : Nat → Nat), μ = Mm dc J L ∧ agMv I J ∧ (∀ x, x < 24 → J 72 x = nI (T x)) ∧ SmT H M T ∧ T c = v
theorem mvT_c {T : Nat → Nat} {a b D c : Nat} (h : clN a b ≠ c) : mvT T a b D c = T c := updN_o T _ (Ne.symm h)
theorem mvT_J {J : Nat → Nat → Int32} {T : Nat → Nat} {r a b D : Nat} {v : Int32} (hT : ∀ x, x < 24 → J r x = nI (T x)) (hv : v = nI (if a < 6 then T (clN a b) + D else T (clN a b) - D)) : ∀ x, x < 24 → u2 J r (clN a b) v r x = nI (mvT T a b D x) := fun x hx => by
  by_cases e : x = clN a b
  · rw [e, u2_s, mvT, updN_s, hv]
  · rw [u2_k _ _ _ _ e, mvT, updN_o T _ e]; exact hT x hx

set_option maxRecDepth 4000 in
theorem lp_mv {G : GG} {dc : Nat} {I : Nat → Nat → Int32} {L : Nat → Nat → Int64} {H : Nat → Prop} {M T0 : Nat → Nat} {c s e v : Nat} {q : Nat → Nat} {xc w xg : Int32} (hB : BF (I 75) (I 76) (stS H (fun x => ¬ T0 x = 0) c) s e q) : ∀ k, k < e → ∀ (J : Nat → Nat → Int32) (T : Nat → Nat) (u6 : Value), agMv I J → (∀ x, x < 24 → J 72 x = nI (T x)) → PI H M T0 c s 1 q k T → T c = v → V G yX9_moves cX9_moves 7 none 0 0 0 56 [.ref 39, .int xc, .int w, .int xg, .int (nI s), .int (nI (q k)), u6] [] (Mm dc J L) (mvP dc I L H M c v) := by
  intro k
  induction k using Nat.strongRecOn with
  | ind k ih =>
    intro hk J T u6 hJ hT hP hv
    have hqk := (hB.ql k hk).1
    have hs10 : s < 10 := by have := (hB.ql 0 hB.e1).1; rw [hB.q0] at this; exact this
    refine v_ild5 dX9_moves_56 ?_
    refine v_ild4 dX9_moves_58 ?_
    refine v_icmp_eq (tgt := 132) dX9_moves_60 (by decide) (fun h60 => ?_) (fun h60 => ?_)
    · exact v_retV dX9_moves_132 trivial (by
        have hks : q k = s := (nI_eq (by omega) (by omega)).mp h60
        have hk0 : k = 0 := Classical.byContradiction fun z => hB.qd k hk 0 (by omega) (by rw [hB.q0, hks])
        rw [hk0] at hP
        exact ⟨rfl, J, T, rfl, hJ, hT, hP.fin hB.q0, hv⟩)
    · have hk0 : k ≠ 0 := fun z => h60 (by rw [z, hB.q0])
      obtain ⟨k', hk', hW, hR⟩ := hB.pr k hk (by omega)
      have hqk2 := (hB.ql k' (by omega)).1
      have hl := clN_lt hR.1
      have hcell := hP.2.1 k' k (by omega) (Nat.le_refl _) hR.1 hR.2.1
      have hw75 : J 75 (q k) = nI (q k') := (hJ 75 (q k) (by decide)).trans hW
      refine v_ald0 dX9_moves_63 ?_
      refine v_getP (q := 75) dX9_moves_64 fl_X9_130 (by first | rfl | exact lay_door (by omega) | exact lay_dt (by omega) | exact lay_da (by omega) | exact lay_sh (by omega) | exact lay_se (by omega)) rfl (by omega) rfl ?_
      refine v_ild5 dX9_moves_67 ?_
      refine v_iald dX9_moves_69 (by first | rfl | exact lay_door (by omega) | exact lay_dt (by omega) | exact lay_da (by omega) | exact lay_sh (by omega) | exact lay_se (by omega)) (by omega) ⟨rfl, hqk, by decide⟩ ?_
      refine v_e0 (congrArg Value.int hw75) ?_
      refine v_ist6 dX9_moves_70 rfl ?_
      refine v_ild6 dX9_moves_72 ?_
      refine v_bipush (v := nI 6) dX9_moves_74 (by decide) ?_
      refine v_icmp_ge (tgt := 101) dX9_moves_76 (by decide) (fun h76 => ?_) (fun h76 => ?_)
      · have hlow : ¬ q k' < 6 := fun z => absurd h76 (nI_ge z (by decide))
        have h1 : 1 ≤ T (clN (q k') (q k)) := by rw [hcell]; have := hR.2.2.2; omega
        refine v_ald0 dX9_moves_101 ?_
        refine v_getP (q := 72) dX9_moves_102 fl_X9_121 (by first | rfl | exact lay_door (by omega) | exact lay_dt (by omega) | exact lay_da (by omega) | exact lay_sh (by omega) | exact lay_se (by omega)) rfl (by omega) rfl ?_
        refine v_icN (n := 4) dX9_moves_105 (by decide) ?_
        refine v_ild5 dX9_moves_106 ?_
        refine v_imul dX9_moves_108 ?_
        refine v_ild6 dX9_moves_109 ?_
        refine v_iadd dX9_moves_111 ?_
        refine v_bipush (v := nI 6) dX9_moves_112 (by decide) ?_
        refine v_isub dX9_moves_114 ?_
        refine v_e0 (congrArg Value.int (show _ = nI (clN (q k') (q k)) from by rw [pk_mul, nI_add, pk_sub (by have := hR.1; omega)]; exact congrArg nI (if_neg hlow).symm)) ?_
        refine v_dup2 dX9_moves_115 ?_
        refine v_iald dX9_moves_116 (by first | rfl | exact lay_door (by omega) | exact lay_dt (by omega) | exact lay_da (by omega) | exact lay_sh (by omega) | exact lay_se (by omega)) (by omega) ⟨rfl, hl, by decide⟩ ?_
        refine v_icN (n := 1) dX9_moves_117 (by decide) ?_
        refine v_isub dX9_moves_118 ?_
        refine v_iast dX9_moves_119 (by first | rfl | exact lay_door (by omega) | exact lay_dt (by omega) | exact lay_da (by omega) | exact lay_sh (by omega) | exact lay_se (by omega)) (by omega) ⟨rfl, hl, by decide⟩ ?_
        refine v_ald0 dX9_moves_120 ?_
        refine v_getP (q := 75) dX9_moves_121 fl_X9_130 (by first | rfl | exact lay_door (by omega) | exact lay_dt (by omega) | exact lay_da (by omega) | exact lay_sh (by omega) | exact lay_se (by omega)) rfl (by omega) rfl ?_
        refine v_ild5 dX9_moves_124 ?_
        refine v_iald dX9_moves_126 (by first | rfl | exact lay_door (by omega) | exact lay_dt (by omega) | exact lay_da (by omega) | exact lay_sh (by omega) | exact lay_se (by omega)) (by omega) ⟨rfl, hqk, by decide⟩ ?_
        refine v_e0 (congrArg Value.int ((u2_a _ _ _ _ (by decide)).trans hw75)) ?_
        refine v_ist5 dX9_moves_127 rfl ?_
        refine v_goto (tgt := 56) dX9_moves_129 (by decide) ?_
        refine ih k' hk' (by omega) _ (mvT T (q k') (q k) 1) _ (fun x j hx => (u2_a _ _ _ _ hx).trans (hJ x j hx)) (mvT_J hT ?_) (hP.step hk' (fun i hi => hB.qd k hk i hi) hR (fun z => ?_)) ((mvT_c hR.2.1).trans hv)
        · rw [hT _ hl, if_neg hlow]; exact pk_sub h1
        · rw [← hcell]; exact h1
      · have hlow : q k' < 6 := Nat.not_le.mp (fun z => h76 (nI_le z (by omega)))
        refine v_ald0 dX9_moves_79 ?_
        refine v_getP (q := 72) dX9_moves_80 fl_X9_121 (by first | rfl | exact lay_door (by omega) | exact lay_dt (by omega) | exact lay_da (by omega) | exact lay_sh (by omega) | exact lay_se (by omega)) rfl (by omega) rfl ?_
        refine v_icN (n := 4) dX9_moves_83 (by decide) ?_
        refine v_ild6 dX9_moves_84 ?_
        refine v_imul dX9_moves_86 ?_
        refine v_ild5 dX9_moves_87 ?_
        refine v_iadd dX9_moves_89 ?_
        refine v_bipush (v := nI 6) dX9_moves_90 (by decide) ?_
        refine v_isub dX9_moves_92 ?_
        refine v_e0 (congrArg Value.int (show _ = nI (clN (q k') (q k)) from by rw [pk_mul, nI_add, pk_sub (by have := hR.1; omega)]; exact congrArg nI (if_pos hlow).symm)) ?_
        refine v_dup2 dX9_moves_93 ?_
        refine v_iald dX9_moves_94 (by first | rfl | exact lay_door (by omega) | exact lay_dt (by omega) | exact lay_da (by omega) | exact lay_sh (by omega) | exact lay_se (by omega)) (by omega) ⟨rfl, hl, by decide⟩ ?_
        refine v_icN (n := 1) dX9_moves_95 (by decide) ?_
        refine v_iadd dX9_moves_96 ?_
        refine v_iast dX9_moves_97 (by first | rfl | exact lay_door (by omega) | exact lay_dt (by omega) | exact lay_da (by omega) | exact lay_sh (by omega) | exact lay_se (by omega)) (by omega) ⟨rfl, hl, by decide⟩ ?_
        refine v_goto (tgt := 120) dX9_moves_98 (by decide) ?_
        refine v_ald0 dX9_moves_120 ?_
        refine v_getP (q := 75) dX9_moves_121 fl_X9_130 (by first | rfl | exact lay_door (by omega) | exact lay_dt (by omega) | exact lay_da (by omega) | exact lay_sh (by omega) | exact lay_se (by omega)) rfl (by omega) rfl ?_
        refine v_ild5 dX9_moves_124 ?_
        refine v_iald dX9_moves_126 (by first | rfl | exact lay_door (by omega) | exact lay_dt (by omega) | exact lay_da (by omega) | exact lay_sh (by omega) | exact lay_se (by omega)) (by omega) ⟨rfl, hqk, by decide⟩ ?_
        refine v_e0 (congrArg Value.int ((u2_a _ _ _ _ (by decide)).trans hw75)) ?_
        refine v_ist5 dX9_moves_127 rfl ?_
        refine v_goto (tgt := 56) dX9_moves_129 (by decide) ?_
        refine ih k' hk' (by omega) _ (mvT T (q k') (q k) 1) _ (fun x j hx => (u2_a _ _ _ _ hx).trans (hJ x j hx)) (mvT_J hT ?_) (hP.step hk' (fun i hi => hB.qd k hk i hi) hR (fun z => ?_)) ((mvT_c hR.2.1).trans hv)
        · rw [hT _ hl, if_pos hlow]; exact nI_add _ 1
        · omega

set_option maxRecDepth 4000 in
theorem c_mvU {G : GG} {dc : Nat} {I : Nat → Nat → Int32} {L : Nat → Nat → Int64} {H : Nat → Prop} {M T0 : Nat → Nat} {c s e : Nat} {q : Nat → Nat} {xc w : Int32} (e1 : xc = nI c) (hc : c < 24) (hH : H c) (hT : ∀ x, x < 24 → I 72 x = nI (T0 x)) (hS : SmT H M T0) (hB : BF (I 75) (I 76) (stS H (fun x => ¬ T0 x = 0) c) s e q) (hw : ¬ w = 0) (hs : s = 6 + c % 4) (hv : vis e q (c / 4)) : Cn G yX9_moves cX9_moves 7 none 0 0 0 [.ref 39, .int xc, .int w] (Mm dc I L) (mvP dc I L H M c (T0 c + 1)) := by
  subst e1
  subst hs
  obtain ⟨k, hk, hqk⟩ := hv
  refine Cn.of' (by decide) (Nat.le_of_ble_eq_true rfl) rfl ?_
  refine v_ild2 dX9_moves_0 ?_
  refine v_if_eq (tgt := 10) dX9_moves_1 (by decide) (fun h1 => absurd h1 hw) (fun h1 => ?_)
  refine v_ild1 dX9_moves_4 ?_
  refine v_icN (n := 4) dX9_moves_5 (by decide) ?_
  refine v_idiv dX9_moves_6 (by decide) ?_
  refine v_e0 (congrArg Value.int (show _ = nI (c / 4) from pk_div (by omega) (by decide) (by decide))) ?_
  refine v_goto (tgt := 16) dX9_moves_7 (by decide) ?_
  refine v_ist3 dX9_moves_16 rfl ?_
  refine v_ild2 dX9_moves_17 ?_
  refine v_if_eq (tgt := 30) dX9_moves_18 (by decide) (fun h18 => absurd h18 hw) (fun h18 => ?_)
  refine v_bipush (v := nI 6) dX9_moves_21 (by decide) ?_
  refine v_ild1 dX9_moves_23 ?_
  refine v_icN (n := 4) dX9_moves_24 (by decide) ?_
  refine v_irem dX9_moves_25 (by decide) ?_
  refine v_iadd dX9_moves_26 ?_
  refine v_e0 (congrArg Value.int (show _ = nI (6 + c % 4) from by rw [pk_rem (by omega) (by decide) (by decide), nI_add])) ?_
  refine v_goto (tgt := 33) dX9_moves_27 (by decide) ?_
  refine v_ist4 dX9_moves_33 rfl ?_
  refine v_ald0 dX9_moves_35 ?_
  refine v_getP (q := 72) dX9_moves_36 fl_X9_121 (by first | rfl | exact lay_door (by omega) | exact lay_dt (by omega) | exact lay_da (by omega) | exact lay_sh (by omega) | exact lay_se (by omega)) rfl (by omega) rfl ?_
  refine v_ild1 dX9_moves_39 ?_
  refine v_dup2 dX9_moves_40 ?_
  refine v_iald dX9_moves_41 (by first | rfl | exact lay_door (by omega) | exact lay_dt (by omega) | exact lay_da (by omega) | exact lay_sh (by omega) | exact lay_se (by omega)) (by omega) ⟨rfl, hc, by decide⟩ ?_
  refine v_ild2 dX9_moves_42 ?_
  refine v_if_eq (tgt := 50) dX9_moves_43 (by decide) (fun h43 => absurd h43 hw) (fun h43 => ?_)
  refine v_icN (n := 1) dX9_moves_46 (by decide) ?_
  refine v_goto (tgt := 51) dX9_moves_47 (by decide) ?_
  refine v_iadd dX9_moves_51 ?_
  refine v_e0 (congrArg Value.int (show _ = nI (T0 c + 1) from by rw [hT c hc, nI_add])) ?_
  refine v_iast dX9_moves_52 (by first | rfl | exact lay_door (by omega) | exact lay_dt (by omega) | exact lay_da (by omega) | exact lay_sh (by omega) | exact lay_se (by omega)) (by omega) ⟨rfl, hc, by decide⟩ ?_
  refine v_ild3 dX9_moves_53 ?_
  refine v_ist5 dX9_moves_54 rfl ?_
  rw [← hqk]
  refine lp_mv hB k hk _ (updN T0 c (T0 c + 1)) _ (fun x j hx => u2_a _ _ _ _ hx) (fun x hx => ?_) (PI.start hS hc hH hqk (Or.inl ⟨rfl, rfl, rfl⟩)) (updN_s _ _ _)
  by_cases z : x = c
  · rw [z, u2_s, updN_s]
  · rw [u2_k _ _ _ _ z, updN_o _ _ z]; exact hT x hx

set_option maxRecDepth 4000 in
theorem c_mvD {G : GG} {dc : Nat} {I : Nat → Nat → Int32} {L : Nat → Nat → Int64} {H : Nat → Prop} {M T0 : Nat → Nat} {c s e : Nat} {q : Nat → Nat} {xc w : Int32} (e1 : xc = nI c) (hc : c < 24) (hH : H c) (hT : ∀ x, x < 24 → I 72 x = nI (T0 x)) (hS : SmT H M T0) (hB : BF (I 75) (I 76) (stS H (fun x => ¬ T0 x = 0) c) s e q) (hw : w = 0) (hs : s = c / 4) (hv : vis e q (6 + c % 4)) (hT1 : 1 ≤ T0 c) : Cn G yX9_moves cX9_moves 7 none 0 0 0 [.ref 39, .int xc, .int w] (Mm dc I L) (mvP dc I L H M c (T0 c - 1)) := by
  subst e1
  subst hs
  obtain ⟨k, hk, hqk⟩ := hv
  refine Cn.of' (by decide) (Nat.le_of_ble_eq_true rfl) rfl ?_
  refine v_ild2 dX9_moves_0 ?_
  refine v_if_eq (tgt := 10) dX9_moves_1 (by decide) (fun h1 => ?_) (fun h1 => absurd hw h1)
  refine v_bipush (v := nI 6) dX9_moves_10 (by decide) ?_
  refine v_ild1 dX9_moves_12 ?_
  refine v_icN (n := 4) dX9_moves_13 (by decide) ?_
  refine v_irem dX9_moves_14 (by decide) ?_
  refine v_iadd dX9_moves_15 ?_
  refine v_e0 (congrArg Value.int (show _ = nI (6 + c % 4) from by rw [pk_rem (by omega) (by decide) (by decide), nI_add])) ?_
  refine v_ist3 dX9_moves_16 rfl ?_
  refine v_ild2 dX9_moves_17 ?_
  refine v_if_eq (tgt := 30) dX9_moves_18 (by decide) (fun h18 => ?_) (fun h18 => absurd hw h18)
  refine v_ild1 dX9_moves_30 ?_
  refine v_icN (n := 4) dX9_moves_31 (by decide) ?_
  refine v_idiv dX9_moves_32 (by decide) ?_
  refine v_e0 (congrArg Value.int (show _ = nI (c / 4) from pk_div (by omega) (by decide) (by decide))) ?_
  refine v_ist4 dX9_moves_33 rfl ?_
  refine v_ald0 dX9_moves_35 ?_
  refine v_getP (q := 72) dX9_moves_36 fl_X9_121 (by first | rfl | exact lay_door (by omega) | exact lay_dt (by omega) | exact lay_da (by omega) | exact lay_sh (by omega) | exact lay_se (by omega)) rfl (by omega) rfl ?_
  refine v_ild1 dX9_moves_39 ?_
  refine v_dup2 dX9_moves_40 ?_
  refine v_iald dX9_moves_41 (by first | rfl | exact lay_door (by omega) | exact lay_dt (by omega) | exact lay_da (by omega) | exact lay_sh (by omega) | exact lay_se (by omega)) (by omega) ⟨rfl, hc, by decide⟩ ?_
  refine v_ild2 dX9_moves_42 ?_
  refine v_if_eq (tgt := 50) dX9_moves_43 (by decide) (fun h43 => ?_) (fun h43 => absurd hw h43)
  refine v_icm1 dX9_moves_50 ?_
  refine v_iadd dX9_moves_51 ?_
  refine v_e0 (congrArg Value.int (show _ = nI (T0 c - 1) from by rw [hT c hc]; obtain ⟨z, hz⟩ : ∃ z, T0 c = z + 1 := ⟨T0 c - 1, by omega⟩; rw [hz]; exact pk_m1 z)) ?_
  refine v_iast dX9_moves_52 (by first | rfl | exact lay_door (by omega) | exact lay_dt (by omega) | exact lay_da (by omega) | exact lay_sh (by omega) | exact lay_se (by omega)) (by omega) ⟨rfl, hc, by decide⟩ ?_
  refine v_ild3 dX9_moves_53 ?_
  refine v_ist5 dX9_moves_54 rfl ?_
  rw [← hqk]
  refine lp_mv hB k hk _ (updN T0 c (T0 c - 1)) _ (fun x j hx => u2_a _ _ _ _ hx) (fun x hx => ?_) (PI.start hS hc hH hqk (Or.inr ⟨rfl, rfl, hT1, rfl⟩)) (updN_s _ _ _)
  by_cases z : x = c
  · rw [z, u2_s, updN_s]
  · rw [u2_k _ _ _ _ z, updN_o _ _ z]; exact hT x hx

def agCo (I J : Nat → Nat → Int32) : Prop := ∀ x j, x ≠ 72 → x ≠ 75 → x ≠ 76 → J x j = I x j
def cdP (dc : Nat) (I : Nat → Nat → Int32) (L : Nat → Nat → Int64) (up : Prop) (H : Nat → Prop) (M : Nat → Nat) (c : Nat) : Option Value → Mem → Prop := fun r μ => ∃ (J : Nat → Nat → Int32) (v : Nat), r = some (.int (nI v)) ∧ μ = Mm dc J L ∧ agCo I J ∧ XT up H M c v
theorem stM_T {h N : Nat → Int32} {T : Nat → Nat} {B but : Nat} (hT : ∀ x, x < 24 → N x = nI (T x)) (hB : ∀ x, x < 24 → T x ≤ B) (hB2 : B < 2 ^ 31) : stM h N but = stS (fun x => ¬ h x = 0) (fun x => ¬ T x = 0) but := by
  have e1 : stM h N but = stS (fun x => ¬ h x = 0) (fun x => ¬ N x = 0) but := rfl
  rw [e1]
  exact stS_c (fun _ _ => Iff.rfl) (fun x hx => by
    rw [hT x hx]
    exact not_congr ((nI_eq (a := T x) (b := 0) (by have := hB x hx; omega) (by omega))))

set_option maxRecDepth 4000 in
theorem lp_coU {G : GG} {dc : Nat} {I : Nat → Nat → Int32} {L : Nat → Nat → Int64} {M : Nat → Nat} {c B : Nat} {w xr xk : Int32} (hc : c < 24) (hB : ∀ v, v < 10 → nS M v ≤ B) (hB2 : B < 2 ^ 30) (hw : ¬ w = 0) : ∀ (f : Nat) (J : Nat → Nat → Int32) (T : Nat → Nat) (u5 : Value), B + 1 ≤ f + T c → agCo I J → (∀ x, x < 24 → J 72 x = nI (T x)) → SmT (fun x => ¬ I 73 x = 0) M T → V G yX9_could cX9_could 6 (some .int) 2 0 0 70 [.ref 39, .int xr, .int xk, .int w, .int (nI c), u5] [] (Mm dc J L) (cdP dc I L (¬ w = 0) (fun x => ¬ I 73 x = 0) M c) := by
  intro f
  induction f with
  | zero => intro J T u5 hf hJ hT hS; have := hS.le hB hc; omega
  | succ f ih =>
    intro J T u5 hf hJ hT hS
    have hle : ∀ x, x < 24 → T x ≤ B := fun x hx => hS.le hB hx
    have h73 : J 73 = I 73 := funext fun j => hJ 73 j (by decide) (by decide) (by decide)
    have hst : stM (J 73) (J 72) c = stS (fun x => ¬ I 73 x = 0) (fun x => ¬ T x = 0) c := by rw [stM_T hT hle (by omega), h73]
    refine v_ald0 dX9_could_70 ?_
    refine v_getP (q := 73) dX9_could_71 fl_X9_124 (by first | rfl | exact lay_door (by omega) | exact lay_dt (by omega) | exact lay_da (by omega) | exact lay_sh (by omega) | exact lay_se (by omega)) rfl (by omega) rfl ?_
    refine v_ild4 dX9_could_74 ?_
    refine v_zald dX9_could_76 (by first | rfl | exact lay_door (by omega) | exact lay_dt (by omega) | exact lay_da (by omega) | exact lay_sh (by omega) | exact lay_se (by omega)) (by omega) ⟨rfl, hc, by decide⟩ ?_
    refine v_if_eq (tgt := 131) dX9_could_77 (by decide) (fun h77 => ?_) (fun h77 => ?_)
    · refine v_ald0 dX9_could_131 ?_
      refine v_getP (q := 72) dX9_could_132 fl_X9_121 (by first | rfl | exact lay_door (by omega) | exact lay_dt (by omega) | exact lay_da (by omega) | exact lay_sh (by omega) | exact lay_se (by omega)) rfl (by omega) rfl ?_
      refine v_ild4 dX9_could_135 ?_
      refine v_iald dX9_could_137 (by first | rfl | exact lay_door (by omega) | exact lay_dt (by omega) | exact lay_da (by omega) | exact lay_sh (by omega) | exact lay_se (by omega)) (by omega) ⟨rfl, hc, by decide⟩ ?_
      exact v_retI dX9_could_138 trivial ⟨J, M c, by rw [hT c hc, hS.1 c hc (fun z => z (h73 ▸ h77))], rfl, hJ, XT_told hc (fun z => z (h73 ▸ h77))⟩
    · have hhid : (fun x => ¬ I 73 x = 0) c := fun z => h77 ((congrFun h73 c).trans z)
      refine v_ild3 dX9_could_80 ?_
      refine v_if_eq (tgt := 104) dX9_could_81 (by decide) (fun h81 => absurd h81 hw) (fun h81 => ?_)
      refine v_ald0 dX9_could_84 ?_
      refine v_ild4 dX9_could_85 ?_
      refine v_ald0 dX9_could_87 ?_
      refine v_getP (q := 73) dX9_could_88 fl_X9_124 (by first | rfl | exact lay_door (by omega) | exact lay_dt (by omega) | exact lay_da (by omega) | exact lay_sh (by omega) | exact lay_se (by omega)) rfl (by omega) rfl ?_
      refine v_ald0 dX9_could_91 ?_
      refine v_getP (q := 72) dX9_could_92 fl_X9_121 (by first | rfl | exact lay_door (by omega) | exact lay_dt (by omega) | exact lay_da (by omega) | exact lay_sh (by omega) | exact lay_se (by omega)) rfl (by omega) rfl ?_
      refine v_V3p (c_X9_canRise (c := c) rfl hc (Or.inl rfl) (Or.inr (Or.inr rfl))) lk_X9_266 dX9_could_95 (by decide) (Nat.le_of_ble_eq_true rfl) rfl (show _ < 78 + 3 * _ by omega) (fun r μ₁ h => ?_)
      obtain ⟨K, rfl, rfl, hK, hbf⟩ := h
      rw [hst] at hbf ⊢
      have hKT : ∀ x, x < 24 → K 72 x = nI (T x) := fun x hx => (hK 72 x (by decide) (by decide)).trans (hT x hx)
      refine v_ifeq_b (tgt := 131) dX9_could_98 (by decide) (fun h98 => ?_) (fun h98 => ?_)
      · refine v_ald0 dX9_could_131 ?_
        refine v_getP (q := 72) dX9_could_132 fl_X9_121 (by first | rfl | exact lay_door (by omega) | exact lay_dt (by omega) | exact lay_da (by omega) | exact lay_sh (by omega) | exact lay_se (by omega)) rfl (by omega) rfl ?_
        refine v_ild4 dX9_could_135 ?_
        refine v_iald dX9_could_137 (by first | rfl | exact lay_door (by omega) | exact lay_dt (by omega) | exact lay_da (by omega) | exact lay_sh (by omega) | exact lay_se (by omega)) (by omega) ⟨rfl, hc, by decide⟩ ?_
        exact v_retI dX9_could_138 trivial ⟨K, T c, by rw [hKT c hc], rfl, fun x j h1 h2 h3 => (hK x j h2 h3).trans (hJ x j h1 h2 h3), XT_end hc hS (fun _ => h98) (fun z => absurd hw z)⟩
      · refine v_goto (tgt := 121) dX9_could_101 (by decide) ?_
        refine v_ald0 dX9_could_121 ?_
        refine v_ild4 dX9_could_122 ?_
        refine v_ild3 dX9_could_124 ?_
        obtain ⟨e, q, hbf, hvis⟩ := hbf h98
        refine v_V2p (c_mvU (H := (fun x => ¬ I 73 x = 0)) (M := M) (T0 := T) rfl hc hhid hKT hS hbf hw rfl hvis) lk_X9_298 dX9_could_125 (by decide) (Nat.le_of_ble_eq_true rfl) rfl (show _ < 78 + 3 * _ by omega) (fun r μ₁ h => ?_)
        obtain ⟨rfl, K2, T2, rfl, hK2, hT2, hS2, hv2⟩ := h
        refine v_goto (tgt := 70) dX9_could_128 (by decide) ?_
        exact ih K2 T2 _ (by rw [hv2]; omega) (fun x j h1 h2 h3 => (hK2 x j h1).trans ((hK x j h2 h3).trans (hJ x j h1 h2 h3))) hT2 hS2

set_option maxRecDepth 4000 in
theorem lp_coD {G : GG} {dc : Nat} {I : Nat → Nat → Int32} {L : Nat → Nat → Int64} {M : Nat → Nat} {c B : Nat} {w xr xk : Int32} (hc : c < 24) (hB : ∀ v, v < 10 → nS M v ≤ B) (hB2 : B < 2 ^ 30) (hw : w = 0) : ∀ (f : Nat) (J : Nat → Nat → Int32) (T : Nat → Nat) (u5 : Value), T c < f → agCo I J → (∀ x, x < 24 → J 72 x = nI (T x)) → SmT (fun x => ¬ I 73 x = 0) M T → V G yX9_could cX9_could 6 (some .int) 2 0 0 70 [.ref 39, .int xr, .int xk, .int w, .int (nI c), u5] [] (Mm dc J L) (cdP dc I L (¬ w = 0) (fun x => ¬ I 73 x = 0) M c) := by
  intro f
  induction f with
  | zero => intro J T u5 hf hJ hT hS; have := hS.le hB hc; omega
  | succ f ih =>
    intro J T u5 hf hJ hT hS
    have hle : ∀ x, x < 24 → T x ≤ B := fun x hx => hS.le hB hx
    have h73 : J 73 = I 73 := funext fun j => hJ 73 j (by decide) (by decide) (by decide)
    have hst : stM (J 73) (J 72) c = stS (fun x => ¬ I 73 x = 0) (fun x => ¬ T x = 0) c := by rw [stM_T hT hle (by omega), h73]
    have hpos : (¬ J 72 c ≤ 0) ↔ 1 ≤ T c := by
      rw [hT c hc]
      exact ⟨fun z => Classical.byContradiction fun y => z (nI_le (b := 0) (by omega) (by omega)), fun z => nI_nle (by omega) (by have := hle c hc; omega)⟩
    refine v_ald0 dX9_could_70 ?_
    refine v_getP (q := 73) dX9_could_71 fl_X9_124 (by first | rfl | exact lay_door (by omega) | exact lay_dt (by omega) | exact lay_da (by omega) | exact lay_sh (by omega) | exact lay_se (by omega)) rfl (by omega) rfl ?_
    refine v_ild4 dX9_could_74 ?_
    refine v_zald dX9_could_76 (by first | rfl | exact lay_door (by omega) | exact lay_dt (by omega) | exact lay_da (by omega) | exact lay_sh (by omega) | exact lay_se (by omega)) (by omega) ⟨rfl, hc, by decide⟩ ?_
    refine v_if_eq (tgt := 131) dX9_could_77 (by decide) (fun h77 => ?_) (fun h77 => ?_)
    · refine v_ald0 dX9_could_131 ?_
      refine v_getP (q := 72) dX9_could_132 fl_X9_121 (by first | rfl | exact lay_door (by omega) | exact lay_dt (by omega) | exact lay_da (by omega) | exact lay_sh (by omega) | exact lay_se (by omega)) rfl (by omega) rfl ?_
      refine v_ild4 dX9_could_135 ?_
      refine v_iald dX9_could_137 (by first | rfl | exact lay_door (by omega) | exact lay_dt (by omega) | exact lay_da (by omega) | exact lay_sh (by omega) | exact lay_se (by omega)) (by omega) ⟨rfl, hc, by decide⟩ ?_
      exact v_retI dX9_could_138 trivial ⟨J, M c, by rw [hT c hc, hS.1 c hc (fun z => z (h73 ▸ h77))], rfl, hJ, XT_told hc (fun z => z (h73 ▸ h77))⟩
    · have hhid : (fun x => ¬ I 73 x = 0) c := fun z => h77 ((congrFun h73 c).trans z)
      refine v_ild3 dX9_could_80 ?_
      refine v_if_eq (tgt := 104) dX9_could_81 (by decide) (fun h81 => ?_) (fun h81 => absurd hw h81)
      refine v_ald0 dX9_could_104 ?_
      refine v_ild4 dX9_could_105 ?_
      refine v_ald0 dX9_could_107 ?_
      refine v_getP (q := 73) dX9_could_108 fl_X9_124 (by first | rfl | exact lay_door (by omega) | exact lay_dt (by omega) | exact lay_da (by omega) | exact lay_sh (by omega) | exact lay_se (by omega)) rfl (by omega) rfl ?_
      refine v_ald0 dX9_could_111 ?_
      refine v_getP (q := 72) dX9_could_112 fl_X9_121 (by first | rfl | exact lay_door (by omega) | exact lay_dt (by omega) | exact lay_da (by omega) | exact lay_sh (by omega) | exact lay_se (by omega)) rfl (by omega) rfl ?_
      refine v_V3p (c_X9_canFall (c := c) rfl hc (Or.inl rfl) (Or.inr (Or.inr rfl))) lk_X9_270 dX9_could_115 (by decide) (Nat.le_of_ble_eq_true rfl) rfl (show _ < 78 + 3 * _ by omega) (fun r μ₁ h => ?_)
      obtain ⟨K, rfl, rfl, hK, hbf⟩ := h
      rw [hst] at hbf ⊢
      have hKT : ∀ x, x < 24 → K 72 x = nI (T x) := fun x hx => (hK 72 x (by decide) (by decide)).trans (hT x hx)
      refine v_ifeq_b (tgt := 131) dX9_could_118 (by decide) (fun h118 => ?_) (fun h118 => ?_)
      · refine v_ald0 dX9_could_131 ?_
        refine v_getP (q := 72) dX9_could_132 fl_X9_121 (by first | rfl | exact lay_door (by omega) | exact lay_dt (by omega) | exact lay_da (by omega) | exact lay_sh (by omega) | exact lay_se (by omega)) rfl (by omega) rfl ?_
        refine v_ild4 dX9_could_135 ?_
        refine v_iald dX9_could_137 (by first | rfl | exact lay_door (by omega) | exact lay_dt (by omega) | exact lay_da (by omega) | exact lay_sh (by omega) | exact lay_se (by omega)) (by omega) ⟨rfl, hc, by decide⟩ ?_
        exact v_retI dX9_could_138 trivial ⟨K, T c, by rw [hKT c hc], rfl, fun x j h1 h2 h3 => (hK x j h2 h3).trans (hJ x j h1 h2 h3), XT_end hc hS (fun z => absurd hw z) (fun _ => (Nat.eq_zero_or_pos (T c)).imp id (fun z y => h118 ⟨hpos.mpr z, y⟩))⟩
      · refine v_ald0 dX9_could_121 ?_
        refine v_ild4 dX9_could_122 ?_
        refine v_ild3 dX9_could_124 ?_
        obtain ⟨e, q, hbf, hvis⟩ := hbf h118
        have h1T := hpos.mp h118.1
        refine v_V2p (c_mvD (H := (fun x => ¬ I 73 x = 0)) (M := M) (T0 := T) rfl hc hhid hKT hS hbf hw rfl hvis h1T) lk_X9_298 dX9_could_125 (by decide) (Nat.le_of_ble_eq_true rfl) rfl (show _ < 78 + 3 * _ by omega) (fun r μ₁ h => ?_)
        obtain ⟨rfl, K2, T2, rfl, hK2, hT2, hS2, hv2⟩ := h
        refine v_goto (tgt := 70) dX9_could_128 (by decide) ?_
        exact ih K2 T2 _ (by rw [hv2]; omega) (fun x j h1 h2 h3 => (hK2 x j h1).trans ((hK x j h2 h3).trans (hJ x j h1 h2 h3))) hT2 hS2

set_option maxRecDepth 4000 in
theorem lp_co0 {G : GG} {dc : Nat} {I : Nat → Nat → Int32} {L : Nat → Nat → Int64} {M : Nat → Nat} {c B : Nat} {w xr xk : Int32} (hc : c < 24) (hB : ∀ v, v < 10 → nS M v ≤ B) (hB2 : B < 2 ^ 30) (hM : ∀ x, x < 24 → I 70 x = nI (M x)) (k : Nat) : ∀ i, i + k = 24 → V G yX9_could cX9_could 6 (some .int) 2 0 0 43 [.ref 39, .int xr, .int xk, .int w, .int (nI c), .int (nI i)] [] (Mm dc (rf2 I 72 i (I 70)) L) (cdP dc I L (¬ w = 0) (fun x => ¬ I 73 x = 0) M c) := by
  induction k with
  | zero =>
    intro i hi
    refine v_ild5 dX9_could_43 ?_
    refine v_bipush (v := nI 24) dX9_could_45 (by decide) ?_
    refine v_icmp_ge (tgt := 70) dX9_could_47 (by decide) (fun h47 => ?_) (fun h47 => absurd (nI_le (by omega) (by omega)) h47)
    rw [show i = 24 by omega]
    have hJ : agCo I (rf2 I 72 24 (I 70)) := fun x j h1 _ _ => rf2_o _ _ _ _ h1
    have hT : ∀ x, x < 24 → rf2 I 72 24 (I 70) 72 x = nI (M x) := fun x hx => (rf2_i _ _ hx).trans (hM x hx)
    by_cases hw : w = 0
    · exact lp_coD hc hB hB2 hw (M c + 1) _ M _ (by omega) hJ hT SmT.rf
    · exact lp_coU hc hB hB2 hw (B + 1) _ M _ (by omega) hJ hT SmT.rf
  | succ k ih =>
    intro i hi
    refine v_ild5 dX9_could_43 ?_
    refine v_bipush (v := nI 24) dX9_could_45 (by decide) ?_
    refine v_icmp_ge (tgt := 70) dX9_could_47 (by decide) (fun h47 => absurd h47 (nI_ge (by omega) (by omega))) (fun h47 => ?_)
    refine v_ald0 dX9_could_50 ?_
    refine v_getP (q := 72) dX9_could_51 fl_X9_121 (by first | rfl | exact lay_door (by omega) | exact lay_dt (by omega) | exact lay_da (by omega) | exact lay_sh (by omega) | exact lay_se (by omega)) rfl (by omega) rfl ?_
    refine v_ild5 dX9_could_54 ?_
    refine v_ald0 dX9_could_56 ?_
    refine v_getP (q := 70) dX9_could_57 fl_X9_115 (by first | rfl | exact lay_door (by omega) | exact lay_dt (by omega) | exact lay_da (by omega) | exact lay_sh (by omega) | exact lay_se (by omega)) rfl (by omega) rfl ?_
    refine v_ild5 dX9_could_60 ?_
    refine v_iald dX9_could_62 (by first | rfl | exact lay_door (by omega) | exact lay_dt (by omega) | exact lay_da (by omega) | exact lay_sh (by omega) | exact lay_se (by omega)) (by omega) ⟨rfl, by omega, by decide⟩ ?_
    refine v_iast dX9_could_63 (by first | rfl | exact lay_door (by omega) | exact lay_dt (by omega) | exact lay_da (by omega) | exact lay_sh (by omega) | exact lay_se (by omega)) (by omega) ⟨rfl, by omega, by decide⟩ ?_
    refine v_inc5 dX9_could_64 rfl ?_
    refine v_goto (tgt := 43) dX9_could_67 (by decide) ?_
    rw [rf2_s _ _ _ _ (rf2_o _ _ _ _ (by decide)), nI_1 i]
    exact ih (i + 1) (by omega)

def dCou (I : Nat → Nat → Int32) (r c : Int32) : Prop := ¬ I 39 42 = 0 ∧ inR r 6 ∧ inR c 4

set_option maxRecDepth 4000 in
theorem c_couY {G : GG} {dc : Nat} {I : Nat → Nat → Int32} {L : Nat → Nat → Int64} {M : Nat → Nat} {B : Nat} {r c w : Int32} (hd : dCou I r c) (hB : ∀ v, v < 10 → nS M v ≤ B) (hB2 : B < 2 ^ 30) (hM : ∀ x, x < 24 → I 70 x = nI (M x)) : Cn G yX9_could cX9_could 6 (some .int) 2 0 0 [.ref 39, .int r, .int c, .int w] (Mm dc I L) (cdP dc I L (¬ w = 0) (fun x => ¬ I 73 x = 0) M (4 * tn r + tn c)) := by
  obtain ⟨hd1, hd2, hd3⟩ := hd
  have hr9 := tn_lt rfl (by decide) hd2
  have hc9 := tn_lt rfl (by decide) hd3
  refine Cn.of' (by decide) (Nat.le_of_ble_eq_true rfl) rfl ?_
  refine v_ald0 dX9_could_0 ?_
  refine v_getI dX9_could_1 fl_X9_289 (by first | rfl | exact lay_door (by omega) | exact lay_dt (by omega) | exact lay_da (by omega) | exact lay_sh (by omega) | exact lay_se (by omega)) rfl (by omega) ?_
  refine v_if_eq (tgt := 31) dX9_could_4 (by decide) (fun h4 => absurd h4 hd1) (fun h4 => ?_)
  refine v_ild1 dX9_could_7 ?_
  refine v_i2l dX9_could_8 ?_
  refine v_lcN0 dX9_could_9 ?_
  refine v_ldc2 dX9_could_10 kc_X9_296 ?_
  refine v_S3 (c_isInR 5 (by decide) (by decide) (by decide)) lk_X9_152 dX9_could_13 (by decide) (Nat.le_of_ble_eq_true rfl) ?_
  refine v_ifeq_b (tgt := 31) dX9_could_16 (by decide) (fun h16 => absurd hd2 h16) (fun h16 => ?_)
  refine v_ild2 dX9_could_19 ?_
  refine v_i2l dX9_could_20 ?_
  refine v_lcN0 dX9_could_21 ?_
  refine v_ldc2 dX9_could_22 kc_X9_150 ?_
  refine v_S3 (c_isInR 3 (by decide) (by decide) (by decide)) lk_X9_152 dX9_could_25 (by decide) (Nat.le_of_ble_eq_true rfl) ?_
  refine v_ifne_b (tgt := 33) dX9_could_28 (by decide) (fun h28 => ?_) (fun h28 => absurd hd3 h28)
  refine v_icN (n := 4) dX9_could_33 (by decide) ?_
  refine v_ild1 dX9_could_34 ?_
  refine v_imul dX9_could_35 ?_
  refine v_ild2 dX9_could_36 ?_
  refine v_iadd dX9_could_37 ?_
  refine v_e0 (congrArg Value.int (show _ = nI (4 * tn r + tn c) from by rw [← nI_add, ← pk_mul, ← hr9.2, ← hc9.2])) ?_
  refine v_ist4 dX9_could_38 rfl ?_
  refine v_icN (n := 0) dX9_could_40 (by decide) ?_
  refine v_ist5 dX9_could_41 rfl ?_
  have h9 := lp_co0 (G := G) (dc := dc) (I := I) (L := L) (M := M) (c := 4 * tn r + tn c) (B := B) (w := w) (xr := r) (xk := c) (by omega) hB hB2 hM 24 0 (by omega)
  rw [rf2_0] at h9
  exact h9

set_option maxRecDepth 4000 in
theorem c_couN {G : GG} {dc : Nat} {I : Nat → Nat → Int32} {L : Nat → Nat → Int64} {r c w : Int32} (hd : ¬ dCou I r c) : Cn G yX9_could cX9_could 6 (some .int) 2 0 0 [.ref 39, .int r, .int c, .int w] (Mm dc I L) (Is (some (.int (-1))) (Mm dc I L)) := by
  refine Cn.of' (by decide) (Nat.le_of_ble_eq_true rfl) rfl ?_
  refine v_ald0 dX9_could_0 ?_
  refine v_getI dX9_could_1 fl_X9_289 (by first | rfl | exact lay_door (by omega) | exact lay_dt (by omega) | exact lay_da (by omega) | exact lay_sh (by omega) | exact lay_se (by omega)) rfl (by omega) ?_
  refine v_if_eq (tgt := 31) dX9_could_4 (by decide) (fun h4 => ?_) (fun h4 => ?_)
  · refine v_icm1 dX9_could_31 ?_
    exact v_retI dX9_could_32 trivial ⟨rfl, rfl⟩
  · refine v_ild1 dX9_could_7 ?_
    refine v_i2l dX9_could_8 ?_
    refine v_lcN0 dX9_could_9 ?_
    refine v_ldc2 dX9_could_10 kc_X9_296 ?_
    refine v_S3 (c_isInR 5 (by decide) (by decide) (by decide)) lk_X9_152 dX9_could_13 (by decide) (Nat.le_of_ble_eq_true rfl) ?_
    refine v_ifeq_b (tgt := 31) dX9_could_16 (by decide) (fun h16 => ?_) (fun h16 => ?_)
    · refine v_icm1 dX9_could_31 ?_
      exact v_retI dX9_could_32 trivial ⟨rfl, rfl⟩
    · refine v_ild2 dX9_could_19 ?_
      refine v_i2l dX9_could_20 ?_
      refine v_lcN0 dX9_could_21 ?_
      refine v_ldc2 dX9_could_22 kc_X9_150 ?_
      refine v_S3 (c_isInR 3 (by decide) (by decide) (by decide)) lk_X9_152 dX9_could_25 (by decide) (Nat.le_of_ble_eq_true rfl) ?_
      refine v_ifne_b (tgt := 33) dX9_could_28 (by decide) (fun h28 => ?_) (fun h28 => ?_)
      · exact absurd ⟨h4, h16, h28⟩ hd
      · refine v_icm1 dX9_could_31 ?_
        exact v_retI dX9_could_32 trivial ⟨rfl, rfl⟩
