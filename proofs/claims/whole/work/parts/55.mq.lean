def agT (I J : Nat → Nat → Int32) : Prop := ∀ x j, x ≠ 74 → x ≠ 75 → x ≠ 76 → x ≠ 77 → J x j = I x j
theorem agT.f {I J : Nat → Nat → Int32} (h : agT I J) {x : Nat} (h1 : x ≠ 74) (h2 : x ≠ 75) (h3 : x ≠ 76) (h4 : x ≠ 77) : J x = I x := funext fun j => h x j h1 h2 h3 h4
theorem agT.sm {I J : Nat → Nat → Int32} (h : agT I J) (c : Nat) : smM J c ↔ smM I c := smM_c (h.f (by decide) (by decide) (by decide) (by decide)) (h 39 20 (by decide) (by decide) (by decide) (by decide)) c
abbrev hidL (I : Nat → Nat → Int32) (n : Nat) (l : List Nat) (c : Nat) : Prop := smM I c ∨ ∃ k, k < n ∧ lr l k = c
abbrev gdL (I : Nat → Nat → Int32) (n : Nat) (l : List Nat) : Prop := aoP I (lr l) n ∧ tsafe (smM I) (hidL I n l) (fun c => ¬ I 71 c = 0)
noncomputable def fstP (P : List Nat → Prop) [∀ l, Decidable (P l)] : List (List Nat) → Option (List Nat)
  | [] => none
  | l :: t => if P l then some l else fstP P t
theorem stS_c {hid hid' pos pos' : Nat → Prop} {but : Nat} (h1 : ∀ c, c < 24 → (hid c ↔ hid' c)) (h2 : ∀ c, c < 24 → (pos c ↔ pos' c)) : stS hid pos but = stS hid' pos' but := by
  funext a b
  apply propext
  unfold stS
  constructor
  · intro ⟨h3, h4, h5, h6⟩
    have hc : clN a b < 24 := by unfold clN; split <;> omega
    exact ⟨h3, h4, (h1 _ hc).mp h5, h6.imp id (h2 _ hc).mp⟩
  · intro ⟨h3, h4, h5, h6⟩
    have hc : clN a b < 24 := by unfold clN; split <;> omega
    exact ⟨h3, h4, (h1 _ hc).mpr h5, h6.imp id (h2 _ hc).mpr⟩
theorem tsafe_c {sm sm' hid hid' pos pos' : Nat → Prop} (h0 : ∀ c, c < 24 → (sm c ↔ sm' c)) (h1 : ∀ c, c < 24 → (hid c ↔ hid' c)) (h2 : ∀ c, c < 24 → (pos c ↔ pos' c)) : tsafe sm hid pos ↔ tsafe sm' hid' pos' := by
  refine cP_iff.trans (Iff.trans ?_ cP_iff.symm)
  unfold tsafe0
  simp only [fun but => stS_c (but := but) h1 h2]
  exact ⟨fun h c hc hs => h c hc ((h0 c hc).mpr hs), fun h c hc hs => h c hc ((h0 c hc).mp hs)⟩
theorem Ot_nx {n : Nat} {J : Nat → Nat → Int32} {l l' : List Nat} (h : Ot n J (lr l)) (h6 : ∀ i, i < n → lr l' i < 24) (hx : nxO n l = some l') : Ot n (noJ J (lr l) n (noK (lr l) n n)) (lr l') := by
  unfold nxO at hx
  by_cases h0 : noK (lr l) n n = 0
  · rw [if_pos h0] at hx; cases hx
  · rw [if_neg h0] at hx
    have hx := Option.some.inj hx
    have hle := noK_le (lr l) n n
    intro i hi
    refine ⟨?_, h6 i hi⟩
    have e : lr l' i = if i < noK (lr l) n n - 1 then lr l i else lr l (noK (lr l) n n - 1) + 1 + (i - (noK (lr l) n n - 1)) := by rw [← hx]; exact lr_map hi
    rw [e, noJ, if_neg h0]
    by_cases h1 : i < noK (lr l) n n - 1
    · rw [if_pos h1, gr2_b _ _ (by omega), u2_k _ _ _ _ (by omega)]
      exact (h i hi).1
    · rw [if_neg h1]
      by_cases h2 : i = noK (lr l) n n - 1
      · rw [gr2_b _ _ (by omega), h2, u2_s, Nat.sub_self, Nat.add_zero]
      · unfold gr2
        rw [if_pos ⟨rfl, by omega, by omega⟩]
        exact congrArg nI (by omega)
theorem noJ_o {J : Nat → Nat → Int32} {o : Nat → Nat} {n K x : Nat} (j : Nat) (h : x ≠ 77) : noJ J o n K x j = J x j := by
  unfold noJ
  split
  · rfl
  · rw [gr2_o _ _ _ h, u2_a _ _ _ _ h]
def foP (dc : Nat) (I : Nat → Nat → Int32) (L : Nat → Nat → Int64) (n : Nat) (s : Option (List Nat)) : Option Value → Mem → Prop := fun r μ => ∃ J, μ = Mm dc J L ∧ agT I J ∧ match s with
  | some l => r = some (.int (nI 1)) ∧ ∀ c, c < 24 → J 74 c = bI (hidL I n l c)
  | none => r = some (.int (nI 0))
theorem smR_o {I : Nat → Nat → Int32} {i x : Nat} (j : Nat) (h : x ≠ 74) : smR I i x j = I x j := rf2_o _ _ _ _ h
theorem smR_i {I : Nat → Nat → Int32} {i j : Nat} (h : j < i) : smR I i 74 j = bI (smM I j) := rf2_i _ _ h
/-- what is hidden with a set of others -/
theorem hd_74 {I J : Nat → Nat → Int32} {n : Nat} {l : List Nat} (h : agT I J) {c : Nat} (hc : c < 24) : hdM (smR J 24) (lr l) n 74 c = bI (hidL I n l c) := by
  rw [hdM_74]
  by_cases h1 : ∃ k, k < n ∧ lr l k = c
  · rw [if_pos h1, bI_t (Or.inr h1)]
  · rw [if_neg h1, smR_i hc]
    exact bI_iff' ⟨fun z => Or.inl ((h.sm c).mp z), fun z => z.elim (h.sm c).mpr (fun z => absurd z h1)⟩
theorem bI_n0 {P : Prop} [Decidable P] : (¬ bI P = 0) ↔ P := by
  by_cases h : P
  · rw [bI_t h]; exact ⟨fun _ => h, fun _ => by decide⟩
  · rw [bI_f h]; exact ⟨fun z => absurd rfl z, fun z => absurd z h⟩

set_option maxRecDepth 4000 in
theorem lp_foM {G : GG} {dc : Nat} {I : Nat → Nat → Int32} {L : Nat → Nat → Int64} {n : Nat} (hn : n ≤ 4) : ∀ (t : List (List Nat)) (l : List Nat) (J : Nat → Nat → Int32), chkO n (l :: t) = true → (∀ q ∈ t, ∀ i, i < n → lr q i < 24) → agT I J → Ot n J (lr l) → V G yX9_findOthers cX9_findOthers 3 (some .boolean) 3 0 0 22 [.ref 39, .int (nI n), .int (nI 1)] [] (Mm dc J L) (foP dc I L n (fstP (gdL I n) (l :: t))) := by
  intro t
  induction t with
  | nil =>
    intro l J hch hall hJ ho
    have hN : ∀ K, agT I K → Ot n K (lr l) → ¬ gdL I n l → V G yX9_findOthers cX9_findOthers 3 (some .boolean) 3 0 0 48 [.ref 39, .int (nI n), .int (nI 1)] [] (Mm dc K L) (foP dc I L n (fstP (gdL I n) (l :: []))) := by
      intro K hK hKo hng
      have h0 : noK (lr l) n n = 0 := by
        simp only [chkO, nxO, Bool.and_true] at hch
        by_cases z : noK (lr l) n n = 0
        · exact z
        · rw [if_neg z] at hch; cases hch
      rw [show fstP (gdL I n) [l] = none from if_neg hng]
      refine v_ald0 dX9_findOthers_48 ?_
      refine v_ild1 dX9_findOthers_49 ?_
      refine v_V1 (c_X9_nextOthers rfl hn hKo) lk_X9_283 dX9_findOthers_50 (by decide) (Nat.le_of_ble_eq_true rfl) (by first | rfl | exact lay_door (by omega) | exact lay_dt (by omega) | exact lay_da (by omega) | exact lay_sh (by omega) | exact lay_se (by omega)) (show _ < 78 + 3 * _ by omega) ?_
      rw [h0, show noJ K (lr l) n 0 = K from if_pos rfl]
      refine v_e0 (congrArg Value.int (if_pos rfl)) ?_
      refine v_ist2 dX9_findOthers_53 rfl ?_
      refine v_goto (tgt := 22) dX9_findOthers_54 (by decide) ?_
      refine v_ild2 dX9_findOthers_22 ?_
      refine v_if_eq (tgt := 57) dX9_findOthers_23 (by decide) (fun h23 => ?_) (fun h23 => absurd (show nI 0 = 0 from rfl) h23)
      refine v_icN (n := 0) dX9_findOthers_57 (by decide) ?_
      exact v_retI dX9_findOthers_58 (by first | exact Or.inl rfl | exact Or.inr rfl | exact bI_01) ⟨K, rfl, hK, rfl⟩
    refine v_ild2 dX9_findOthers_22 ?_
    refine v_if_eq (tgt := 57) dX9_findOthers_23 (by decide) (fun h23 => absurd h23 (by decide)) (fun h23 => ?_)
    refine v_ald0 dX9_findOthers_26 ?_
    refine v_ild1 dX9_findOthers_27 ?_
    refine v_V1 (c_X9_areOthers rfl hn ho) lk_X9_273 dX9_findOthers_28 (by decide) (Nat.le_of_ble_eq_true rfl) (by first | rfl | exact lay_door (by omega) | exact lay_dt (by omega) | exact lay_da (by omega) | exact lay_sh (by omega) | exact lay_se (by omega)) (show _ < 78 + 3 * _ by omega) ?_
    refine v_ifeq_b (tgt := 48) dX9_findOthers_31 (by decide) (fun h31 => ?_) (fun h31 => ?_)
    · exact hN J hJ ho (fun z => h31 (fun k hk w => z.1 k hk ((hJ.sm _).mp w)))
    · refine v_ald0 dX9_findOthers_34 ?_
      refine v_ild1 dX9_findOthers_35 ?_
      refine v_V1n (c_X9_hides rfl hn ho) lk_X9_276 dX9_findOthers_36 (by decide) (Nat.le_of_ble_eq_true rfl) (by first | rfl | exact lay_door (by omega) | exact lay_dt (by omega) | exact lay_da (by omega) | exact lay_sh (by omega) | exact lay_se (by omega)) (show _ < 78 + 3 * _ by omega) ?_
      refine v_ald0 dX9_findOthers_39 ?_
      refine v_V0p c_X9_isSafe lk_X9_280 dX9_findOthers_40 (by decide) (Nat.le_of_ble_eq_true rfl) rfl (show _ < 78 + 3 * _ by omega) (fun r μ₁ h => ?_)
      obtain ⟨K, rfl, rfl, hKF⟩ := h
      have hK : agT I K := fun x j h1 h2 h3 h4 => (hKF x j h2 h3).trans ((hdM_o j h1 n).trans ((rf2_o _ _ _ _ h1).trans (hJ x j h1 h2 h3 h4)))
      have hKo : Ot n K (lr l) := fun k hk => by rw [hKF 77 k (by decide) (by decide), hdM_o k (by decide) n, smR_o _ (by decide)]; exact ho k hk
      have hK74 : ∀ c, c < 24 → K 74 c = bI (hidL I n l c) := fun c hc => (hKF 74 c (by decide) (by decide)).trans (hd_74 hJ hc)
      have hao : aoP I (lr l) n := fun k hk z => h31 k hk ((hJ.sm _).mpr z)
      have hsf : tsafe (smM (hdM (smR J 24) (lr l) n)) (fun c => ¬ (hdM (smR J 24) (lr l) n) 74 c = 0) (fun c => ¬ (hdM (smR J 24) (lr l) n) 71 c = 0) ↔ tsafe (smM I) (hidL I n l) (fun c => ¬ I 71 c = 0) := tsafe_c (fun c hc => smM_c (funext fun j => (hdM_o j (by decide) n).trans ((rf2_o _ _ _ _ (by decide)).trans (hJ 71 j (by decide) (by decide) (by decide) (by decide)))) ((hdM_o 20 (by decide) n).trans ((rf2_o _ _ _ _ (by decide)).trans (hJ 39 20 (by decide) (by decide) (by decide) (by decide)))) c) (fun c hc => by rw [hd_74 hJ hc]; exact bI_n0) (fun c hc => by rw [hdM_o c (by decide) n, smR_o _ (by decide), hJ 71 c (by decide) (by decide) (by decide) (by decide)])
      refine v_ifeq_b (tgt := 48) dX9_findOthers_43 (by decide) (fun h43 => ?_) (fun h43 => ?_)
      · exact hN K hK hKo (fun z => h43 (hsf.mpr z.2))
      · refine v_icN (n := 1) dX9_findOthers_46 (by decide) ?_
        exact v_retI dX9_findOthers_47 (by first | exact Or.inl rfl | exact Or.inr rfl | exact bI_01) (by rw [show fstP (gdL I n) (l :: []) = some l from if_pos ⟨hao, hsf.mp h43⟩]; exact ⟨K, rfl, hK, rfl, hK74⟩)
  | cons l1 t ih =>
    intro l J hch hall hJ ho
    have hN : ∀ K, agT I K → Ot n K (lr l) → ¬ gdL I n l → V G yX9_findOthers cX9_findOthers 3 (some .boolean) 3 0 0 48 [.ref 39, .int (nI n), .int (nI 1)] [] (Mm dc K L) (foP dc I L n (fstP (gdL I n) (l :: l1 :: t))) := by
      intro K hK hKo hng
      have hx : nxO n l = some l1 := by
        simp only [chkO, Bool.and_eq_true, beq_iff_eq] at hch
        exact hch.1
      have h0 : ¬ noK (lr l) n n = 0 := fun z => by
        unfold nxO at hx
        rw [if_pos z] at hx
        cases hx
      have hc2 : chkO n (l1 :: t) = true := by
        rw [chkO, Bool.and_eq_true] at hch
        exact hch.2
      rw [show fstP (gdL I n) (l :: l1 :: t) = fstP (gdL I n) (l1 :: t) from if_neg hng]
      refine v_ald0 dX9_findOthers_48 ?_
      refine v_ild1 dX9_findOthers_49 ?_
      refine v_V1 (c_X9_nextOthers rfl hn hKo) lk_X9_283 dX9_findOthers_50 (by decide) (Nat.le_of_ble_eq_true rfl) (by first | rfl | exact lay_door (by omega) | exact lay_dt (by omega) | exact lay_da (by omega) | exact lay_sh (by omega) | exact lay_se (by omega)) (show _ < 78 + 3 * _ by omega) ?_
      refine v_e0 (congrArg Value.int (if_neg h0)) ?_
      refine v_ist2 dX9_findOthers_53 rfl ?_
      refine v_goto (tgt := 22) dX9_findOthers_54 (by decide) ?_
      exact ih l1 _ hc2 (fun q hq => hall q (List.mem_cons_of_mem _ hq)) (fun x j h1 h2 h3 h4 => (noJ_o j h4).trans (hK x j h1 h2 h3 h4)) (Ot_nx hKo (hall l1 List.mem_cons_self) hx)
    refine v_ild2 dX9_findOthers_22 ?_
    refine v_if_eq (tgt := 57) dX9_findOthers_23 (by decide) (fun h23 => absurd h23 (by decide)) (fun h23 => ?_)
    refine v_ald0 dX9_findOthers_26 ?_
    refine v_ild1 dX9_findOthers_27 ?_
    refine v_V1 (c_X9_areOthers rfl hn ho) lk_X9_273 dX9_findOthers_28 (by decide) (Nat.le_of_ble_eq_true rfl) (by first | rfl | exact lay_door (by omega) | exact lay_dt (by omega) | exact lay_da (by omega) | exact lay_sh (by omega) | exact lay_se (by omega)) (show _ < 78 + 3 * _ by omega) ?_
    refine v_ifeq_b (tgt := 48) dX9_findOthers_31 (by decide) (fun h31 => ?_) (fun h31 => ?_)
    · exact hN J hJ ho (fun z => h31 (fun k hk w => z.1 k hk ((hJ.sm _).mp w)))
    · refine v_ald0 dX9_findOthers_34 ?_
      refine v_ild1 dX9_findOthers_35 ?_
      refine v_V1n (c_X9_hides rfl hn ho) lk_X9_276 dX9_findOthers_36 (by decide) (Nat.le_of_ble_eq_true rfl) (by first | rfl | exact lay_door (by omega) | exact lay_dt (by omega) | exact lay_da (by omega) | exact lay_sh (by omega) | exact lay_se (by omega)) (show _ < 78 + 3 * _ by omega) ?_
      refine v_ald0 dX9_findOthers_39 ?_
      refine v_V0p c_X9_isSafe lk_X9_280 dX9_findOthers_40 (by decide) (Nat.le_of_ble_eq_true rfl) rfl (show _ < 78 + 3 * _ by omega) (fun r μ₁ h => ?_)
      obtain ⟨K, rfl, rfl, hKF⟩ := h
      have hK : agT I K := fun x j h1 h2 h3 h4 => (hKF x j h2 h3).trans ((hdM_o j h1 n).trans ((rf2_o _ _ _ _ h1).trans (hJ x j h1 h2 h3 h4)))
      have hKo : Ot n K (lr l) := fun k hk => by rw [hKF 77 k (by decide) (by decide), hdM_o k (by decide) n, smR_o _ (by decide)]; exact ho k hk
      have hK74 : ∀ c, c < 24 → K 74 c = bI (hidL I n l c) := fun c hc => (hKF 74 c (by decide) (by decide)).trans (hd_74 hJ hc)
      have hao : aoP I (lr l) n := fun k hk z => h31 k hk ((hJ.sm _).mpr z)
      have hsf : tsafe (smM (hdM (smR J 24) (lr l) n)) (fun c => ¬ (hdM (smR J 24) (lr l) n) 74 c = 0) (fun c => ¬ (hdM (smR J 24) (lr l) n) 71 c = 0) ↔ tsafe (smM I) (hidL I n l) (fun c => ¬ I 71 c = 0) := tsafe_c (fun c hc => smM_c (funext fun j => (hdM_o j (by decide) n).trans ((rf2_o _ _ _ _ (by decide)).trans (hJ 71 j (by decide) (by decide) (by decide) (by decide)))) ((hdM_o 20 (by decide) n).trans ((rf2_o _ _ _ _ (by decide)).trans (hJ 39 20 (by decide) (by decide) (by decide) (by decide)))) c) (fun c hc => by rw [hd_74 hJ hc]; exact bI_n0) (fun c hc => by rw [hdM_o c (by decide) n, smR_o _ (by decide), hJ 71 c (by decide) (by decide) (by decide) (by decide)])
      refine v_ifeq_b (tgt := 48) dX9_findOthers_43 (by decide) (fun h43 => ?_) (fun h43 => ?_)
      · exact hN K hK hKo (fun z => h43 (hsf.mpr z.2))
      · refine v_icN (n := 1) dX9_findOthers_46 (by decide) ?_
        exact v_retI dX9_findOthers_47 (by first | exact Or.inl rfl | exact Or.inr rfl | exact bI_01) (by rw [show fstP (gdL I n) (l :: l1 :: t) = some l from if_pos ⟨hao, hsf.mp h43⟩]; exact ⟨K, rfl, hK, rfl, hK74⟩)

set_option maxRecDepth 4000 in
theorem lp_fo0 {G : GG} {dc : Nat} {I : Nat → Nat → Int32} {L : Nat → Nat → Int64} {n : Nat} (hn : n ≤ 4) (k : Nat) : ∀ i, i + k = n → V G yX9_findOthers cX9_findOthers 3 (some .boolean) 3 0 0 2 [.ref 39, .int (nI n), .int (nI i)] [] (Mm dc (rf2 I 77 i nI) L) (foP dc I L n (fstP (gdL I n) (cmb n 0 24))) := by
  induction k with
  | zero =>
    intro i hi
    refine v_ild2 dX9_findOthers_2 ?_
    refine v_ild1 dX9_findOthers_3 ?_
    refine v_icmp_ge (tgt := 20) dX9_findOthers_4 (by decide) (fun h4 => ?_) (fun h4 => absurd (nI_le (by omega) (by omega)) h4)
    refine v_icN (n := 1) dX9_findOthers_20 (by decide) ?_
    refine v_ist2 dX9_findOthers_21 rfl ?_
    rw [show i = n by omega]
    obtain ⟨hc1, hc2, hc3⟩ := cmb_chk n (by omega)
    cases hl : cmb n 0 24 with
    | nil => rw [hl] at hc3; cases hc3
    | cons l t =>
      rw [hl] at hc1 hc2 hc3
      have e3 : l = List.range n := Option.some.inj hc3
      have hln : ∀ q ∈ l :: t, ∀ i, i < n → lr q i < 24 := fun q hq i hi => by
        have h1 := List.all_eq_true.mp hc2 q hq
        rw [Bool.and_eq_true] at h1
        have h2 : q.length = n := beq_iff_eq.mp h1.1
        have h3 : i < q.length := by omega
        show q.getD i 0 < 24
        rw [List.getD_eq_getElem?_getD, List.getElem?_eq_getElem h3]
        exact of_decide_eq_true (List.all_eq_true.mp h1.2 _ (List.getElem_mem h3))
      refine lp_foM hn t l _ hc1 (fun q hq => hln q (List.mem_cons_of_mem _ hq)) (fun x j h1 h2 h3 h4 => rf2_o _ _ _ _ h4) (fun k hk => ⟨?_, hln l List.mem_cons_self k hk⟩)
      rw [rf2_i _ _ hk, e3]
      show nI k = nI ((List.range n).getD k 0)
      rw [List.getD_eq_getElem?_getD, List.getElem?_range hk]
      rfl
  | succ k ih =>
    intro i hi
    refine v_ild2 dX9_findOthers_2 ?_
    refine v_ild1 dX9_findOthers_3 ?_
    refine v_icmp_ge (tgt := 20) dX9_findOthers_4 (by decide) (fun h4 => absurd h4 (nI_ge (by omega) (by omega))) (fun h4 => ?_)
    refine v_ald0 dX9_findOthers_7 ?_
    refine v_getP (q := 77) dX9_findOthers_8 fl_X9_136 (by first | rfl | exact lay_door (by omega) | exact lay_dt (by omega) | exact lay_da (by omega) | exact lay_sh (by omega) | exact lay_se (by omega)) rfl (by omega) rfl ?_
    refine v_ild2 dX9_findOthers_11 ?_
    refine v_ild2 dX9_findOthers_12 ?_
    refine v_iast dX9_findOthers_13 (by first | rfl | exact lay_door (by omega) | exact lay_dt (by omega) | exact lay_da (by omega) | exact lay_sh (by omega) | exact lay_se (by omega)) (by omega) ⟨rfl, by omega, by decide⟩ ?_
    refine v_inc2 dX9_findOthers_14 rfl ?_
    refine v_goto (tgt := 2) dX9_findOthers_17 (by decide) ?_
    rw [rf2_s _ _ _ _ rfl, nI_1 i]
    exact ih (i + 1) (by omega)

set_option maxRecDepth 4000 in
theorem c_X9_findOthers {G : GG} {dc : Nat} {I : Nat → Nat → Int32} {L : Nat → Nat → Int64} {x : Int32} {n : Nat} (e1 : x = nI n) (hn : n ≤ 4) : Cn G yX9_findOthers cX9_findOthers 3 (some .boolean) 3 0 0 [.ref 39, .int x] (Mm dc I L) (foP dc I L n (fstP (gdL I n) (cmb n 0 24))) := by
  subst e1
  refine Cn.of' (by decide) (Nat.le_of_ble_eq_true rfl) rfl ?_
  refine v_icN (n := 0) dX9_findOthers_0 (by decide) ?_
  refine v_ist2 dX9_findOthers_1 rfl ?_
  have h9 := lp_fo0 (G := G) (dc := dc) (I := I) (L := L) hn n 0 (by omega)
  rw [rf2_0] at h9
  exact h9

/-- the model's cells -/
def trF (dc : Nat) (I : Nat → Nat → Int32) (c : Nat) : Int32 := sC (mCo I (nI (c / 4)) (nI 1)) (mBd I (nI (c % 4))) dc
abbrev trI (dc : Nat) (I : Nat → Nat → Int32) (i : Nat) : Nat → Nat → Int32 := rf2 I 71 i (trF dc I)
theorem trI_o {dc : Nat} {I : Nat → Nat → Int32} {i x : Nat} (j : Nat) (h : x ≠ 71) : trI dc I i x j = I x j := rf2_o _ _ _ _ h
theorem trI_i {dc : Nat} {I : Nat → Nat → Int32} {i j : Nat} (h : j < i) : trI dc I i 71 j = trF dc I j := rf2_i _ _ h
theorem tr_c {dc : Nat} {I J : Nat → Nat → Int32} (h40 : J 40 = I 40) (h45 : J 45 = I 45) (h46 : J 46 = I 46) (h47 : J 47 = I 47) (h53 : J 53 = I 53) (c : Nat) : sC (mCo J (nI (c / 4)) (nI 1)) (mBd J (nI (c % 4))) dc = trF dc I c := by
  unfold trF mCo mBd pMB mny
  rw [h40, h45, h46, h47, h53]
theorem rf2_u {α : Type} (f : Nat → Nat → α) {a a' m k : Nat} (g : Nat → α) (v : α) (h : a ≠ a') : u2 (rf2 f a m g) a' k v = rf2 (u2 f a' k v) a m g := by
  funext x j
  unfold u2 rf2
  by_cases h1 : x = a'
  · subst h1
    have h2 : ¬ (x = a ∧ j < m) := fun q => h q.1.symm
    simp only [if_neg h2]
  · have h2 : ∀ z, ¬ (x = a' ∧ z = k) := fun z q => h1 q.1
    simp only [if_neg (h2 _)]
def tbP (dc : Nat) (I : Nat → Nat → Int32) (L : Nat → Nat → Int64) (v q w : Int32) (f g : Nat → Int32) : Option Value → Mem → Prop := fun r μ => ∃ K, r = some (.int v) ∧ μ = Mm dc K L ∧ K 59 6 = q ∧ K 39 42 = w ∧ (∀ c, c < 24 → K 70 c = f c ∧ K 73 c = g c) ∧ ∀ x j, x ≠ 70 → x ≠ 71 → x ≠ 73 → x ≠ 74 → x ≠ 75 → x ≠ 76 → x ≠ 77 → ¬ (x = 59 ∧ j = 6) → ¬ (x = 39 ∧ j = 42) → K x j = I x j

set_option maxRecDepth 4000 in
theorem c_tabN {G : GG} {dc : Nat} {I : Nat → Nat → Int32} {L : Nat → Nat → Int64} (hx : I 39 22 = 0) : Cn G yX9_table cX9_table 4 (some .int) 4 0 0 [.ref 39] (Mm dc I L) (Is (some (.int (-6))) (Mm dc (rms I 6) L)) := by
  refine Cn.of' (by decide) (Nat.le_of_ble_eq_true rfl) rfl ?_
  refine v_ald0 dX9_table_0 ?_
  refine v_getI dX9_table_1 fl_X9_158 (by first | rfl | exact lay_door (by omega) | exact lay_dt (by omega) | exact lay_da (by omega) | exact lay_sh (by omega) | exact lay_se (by omega)) rfl (by omega) ?_
  refine v_if_ne (tgt := 14) dX9_table_4 (by decide) (fun h4 => absurd hx h4) (fun h4 => ?_)
  refine v_ald0 dX9_table_7 ?_
  refine v_bipush (v := -6) dX9_table_8 (by decide) ?_
  refine v_V1 (c_X9_no (k := 6) (by decide) (by decide) (by decide)) lk_X9_146 dX9_table_10 (by decide) (Nat.le_of_ble_eq_true rfl) (by first | rfl | exact lay_door (by omega) | exact lay_dt (by omega) | exact lay_da (by omega) | exact lay_sh (by omega) | exact lay_se (by omega)) (show _ < 78 + 3 * _ by omega) ?_
  exact v_retI dX9_table_13 trivial ⟨rfl, rfl⟩

set_option maxRecDepth 4000 in
theorem lp_tbC {G : GG} {dc : Nat} {J : Nat → Nat → Int32} {L : Nat → Nat → Int64} {n : Nat} {Q : Option Value → Mem → Prop} (h01 : ∀ c, c < 24 → J 74 c = 0 ∨ J 74 c = 1) (hk9 : V G yX9_table cX9_table 4 (some .int) 4 0 0 135 [.ref 39, .int (nI n), .int (nI (ct (fun c => decide (¬ J 74 c = 0)) 24)), .int (nI 24)] [] (Mm dc (rf2 (rf2 J 70 (24) (J 71)) 73 (24) (J 74)) L) Q) (k : Nat) : ∀ i, i + k = 24 → V G yX9_table cX9_table 4 (some .int) 4 0 0 82 [.ref 39, .int (nI n), .int (nI (ct (fun c => decide (¬ J 74 c = 0)) i)), .int (nI i)] [] (Mm dc (rf2 (rf2 J 70 (i) (J 71)) 73 (i) (J 74)) L) Q := by
  induction k with
  | zero =>
    intro i hi
    refine v_ild3 dX9_table_82 ?_
    refine v_bipush (v := nI 24) dX9_table_83 (by decide) ?_
    refine v_icmp_ge (tgt := 135) dX9_table_85 (by decide) (fun h85 => ?_) (fun h85 => absurd (nI_le (by omega) (by omega)) h85)
    rw [show i = 24 by omega]
    exact hk9
  | succ k ih =>
    intro i hi
    refine v_ild3 dX9_table_82 ?_
    refine v_bipush (v := nI 24) dX9_table_83 (by decide) ?_
    refine v_icmp_ge (tgt := 135) dX9_table_85 (by decide) (fun h85 => absurd h85 (nI_ge (by omega) (by omega))) (fun h85 => ?_)
    refine v_ald0 dX9_table_88 ?_
    refine v_getP (q := 70) dX9_table_89 fl_X9_115 (by first | rfl | exact lay_door (by omega) | exact lay_dt (by omega) | exact lay_da (by omega) | exact lay_sh (by omega) | exact lay_se (by omega)) rfl (by omega) rfl ?_
    refine v_ild3 dX9_table_92 ?_
    refine v_ald0 dX9_table_93 ?_
    refine v_getP (q := 71) dX9_table_94 fl_X9_118 (by first | rfl | exact lay_door (by omega) | exact lay_dt (by omega) | exact lay_da (by omega) | exact lay_sh (by omega) | exact lay_se (by omega)) rfl (by omega) rfl ?_
    refine v_ild3 dX9_table_97 ?_
    refine v_iald dX9_table_98 (by first | rfl | exact lay_door (by omega) | exact lay_dt (by omega) | exact lay_da (by omega) | exact lay_sh (by omega) | exact lay_se (by omega)) (by omega) ⟨rfl, by omega, by decide⟩ ?_
    refine v_iast dX9_table_99 (by first | rfl | exact lay_door (by omega) | exact lay_dt (by omega) | exact lay_da (by omega) | exact lay_sh (by omega) | exact lay_se (by omega)) (by omega) ⟨rfl, by omega, by decide⟩ ?_
    refine v_ald0 dX9_table_100 ?_
    refine v_getP (q := 73) dX9_table_101 fl_X9_124 (by first | rfl | exact lay_door (by omega) | exact lay_dt (by omega) | exact lay_da (by omega) | exact lay_sh (by omega) | exact lay_se (by omega)) rfl (by omega) rfl ?_
    refine v_ild3 dX9_table_104 ?_
    refine v_ald0 dX9_table_105 ?_
    refine v_getP (q := 74) dX9_table_106 fl_X9_127 (by first | rfl | exact lay_door (by omega) | exact lay_dt (by omega) | exact lay_da (by omega) | exact lay_sh (by omega) | exact lay_se (by omega)) rfl (by omega) rfl ?_
    refine v_ild3 dX9_table_109 ?_
    refine v_zald dX9_table_110 (by first | rfl | exact lay_door (by omega) | exact lay_dt (by omega) | exact lay_da (by omega) | exact lay_sh (by omega) | exact lay_se (by omega)) (by omega) ⟨rfl, by omega, by decide⟩ ?_
    refine v_zast dX9_table_111 (by first | rfl | exact lay_door (by omega) | exact lay_dt (by omega) | exact lay_da (by omega) | exact lay_sh (by omega) | exact lay_se (by omega)) (by omega) ⟨rfl, by omega, by decide⟩ (h01 i (by omega)) ?_
    refine v_ild2 dX9_table_112 ?_
    refine v_ald0 dX9_table_113 ?_
    refine v_getP (q := 74) dX9_table_114 fl_X9_127 (by first | rfl | exact lay_door (by omega) | exact lay_dt (by omega) | exact lay_da (by omega) | exact lay_sh (by omega) | exact lay_se (by omega)) rfl (by omega) rfl ?_
    refine v_ild3 dX9_table_117 ?_
    refine v_zald dX9_table_118 (by first | rfl | exact lay_door (by omega) | exact lay_dt (by omega) | exact lay_da (by omega) | exact lay_sh (by omega) | exact lay_se (by omega)) (by omega) ⟨rfl, by omega, by decide⟩ ?_
    have e74 : u2 (u2 (rf2 (rf2 J 70 (i) (J 71)) 73 (i) (J 74)) 70 i ((rf2 (rf2 J 70 (i) (J 71)) 73 (i) (J 74)) 71 i)) 73 i ((u2 (rf2 (rf2 J 70 (i) (J 71)) 73 (i) (J 74)) 70 i ((rf2 (rf2 J 70 (i) (J 71)) 73 (i) (J 74)) 71 i)) 74 i) 74 i = J 74 i := (u2_a _ _ _ _ (by decide)).trans ((u2_a _ _ _ _ (by decide)).trans ((rf2_o _ _ _ _ (by decide)).trans (rf2_o _ _ _ _ (by decide))))
    refine v_if_eq (tgt := 126) dX9_table_119 (by decide) (fun h119 => ?_) (fun h119 => ?_)
    · refine v_icN (n := 0) dX9_table_126 (by decide) ?_
      refine v_iadd dX9_table_127 ?_
      refine v_ist2 dX9_table_128 rfl ?_
      refine v_inc3 dX9_table_129 rfl ?_
      refine v_goto (tgt := 82) dX9_table_132 (by decide) ?_
      have e7 : u2 (u2 (rf2 (rf2 J 70 (i) (J 71)) 73 (i) (J 74)) 70 i ((rf2 (rf2 J 70 (i) (J 71)) 73 (i) (J 74)) 71 i)) 73 i ((u2 (rf2 (rf2 J 70 (i) (J 71)) 73 (i) (J 74)) 70 i ((rf2 (rf2 J 70 (i) (J 71)) 73 (i) (J 74)) 71 i)) 74 i) = (rf2 (rf2 J 70 (i + 1) (J 71)) 73 (i + 1) (J 74)) := by
        rw [rf2_u _ _ _ (by decide), rf2_s _ _ _ _ (show _ = J 71 i from (rf2_o _ _ _ _ (by decide)).trans (rf2_o _ _ _ _ (by decide))), rf2_s _ _ _ _ (show _ = J 74 i from (rf2_o _ _ _ _ (by decide)).trans (rf2_o _ _ _ _ (by decide)))]
      rw [e7, nct_f' (p := (fun c => decide (¬ J 74 c = 0))) (decide_eq_false (fun z => z (e74.symm.trans h119))), nI_1 i]
      exact ih (i + 1) (by omega)
    · refine v_icN (n := 1) dX9_table_122 (by decide) ?_
      refine v_goto (tgt := 127) dX9_table_123 (by decide) ?_
      refine v_iadd dX9_table_127 ?_
      refine v_ist2 dX9_table_128 rfl ?_
      refine v_inc3 dX9_table_129 rfl ?_
      refine v_goto (tgt := 82) dX9_table_132 (by decide) ?_
      have e7 : u2 (u2 (rf2 (rf2 J 70 (i) (J 71)) 73 (i) (J 74)) 70 i ((rf2 (rf2 J 70 (i) (J 71)) 73 (i) (J 74)) 71 i)) 73 i ((u2 (rf2 (rf2 J 70 (i) (J 71)) 73 (i) (J 74)) 70 i ((rf2 (rf2 J 70 (i) (J 71)) 73 (i) (J 74)) 71 i)) 74 i) = (rf2 (rf2 J 70 (i + 1) (J 71)) 73 (i + 1) (J 74)) := by
        rw [rf2_u _ _ _ (by decide), rf2_s _ _ _ _ (show _ = J 71 i from (rf2_o _ _ _ _ (by decide)).trans (rf2_o _ _ _ _ (by decide))), rf2_s _ _ _ _ (show _ = J 74 i from (rf2_o _ _ _ _ (by decide)).trans (rf2_o _ _ _ _ (by decide)))]
      rw [e7, nct_t' (p := (fun c => decide (¬ J 74 c = 0))) (decide_eq_true (fun z => h119 (e74.trans z))), nI_1 i]
      exact ih (i + 1) (by omega)
