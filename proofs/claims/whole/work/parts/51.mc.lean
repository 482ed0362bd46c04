/-- the partings of m things behind p walks, in their order -/
def rgs : Nat → Nat → List (List Nat)
  | 0, _ => [[]]
  | m + 1, p => (List.range (p + 1)).flatMap (fun w => (rgs m (max p (w + 1))).map (fun l => w :: l))
abbrev lr (l : List Nat) : Nat → Nat := fun i => l.getD i 0
def nxL (n : Nat) (l : List Nat) : Option (List Nat) := if nw (lr l) (n - 1) = 0 then none else some ((List.range n).map (fun k => if k < nw (lr l) (n - 1) then lr l k else if k = nw (lr l) (n - 1) then lr l k + 1 else 0))
def chkR (n : Nat) : List (List Nat) → Bool
  | [] => true
  | l :: t => (match t with
    | [] => (nxL n l).isNone
    | l' :: _ => nxL n l == some l') && chkR n t
theorem rgs_chk : ∀ n, n < 7 → 1 ≤ n → chkR n (rgs n 0) = true ∧ (rgs n 0).all (fun l => l.length == n && l.all (fun x => decide (x < 6))) = true ∧ (rgs n 0).head? = some (List.replicate n 0) := by decide +kernel
/-- the best parting so far: its walks, its greatest work, itself -/
abbrev CSt : Type := Option (Nat × Nat × List Nat)
def stp (ok : List Nat → Option Nat) (n : Nat) (s : CSt) (l : List Nat) : CSt := match ok l with
  | none => s
  | some g => match s with
    | none => some (wU (lr l) n, g, l)
    | some q => if wU (lr l) n < q.1 ∨ (wU (lr l) n = q.1 ∧ g < q.2.1) then some (wU (lr l) n, g, l) else s
noncomputable def okV (I : Nat → Nat → Int32) (wk wo : Nat → Nat) (n lim : Nat) (l : List Nat) : Option Nat := if gAll I (lr l) wk wo n lim (wU (lr l) n) then some (gMx (lr l) wk wo n (wU (lr l) n)) else none
def ST (n : Nat) (s : CSt) (J : Nat → Nat → Int32) (f g : Int32) : Prop := match s with
  | none => f = nI 100 ∧ g = nI 100
  | some q => f = nI q.1 ∧ g = nI q.2.1 ∧ q.1 ≤ 6 ∧ q.2.1 ≤ 144 ∧ ∀ i, i < n → J 67 i = nI (lr q.2.2 i)
def CT (I : Nat → Nat → Int32) (wk wo : Nat → Nat) (n : Nat) (J : Nat → Nat → Int32) (l : List Nat) : Prop := (agC I J) ∧ (J 39 36 = nI n) ∧ (Wb n J wk) ∧ (Wo J wo) ∧ (Wk n J (lr l)) ∧ (l.length = n ∧ ∀ i, i < n → lr l i < 6)
theorem CT.ag {I : Nat → Nat → Int32} {wk wo : Nat → Nat} {n : Nat} {J : Nat → Nat → Int32} {l : List Nat} (h : CT I wk wo n J l) : agC I J := h.1
theorem CT.nn {I : Nat → Nat → Int32} {wk wo : Nat → Nat} {n : Nat} {J : Nat → Nat → Int32} {l : List Nat} (h : CT I wk wo n J l) : J 39 36 = nI n := h.2.1
theorem CT.bl {I : Nat → Nat → Int32} {wk wo : Nat → Nat} {n : Nat} {J : Nat → Nat → Int32} {l : List Nat} (h : CT I wk wo n J l) : Wb n J wk := h.2.2.1
theorem CT.wo {I : Nat → Nat → Int32} {wk wo : Nat → Nat} {n : Nat} {J : Nat → Nat → Int32} {l : List Nat} (h : CT I wk wo n J l) : Wo J wo := h.2.2.2.1
theorem CT.st {I : Nat → Nat → Int32} {wk wo : Nat → Nat} {n : Nat} {J : Nat → Nat → Int32} {l : List Nat} (h : CT I wk wo n J l) : Wk n J (lr l) := h.2.2.2.2.1
theorem CT.len {I : Nat → Nat → Int32} {wk wo : Nat → Nat} {n : Nat} {J : Nat → Nat → Int32} {l : List Nat} (h : CT I wk wo n J l) : l.length = n ∧ ∀ i, i < n → lr l i < 6 := h.2.2.2.2.2
theorem lr_map {n k : Nat} {f : Nat → Nat} (h : k < n) : lr ((List.range n).map f) k = f k := by
  show ((List.range n).map f).getD k 0 = f k
  rw [List.getD_eq_getElem?_getD, List.getElem?_map, List.getElem?_range h]
  rfl
theorem hgP_c {I J : Nat → Nat → Int32} {wk : Nat → Nat} {n : Nat} {A : Nat → Prop} (h : ∀ j, J 54 j = I 54 j) : hgP J wk n A ↔ hgP I wk n A := by
  unfold hgP hgP0 clH nrM
  simp only [h]
theorem gAll_c {I J : Nat → Nat → Int32} {r wk wo : Nat → Nat} {n lim p : Nat} (h : ∀ j, J 54 j = I 54 j) : gAll J r wk wo n lim p ↔ gAll I r wk wo n lim p := by
  unfold gAll
  simp only [hgP_c h]
theorem CT.n54 {I : Nat → Nat → Int32} {wk wo : Nat → Nat} {n : Nat} {J : Nat → Nat → Int32} {l : List Nat} (h : CT I wk wo n J l) (j : Nat) : J 54 j = I 54 j := h.ag 54 j (by decide) (by decide) (by decide) (by decide) (by omega)
theorem CT.wu {I : Nat → Nat → Int32} {wk wo : Nat → Nat} {n : Nat} {J : Nat → Nat → Int32} {l : List Nat} (h : CT I wk wo n J l) : wU (lr l) n ≤ 6 := wU_le (fun j hj => h.len.2 j hj)
/-- another string, and what is kept of the best -/
theorem CT.to {I : Nat → Nat → Int32} {wk wo : Nat → Nat} {n : Nat} {J K : Nat → Nat → Int32} {l l' : List Nat} (h : CT I wk wo n J l) (hk : ∀ x j, x ≠ 66 → x ≠ 67 → K x j = J x j) (hw : Wk n K (lr l')) (hl : l'.length = n ∧ ∀ i, i < n → lr l' i < 6) : CT I wk wo n K l' := ⟨
       (fun x j h1 h2 h3 h4 h5 => (hk x j h2 h3).trans (h.ag x j h1 h2 h3 h4 h5))
  ,    ((hk _ _ (by decide) (by decide)).trans h.nn)
  ,    (fun i hi => by rw [hk _ _ (by decide) (by decide)]; exact h.bl i hi)
  ,    (fun i hi => by rw [hk _ _ (by decide) (by decide)]; exact h.wo i hi)
  ,    (hw)
  ,     (hl)⟩
theorem Wk_nx {n : Nat} {J : Nat → Nat → Int32} {l l' : List Nat} (h : Wk n J (lr l)) (h6 : ∀ i, i < n → lr l' i < 6) (hx : nxL n l = some l') : Wk n (nxJ J (lr l) n (nw (lr l) (n - 1))) (lr l') := by
  unfold nxL at hx
  by_cases h0 : nw (lr l) (n - 1) = 0
  · rw [if_pos h0] at hx; cases hx
  · rw [if_neg h0] at hx
    have hx := Option.some.inj hx
    intro i hi
    refine ⟨?_, by have := h6 i hi; omega⟩
    have e : lr l' i = if i < nw (lr l) (n - 1) then lr l i else if i = nw (lr l) (n - 1) then lr l i + 1 else 0 := by rw [← hx]; exact lr_map hi
    rw [e, nxJ, if_neg h0]
    have hle := nw_le (lr l) (n - 1)
    by_cases h1 : i < nw (lr l) (n - 1)
    · rw [if_pos h1, gr2_b _ _ (by omega), u2_k _ _ _ _ (by omega)]
      exact (h i hi).1
    · rw [if_neg h1]
      by_cases h2 : i = nw (lr l) (n - 1)
      · rw [if_pos h2, gr2_b _ _ (by omega), h2, u2_s]
      · rw [if_neg h2]
        show gr2 _ 66 (nw (lr l) (n - 1) + 1) (n - (nw (lr l) (n - 1) + 1)) (fun _ => nI 0) 66 i = nI 0
        unfold gr2
        rw [if_pos ⟨rfl, by omega, by omega⟩]
theorem nxJ_o {J : Nat → Nat → Int32} {r : Nat → Nat} {n i x : Nat} (j : Nat) (h : x ≠ 66) : nxJ J r n i x j = J x j := by
  unfold nxJ
  split
  · rfl
  · rw [gr2_o _ _ _ h, u2_a _ _ _ _ h]

set_option maxRecDepth 4000 in
theorem lp_cuC {G : GG} {dc : Nat} {J : Nat → Nat → Int32} {L : Nat → Nat → Int64} {n lim : Nat} {Q : Option Value → Mem → Prop} {f g y6 : Int32} {a5 : Value} (hn : n ≤ 6) (hnn : J 39 36 = nI n) (hk9 : V G yX9_cut cX9_cut 8 (some .int) 2 0 0 267 [.ref 39, .int (nI lim), .int f, .int g, .int (nI 1), a5, .int y6, .int (nI n)] [] (Mm dc (rf2 J 67 n (J 66)) L) Q) (k : Nat) : ∀ i, i + k = n → V G yX9_cut cX9_cut 8 (some .int) 2 0 0 238 [.ref 39, .int (nI lim), .int f, .int g, .int (nI 1), a5, .int y6, .int (nI i)] [] (Mm dc (rf2 J 67 i (J 66)) L) Q := by
  induction k with
  | zero =>
    intro i hi
    refine v_ild7 dX9_cut_238 ?_
    refine v_ald0 dX9_cut_240 ?_
    refine v_getI dX9_cut_241 fl_X9_224 (by first | rfl | exact lay_door (by omega) | exact lay_dt (by omega) | exact lay_da (by omega) | exact lay_sh (by omega) | exact lay_se (by omega)) rfl (by omega) ?_
    refine v_e0 (congrArg Value.int (show _ = nI n from hnn)) ?_
    refine v_icmp_ge (tgt := 267) dX9_cut_244 (by decide) (fun h244 => ?_) (fun h244 => absurd (nI_le (by omega) (by omega)) h244)
    obtain rfl : i = n := by omega
    exact hk9
  | succ k ih =>
    intro i hi
    refine v_ild7 dX9_cut_238 ?_
    refine v_ald0 dX9_cut_240 ?_
    refine v_getI dX9_cut_241 fl_X9_224 (by first | rfl | exact lay_door (by omega) | exact lay_dt (by omega) | exact lay_da (by omega) | exact lay_sh (by omega) | exact lay_se (by omega)) rfl (by omega) ?_
    refine v_e0 (congrArg Value.int (show _ = nI n from hnn)) ?_
    refine v_icmp_ge (tgt := 267) dX9_cut_244 (by decide) (fun h244 => absurd h244 (nI_ge (by omega) (by omega))) (fun h244 => ?_)
    refine v_ald0 dX9_cut_247 ?_
    refine v_getP (q := 67) dX9_cut_248 fl_X9_106 (by first | rfl | exact lay_door (by omega) | exact lay_dt (by omega) | exact lay_da (by omega) | exact lay_sh (by omega) | exact lay_se (by omega)) rfl (by omega) rfl ?_
    refine v_ild7 dX9_cut_251 ?_
    refine v_ald0 dX9_cut_253 ?_
    refine v_getP (q := 66) dX9_cut_254 fl_X9_103 (by first | rfl | exact lay_door (by omega) | exact lay_dt (by omega) | exact lay_da (by omega) | exact lay_sh (by omega) | exact lay_se (by omega)) rfl (by omega) rfl ?_
    refine v_ild7 dX9_cut_257 ?_
    refine v_iald dX9_cut_259 (by first | rfl | exact lay_door (by omega) | exact lay_dt (by omega) | exact lay_da (by omega) | exact lay_sh (by omega) | exact lay_se (by omega)) (by omega) ⟨rfl, by omega, by decide⟩ ?_
    refine v_iast dX9_cut_260 (by first | rfl | exact lay_door (by omega) | exact lay_dt (by omega) | exact lay_da (by omega) | exact lay_sh (by omega) | exact lay_se (by omega)) (by omega) ⟨rfl, by omega, by decide⟩ ?_
    refine v_inc7 dX9_cut_261 rfl ?_
    refine v_goto (tgt := 238) dX9_cut_264 (by decide) ?_
    rw [rf2_s _ _ _ _ (rf2_o _ _ _ _ (by decide)), nI_1 i]
    exact ih (i + 1) (by omega)

set_option maxRecDepth 4000 in
theorem lp_cuM {G : GG} {dc : Nat} {I : Nat → Nat → Int32} {L : Nat → Nat → Int64} {wk wo : Nat → Nat} {n lim : Nat} {Q : Option Value → Mem → Prop} (hn : n ≤ 6) (hn1 : 1 ≤ n) (hlim : lim ≤ 24) : ∀ (t : List (List Nat)) (l : List Nat) (s : CSt) (J : Nat → Nat → Int32) (f g : Int32) (u v x : Value), chkR n (l :: t) = true → (∀ q ∈ t, q.length = n ∧ ∀ i, i < n → lr q i < 6) → CT I wk wo n J l → ST n s J f g → (∀ J f g l9 (u v x : Value), CT I wk wo n J l9 → ST n ((l :: t).foldl (stp (okV I wk wo n lim) n) s) J f g → V G yX9_cut cX9_cut 8 (some .int) 2 0 0 276 [.ref 39, .int (nI lim), .int f, .int g, .int (nI 0), u, v, x] [] (Mm dc J L) Q) → V G yX9_cut cX9_cut 8 (some .int) 2 0 0 178 [.ref 39, .int (nI lim), .int f, .int g, .int (nI 1), u, v, x] [] (Mm dc J L) Q := by
  intro t
  induction t with
  | nil =>
    intro l s J f g u v x hch hall hC hS hkE
    have hp6 := hC.wu
    have hsw : ∀ w, gwS (lr l) wk wo w n ≤ 144 := fun w => Nat.le_trans (gwS_le (fun j hj => (hC.wo (wk j) (hC.bl j hj).2).2)) (by omega)
    have hgm := gMx_le hsw (wU (lr l) n)
    have hN : ∀ (K : Nat → Nat → Int32) (f1 g1 : Int32) (a5 a6 a7 : Value), CT I wk wo n K l → ST n (stp (okV I wk wo n lim) n s l) K f1 g1 → V G yX9_cut cX9_cut 8 (some .int) 2 0 0 267 [.ref 39, .int (nI lim), .int f1, .int g1, .int (nI 1), a5, a6, a7] [] (Mm dc K L) Q := by
      intro K f1 g1 a5 a6 a7 hK hK2
      have h0 : nw (lr l) (n - 1) = 0 := by
        simp only [chkR, nxL, Bool.and_true] at hch
        by_cases z : nw (lr l) (n - 1) = 0
        · exact z
        · rw [if_neg z] at hch; cases hch
      refine v_ald0 dX9_cut_267 ?_
      refine v_V0 (c_X9_nextWalks hn hK.nn hK.st hn1) lk_X9_238 dX9_cut_268 (by decide) (Nat.le_of_ble_eq_true rfl) (by first | rfl | exact lay_door (by omega) | exact lay_dt (by omega) | exact lay_da (by omega) | exact lay_sh (by omega) | exact lay_se (by omega)) (show _ < 78 + 3 * _ by omega) ?_
      rw [h0, show nxJ K (lr l) n 0 = K from if_pos rfl]
      refine v_e0 (congrArg Value.int (if_pos rfl)) ?_
      refine v_ist4 dX9_cut_271 rfl ?_
      refine v_goto (tgt := 178) dX9_cut_273 (by decide) ?_
      refine v_ild4 dX9_cut_178 ?_
      refine v_if_eq (tgt := 276) dX9_cut_180 (by decide) (fun h180 => ?_) (fun h180 => absurd (show nI 0 = 0 from rfl) h180)
      exact hkE _ _ _ _ _ _ _ hK hK2
    have hg54 := gAll_c (r := lr l) (wk := wk) (wo := wo) (n := n) (lim := lim) (p := wU (lr l) n) hC.n54
    have hbest : ∀ (K : Nat → Nat → Int32), K = rf2 J 67 n (J 66) → CT I wk wo n K l ∧ ∀ i, i < n → K 67 i = nI (lr l i) := fun K hK => by
      subst hK
      exact ⟨hC.to (fun x j _ h2 => rf2_o _ _ _ _ h2) (fun i hi => by rw [rf2_o _ _ _ _ (by decide)]; exact hC.st i hi) hC.len, fun i hi => by rw [rf2_i _ _ hi]; exact (hC.st i hi).1⟩
    by_cases hg : gAll I (lr l) wk wo n lim (wU (lr l) n)
    · have hok : okV I wk wo n lim l = some (gMx (lr l) wk wo n (wU (lr l) n)) := if_pos hg
      cases s with
      | none =>
        obtain ⟨hf, hgg⟩ := hS
        subst hf
        subst hgg
        refine v_ild4 dX9_cut_178 ?_
        refine v_if_eq (tgt := 276) dX9_cut_180 (by decide) (fun h180 => absurd h180 (by decide)) (fun h180 => ?_)
        refine v_ald0 dX9_cut_183 ?_
        refine v_ald0 dX9_cut_184 ?_
        refine v_getI dX9_cut_185 fl_X9_224 (by first | rfl | exact lay_door (by omega) | exact lay_dt (by omega) | exact lay_da (by omega) | exact lay_sh (by omega) | exact lay_se (by omega)) rfl (by omega) ?_
        refine v_V1 (c_X9_walksUpTo hC.nn hn hC.st) lk_X9_230 dX9_cut_188 (by decide) (Nat.le_of_ble_eq_true rfl) (by first | rfl | exact lay_door (by omega) | exact lay_dt (by omega) | exact lay_da (by omega) | exact lay_sh (by omega) | exact lay_se (by omega)) (show _ < 78 + 3 * _ by omega) ?_
        refine v_ist5 dX9_cut_191 rfl ?_
        refine v_ild5 dX9_cut_193 ?_
        refine v_ild2 dX9_cut_195 ?_
        refine v_icmp_le (tgt := 203) dX9_cut_196 (by decide) (fun h196 => ?_) (fun h196 => absurd (nI_le (by omega) (by decide)) h196)
        refine v_ald0 dX9_cut_203 ?_
        refine v_ild1 dX9_cut_204 ?_
        refine v_ild5 dX9_cut_205 ?_
        refine v_V2 (c_X9_greatestWork hn hC.nn hC.st hC.bl hC.wo hlim (by omega) rfl rfl) lk_X9_235 dX9_cut_207 (by decide) (Nat.le_of_ble_eq_true rfl) (by first | rfl | exact lay_door (by omega) | exact lay_dt (by omega) | exact lay_da (by omega) | exact lay_sh (by omega) | exact lay_se (by omega)) (show _ < 78 + 3 * _ by omega) ?_
        refine v_e0 (congrArg Value.int (if_pos (hg54.mpr hg))) ?_
        refine v_ist6 dX9_cut_210 rfl ?_
        refine v_ild6 dX9_cut_212 ?_
        refine v_if_lt (tgt := 267) dX9_cut_214 (by decide) (fun h214 => absurd h214 (nI_pos (by omega))) (fun h214 => ?_)
        refine v_ild5 dX9_cut_217 ?_
        refine v_ild2 dX9_cut_219 ?_
        refine v_icmp_lt (tgt := 229) dX9_cut_220 (by decide) (fun h220 => ?_) (fun h220 => absurd (nI_lt (by omega) (by decide)) h220)
        refine v_ild5 dX9_cut_229 ?_
        refine v_ist2 dX9_cut_231 rfl ?_
        refine v_ild6 dX9_cut_232 ?_
        refine v_ist3 dX9_cut_234 rfl ?_
        refine v_icN (n := 0) dX9_cut_235 (by decide) ?_
        refine v_ist7 dX9_cut_236 rfl ?_
        have h9 := lp_cuC (G := G) (dc := dc) (L := L) (lim := lim) (Q := Q) (f := nI (wU (lr l) n)) (g := nI (gMx (lr l) wk wo n (wU (lr l) n))) (a5 := .int (nI (wU (lr l) n))) (y6 := nI (gMx (lr l) wk wo n (wU (lr l) n))) hn hC.nn ?_ n 0 (by omega)
        · rw [rf2_0] at h9
          exact h9
        · obtain ⟨hb1, hb2⟩ := hbest _ rfl
          refine hN _ _ _ _ _ _ hb1 ?_
          rw [show stp (okV I wk wo n lim) n none l = some (wU (lr l) n, gMx (lr l) wk wo n (wU (lr l) n), l) by unfold stp; rw [hok]]
          exact ⟨rfl, rfl, hp6, hgm, hb2⟩
      | some q =>
        obtain ⟨hf, hgg, hq1, hq2, hq3⟩ := hS
        subst hf
        subst hgg
        refine v_ild4 dX9_cut_178 ?_
        refine v_if_eq (tgt := 276) dX9_cut_180 (by decide) (fun h180 => absurd h180 (by decide)) (fun h180 => ?_)
        refine v_ald0 dX9_cut_183 ?_
        refine v_ald0 dX9_cut_184 ?_
        refine v_getI dX9_cut_185 fl_X9_224 (by first | rfl | exact lay_door (by omega) | exact lay_dt (by omega) | exact lay_da (by omega) | exact lay_sh (by omega) | exact lay_se (by omega)) rfl (by omega) ?_
        refine v_V1 (c_X9_walksUpTo hC.nn hn hC.st) lk_X9_230 dX9_cut_188 (by decide) (Nat.le_of_ble_eq_true rfl) (by first | rfl | exact lay_door (by omega) | exact lay_dt (by omega) | exact lay_da (by omega) | exact lay_sh (by omega) | exact lay_se (by omega)) (show _ < 78 + 3 * _ by omega) ?_
        refine v_ist5 dX9_cut_191 rfl ?_
        refine v_ild5 dX9_cut_193 ?_
        refine v_ild2 dX9_cut_195 ?_
        refine v_icmp_le (tgt := 203) dX9_cut_196 (by decide) (fun h196 => ?_) (fun h196 => ?_)
        · refine v_ald0 dX9_cut_203 ?_
          refine v_ild1 dX9_cut_204 ?_
          refine v_ild5 dX9_cut_205 ?_
          refine v_V2 (c_X9_greatestWork hn hC.nn hC.st hC.bl hC.wo hlim (by omega) rfl rfl) lk_X9_235 dX9_cut_207 (by decide) (Nat.le_of_ble_eq_true rfl) (by first | rfl | exact lay_door (by omega) | exact lay_dt (by omega) | exact lay_da (by omega) | exact lay_sh (by omega) | exact lay_se (by omega)) (show _ < 78 + 3 * _ by omega) ?_
          refine v_e0 (congrArg Value.int (if_pos (hg54.mpr hg))) ?_
          refine v_ist6 dX9_cut_210 rfl ?_
          refine v_ild6 dX9_cut_212 ?_
          refine v_if_lt (tgt := 267) dX9_cut_214 (by decide) (fun h214 => absurd h214 (nI_pos (by omega))) (fun h214 => ?_)
          refine v_ild5 dX9_cut_217 ?_
          refine v_ild2 dX9_cut_219 ?_
          refine v_icmp_lt (tgt := 229) dX9_cut_220 (by decide) (fun h220 => ?_) (fun h220 => ?_)
          · refine v_ild5 dX9_cut_229 ?_
            refine v_ist2 dX9_cut_231 rfl ?_
            refine v_ild6 dX9_cut_232 ?_
            refine v_ist3 dX9_cut_234 rfl ?_
            refine v_icN (n := 0) dX9_cut_235 (by decide) ?_
            refine v_ist7 dX9_cut_236 rfl ?_
            have h9 := lp_cuC (G := G) (dc := dc) (L := L) (lim := lim) (Q := Q) (f := nI (wU (lr l) n)) (g := nI (gMx (lr l) wk wo n (wU (lr l) n))) (a5 := .int (nI (wU (lr l) n))) (y6 := nI (gMx (lr l) wk wo n (wU (lr l) n))) hn hC.nn ?_ n 0 (by omega)
            · rw [rf2_0] at h9
              exact h9
            · obtain ⟨hb1, hb2⟩ := hbest _ rfl
              refine hN _ _ _ _ _ _ hb1 ?_
              have hst : stp (okV I wk wo n lim) n (some q) l = some (wU (lr l) n, gMx (lr l) wk wo n (wU (lr l) n), l) := by unfold stp; rw [hok]; exact if_pos (Or.inl ((nI_ltI (by omega) (by omega)).mp h220))
              rw [hst]
              exact ⟨rfl, rfl, hp6, hgm, hb2⟩
          · refine v_ild6 dX9_cut_223 ?_
            refine v_ild3 dX9_cut_225 ?_
            refine v_icmp_ge (tgt := 267) dX9_cut_226 (by decide) (fun h226 => ?_) (fun h226 => ?_)
            · have hst : stp (okV I wk wo n lim) n (some q) l = some q := by unfold stp; rw [hok]; exact if_neg (fun z => z.elim (fun z => h220 (nI_lt z (by omega))) (fun z => nI_ge z.2 (by omega) h226))
              refine hN _ _ _ _ _ _ hC ?_
              rw [hst]
              exact ⟨rfl, rfl, hq1, hq2, hq3⟩
            · refine v_ild5 dX9_cut_229 ?_
              refine v_ist2 dX9_cut_231 rfl ?_
              refine v_ild6 dX9_cut_232 ?_
              refine v_ist3 dX9_cut_234 rfl ?_
              refine v_icN (n := 0) dX9_cut_235 (by decide) ?_
              refine v_ist7 dX9_cut_236 rfl ?_
              have h9 := lp_cuC (G := G) (dc := dc) (L := L) (lim := lim) (Q := Q) (f := nI (wU (lr l) n)) (g := nI (gMx (lr l) wk wo n (wU (lr l) n))) (a5 := .int (nI (wU (lr l) n))) (y6 := nI (gMx (lr l) wk wo n (wU (lr l) n))) hn hC.nn ?_ n 0 (by omega)
              · rw [rf2_0] at h9
                exact h9
              · obtain ⟨hb1, hb2⟩ := hbest _ rfl
                refine hN _ _ _ _ _ _ hb1 ?_
                have hst : stp (okV I wk wo n lim) n (some q) l = some (wU (lr l) n, gMx (lr l) wk wo n (wU (lr l) n), l) := by unfold stp; rw [hok]; exact if_pos (Or.inr ⟨Nat.le_antisymm ((nI_leI (by omega) (by omega)).mp h196) (Nat.le_of_not_lt fun z => h220 (nI_lt z (by omega))), Nat.lt_of_not_le fun z => h226 (nI_le z (by omega))⟩)
                rw [hst]
                exact ⟨rfl, rfl, hp6, hgm, hb2⟩
        · refine v_icm1 dX9_cut_199 ?_
          refine v_goto (tgt := 210) dX9_cut_200 (by decide) ?_
          refine v_ist6 dX9_cut_210 rfl ?_
          refine v_ild6 dX9_cut_212 ?_
          refine v_if_lt (tgt := 267) dX9_cut_214 (by decide) (fun h214 => ?_) (fun h214 => absurd (show (-1 : Int32) < 0 by decide) h214)
          have hst : stp (okV I wk wo n lim) n (some q) l = some q := by unfold stp; rw [hok]; exact if_neg (fun z => h196 (nI_le (by omega) (by omega)))
          refine hN _ _ _ _ _ _ hC ?_
          rw [hst]
          exact ⟨rfl, rfl, hq1, hq2, hq3⟩
    · have hok : okV I wk wo n lim l = none := if_neg hg
      have hst : stp (okV I wk wo n lim) n s l = s := by unfold stp; rw [hok]
      refine v_ild4 dX9_cut_178 ?_
      refine v_if_eq (tgt := 276) dX9_cut_180 (by decide) (fun h180 => absurd h180 (by decide)) (fun h180 => ?_)
      refine v_ald0 dX9_cut_183 ?_
      refine v_ald0 dX9_cut_184 ?_
      refine v_getI dX9_cut_185 fl_X9_224 (by first | rfl | exact lay_door (by omega) | exact lay_dt (by omega) | exact lay_da (by omega) | exact lay_sh (by omega) | exact lay_se (by omega)) rfl (by omega) ?_
      refine v_V1 (c_X9_walksUpTo hC.nn hn hC.st) lk_X9_230 dX9_cut_188 (by decide) (Nat.le_of_ble_eq_true rfl) (by first | rfl | exact lay_door (by omega) | exact lay_dt (by omega) | exact lay_da (by omega) | exact lay_sh (by omega) | exact lay_se (by omega)) (show _ < 78 + 3 * _ by omega) ?_
      refine v_ist5 dX9_cut_191 rfl ?_
      refine v_ild5 dX9_cut_193 ?_
      refine v_ild2 dX9_cut_195 ?_
      refine v_icmp_le (tgt := 203) dX9_cut_196 (by decide) (fun h196 => ?_) (fun h196 => ?_)
      · refine v_ald0 dX9_cut_203 ?_
        refine v_ild1 dX9_cut_204 ?_
        refine v_ild5 dX9_cut_205 ?_
        refine v_V2 (c_X9_greatestWork hn hC.nn hC.st hC.bl hC.wo hlim (by omega) rfl rfl) lk_X9_235 dX9_cut_207 (by decide) (Nat.le_of_ble_eq_true rfl) (by first | rfl | exact lay_door (by omega) | exact lay_dt (by omega) | exact lay_da (by omega) | exact lay_sh (by omega) | exact lay_se (by omega)) (show _ < 78 + 3 * _ by omega) ?_
        refine v_e0 (congrArg Value.int (if_neg (fun z => hg (hg54.mp z)))) ?_
        refine v_ist6 dX9_cut_210 rfl ?_
        refine v_ild6 dX9_cut_212 ?_
        refine v_if_lt (tgt := 267) dX9_cut_214 (by decide) (fun h214 => ?_) (fun h214 => absurd (show (-1 : Int32) < 0 by decide) h214)
        refine hN _ _ _ _ _ _ hC ?_
        rw [hst]
        exact hS
      · refine v_icm1 dX9_cut_199 ?_
        refine v_goto (tgt := 210) dX9_cut_200 (by decide) ?_
        refine v_ist6 dX9_cut_210 rfl ?_
        refine v_ild6 dX9_cut_212 ?_
        refine v_if_lt (tgt := 267) dX9_cut_214 (by decide) (fun h214 => ?_) (fun h214 => absurd (show (-1 : Int32) < 0 by decide) h214)
        refine hN _ _ _ _ _ _ hC ?_
        rw [hst]
        exact hS
  | cons l1 t ih =>
    intro l s J f g u v x hch hall hC hS hkE
    have hp6 := hC.wu
    have hsw : ∀ w, gwS (lr l) wk wo w n ≤ 144 := fun w => Nat.le_trans (gwS_le (fun j hj => (hC.wo (wk j) (hC.bl j hj).2).2)) (by omega)
    have hgm := gMx_le hsw (wU (lr l) n)
    have hN : ∀ (K : Nat → Nat → Int32) (f1 g1 : Int32) (a5 a6 a7 : Value), CT I wk wo n K l → ST n (stp (okV I wk wo n lim) n s l) K f1 g1 → V G yX9_cut cX9_cut 8 (some .int) 2 0 0 267 [.ref 39, .int (nI lim), .int f1, .int g1, .int (nI 1), a5, a6, a7] [] (Mm dc K L) Q := by
      intro K f1 g1 a5 a6 a7 hK hK2
      have hx : nxL n l = some l1 := by
        simp only [chkR, Bool.and_eq_true, beq_iff_eq] at hch
        exact hch.1
      have h0 : ¬ nw (lr l) (n - 1) = 0 := fun z => by
        unfold nxL at hx
        rw [if_pos z] at hx
        cases hx
      have hc2 : chkR n (l1 :: t) = true := by
        rw [chkR, Bool.and_eq_true] at hch
        exact hch.2
      refine v_ald0 dX9_cut_267 ?_
      refine v_V0 (c_X9_nextWalks hn hK.nn hK.st hn1) lk_X9_238 dX9_cut_268 (by decide) (Nat.le_of_ble_eq_true rfl) (by first | rfl | exact lay_door (by omega) | exact lay_dt (by omega) | exact lay_da (by omega) | exact lay_sh (by omega) | exact lay_se (by omega)) (show _ < 78 + 3 * _ by omega) ?_
      refine v_e0 (congrArg Value.int (if_neg h0)) ?_
      refine v_ist4 dX9_cut_271 rfl ?_
      refine v_goto (tgt := 178) dX9_cut_273 (by decide) ?_
      refine ih l1 (stp (okV I wk wo n lim) n s l) _ _ _ _ _ _ hc2 (fun q hq => hall q (List.mem_cons_of_mem _ hq)) (hK.to (fun x j h1 _ => nxJ_o j h1) (Wk_nx hK.st (hall l1 List.mem_cons_self).2 hx) (hall l1 List.mem_cons_self)) ?_ ?_
      · cases hs : stp (okV I wk wo n lim) n s l with
        | none => rw [hs] at hK2; exact hK2
        | some q => rw [hs] at hK2; exact ⟨hK2.1, hK2.2.1, hK2.2.2.1, hK2.2.2.2.1, fun i hi => (nxJ_o i (by decide)).trans (hK2.2.2.2.2 i hi)⟩
      · exact hkE
    have hg54 := gAll_c (r := lr l) (wk := wk) (wo := wo) (n := n) (lim := lim) (p := wU (lr l) n) hC.n54
    have hbest : ∀ (K : Nat → Nat → Int32), K = rf2 J 67 n (J 66) → CT I wk wo n K l ∧ ∀ i, i < n → K 67 i = nI (lr l i) := fun K hK => by
      subst hK
      exact ⟨hC.to (fun x j _ h2 => rf2_o _ _ _ _ h2) (fun i hi => by rw [rf2_o _ _ _ _ (by decide)]; exact hC.st i hi) hC.len, fun i hi => by rw [rf2_i _ _ hi]; exact (hC.st i hi).1⟩
    by_cases hg : gAll I (lr l) wk wo n lim (wU (lr l) n)
    · have hok : okV I wk wo n lim l = some (gMx (lr l) wk wo n (wU (lr l) n)) := if_pos hg
      cases s with
      | none =>
        obtain ⟨hf, hgg⟩ := hS
        subst hf
        subst hgg
        refine v_ild4 dX9_cut_178 ?_
        refine v_if_eq (tgt := 276) dX9_cut_180 (by decide) (fun h180 => absurd h180 (by decide)) (fun h180 => ?_)
        refine v_ald0 dX9_cut_183 ?_
        refine v_ald0 dX9_cut_184 ?_
        refine v_getI dX9_cut_185 fl_X9_224 (by first | rfl | exact lay_door (by omega) | exact lay_dt (by omega) | exact lay_da (by omega) | exact lay_sh (by omega) | exact lay_se (by omega)) rfl (by omega) ?_
        refine v_V1 (c_X9_walksUpTo hC.nn hn hC.st) lk_X9_230 dX9_cut_188 (by decide) (Nat.le_of_ble_eq_true rfl) (by first | rfl | exact lay_door (by omega) | exact lay_dt (by omega) | exact lay_da (by omega) | exact lay_sh (by omega) | exact lay_se (by omega)) (show _ < 78 + 3 * _ by omega) ?_
        refine v_ist5 dX9_cut_191 rfl ?_
        refine v_ild5 dX9_cut_193 ?_
        refine v_ild2 dX9_cut_195 ?_
        refine v_icmp_le (tgt := 203) dX9_cut_196 (by decide) (fun h196 => ?_) (fun h196 => absurd (nI_le (by omega) (by decide)) h196)
        refine v_ald0 dX9_cut_203 ?_
        refine v_ild1 dX9_cut_204 ?_
        refine v_ild5 dX9_cut_205 ?_
        refine v_V2 (c_X9_greatestWork hn hC.nn hC.st hC.bl hC.wo hlim (by omega) rfl rfl) lk_X9_235 dX9_cut_207 (by decide) (Nat.le_of_ble_eq_true rfl) (by first | rfl | exact lay_door (by omega) | exact lay_dt (by omega) | exact lay_da (by omega) | exact lay_sh (by omega) | exact lay_se (by omega)) (show _ < 78 + 3 * _ by omega) ?_
        refine v_e0 (congrArg Value.int (if_pos (hg54.mpr hg))) ?_
        refine v_ist6 dX9_cut_210 rfl ?_
        refine v_ild6 dX9_cut_212 ?_
        refine v_if_lt (tgt := 267) dX9_cut_214 (by decide) (fun h214 => absurd h214 (nI_pos (by omega))) (fun h214 => ?_)
        refine v_ild5 dX9_cut_217 ?_
        refine v_ild2 dX9_cut_219 ?_
        refine v_icmp_lt (tgt := 229) dX9_cut_220 (by decide) (fun h220 => ?_) (fun h220 => absurd (nI_lt (by omega) (by decide)) h220)
        refine v_ild5 dX9_cut_229 ?_
        refine v_ist2 dX9_cut_231 rfl ?_
        refine v_ild6 dX9_cut_232 ?_
        refine v_ist3 dX9_cut_234 rfl ?_
        refine v_icN (n := 0) dX9_cut_235 (by decide) ?_
        refine v_ist7 dX9_cut_236 rfl ?_
        have h9 := lp_cuC (G := G) (dc := dc) (L := L) (lim := lim) (Q := Q) (f := nI (wU (lr l) n)) (g := nI (gMx (lr l) wk wo n (wU (lr l) n))) (a5 := .int (nI (wU (lr l) n))) (y6 := nI (gMx (lr l) wk wo n (wU (lr l) n))) hn hC.nn ?_ n 0 (by omega)
        · rw [rf2_0] at h9
          exact h9
        · obtain ⟨hb1, hb2⟩ := hbest _ rfl
          refine hN _ _ _ _ _ _ hb1 ?_
          rw [show stp (okV I wk wo n lim) n none l = some (wU (lr l) n, gMx (lr l) wk wo n (wU (lr l) n), l) by unfold stp; rw [hok]]
          exact ⟨rfl, rfl, hp6, hgm, hb2⟩
      | some q =>
        obtain ⟨hf, hgg, hq1, hq2, hq3⟩ := hS
        subst hf
        subst hgg
        refine v_ild4 dX9_cut_178 ?_
        refine v_if_eq (tgt := 276) dX9_cut_180 (by decide) (fun h180 => absurd h180 (by decide)) (fun h180 => ?_)
        refine v_ald0 dX9_cut_183 ?_
        refine v_ald0 dX9_cut_184 ?_
        refine v_getI dX9_cut_185 fl_X9_224 (by first | rfl | exact lay_door (by omega) | exact lay_dt (by omega) | exact lay_da (by omega) | exact lay_sh (by omega) | exact lay_se (by omega)) rfl (by omega) ?_
        refine v_V1 (c_X9_walksUpTo hC.nn hn hC.st) lk_X9_230 dX9_cut_188 (by decide) (Nat.le_of_ble_eq_true rfl) (by first | rfl | exact lay_door (by omega) | exact lay_dt (by omega) | exact lay_da (by omega) | exact lay_sh (by omega) | exact lay_se (by omega)) (show _ < 78 + 3 * _ by omega) ?_
        refine v_ist5 dX9_cut_191 rfl ?_
        refine v_ild5 dX9_cut_193 ?_
        refine v_ild2 dX9_cut_195 ?_
        refine v_icmp_le (tgt := 203) dX9_cut_196 (by decide) (fun h196 => ?_) (fun h196 => ?_)
        · refine v_ald0 dX9_cut_203 ?_
          refine v_ild1 dX9_cut_204 ?_
          refine v_ild5 dX9_cut_205 ?_
          refine v_V2 (c_X9_greatestWork hn hC.nn hC.st hC.bl hC.wo hlim (by omega) rfl rfl) lk_X9_235 dX9_cut_207 (by decide) (Nat.le_of_ble_eq_true rfl) (by first | rfl | exact lay_door (by omega) | exact lay_dt (by omega) | exact lay_da (by omega) | exact lay_sh (by omega) | exact lay_se (by omega)) (show _ < 78 + 3 * _ by omega) ?_
          refine v_e0 (congrArg Value.int (if_pos (hg54.mpr hg))) ?_
          refine v_ist6 dX9_cut_210 rfl ?_
          refine v_ild6 dX9_cut_212 ?_
          refine v_if_lt (tgt := 267) dX9_cut_214 (by decide) (fun h214 => absurd h214 (nI_pos (by omega))) (fun h214 => ?_)
          refine v_ild5 dX9_cut_217 ?_
          refine v_ild2 dX9_cut_219 ?_
          refine v_icmp_lt (tgt := 229) dX9_cut_220 (by decide) (fun h220 => ?_) (fun h220 => ?_)
          · refine v_ild5 dX9_cut_229 ?_
            refine v_ist2 dX9_cut_231 rfl ?_
            refine v_ild6 dX9_cut_232 ?_
            refine v_ist3 dX9_cut_234 rfl ?_
            refine v_icN (n := 0) dX9_cut_235 (by decide) ?_
            refine v_ist7 dX9_cut_236 rfl ?_
            have h9 := lp_cuC (G := G) (dc := dc) (L := L) (lim := lim) (Q := Q) (f := nI (wU (lr l) n)) (g := nI (gMx (lr l) wk wo n (wU (lr l) n))) (a5 := .int (nI (wU (lr l) n))) (y6 := nI (gMx (lr l) wk wo n (wU (lr l) n))) hn hC.nn ?_ n 0 (by omega)
            · rw [rf2_0] at h9
              exact h9
            · obtain ⟨hb1, hb2⟩ := hbest _ rfl
              refine hN _ _ _ _ _ _ hb1 ?_
              have hst : stp (okV I wk wo n lim) n (some q) l = some (wU (lr l) n, gMx (lr l) wk wo n (wU (lr l) n), l) := by unfold stp; rw [hok]; exact if_pos (Or.inl ((nI_ltI (by omega) (by omega)).mp h220))
              rw [hst]
              exact ⟨rfl, rfl, hp6, hgm, hb2⟩
          · refine v_ild6 dX9_cut_223 ?_
            refine v_ild3 dX9_cut_225 ?_
            refine v_icmp_ge (tgt := 267) dX9_cut_226 (by decide) (fun h226 => ?_) (fun h226 => ?_)
            · have hst : stp (okV I wk wo n lim) n (some q) l = some q := by unfold stp; rw [hok]; exact if_neg (fun z => z.elim (fun z => h220 (nI_lt z (by omega))) (fun z => nI_ge z.2 (by omega) h226))
              refine hN _ _ _ _ _ _ hC ?_
              rw [hst]
              exact ⟨rfl, rfl, hq1, hq2, hq3⟩
            · refine v_ild5 dX9_cut_229 ?_
              refine v_ist2 dX9_cut_231 rfl ?_
              refine v_ild6 dX9_cut_232 ?_
              refine v_ist3 dX9_cut_234 rfl ?_
              refine v_icN (n := 0) dX9_cut_235 (by decide) ?_
              refine v_ist7 dX9_cut_236 rfl ?_
              have h9 := lp_cuC (G := G) (dc := dc) (L := L) (lim := lim) (Q := Q) (f := nI (wU (lr l) n)) (g := nI (gMx (lr l) wk wo n (wU (lr l) n))) (a5 := .int (nI (wU (lr l) n))) (y6 := nI (gMx (lr l) wk wo n (wU (lr l) n))) hn hC.nn ?_ n 0 (by omega)
              · rw [rf2_0] at h9
                exact h9
              · obtain ⟨hb1, hb2⟩ := hbest _ rfl
                refine hN _ _ _ _ _ _ hb1 ?_
                have hst : stp (okV I wk wo n lim) n (some q) l = some (wU (lr l) n, gMx (lr l) wk wo n (wU (lr l) n), l) := by unfold stp; rw [hok]; exact if_pos (Or.inr ⟨Nat.le_antisymm ((nI_leI (by omega) (by omega)).mp h196) (Nat.le_of_not_lt fun z => h220 (nI_lt z (by omega))), Nat.lt_of_not_le fun z => h226 (nI_le z (by omega))⟩)
                rw [hst]
                exact ⟨rfl, rfl, hp6, hgm, hb2⟩
        · refine v_icm1 dX9_cut_199 ?_
          refine v_goto (tgt := 210) dX9_cut_200 (by decide) ?_
          refine v_ist6 dX9_cut_210 rfl ?_
          refine v_ild6 dX9_cut_212 ?_
          refine v_if_lt (tgt := 267) dX9_cut_214 (by decide) (fun h214 => ?_) (fun h214 => absurd (show (-1 : Int32) < 0 by decide) h214)
          have hst : stp (okV I wk wo n lim) n (some q) l = some q := by unfold stp; rw [hok]; exact if_neg (fun z => h196 (nI_le (by omega) (by omega)))
          refine hN _ _ _ _ _ _ hC ?_
          rw [hst]
          exact ⟨rfl, rfl, hq1, hq2, hq3⟩
    · have hok : okV I wk wo n lim l = none := if_neg hg
      have hst : stp (okV I wk wo n lim) n s l = s := by unfold stp; rw [hok]
      refine v_ild4 dX9_cut_178 ?_
      refine v_if_eq (tgt := 276) dX9_cut_180 (by decide) (fun h180 => absurd h180 (by decide)) (fun h180 => ?_)
      refine v_ald0 dX9_cut_183 ?_
      refine v_ald0 dX9_cut_184 ?_
      refine v_getI dX9_cut_185 fl_X9_224 (by first | rfl | exact lay_door (by omega) | exact lay_dt (by omega) | exact lay_da (by omega) | exact lay_sh (by omega) | exact lay_se (by omega)) rfl (by omega) ?_
      refine v_V1 (c_X9_walksUpTo hC.nn hn hC.st) lk_X9_230 dX9_cut_188 (by decide) (Nat.le_of_ble_eq_true rfl) (by first | rfl | exact lay_door (by omega) | exact lay_dt (by omega) | exact lay_da (by omega) | exact lay_sh (by omega) | exact lay_se (by omega)) (show _ < 78 + 3 * _ by omega) ?_
      refine v_ist5 dX9_cut_191 rfl ?_
      refine v_ild5 dX9_cut_193 ?_
      refine v_ild2 dX9_cut_195 ?_
      refine v_icmp_le (tgt := 203) dX9_cut_196 (by decide) (fun h196 => ?_) (fun h196 => ?_)
      · refine v_ald0 dX9_cut_203 ?_
        refine v_ild1 dX9_cut_204 ?_
        refine v_ild5 dX9_cut_205 ?_
        refine v_V2 (c_X9_greatestWork hn hC.nn hC.st hC.bl hC.wo hlim (by omega) rfl rfl) lk_X9_235 dX9_cut_207 (by decide) (Nat.le_of_ble_eq_true rfl) (by first | rfl | exact lay_door (by omega) | exact lay_dt (by omega) | exact lay_da (by omega) | exact lay_sh (by omega) | exact lay_se (by omega)) (show _ < 78 + 3 * _ by omega) ?_
        refine v_e0 (congrArg Value.int (if_neg (fun z => hg (hg54.mp z)))) ?_
        refine v_ist6 dX9_cut_210 rfl ?_
        refine v_ild6 dX9_cut_212 ?_
        refine v_if_lt (tgt := 267) dX9_cut_214 (by decide) (fun h214 => ?_) (fun h214 => absurd (show (-1 : Int32) < 0 by decide) h214)
        refine hN _ _ _ _ _ _ hC ?_
        rw [hst]
        exact hS
      · refine v_icm1 dX9_cut_199 ?_
        refine v_goto (tgt := 210) dX9_cut_200 (by decide) ?_
        refine v_ist6 dX9_cut_210 rfl ?_
        refine v_ild6 dX9_cut_212 ?_
        refine v_if_lt (tgt := 267) dX9_cut_214 (by decide) (fun h214 => ?_) (fun h214 => absurd (show (-1 : Int32) < 0 by decide) h214)
        refine hN _ _ _ _ _ _ hC ?_
        rw [hst]
        exact hS

/-- the walks of the blocks, as they are told -/
def wfM (J : Nat → Nat → Int32) (wk : Nat → Nat) : Nat → Nat → Nat → Int32
  | 0 => fl2 J 68 6 (-1)
  | i + 1 => u2 (wfM J wk i) 68 (wk i) (J 67 i)
theorem fl2_o {α : Type} (f : Nat → Nat → α) {a x : Nat} (m j : Nat) (v : α) (h : x ≠ a) : fl2 f a m v x j = f x j := if_neg (fun q => h q.1)
theorem wfM_o {J : Nat → Nat → Int32} {wk : Nat → Nat} {x : Nat} (j : Nat) (h : x ≠ 68) : ∀ i, wfM J wk i x j = J x j
  | 0 => fl2_o _ _ _ _ h
  | i + 1 => by rw [wfM, u2_a _ _ _ _ h]; exact wfM_o j h i

set_option maxRecDepth 4000 in
theorem lp_cuF {G : GG} {dc : Nat} {J : Nat → Nat → Int32} {L : Nat → Nat → Int64} {wk : Nat → Nat} {n lim : Nat} {f g : Int32} (hn : n ≤ 6) (hnn : J 39 36 = nI n) (hb : Wb n J wk) (k : Nat) : ∀ i, i + k = n → ∀ u v : Value, V G yX9_cut cX9_cut 8 (some .int) 2 0 0 303 [.ref 39, .int (nI lim), .int f, .int g, .int (nI 0), .int (nI i), u, v] [] (Mm dc (wfM J wk i) L) (Is (some (.int (if n = 0 then nI 0 else f))) (Mm dc (wfM J wk n) L)) := by
  induction k with
  | zero =>
    intro i hi u v
    refine v_ild5 dX9_cut_303 ?_
    refine v_ald0 dX9_cut_305 ?_
    refine v_getI dX9_cut_306 fl_X9_224 (by first | rfl | exact lay_door (by omega) | exact lay_dt (by omega) | exact lay_da (by omega) | exact lay_sh (by omega) | exact lay_se (by omega)) rfl (by omega) ?_
    refine v_e0 (congrArg Value.int (show _ = nI n from (wfM_o _ (by decide) i).trans hnn)) ?_
    refine v_icmp_ge (tgt := 337) dX9_cut_309 (by decide) (fun h309 => ?_) (fun h309 => absurd (nI_le (by omega) (by omega)) h309)
    refine v_ald0 dX9_cut_337 ?_
    refine v_getI dX9_cut_338 fl_X9_224 (by first | rfl | exact lay_door (by omega) | exact lay_dt (by omega) | exact lay_da (by omega) | exact lay_sh (by omega) | exact lay_se (by omega)) rfl (by omega) ?_
    refine v_e0 (congrArg Value.int (show _ = nI n from (wfM_o _ (by decide) i).trans hnn)) ?_
    refine v_if_ne (tgt := 348) dX9_cut_341 (by decide) (fun h341 => ?_) (fun h341 => ?_)
    · refine v_ild2 dX9_cut_348 ?_
      exact v_retI dX9_cut_349 trivial (by obtain rfl : i = n := (by omega); rw [if_neg (fun z => h341 (by rw [z]; rfl))]; exact ⟨rfl, rfl⟩)
    · refine v_icN (n := 0) dX9_cut_344 (by decide) ?_
      refine v_goto (tgt := 349) dX9_cut_345 (by decide) ?_
      exact v_retI dX9_cut_349 trivial (by obtain rfl : i = n := (by omega); rw [if_pos (show i = 0 from (nI_eq (by omega) (by decide)).mp h341)]; exact ⟨rfl, rfl⟩)
  | succ k ih =>
    intro i hi u v
    refine v_ild5 dX9_cut_303 ?_
    refine v_ald0 dX9_cut_305 ?_
    refine v_getI dX9_cut_306 fl_X9_224 (by first | rfl | exact lay_door (by omega) | exact lay_dt (by omega) | exact lay_da (by omega) | exact lay_sh (by omega) | exact lay_se (by omega)) rfl (by omega) ?_
    refine v_e0 (congrArg Value.int (show _ = nI n from (wfM_o _ (by decide) i).trans hnn)) ?_
    refine v_icmp_ge (tgt := 337) dX9_cut_309 (by decide) (fun h309 => absurd h309 (nI_ge (by omega) (by omega))) (fun h309 => ?_)
    refine v_ald0 dX9_cut_312 ?_
    refine v_getP (q := 68) dX9_cut_313 fl_X9_109 (by first | rfl | exact lay_door (by omega) | exact lay_dt (by omega) | exact lay_da (by omega) | exact lay_sh (by omega) | exact lay_se (by omega)) rfl (by omega) rfl ?_
    refine v_ald0 dX9_cut_316 ?_
    refine v_getP (q := 65) dX9_cut_317 fl_X9_100 (by first | rfl | exact lay_door (by omega) | exact lay_dt (by omega) | exact lay_da (by omega) | exact lay_sh (by omega) | exact lay_se (by omega)) rfl (by omega) rfl ?_
    refine v_ild5 dX9_cut_320 ?_
    refine v_iald dX9_cut_322 (by first | rfl | exact lay_door (by omega) | exact lay_dt (by omega) | exact lay_da (by omega) | exact lay_sh (by omega) | exact lay_se (by omega)) (by omega) ⟨rfl, by omega, by decide⟩ ?_
    refine v_ald0 dX9_cut_323 ?_
    refine v_getP (q := 67) dX9_cut_324 fl_X9_106 (by first | rfl | exact lay_door (by omega) | exact lay_dt (by omega) | exact lay_da (by omega) | exact lay_sh (by omega) | exact lay_se (by omega)) rfl (by omega) rfl ?_
    refine v_ild5 dX9_cut_327 ?_
    refine v_iald dX9_cut_329 (by first | rfl | exact lay_door (by omega) | exact lay_dt (by omega) | exact lay_da (by omega) | exact lay_sh (by omega) | exact lay_se (by omega)) (by omega) ⟨rfl, by omega, by decide⟩ ?_
    refine v_iast dX9_cut_330 (by first | rfl | exact lay_door (by omega) | exact lay_dt (by omega) | exact lay_da (by omega) | exact lay_sh (by omega) | exact lay_se (by omega)) (by omega) ⟨(wfM_o _ (by decide) i).trans (hb i (by omega)).1, (hb i (by omega)).2, by decide⟩ ?_
    refine v_inc5 dX9_cut_331 rfl ?_
    refine v_goto (tgt := 303) dX9_cut_334 (by decide) ?_
    rw [wfM_o _ (by decide), nI_1 i]
    exact ih (i + 1) (by omega) _ _

set_option maxRecDepth 4000 in
theorem lp_cuG {G : GG} {dc : Nat} {J : Nat → Nat → Int32} {L : Nat → Nat → Int64} {wk : Nat → Nat} {n lim : Nat} {f g : Int32} (hn : n ≤ 6) (hnn : J 39 36 = nI n) (hb : Wb n J wk) (k : Nat) : ∀ i, i + k = 6 → ∀ u v : Value, V G yX9_cut cX9_cut 8 (some .int) 2 0 0 279 [.ref 39, .int (nI lim), .int f, .int g, .int (nI 0), .int (nI i), u, v] [] (Mm dc (fl2 J 68 i (-1)) L) (Is (some (.int (if n = 0 then nI 0 else f))) (Mm dc (wfM J wk n) L)) := by
  induction k with
  | zero =>
    intro i hi u v
    refine v_ild5 dX9_cut_279 ?_
    refine v_bipush (v := nI 6) dX9_cut_281 (by decide) ?_
    refine v_icmp_ge (tgt := 300) dX9_cut_283 (by decide) (fun h283 => ?_) (fun h283 => absurd (nI_le (by omega) (by omega)) h283)
    refine v_icN (n := 0) dX9_cut_300 (by decide) ?_
    refine v_ist5 dX9_cut_301 rfl ?_
    obtain rfl : i = 6 := by omega
    exact lp_cuF hn hnn hb n 0 (by omega) _ _
  | succ k ih =>
    intro i hi u v
    refine v_ild5 dX9_cut_279 ?_
    refine v_bipush (v := nI 6) dX9_cut_281 (by decide) ?_
    refine v_icmp_ge (tgt := 300) dX9_cut_283 (by decide) (fun h283 => absurd h283 (nI_ge (by omega) (by omega))) (fun h283 => ?_)
    refine v_ald0 dX9_cut_286 ?_
    refine v_getP (q := 68) dX9_cut_287 fl_X9_109 (by first | rfl | exact lay_door (by omega) | exact lay_dt (by omega) | exact lay_da (by omega) | exact lay_sh (by omega) | exact lay_se (by omega)) rfl (by omega) rfl ?_
    refine v_ild5 dX9_cut_290 ?_
    refine v_icm1 dX9_cut_292 ?_
    refine v_iast dX9_cut_293 (by first | rfl | exact lay_door (by omega) | exact lay_dt (by omega) | exact lay_da (by omega) | exact lay_sh (by omega) | exact lay_se (by omega)) (by omega) ⟨rfl, by omega, by decide⟩ ?_
    refine v_inc5 dX9_cut_294 rfl ?_
    refine v_goto (tgt := 279) dX9_cut_297 (by decide) ?_
    rw [fl2_s, nI_1 i]
    exact ih (i + 1) (by omega) _ _

theorem gan_p {p : Nat → Bool} : ∀ {b i : Nat}, i < ct p b → p (gan p b i) = true ∧ ct p (gan p b i) = i
  | 0, i, h => absurd h (Nat.not_lt_zero _)
  | b + 1, i, h => by
    cases hp : p b with
    | true =>
      rw [gan_t hp]
      rw [ct_t hp] at h
      show p (if i = ct p b then b else gan p b i) = true ∧ ct p (if i = ct p b then b else gan p b i) = i
      by_cases e : i = ct p b
      · rw [if_pos e]; exact ⟨hp, e.symm⟩
      · rw [if_neg e]; exact gan_p (by omega)
    | false =>
      rw [gan_f hp]
      rw [ct_f hp] at h
      exact gan_p h
theorem gan_c {p : Nat → Bool} {b N : Nat} (hb : b < N) (hp : p b = true) : ct p b < ct p N ∧ gan p N (ct p b) = b := by
  induction N with
  | zero => omega
  | succ N ih =>
    by_cases e : b = N
    · subst e
      rw [ct_t hp, gan_t hp]
      exact ⟨by omega, if_pos rfl⟩
    · obtain ⟨h1, h2⟩ := ih (by omega)
      cases hq : p N with
      | true =>
        rw [ct_t hq, gan_t hq]
        exact ⟨by omega, (if_neg (by omega)).trans h2⟩
      | false => rw [ct_f hq, gan_f hq]; exact ⟨h1, h2⟩
theorem wfM_68 {J : Nat → Nat → Int32} {p : Nat → Bool} {b : Nat} (hb : b < 6) : ∀ k, k ≤ ct p 6 → wfM J (gan p 6) k 68 b = if p b = true ∧ ct p b < k then J 67 (ct p b) else -1
  | 0, _ => by
    rw [if_neg (fun q => absurd q.2 (Nat.not_lt_zero _))]
    exact if_pos ⟨rfl, hb⟩
  | k + 1, h => by
    have hg := gan_p (p := p) (b := 6) (i := k) (by omega)
    rw [wfM]
    by_cases e : b = gan p 6 k
    · rw [← e] at hg ⊢
      rw [u2_s, hg.2, if_pos ⟨hg.1, by omega⟩]
    · rw [u2_k _ _ _ _ e, wfM_68 hb k (by omega)]
      by_cases h1 : p b = true ∧ ct p b < k
      · rw [if_pos h1, if_pos ⟨h1.1, by omega⟩]
      · rw [if_neg h1, if_neg (fun q => by
          by_cases e2 : ct p b = k
          · have := (gan_c hb q.1).2
            rw [e2] at this
            exact e this.symm
          · exact h1 ⟨q.1, by omega⟩)]
/-- what a cut leaves -/
def agX (I J : Nat → Nat → Int32) : Prop := ∀ x j, x ≠ 65 → x ≠ 66 → x ≠ 67 → x ≠ 69 → x ≠ 68 → ¬ (x = 59 ∧ j = 6) → ¬ (x = 39 ∧ j = 36) → J x j = I x j
def ctP (dc : Nat) (I : Nat → Nat → Int32) (L : Nat → Nat → Int64) (v q : Int32) (f : Nat → Int32) : Option Value → Mem → Prop := fun r μ => ∃ J, r = some (.int v) ∧ μ = Mm dc J L ∧ agX I J ∧ J 59 6 = q ∧ ∀ b, b < 6 → J 68 b = f b
noncomputable def bstM (dc : Nat) (I : Nat → Nat → Int32) (lim : Nat) : CSt := (rgs (ct (pPr I dc) 6) 0).foldl (stp (okV I (gan (pPr I dc) 6) (woF I dc) (ct (pPr I dc) 6) lim) (ct (pPr I dc) 6)) none

set_option maxRecDepth 4000 in
theorem c_cutN {G : GG} {dc : Nat} {I : Nat → Nat → Int32} {L : Nat → Nat → Int64} {x : Int32} (hx : ¬ inR x 25) : Cn G yX9_cut cX9_cut 8 (some .int) 3 0 0 [.ref 39, .int x] (Mm dc I L) (Is (some (.int (-6))) (Mm dc (rms I 6) L)) := by
  refine Cn.of' (by decide) (Nat.le_of_ble_eq_true rfl) rfl ?_
  refine v_ild1 dX9_cut_0 ?_
  refine v_i2l dX9_cut_1 ?_
  refine v_lcN0 dX9_cut_2 ?_
  refine v_ldc2 dX9_cut_3 kc_X9_233 ?_
  refine v_S3 (c_isInR 24 (by decide) (by decide) (by decide)) lk_X9_152 dX9_cut_6 (by decide) (Nat.le_of_ble_eq_true rfl) ?_
  refine v_ifne_b (tgt := 19) dX9_cut_9 (by decide) (fun h9 => absurd h9 hx) (fun h9 => ?_)
  refine v_ald0 dX9_cut_12 ?_
  refine v_bipush (v := -6) dX9_cut_13 (by decide) ?_
  refine v_V1 (c_X9_no (k := 6) (by decide) (by decide) (by decide)) lk_X9_146 dX9_cut_15 (by decide) (Nat.le_of_ble_eq_true rfl) (by first | rfl | exact lay_door (by omega) | exact lay_dt (by omega) | exact lay_da (by omega) | exact lay_sh (by omega) | exact lay_se (by omega)) (show _ < 78 + 3 * _ by omega) ?_
  exact v_retI dX9_cut_18 trivial ⟨rfl, rfl⟩

set_option maxRecDepth 4000 in
theorem c_cutR {G : GG} {dc : Nat} {I : Nat → Nat → Int32} {L : Nat → Nat → Int64} {x : Int32} {lim : Nat} (hW : Wm dc I) (hx : x = nI lim) (hlim : lim ≤ 24) (hbad : ∃ b, b < 6 ∧ ¬ woF I dc b ≤ lim) : Cn G yX9_cut cX9_cut 8 (some .int) 3 0 0 [.ref 39, .int x] (Mm dc I L) (ctP dc I L (-6) (I 59 6 + nI 1) (I 68)) := by
  subst hx
  refine Cn.of' (by decide) (Nat.le_of_ble_eq_true rfl) rfl ?_
  refine v_ild1 dX9_cut_0 ?_
  refine v_i2l dX9_cut_1 ?_
  refine v_lcN0 dX9_cut_2 ?_
  refine v_ldc2 dX9_cut_3 kc_X9_233 ?_
  refine v_S3 (c_isInR 24 (by decide) (by decide) (by decide)) lk_X9_152 dX9_cut_6 (by decide) (Nat.le_of_ble_eq_true rfl) ?_
  refine v_ifne_b (tgt := 19) dX9_cut_9 (by decide) (fun h9 => ?_) (fun h9 => absurd (inR_nI (by omega) (by decide)) h9)
  refine v_ald0 dX9_cut_19 ?_
  refine v_icN (n := 0) dX9_cut_20 (by decide) ?_
  refine v_putI dX9_cut_21 fl_X9_224 ft_9_36 (by first | rfl | exact lay_door (by omega) | exact lay_dt (by omega) | exact lay_da (by omega) | exact lay_sh (by omega) | exact lay_se (by omega)) rfl (by omega) ?_
  refine v_icN (n := 0) dX9_cut_24 (by decide) ?_
  refine v_ist2 dX9_cut_25 rfl ?_
  refine V.mono (dep' := 2) (Nat.le_of_ble_eq_true rfl) (Nat.le_refl _) (Nat.le_refl _) (fun _ _ h => h) (lp_cuB hW hlim (fun J u v hC => ?_) (fun J b hb hnb u v hJ => ?_) 6 0 (by omega) _ _ _ ⟨fun x j h1 h2 h3 h4 h5 => if_neg h5, rfl, fun i hi => absurd hi (Nat.not_lt_zero _), fun c hc => absurd hc (Nat.not_lt_zero _)⟩)
  · obtain ⟨b, hb, hnb⟩ := hbad
    exact absurd (hC.wo b hb).2 hnb
  · refine v_ald0 dX9_cut_108 ?_
    refine v_bipush (v := -6) dX9_cut_109 (by decide) ?_
    refine v_V1 (c_X9_no (k := 6) (by decide) (by decide) (by decide)) lk_X9_146 dX9_cut_111 (by decide) (Nat.le_of_ble_eq_true rfl) (by first | rfl | exact lay_door (by omega) | exact lay_dt (by omega) | exact lay_da (by omega) | exact lay_sh (by omega) | exact lay_se (by omega)) (show _ < 78 + 3 * _ by omega) ?_
    exact v_retI dX9_cut_114 trivial ⟨_, rfl, rfl, fun x j h1 h2 h3 h4 h5 h6 h7 => (if_neg (fun z => h6 z)).trans (hJ x j h1 h2 h3 h4 h7), (u2_s _ _ _ _).trans (congrArg (· + nI 1) (hJ 59 6 (by decide) (by decide) (by decide) (by decide) (by decide))), fun b hb => (u2_a _ _ _ _ (by decide)).trans (hJ 68 b (by decide) (by decide) (by decide) (by decide) (by omega))⟩

set_option maxRecDepth 4000 in
theorem lp_cuZ {G : GG} {dc : Nat} {I : Nat → Nat → Int32} {L : Nat → Nat → Int64} {lim p : Nat} {l0 : List Nat} (hn6 : (ct (pPr I dc) 6) ≤ 6) {K : Nat → Nat → Int32} {fq gq : Int32} (hK : agC I K) (hKn : K 39 36 = nI (ct (pPr I dc) 6)) (hKb : Wb (ct (pPr I dc) 6) K (gan (pPr I dc) 6)) (hv : (ct (pPr I dc) 6) ≠ 0 → fq = nI p ∧ ∀ i, i < (ct (pPr I dc) 6) → K 67 i = nI (lr l0 i)) (u v x : Value) : V G yX9_cut cX9_cut 8 (some .int) 2 0 0 276 [.ref 39, .int (nI lim), .int fq, .int gq, .int (nI 0), u, v, x] [] (Mm dc K L) (ctP dc I L (if (ct (pPr I dc) 6) = 0 then nI 0 else nI p) (I 59 6) (fun b => if pPr I dc b = true then nI (lr l0 (ct (pPr I dc) b)) else -1)) := by
  refine v_icN (n := 0) dX9_cut_276 (by decide) ?_
  refine v_ist5 dX9_cut_277 rfl ?_
  have h9 := lp_cuG (G := G) (dc := dc) (L := L) (lim := lim) (wk := gan (pPr I dc) 6) (f := fq) (g := gq) hn6 hKn hKb 6 0 (by omega) v x
  rw [fl2_0] at h9
  refine V.mono (Nat.le_refl _) (Nat.le_refl _) (Nat.le_refl _) (fun r μ h => ?_) h9
  obtain ⟨rfl, rfl⟩ := h
  refine ⟨_, ?_, rfl, fun x j h1 h2 h3 h4 h5 h6 h7 => (wfM_o j h5 _).trans (hK x j h1 h2 h3 h4 h7), (wfM_o _ (by decide) _).trans (hK 59 6 (by decide) (by decide) (by decide) (by decide) (by decide)), fun b hb => ?_⟩
  · by_cases e : (ct (pPr I dc) 6) = 0
    · rw [if_pos e, if_pos e]
    · rw [if_neg e, if_neg e, (hv e).1]
  · rw [wfM_68 hb _ (Nat.le_refl _)]
    by_cases hp : pPr I dc b = true
    · obtain ⟨h1, h2⟩ := gan_c hb hp
      show _ = if pPr I dc b = true then nI (lr l0 (ct (pPr I dc) b)) else -1
      rw [if_pos ⟨hp, h1⟩, if_pos hp, (hv (by omega)).2 _ h1]
    · show _ = if pPr I dc b = true then nI (lr l0 (ct (pPr I dc) b)) else -1
      rw [if_neg (fun q => hp q.1), if_neg hp]

set_option maxRecDepth 4000 in
theorem c_cutY {G : GG} {dc : Nat} {I : Nat → Nat → Int32} {L : Nat → Nat → Int64} {x : Int32} {lim p g : Nat} {l0 : List Nat} (hW : Wm dc I) (hx : x = nI lim) (hlim : lim ≤ 24) (hgood : ∀ b, b < 6 → woF I dc b ≤ lim) (hS : (ct (pPr I dc) 6) ≠ 0 → bstM dc I lim = some (p, g, l0)) : Cn G yX9_cut cX9_cut 8 (some .int) 3 0 0 [.ref 39, .int x] (Mm dc I L) (ctP dc I L (if (ct (pPr I dc) 6) = 0 then nI 0 else nI p) (I 59 6) (fun b => if pPr I dc b = true then nI (lr l0 (ct (pPr I dc) b)) else -1)) := by
  subst hx
  refine Cn.of' (by decide) (Nat.le_of_ble_eq_true rfl) rfl ?_
  refine v_ild1 dX9_cut_0 ?_
  refine v_i2l dX9_cut_1 ?_
  refine v_lcN0 dX9_cut_2 ?_
  refine v_ldc2 dX9_cut_3 kc_X9_233 ?_
  refine v_S3 (c_isInR 24 (by decide) (by decide) (by decide)) lk_X9_152 dX9_cut_6 (by decide) (Nat.le_of_ble_eq_true rfl) ?_
  refine v_ifne_b (tgt := 19) dX9_cut_9 (by decide) (fun h9 => ?_) (fun h9 => absurd (inR_nI (by omega) (by decide)) h9)
  refine v_ald0 dX9_cut_19 ?_
  refine v_icN (n := 0) dX9_cut_20 (by decide) ?_
  refine v_putI dX9_cut_21 fl_X9_224 ft_9_36 (by first | rfl | exact lay_door (by omega) | exact lay_dt (by omega) | exact lay_da (by omega) | exact lay_sh (by omega) | exact lay_se (by omega)) rfl (by omega) ?_
  refine v_icN (n := 0) dX9_cut_24 (by decide) ?_
  refine v_ist2 dX9_cut_25 rfl ?_
  refine V.mono (dep' := 2) (Nat.le_of_ble_eq_true rfl) (Nat.le_refl _) (Nat.le_refl _) (fun _ _ h => h) (lp_cuB hW hlim (fun J u v hC => ?_) (fun J b hb hnb u v hJ => absurd (hgood b hb) hnb) 6 0 (by omega) _ _ _ ⟨fun x j h1 h2 h3 h4 h5 => if_neg h5, rfl, fun i hi => absurd hi (Nat.not_lt_zero _), fun c hc => absurd hc (Nat.not_lt_zero _)⟩)
  have hn6 : (ct (pPr I dc) 6) ≤ 6 := ct_le _ _
  have hWb : Wb (ct (pPr I dc) 6) J (gan (pPr I dc) 6) := fun i hi => ⟨(hC.bl i hi).1, gan_lt hi⟩
  refine v_bipush (v := nI 100) dX9_cut_158 (by decide) ?_
  refine v_ist2 dX9_cut_160 rfl ?_
  refine v_bipush (v := nI 100) dX9_cut_161 (by decide) ?_
  refine v_ist3 dX9_cut_163 rfl ?_
  refine v_ald0 dX9_cut_164 ?_
  refine v_getI dX9_cut_165 fl_X9_224 (by first | rfl | exact lay_door (by omega) | exact lay_dt (by omega) | exact lay_da (by omega) | exact lay_sh (by omega) | exact lay_se (by omega)) rfl (by omega) ?_
  refine v_e0 (congrArg Value.int (show _ = nI (ct (pPr I dc) 6) from hC.nn)) ?_
  refine v_if_le (tgt := 175) dX9_cut_168 (by decide) (fun h168 => ?_) (fun h168 => ?_)
  · refine v_icN (n := 0) dX9_cut_175 (by decide) ?_
    refine v_ist4 dX9_cut_176 rfl ?_
    have e0 : (ct (pPr I dc) 6) = 0 := Classical.byContradiction fun z => nI_nle (Nat.pos_of_ne_zero z) (by omega) h168
    refine v_ild4 dX9_cut_178 ?_
    refine v_if_eq (tgt := 276) dX9_cut_180 (by decide) (fun h180 => ?_) (fun h180 => absurd (show nI 0 = 0 from rfl) h180)
    exact lp_cuZ (p := p) (l0 := l0) hn6 hC.ag hC.nn hWb (fun z => absurd e0 z) _ _ _
  · refine v_icN (n := 1) dX9_cut_171 (by decide) ?_
    refine v_goto (tgt := 176) dX9_cut_172 (by decide) ?_
    refine v_ist4 dX9_cut_176 rfl ?_
    have e1 : 1 ≤ (ct (pPr I dc) 6) := Nat.pos_of_ne_zero fun z => h168 (by rw [z]; decide)
    obtain ⟨hc1, hc2, hc3⟩ := rgs_chk (ct (pPr I dc) 6) (by omega) e1
    cases hl : rgs (ct (pPr I dc) 6) 0 with
    | nil => rw [hl] at hc3; cases hc3
    | cons l t =>
      rw [hl] at hc1 hc2 hc3
      have e3 : l = List.replicate (ct (pPr I dc) 6) 0 := Option.some.inj hc3
      have hln : ∀ q ∈ l :: t, q.length = (ct (pPr I dc) 6) ∧ ∀ i, i < (ct (pPr I dc) 6) → lr q i < 6 := fun q hq => by
        have h1 := List.all_eq_true.mp hc2 q hq
        rw [Bool.and_eq_true] at h1
        have h2 : q.length = (ct (pPr I dc) 6) := beq_iff_eq.mp h1.1
        refine ⟨h2, fun i hi => ?_⟩
        have h3 : i < q.length := by omega
        show q.getD i 0 < 6
        rw [List.getD_eq_getElem?_getD, List.getElem?_eq_getElem h3]
        exact of_decide_eq_true (List.all_eq_true.mp h1.2 _ (List.getElem_mem h3))
      refine lp_cuM (wk := gan (pPr I dc) 6) (wo := woF I dc) hn6 e1 hlim t l none _ _ _ _ _ _ hc1 (fun q hq => hln q (List.mem_cons_of_mem _ hq)) ⟨hC.ag, hC.nn, hWb, fun b hb => ⟨(hC.wo b hb).1, Nat.le_trans (woF_le I dc b) hW.1⟩, fun i hi => ⟨?_, ?_⟩, hln l List.mem_cons_self⟩ ⟨rfl, rfl⟩ (fun K f g l9 u v x hK hS2 => ?_)
      · rw [(hC.bl i hi).2, e3]
        show nI 0 = nI ((List.replicate _ 0).getD i 0)
        rw [List.getD_eq_getElem?_getD, List.getElem?_replicate, if_pos hi]
        rfl
      · have := (hln l List.mem_cons_self).2 i hi; omega
      · rw [← hl] at hS2
        have hS3 := hS (by omega)
        unfold bstM at hS3
        rw [hS3] at hS2
        exact lp_cuZ hn6 hK.ag hK.nn hK.bl (fun _ => ⟨hS2.1, hS2.2.2.2.2⟩) _ _ _
