/-! ===== cut ===== -/
section WU
variable {G : GG} {dc : Nat} {I : Nat → Nat → Int32} {L : Nat → Nat → Int64} {C M C' M' : Nat → Nat → Int32} {CL ML : Nat → Nat → Int64}
theorem Iv.scr2 (h : Iv dc C M CL ML) (hC : ∀ x j, (x < 39 ∨ 78 ≤ x) ∧ ¬ (x = 8 ∨ (10 ≤ x ∧ x ≤ 14) ∨ x = 16 ∨ (18 ≤ x ∧ x ≤ 22)) → C' x j = C x j) (hM : ∀ x j, (39 ≤ x ∧ x < 78) ∧ ¬ ((65 ≤ x ∧ x ≤ 69) ∨ x = 71 ∨ x = 72 ∨ 74 ≤ x ∨ (x = 39 ∧ j = 36)) → M' x j = M x j) (hk : ∀ b, b < 6 → C' 11 b = M' 68 b) : Iv dc C' M' CL ML := by
  obtain ⟨h1, h2, h3, h4, h5, h6, h7, h8, h9, h10, h11, h12, h13⟩ := h
  exact ⟨K1.c h1 (hC _ _ (by omega)) (hM _ _ (by omega)), K2.c h2 (fun j => hC _ _ (by omega)) (fun j _ _ => hM _ _ (by omega)), K3.c h3 (fun j => hC _ _ (by omega)) (fun j => hM _ _ (by omega)), K4.c h4 (fun x j _ => hC _ _ (by omega)) (fun x j _ => hM _ _ (by omega)), K5.c h5 (fun j => hC _ _ (by omega)) (fun j => hM _ _ (by omega)), K6.c h6 (fun x j _ _ => hC _ _ (by omega)) (fun x j _ _ => rfl) (fun x j _ => hM _ _ (by omega)) (fun j => rfl), K7.c h12.1 h7 (fun x j _ => hC _ _ (by omega)) (fun x j _ _ _ _ => hM _ _ (by omega)), K8.c h8 (fun x e _ _ => hM _ _ (by omega)), K9.c h9 (hC _ _ (by omega)) (fun j => hM _ _ (by omega)), hk, K11.c h11 (fun x j _ => hC _ _ (by omega)) (fun x j _ => hM _ _ (by omega)), K12.c h12 (hC _ _ (by omega)) (hM _ _ (by omega)), K13.c h13 (fun x j _ => hC _ _ (by omega)) (fun x j _ => rfl)⟩
theorem ct_imp {p q : Nat → Bool} (h : ∀ j, p j = true → q j = true) : ∀ n, ct p n ≤ ct q n
  | 0 => Nat.le_refl _
  | n + 1 => by
    have ih := ct_imp h n
    cases hp : p n with
    | true => rw [ct_t hp, ct_t (h n hp)]; omega
    | false =>
      rw [ct_f hp]
      exact Nat.le_trans ih (ct_mono q (by omega))
theorem wU_gt (r : Nat → Nat) {i n : Nat} (h : i < n) : r i < wU r n := by
  have h1 := wU_mono r (show i + 1 ≤ n by omega)
  have h2 : r i + 1 ≤ wU r (i + 1) := by
    rw [wU]
    split
    · assumption
    · exact Nat.le_refl _
  omega
theorem gwS_ge {r wk wo : Nat → Nat} {w i : Nat} (hi : r i = w) : ∀ {n : Nat}, i < n → wo (wk i) ≤ gwS r wk wo w n
  | 0, h => absurd h (Nat.not_lt_zero _)
  | n + 1, h => by
    rw [gwS]
    by_cases e : i = n
    · rw [← e, if_pos hi]; omega
    · have := gwS_ge (wk := wk) (wo := wo) hi (show i < n by omega)
      omega
theorem fold_w {ok : List Nat → Option Nat} {n : Nat} : ∀ (ls : List (List Nat)) (s : CSt), (∀ q, s = some q → q.1 = wU (lr q.2.2) n) → ∀ q, ls.foldl (stp ok n) s = some q → q.1 = wU (lr q.2.2) n
  | [], s, h, q, hq => h q hq
  | l :: ls, s, h, q, hq => by
    rw [List.foldl_cons] at hq
    refine fold_w ls _ (fun q' hq' => ?_) q hq
    unfold stp at hq'
    cases ho : ok l with
    | none => rw [ho] at hq'; exact h q' hq'
    | some g =>
      rw [ho] at hq'
      cases s with
      | none =>
        have e := Option.some.inj hq'
        rw [← e]
      | some q0 =>
        dsimp only at hq'
        split at hq'
        · have e := Option.some.inj hq'
          rw [← e]
        · exact h q' hq'
/-- the doors' blocks and work, as the component gathers them -/
theorem Iv.cw (h : Inv dc I L) : ∀ n, n ≤ dc → (∀ b, b < 6 → gb (cwM I n 8 6) b = decide (0 < ct (mOf I (nI b)) n)) ∧ ∀ b, b < 6 → cwM I n 10 b = nI (ct (qWo I b) n)
  | 0, _ => by
    refine ⟨fun b hb => ?_, fun b hb => ?_⟩
    · show gb (fl2 (u2 I 8 6 (nI 0)) 10 6 (nI 0) 8 6) b = _
      rw [fl2_o _ _ _ _ (by decide), u2_s, gb_0]; rfl
    · show fl2 (u2 I 8 6 (nI 0)) 10 6 (nI 0) 10 b = _
      exact if_pos ⟨rfl, hb⟩
  | n + 1, hn => by
    obtain ⟨i1, i2⟩ := Iv.cw h n (by omega)
    have hD := h.k7 n (by omega)
    have l5 : tn (I 40 n) ≤ 5 := hD.b0.2.2
    have hof : ∀ b, b < 6 → (mOf I (nI b) n = decide (b = tn (I 40 n))) := fun b hb => by
      unfold mOf
      refine decide_eq_decide.mpr ⟨fun z => ?_, fun z => ?_⟩
      · rw [z, tn_nI (by omega)]
      · rw [z]; exact hD.b0.2.1
    rw [cwM, hD.b0.1]
    refine ⟨fun b hb => ?_, fun b hb => ?_⟩
    · have e : adI (cwM I n) (tn (I 40 n)) (bI (tba I n)) 8 6 = cwM I n 8 6 ||| (nI 1 <<< (nI (tn (I 40 n)) &&& 31)) := by
        unfold adI
        split
        · rw [u2_s]
        · rw [u2_a _ _ _ _ (by decide), u2_s]
      rw [e, or_set (by omega) (by omega), i1 b hb]
      by_cases q : b = tn (I 40 n)
      · rw [decide_eq_true q, Bool.or_true, ct_t (by rw [hof b hb]; exact decide_eq_true q), decide_eq_true (by omega)]
      · rw [decide_eq_false q, Bool.or_false, ct_f (by rw [hof b hb]; exact decide_eq_false q)]
    · have e : adI (cwM I n) (tn (I 40 n)) (bI (tba I n)) 10 b = if b = tn (I 40 n) ∧ tba I n then cwM I n 10 b + nI 1 else cwM I n 10 b := by
        unfold adI
        by_cases ht : tba I n
        · rw [if_neg (by rw [bI_t ht]; decide)]
          by_cases q : b = tn (I 40 n)
          · rw [if_pos ⟨q, ht⟩, ← q, u2_s, u2_a _ _ _ _ (by decide)]
          · rw [if_neg (fun z => q z.1), u2_k _ _ _ _ q, u2_a _ _ _ _ (by decide)]
        · rw [if_pos (show bI (tba I n) = 0 from bI_f ht), if_neg (fun z => ht z.2), u2_a _ _ _ _ (by decide)]
      rw [e, i2 b hb]
      by_cases q : b = tn (I 40 n) ∧ tba I n
      · rw [if_pos q, ct_t (by unfold qWo pMba; rw [hof b hb, decide_eq_true q.1, decide_eq_true (hD.ask.mp q.2)]; rfl)]
        exact nI_add _ 1
      · have q2 : qWo I b n = false := by
          unfold qWo pMba
          rw [hof b hb]
          by_cases q1 : b = tn (I 40 n)
          · rw [decide_eq_false (fun z => q ⟨q1, hD.ask.mpr z⟩), Bool.and_false]
          · rw [decide_eq_false q1, Bool.false_and]
        rw [if_neg q, ct_f q2]
theorem rgs_rng : ∀ n, n < 7 → List.range n ∈ rgs n 0 := by decide +kernel
theorem wU_rng : ∀ n, n < 7 → wU (lr (List.range n)) n = n := by decide +kernel
theorem gwS_rng {wk wo : Nat → Nat} {n w : Nat} : ∀ i, i ≤ n → gwS (lr (List.range n)) wk wo w i = if w < i then wo (wk w) else 0
  | 0, _ => by rw [if_neg (by omega)]; rfl
  | i + 1, hi => by
    have e : lr (List.range n) i = i := by
      show (List.range n).getD i 0 = i
      rw [List.getD_eq_getElem?_getD, List.getElem?_range (by omega)]
      rfl
    rw [gwS, gwS_rng i (by omega), e]
    by_cases h1 : i = w
    · rw [if_pos h1, if_neg (by omega), if_pos (by omega), h1]; omega
    · rw [if_neg h1, Nat.add_zero]
      by_cases h2 : w < i
      · rw [if_pos h2, if_pos (by omega)]
      · rw [if_neg h2, if_neg (by omega)]
theorem op_cut (h : Inv dc I L) (v : Int32) : OpI G yX8_cut cX8_cut 3 12 0 0 yX9_cut cX9_cut 8 3 [.int v] dc I L := by
  have hdc := h.k12.1
  by_cases hv : inR v 25
  · have hd0 : dCut v = 0 := by
      unfold dCut
      rw [if_neg hv.1, if_pos (Int32.not_lt.mp (fun z => hv.2 ((nI_ltle (by decide)).mp z)))]
    obtain ⟨lv, ev⟩ := tn_lt rfl (by decide) hv
    generalize hlim : tn v = lim at *
    have hX := c_X8_cut (G := G) (L := L) (v := v) h.wx
    rw [hd0, oR0, oM0] at hX
    refine ⟨_, hX, fun r μ1 hp => ?_⟩
    obtain ⟨rfl, rfl⟩ := hp
    refine ⟨cuR dc I v, dc, cuI dc I v, L, rfl, rfl, ?_⟩
    obtain ⟨w1, w2⟩ := Iv.cw h dc (Nat.le_refl _)
    -- the search
    generalize hK0 : fl2 (fl2 (u2 (u2 (u2 (cwM I dc) 8 7 v) 8 8 (nI 7)) 8 9 (nI 0)) 13 6 (-1)) 12 6 (nI 0) = K0
    have k0o : ∀ x j, x ≠ 8 → x ≠ 10 → x ≠ 12 → x ≠ 13 → K0 x j = I x j := fun x j q1 q2 q3 q4 => by
      rw [← hK0, fl2_o _ _ _ _ q3, fl2_o _ _ _ _ q4, u2_a _ _ _ _ q1, u2_a _ _ _ _ q1, u2_a _ _ _ _ q1]
      exact cw_o I j q1 q2 dc
    have hB : HLB K0 I (pPr I dc) (woF I dc) lim := by
      refine ⟨?_, by omega, fun b hb => ?_, fun b hb => ⟨?_, ?_⟩, fun a ha b hb => ?_⟩
      · rw [← hK0, fl2_o _ _ _ _ (by decide), fl2_o _ _ _ _ (by decide), u2_k _ _ _ _ (by decide), u2_k _ _ _ _ (by decide), u2_s]; exact ev
      · rw [← hK0, fl2_o _ _ _ _ (by decide), fl2_o _ _ _ _ (by decide), u2_k _ _ _ _ (by decide), u2_k _ _ _ _ (by decide), u2_k _ _ _ _ (by decide)]; exact w1 b hb
      · rw [← hK0, fl2_o _ _ _ _ (by decide), fl2_o _ _ _ _ (by decide), u2_a _ _ _ _ (by decide), u2_a _ _ _ _ (by decide), u2_a _ _ _ _ (by decide)]; exact w2 b hb
      · exact Nat.le_trans (ct_le _ _) hdc
      · rw [k0o 9 a (by decide) (by decide) (by decide) (by decide)]; exact h.k5 a ha b hb
    have hP0 : PLI K0 (pPr I dc) 0 K0 [] := by
      refine ⟨fun x j _ _ _ _ => rfl, fun w hw c => ⟨fun z => ?_, fun z => absurd z.1 (Nat.not_lt_zero _)⟩, fun c hc => ⟨fun _ => ?_, fun z => absurd z (Nat.not_lt_zero _)⟩, rfl⟩
      · rw [← hK0, show fl2 (fl2 (u2 (u2 (u2 (cwM I dc) 8 7 v) 8 8 (nI 7)) 8 9 (nI 0)) 13 6 (-1)) 12 6 (nI 0) 12 w = nI 0 from if_pos ⟨rfl, hw⟩, gb_0] at z
        cases z
      · rw [← hK0, fl2_o _ _ _ _ (by decide)]; exact if_pos ⟨rfl, hc⟩
    have hS0 : BLS (pPr I dc) none K0 := by
      refine ⟨?_, ?_⟩
      · rw [← hK0, fl2_o _ _ _ _ (by decide), fl2_o _ _ _ _ (by decide), u2_k _ _ _ _ (by decide), u2_s]
      · rw [← hK0, fl2_o _ _ _ _ (by decide), fl2_o _ _ _ _ (by decide), u2_s]
    have hn6 : ct (pPr I dc) 6 ≤ 6 := ct_le _ _
    have key : PLI K0 (pPr I dc) 0 (plI 6 K0 0) [] ∧ BLS (pPr I dc) ((rgs (ct (pPr I dc) 6) 0).foldl (stp (okV I (gan (pPr I dc) 6) (woF I dc) (ct (pPr I dc) 6) lim) (ct (pPr I dc) 6)) none) (plI 6 K0 0) := by
      have q := pl_ok hB 6 (Nat.le_refl 6) K0 [] none hP0 hS0 (Nat.le_refl _)
      have e : (rgs (ct (pPr I dc) 6 - ct (pPr I dc) (6 - 6)) (wU (lr []) (ct (pPr I dc) (6 - 6)))).map ([] ++ ·) = rgs (ct (pPr I dc) 6) 0 := by
        show (rgs (ct (pPr I dc) 6 - 0) 0).map (fun t => t) = _
        rw [Nat.sub_zero]; exact List.map_id' _
      rw [e] at q
      exact q
    have hptJ : ptJ (cwM I dc) v = plI 6 K0 0 := by unfold ptJ; rw [hK0]
    generalize hJ1 : plI 6 K0 0 = J1 at *
    obtain ⟨hPL, hBS⟩ := key
    have j1o : ∀ x j, x ≠ 8 → x ≠ 10 → x ≠ 12 → x ≠ 13 → x ≠ 14 → J1 x j = I x j := fun x j q1 q2 q3 q4 q5 => (hPL.1 x j q3 q4 q5 (fun z => q1 z.1)).trans (k0o x j q1 q2 q3 q4)
    -- what the model gathers from a memory that agrees
    have hag : ∀ I1 : Nat → Nat → Int32, (∀ x j, 39 ≤ x → x < 78 → I1 x j = I x j) → pPr I1 dc = pPr I dc ∧ woF I1 dc = woF I dc ∧ bstM dc I1 lim = bstM dc I lim := fun I1 e => by
      have e1 : ∀ b, mOf I1 b = mOf I b := fun b => funext fun d => by unfold mOf; rw [e 40 d (by decide) (by decide)]
      have e2 : pPr I1 dc = pPr I dc := funext fun b => by unfold pPr; rw [e1]
      have e3 : woF I1 dc = woF I dc := funext fun b => by
        unfold woF
        refine congrArg (fun f => ct f dc) (funext fun d => ?_)
        unfold qWo pMba mba
        rw [e1, e 45 d (by decide) (by decide), e 52 d (by decide) (by decide)]
      refine ⟨e2, e3, ?_⟩
      unfold bstM
      rw [e2, e3]
      have e4 : ∀ wk wo n, okV I1 wk wo n lim = okV I wk wo n lim := fun wk wo n => funext fun l => by
        have q := gAll_c (I := I) (J := I1) (r := lr l) (wk := wk) (wo := wo) (n := n) (lim := lim) (p := wU (lr l) n) (fun j => e 54 j (by decide) (by decide))
        unfold okV
        by_cases z : gAll I (lr l) wk wo n lim (wU (lr l) n)
        · rw [if_pos z, if_pos (q.mpr z)]
        · rw [if_neg z, if_neg (fun y => z (q.mp y))]
      rw [e4]
    by_cases hbad : ∃ b, b < 6 ∧ ¬ woF I dc b ≤ lim
    · obtain ⟨b, hb, hb2⟩ := hbad
      have hpb : pPr I dc b = true := by
        unfold pPr
        have := ct_imp (p := qWo I b) (q := mOf I (nI b)) (fun j hj => by unfold qWo at hj; exact (Bool.and_eq_true _ _ ▸ hj).1) dc
        exact decide_eq_true (by unfold woF at hb2; omega)
      rw [fold_none _ (fun l _ => by
        unfold okV
        refine if_neg (fun z => hb2 ?_)
        have lt := ct_in6 hpb hb
        have q1 := (z _ (wU_gt (lr l) lt)).1
        have q2 := gwS_ge (r := lr l) (wk := gan (pPr I dc) 6) (wo := woF I dc) rfl lt
        rw [gan_at hpb hb] at q2
        omega)] at hBS
      have h88 : ¬ ptJ (cwM I dc) v 8 8 ≤ nI 6 := by rw [hptJ, hBS.1]; decide
      have er : ptR (cwM I dc) v = -1 := by unfold ptR; exact if_neg h88
      have ei : ptI (cwM I dc) v = J1 := by unfold ptI; rw [if_neg h88, hptJ]
      have eR : cuR dc I v = -6 := by unfold cuR; exact if_pos er
      have eI : cuI dc I v = rfs J1 6 := by unfold cuI; rw [if_pos er, ei]
      rw [eR, eI]
      have hC1 : ∀ x j, 39 ≤ x → x < 78 → rfs J1 6 x j = I x j := fun x j q1 q2 => (u2_a _ _ _ _ (by omega)).trans (j1o x j (by omega) (by omega) (by omega) (by omega) (by omega))
      obtain ⟨-, a2, -⟩ := hag (rfs J1 6) hC1
      have hMc := c_cutR (G := G) (L := L) (Wm_c h.wm (J := rfs J1 6) (fun x j _ => hC1 x j (by omega) (by omega))) ev (by omega) ⟨b, hb, by rw [a2]; exact hb2⟩
      refine hMc.mono (fun r2 μ2 q => ?_)
      obtain ⟨J2, rfl, rfl, g1, g2, g3⟩ := q
      refine ⟨rfl, dc, J2, L, rfl, (Inv_ref (k := 6) h).scr2 (fun x j hx => ?_) (fun x j hx => ?_) (fun c hc => ?_)⟩
      · rw [g1 x j (by omega) (by omega) (by omega) (by omega) (by omega) (by omega) (by omega)]
        unfold rms
        rw [u2_a _ _ _ _ (by omega)]
        unfold rfs u2
        rw [j1o x j (by omega) (by omega) (by omega) (by omega) (by omega), j1o 3 6 (by decide) (by decide) (by decide) (by decide) (by decide)]
      · by_cases e : x = 59 ∧ j = 6
        · rw [e.1, e.2, g2]
          unfold rms
          rw [u2_s, hC1 59 6 (by decide) (by decide)]
          unfold rfs
          rw [u2_a _ _ _ _ (by decide)]
        · rw [g1 x j (by omega) (by omega) (by omega) (by omega) (by omega) e (by omega), hC1 x j (by omega) (by omega)]
          unfold rms
          rw [show ∀ (f : Nat → Nat → Int32) u, u2 f 59 6 u x j = f x j from fun f u => if_neg e]
          unfold rfs
          rw [u2_a _ _ _ _ (by omega)]
      · rw [g3 c hc, hC1 68 c (by decide) (by decide), ← h.k10 c hc, g1 11 c (by decide) (by decide) (by decide) (by decide) (by decide) (by omega) (by omega)]
        unfold rfs
        rw [u2_a _ _ _ _ (by decide)]
        exact j1o 11 c (by decide) (by decide) (by decide) (by decide) (by decide)
    · have hgood : ∀ b, b < 6 → woF I dc b ≤ lim := fun b hb => Classical.byContradiction fun z => hbad ⟨b, hb, z⟩
      have hok : ∃ g, okV I (gan (pPr I dc) 6) (woF I dc) (ct (pPr I dc) 6) lim (List.range (ct (pPr I dc) 6)) = some g := by
        unfold okV
        rw [wU_rng _ (by omega)]
        refine ⟨_, if_pos (fun w hw => ⟨?_, cP_iff.mpr (fun T h1 h2 j hj => ?_)⟩)⟩
        · rw [gwS_rng _ (Nat.le_refl _), if_pos hw]
          exact hgood _ (gan_lt hw)
        · refine h1 j hj (fun i hi hA => ?_)
          have q1 : ∀ i, i < ct (pPr I dc) 6 → lr (List.range (ct (pPr I dc) 6)) i = i := fun i hi => by
            show (List.range (ct (pPr I dc) 6)).getD i 0 = i
            rw [List.getD_eq_getElem?_getD, List.getElem?_range hi]
            rfl
          have a1 := hA.2
          have a2 := hj.2
          rw [q1 i hA.1] at a1
          rw [q1 j hj.1] at a2
          omega
      obtain ⟨g0, hg0⟩ := hok
      obtain ⟨q, hq⟩ := fold_ex hg0 (rgs (ct (pPr I dc) 6) 0) none (rgs_rng _ (by omega))
      have hqw := fold_w (rgs (ct (pPr I dc) 6) 0) none (fun q z => by cases z) q hq
      rw [hq] at hBS
      obtain ⟨s1, s2, s3, s4, s5⟩ := hBS
      have h88 : ptJ (cwM I dc) v 8 8 ≤ nI 6 := by rw [hptJ, s1]; exact nI_le s3 (by decide)
      have er : ptR (cwM I dc) v = nI q.1 := by unfold ptR; rw [if_pos h88, hptJ]; exact s1
      have er2 : ¬ ptR (cwM I dc) v = -1 := by rw [er]; exact nI_m1 (by omega)
      have ei : ptI (cwM I dc) v = cp2 J1 14 11 0 0 6 := by unfold ptI; rw [if_pos h88, hptJ]
      have eR : cuR dc I v = nI q.1 := by unfold cuR; rw [if_neg er2, er]
      have eI : cuI dc I v = cp2 J1 14 11 0 0 6 := by unfold cuI; rw [if_neg er2, ei]
      rw [eR, eI]
      have hC1 : ∀ x j, 39 ≤ x → x < 78 → cp2 J1 14 11 0 0 6 x j = I x j := fun x j q1 q2 => (cp2_o _ _ (by omega)).trans (j1o x j (by omega) (by omega) (by omega) (by omega) (by omega))
      obtain ⟨a1, a2, a3⟩ := hag (cp2 J1 14 11 0 0 6) hC1
      have hMc := c_cutY (G := G) (L := L) (p := q.1) (g := q.2.1) (l0 := q.2.2) (Wm_c h.wm (J := cp2 J1 14 11 0 0 6) (fun x j _ => hC1 x j (by omega) (by omega))) ev (by omega) (by rw [a2]; exact hgood) (fun _ => a3.trans hq)
      rw [a1] at hMc
      have e0 : (if ct (pPr I dc) 6 = 0 then nI 0 else nI q.1) = nI q.1 := by
        by_cases z : ct (pPr I dc) 6 = 0
        · rw [if_pos z, hqw, z]; rfl
        · rw [if_neg z]
      rw [e0] at hMc
      refine hMc.mono (fun r2 μ2 hq2 => ?_)
      obtain ⟨J2, rfl, rfl, g1, g2, g3⟩ := hq2
      refine ⟨rfl, dc, J2, L, rfl, h.scr2 (fun x j hx => ?_) (fun x j hx => ?_) (fun c hc => ?_)⟩
      · rw [g1 x j (by omega) (by omega) (by omega) (by omega) (by omega) (by omega) (by omega), cp2_o _ _ (by omega)]
        exact j1o x j (by omega) (by omega) (by omega) (by omega) (by omega)
      · by_cases e : x = 59 ∧ j = 6
        · rw [e.1, e.2, g2]; exact hC1 59 6 (by decide) (by decide)
        · rw [g1 x j (by omega) (by omega) (by omega) (by omega) (by omega) e (by omega)]; exact hC1 x j (by omega) (by omega)
      · rw [g3 c hc, g1 11 c (by decide) (by decide) (by decide) (by decide) (by decide) (by omega) (by omega)]
        have e2 : cp2 J1 14 11 0 0 6 11 c = J1 14 c := by
          unfold cp2
          rw [if_pos ⟨rfl, by omega, by omega⟩]
          congr 1
          omega
        rw [e2]
        exact s5 c hc
  · have hd6 : dCut v = 6 := by
      unfold dCut
      by_cases z : v < 0
      · rw [if_pos z]
      · rw [if_neg z, if_neg (fun y => hv ⟨z, fun w => absurd ((nI_ltle (by decide)).mpr w) (Int32.not_lt.mpr y)⟩)]
    have hX := c_X8_cut (G := G) (L := L) (v := v) h.wx
    rw [hd6, oRk (by decide), oMk (by decide)] at hX
    refine ⟨_, hX, fun r μ1 hp => ?_⟩
    obtain ⟨rfl, rfl⟩ := hp
    refine ⟨-(nI 6), dc, rfs I 6, L, rfl, rfl, (c_cutN hv).mono (fun r2 μ2 q => ?_)⟩
    obtain ⟨rfl, rfl⟩ := q
    exact ⟨rfl, dc, _, L, rfl, Inv_ref h⟩
end WU
