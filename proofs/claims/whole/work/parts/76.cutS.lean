/-! ===== cut: the component's search ===== -/
section SC
variable {K0 J M : Nat → Nat → Int32} {P : Nat → Bool} {wo : Nat → Nat} {lim b w : Nat} {l : List Nat} {s : CSt}
/-- b blocks are placed as l says -/
def PLI (K0 : Nat → Nat → Int32) (P : Nat → Bool) (b : Nat) (J : Nat → Nat → Int32) (l : List Nat) : Prop := (∀ x j, x ≠ 12 → x ≠ 13 → x ≠ 14 → ¬ (x = 8 ∧ (j = 8 ∨ j = 9)) → J x j = K0 x j) ∧ (∀ w, w < 6 → ∀ c, gb (J 12 w) c = true ↔ (c < b ∧ P c = true ∧ lr l (ct P c) = w)) ∧ (∀ c, c < 6 → (P c = false → J 13 c = -1) ∧ (c < b → P c = true → J 13 c = nI (lr l (ct P c)))) ∧ l.length = ct P b
/-- the best so far -/
def BLS (P : Nat → Bool) (s : CSt) (J : Nat → Nat → Int32) : Prop := match s with
  | none => J 8 8 = nI 7 ∧ J 8 9 = nI 0
  | some q => J 8 8 = nI q.1 ∧ J 8 9 = nI q.2.1 ∧ q.1 ≤ 6 ∧ q.2.1 ≤ 144 ∧ ∀ c, c < 6 → J 14 c = if P c = true then nI (lr q.2.2 (ct P c)) else -1
def HLB (K0 M : Nat → Nat → Int32) (P : Nat → Bool) (wo : Nat → Nat) (lim : Nat) : Prop := K0 8 7 = nI lim ∧ lim ≤ 24 ∧ (∀ b, b < 6 → gb (K0 8 6) b = P b) ∧ (∀ b, b < 6 → K0 10 b = nI (wo b) ∧ wo b ≤ 24) ∧ ∀ a, a < 6 → ∀ b, b < 6 → gb (K0 9 a) b = decide (¬ M 54 (6 * a + b) = 0)
theorem BLS.c {J' : Nat → Nat → Int32} (h : BLS P s J) (e8 : J' 8 8 = J 8 8) (e9 : J' 8 9 = J 8 9) (e14 : ∀ c, J' 14 c = J 14 c) : BLS P s J' := by
  cases s with
  | none => exact ⟨by rw [e8]; exact h.1, by rw [e9]; exact h.2⟩
  | some q => exact ⟨by rw [e8]; exact h.1, by rw [e9]; exact h.2.1, h.2.2.1, h.2.2.2.1, fun c hc => by rw [e14]; exact h.2.2.2.2 c hc⟩
theorem PLI_ab (hb : P b = false) : PLI K0 P b J l ↔ PLI K0 P (b + 1) J l := by
  have e : ∀ c, P c = true → (c < b ↔ c < b + 1) := fun c hc => by
    have : c ≠ b := fun z => by rw [z, hb] at hc; cases hc
    omega
  unfold PLI
  rw [ct_f hb]
  constructor
  · intro ⟨h1, h2, h3, h4⟩
    exact ⟨h1, fun w hw c => ⟨fun z => by have z := (h2 w hw c).mp z; exact ⟨(e c z.2.1).mp z.1, z.2⟩, fun z => (h2 w hw c).mpr ⟨(e c z.2.1).mpr z.1, z.2⟩⟩, fun c hc => ⟨(h3 c hc).1, fun z1 z2 => (h3 c hc).2 ((e c z2).mpr z1) z2⟩, h4⟩
  · intro ⟨h1, h2, h3, h4⟩
    exact ⟨h1, fun w hw c => ⟨fun z => by have z := (h2 w hw c).mp z; exact ⟨(e c z.2.1).mpr z.1, z.2⟩, fun z => (h2 w hw c).mpr ⟨(e c z.2.1).mp z.1, z.2⟩⟩, fun c hc => ⟨(h3 c hc).1, fun z1 z2 => (h3 c hc).2 ((e c z2).mp z1) z2⟩, h4⟩
theorem lr_in (hl : l.length = ct P b) {c : Nat} (hc : P c = true) (h : c < b) : lr (l ++ [w]) (ct P c) = lr l (ct P c) := lr_app1 (by rw [hl]; exact ct_in6 hc h)
theorem lr_at (hl : l.length = ct P b) : lr (l ++ [w]) (ct P b) = w := by rw [← hl]; exact lr_app2
theorem PLI_stm (h : PLI K0 P b J l) (hb : P b = true) (hb6 : b < 6) : PLI K0 P (b + 1) (stm J b w) (l ++ [w]) := by
  obtain ⟨h1, h2, h3, h4⟩ := h
  refine ⟨fun x j q1 q2 q3 q4 => ?_, fun w' hw' c => ?_, fun c hc => ?_, by rw [List.length_append, ct_t hb, h4]; rfl⟩
  · unfold stm
    rw [u2_a _ _ _ _ q2, u2_a _ _ _ _ q1]; exact h1 x j q1 q2 q3 q4
  · have e0 : stm J b w 12 w' = if w' = w then J 12 w ||| (nI 1 <<< (nI b &&& 31)) else J 12 w' := by
      unfold stm
      rw [u2_a _ _ _ _ (by decide)]
      by_cases e : w' = w
      · rw [e, u2_s, if_pos rfl]
      · rw [u2_k _ _ _ _ e, if_neg e]
    rw [e0]
    by_cases e : w' = w
    · rw [if_pos e]
      subst e
      by_cases hc : c < 32
      · rw [or_set (by omega) hc, Bool.or_eq_true, decide_eq_true_iff, h2 w' hw' c]
        constructor
        · intro z
          rcases z with z | z
          · exact ⟨by omega, z.2.1, by rw [lr_in h4 z.2.1 z.1]; exact z.2.2⟩
          · rw [z]; exact ⟨by omega, hb, lr_at h4⟩
        · intro z
          by_cases q : c = b
          · exact Or.inr q
          · exact Or.inl ⟨by omega, z.2.1, by rw [← lr_in (w := w') h4 z.2.1 (show c < b by omega)]; exact z.2.2⟩
      · exact ⟨fun z => absurd (gb_32 z) hc, fun z => absurd z.1 (by omega)⟩
    · rw [if_neg e, h2 w' hw' c]
      constructor
      · intro z
        exact ⟨by omega, z.2.1, by rw [lr_in h4 z.2.1 z.1]; exact z.2.2⟩
      · intro z
        by_cases q : c = b
        · exact absurd (z.2.2.symm.trans (by rw [q]; exact lr_at h4)) e
        · exact ⟨by omega, z.2.1, by rw [← lr_in (w := w) h4 z.2.1 (show c < b by omega)]; exact z.2.2⟩
  · have e0 : c ≠ b → stm J b w 13 c = J 13 c := fun e => by
      unfold stm
      rw [u2_k _ _ _ _ e, u2_a _ _ _ _ (by decide)]
    refine ⟨fun z => ?_, fun z1 z2 => ?_⟩
    · rw [e0 (fun q => by rw [q, hb] at z; cases z)]; exact (h3 c hc).1 z
    · by_cases q : c = b
      · rw [q, lr_at h4]; unfold stm; rw [u2_s]
      · rw [e0 q, lr_in h4 z2 (by omega)]; exact (h3 c hc).2 (by omega) z2
theorem PLI_clm (h : PLI K0 P (b + 1) J (l ++ [w])) (hb : P b = true) (hb6 : b < 6) (hw : w < 6) (h4 : l.length = ct P b) : PLI K0 P b (clm J b w) l := by
  obtain ⟨h1, h2, h3, -⟩ := h
  refine ⟨fun x j q1 q2 q3 q4 => ?_, fun w' hw' c => ?_, fun c hc => ?_, h4⟩
  · unfold clm
    rw [u2_a _ _ _ _ q1]; exact h1 x j q1 q2 q3 q4
  · have e0 : clm J b w 12 w' = if w' = w then J 12 w &&& ((nI 1 <<< (nI b &&& 31)) ^^^ -1) else J 12 w' := by
      unfold clm
      by_cases e : w' = w
      · rw [e, u2_s, if_pos rfl]
      · rw [u2_k _ _ _ _ e, if_neg e]
    rw [e0]
    by_cases e : w' = w
    · rw [if_pos e]
      subst e
      by_cases hc : c < 32
      · rw [gb_and, gb_n1 b (by omega) c hc, Bool.and_eq_true, decide_eq_true_iff, h2 w' hw' c]
        constructor
        · intro ⟨z, q⟩
          have q2 : c < b := by have := z.1; omega
          exact ⟨q2, z.2.1, by rw [← lr_in (w := w') h4 z.2.1 q2]; exact z.2.2⟩
        · intro z
          exact ⟨⟨by omega, z.2.1, by rw [lr_in h4 z.2.1 z.1]; exact z.2.2⟩, by omega⟩
      · exact ⟨fun z => absurd (gb_32 z) hc, fun z => absurd z.1 (by omega)⟩
    · rw [if_neg e, h2 w' hw' c]
      constructor
      · intro z
        by_cases q : c = b
        · exact absurd (z.2.2.symm.trans (by rw [q]; exact lr_at h4)) e
        · have q2 : c < b := by have := z.1; omega
          exact ⟨q2, z.2.1, by rw [← lr_in (w := w) h4 z.2.1 q2]; exact z.2.2⟩
      · intro z
        exact ⟨by omega, z.2.1, by rw [lr_in h4 z.2.1 z.1]; exact z.2.2⟩
  · have e0 : clm J b w 13 c = J 13 c := by
      unfold clm
      rw [u2_a _ _ _ _ (by decide)]
    rw [e0]
    exact ⟨(h3 c hc).1, fun z1 z2 => by rw [(h3 c hc).2 (by omega) z2, lr_in h4 z2 z1]⟩
/-- one parting is judged -/
theorem judge_ok (hB : HLB K0 M P wo lim) (hP : PLI K0 P 6 J l) (hS : BLS P s J) (hk6 : wU (lr l) (ct P 6) ≤ 6) : PLI K0 P 6 (jdI J (wU (lr l) (ct P 6))) l ∧ BLS P (stp (okV M (gan P 6) wo (ct P 6) lim) (ct P 6) s l) (jdI J (wU (lr l) (ct P 6))) := by
  obtain ⟨b7, blim, b6', b10, b9⟩ := hB
  have g144 : ∀ w, gwS (lr l) (gan P 6) wo w (ct P 6) ≤ 144 := fun w => by
    have h1 := gwS_le (r := lr l) (wk := gan P 6) (wo := wo) (w := w) (i := ct P 6) (fun j hj => (b10 _ (gan_lt hj)).2)
    have h2 := ct_le P 6
    omega
  have h12 := hP.2.1
  have hmx : mxW J (wU (lr l) (ct P 6)) = nI (gMx (lr l) (gan P 6) wo (ct P 6) (wU (lr l) (ct P 6))) := mxW_g h12 (fun b hb => by rw [hP.1 10 b (by decide) (by decide) (by decide) (by omega)]; exact (b10 b hb).1) g144 _ hk6
  have gm := gMx_le g144 (wU (lr l) (ct P 6))
  have h87 : J 8 7 = nI lim := by rw [hP.1 8 7 (by decide) (by decide) (by decide) (by omega)]; exact b7
  have htog : ∀ w, w < 6 → (tog J (J 12 w) ↔ hgP M (gan P 6) (ct P 6) (inW (lr l) (ct P 6) w)) := fun w hw => by
    rw [tog_iff (fun b hb => ((h12 w hw b).mp hb).1), hgB_P (M := M) (h12 w hw) (fun a ha b hb => by rw [hP.1 9 a (by decide) (by decide) (by decide) (by omega)]; exact b9 a ha b hb)]
    exact cP_iff.symm
  have hall : (¬ J 8 7 < mxW J (wU (lr l) (ct P 6)) ∧ fzf (pNT J) 0 (wU (lr l) (ct P 6)) = wU (lr l) (ct P 6)) ↔ gAll M (lr l) (gan P 6) wo (ct P 6) lim (wU (lr l) (ct P 6)) := by
    rw [h87, hmx, nI_ltI (by omega) (by omega), Nat.not_lt, gMx_iff]
    constructor
    · intro ⟨z1, z2⟩ w hw
      refine ⟨z1 w hw, (htog w (by omega)).mp ?_⟩
      have z3 := fzf_end (p := pNT J) (wU (lr l) (ct P 6)) 0 (by omega) w (by omega) (by omega)
      exact Classical.not_not.mp (of_decide_eq_false z3)
    · intro z
      refine ⟨fun w hw => (z w hw).1, ?_⟩
      have := fzf_at (p := pNT J) (i := wU (lr l) (ct P 6)) (k := 0) (t := wU (lr l) (ct P 6)) (by omega) (fun j hj => decide_eq_false (fun y => y ((htog j (by omega)).mpr (z j hj).2)))
      rw [this, fzf]
  generalize hk : wU (lr l) (ct P 6) = k at *
  by_cases hA : gAll M (lr l) (gan P 6) wo (ct P 6) lim k
  · have hok : okV M (gan P 6) wo (ct P 6) lim l = some (gMx (lr l) (gan P 6) wo (ct P 6) k) := by
      unfold okV
      rw [hk]
      exact if_pos hA
    have hyes : btr J k → PLI K0 P 6 (jdI J k) l ∧ BLS P (some (k, gMx (lr l) (gan P 6) wo (ct P 6) k, l)) (jdI J k) := fun hb => by
      have e : jdI J k = cp2 (u2 (u2 J 8 8 (nI k)) 8 9 (mxW J k)) 13 14 0 0 6 := if_pos ⟨(hall.mpr hA).1, hb, (hall.mpr hA).2⟩
      rw [e]
      refine ⟨⟨fun x j q1 q2 q3 q4 => ?_, fun w hw c => ?_, fun c hc => ?_, hP.2.2.2⟩, ?_, ?_, hk6, gm, fun c hc => ?_⟩
      · rw [cp2_o _ _ q3]
        unfold u2
        rw [if_neg (by omega), if_neg (by omega)]; exact hP.1 x j q1 q2 q3 q4
      · rw [cp2_o _ _ (by decide), u2_a _ _ _ _ (by decide), u2_a _ _ _ _ (by decide)]; exact h12 w hw c
      · rw [cp2_o _ _ (by decide), u2_a _ _ _ _ (by decide), u2_a _ _ _ _ (by decide)]; exact hP.2.2.1 c hc
      · rw [cp2_o _ _ (by decide), u2_k _ _ _ _ (by decide), u2_s]
      · rw [cp2_o _ _ (by decide), u2_s, hmx]
      · have e2 : cp2 (u2 (u2 J 8 8 (nI k)) 8 9 (mxW J k)) 13 14 0 0 6 14 c = J 13 c := by
          unfold cp2
          rw [if_pos ⟨rfl, by omega, by omega⟩, u2_a _ _ _ _ (by decide), u2_a _ _ _ _ (by decide)]
          congr 1
          omega
        rw [e2]
        cases hp : P c with
        | true => rw [if_pos rfl]; exact (hP.2.2.1 c hc).2 hc hp
        | false => rw [if_neg (by decide)]; exact (hP.2.2.1 c hc).1 hp
    have hno : ¬ btr J k → jdI J k = J := fun hb => if_neg (fun z => hb z.2.1)
    cases s with
    | none =>
      have e : stp (okV M (gan P 6) wo (ct P 6) lim) (ct P 6) none l = some (k, gMx (lr l) (gan P 6) wo (ct P 6) k, l) := by
        unfold stp
        rw [hok, hk]
      rw [e]
      exact hyes (Or.inl (by rw [hS.1]; exact nI_lt (by omega) (by decide)))
    | some q =>
      obtain ⟨s1, s2, s3, s4, s5⟩ := hS
      have hbt : btr J k ↔ (k < q.1 ∨ (k = q.1 ∧ gMx (lr l) (gan P 6) wo (ct P 6) k < q.2.1)) := by
        show (nI k < J 8 8 ∨ (nI k = J 8 8 ∧ ¬ J 8 9 ≤ mxW J k)) ↔ _
        rw [s1, s2, hmx, nI_ltI (by omega) (by omega), nI_eq (by omega) (by omega), nI_leI (by omega) (by omega), Nat.not_le]
      by_cases hb : btr J k
      · have e : stp (okV M (gan P 6) wo (ct P 6) lim) (ct P 6) (some q) l = some (k, gMx (lr l) (gan P 6) wo (ct P 6) k, l) := by
          unfold stp
          rw [hok, hk]
          exact if_pos (hbt.mp hb)
        rw [e]
        exact hyes hb
      · have e : stp (okV M (gan P 6) wo (ct P 6) lim) (ct P 6) (some q) l = some q := by
          unfold stp
          rw [hok, hk]
          exact if_neg (fun z => hb (hbt.mpr z))
        rw [e, hno hb]
        exact ⟨hP, s1, s2, s3, s4, s5⟩
  · have hok : okV M (gan P 6) wo (ct P 6) lim l = none := by
      unfold okV
      rw [hk]
      exact if_neg hA
    have e : stp (okV M (gan P 6) wo (ct P 6) lim) (ct P 6) s l = s := by
      unfold stp
      rw [hok]
    have e2 : jdI J k = J := if_neg (fun z => hA (hall.mp ⟨z.1, z.2.2⟩))
    rw [e, e2]
    exact ⟨hP, hS⟩
/-- partings with more walks than the best are passed over -/
theorem sk_ok {ok : List Nat → Option Nat} (hS : BLS P s J) (hl : l.length = ct P b) (hb : b ≤ 6) (hk6 : wU (lr l) (ct P b) ≤ 6) (hle : ¬ nI (wU (lr l) (ct P b)) ≤ J 8 8) (ts : List (List Nat)) : (ts.map (l ++ ·)).foldl (stp ok (ct P 6)) s = s := by
  cases s with
  | none => exact absurd (by rw [hS.1]; exact nI_le (by omega) (by decide)) hle
  | some q =>
    obtain ⟨s1, -, s3, -⟩ := hS
    have hq : q.1 < wU (lr l) (ct P b) := by
      rw [s1, nI_leI (by omega) (by omega)] at hle
      omega
    refine fold_skip _ (fun l' hl' => ?_)
    obtain ⟨t, -, rfl⟩ := List.mem_map.mp hl'
    have h1 := wU_mono (lr (l ++ t)) (ct_mono P hb)
    have h2 : wU (lr (l ++ t)) (ct P b) = wU (lr l) (ct P b) := wU_c (fun j hj => lr_app1 (by omega))
    omega
theorem itr_s {α : Type} (f : Nat → α → α) (n : Nat) (a : α) : itr f (n + 1) a = f n (itr f n a) := rfl
theorem pl_ok (hB : HLB K0 M P wo lim) : ∀ m, m ≤ 6 → ∀ (J : Nat → Nat → Int32) (l : List Nat) (s : CSt), PLI K0 P (6 - m) J l → BLS P s J → wU (lr l) (ct P (6 - m)) ≤ ct P (6 - m) → PLI K0 P (6 - m) (plI m J (wU (lr l) (ct P (6 - m)))) l ∧ BLS P (((rgs (ct P 6 - ct P (6 - m)) (wU (lr l) (ct P (6 - m)))).map (l ++ ·)).foldl (stp (okV M (gan P 6) wo (ct P 6) lim) (ct P 6)) s) (plI m J (wU (lr l) (ct P (6 - m))))
  | 0, _, J, l, s, hP, hS, hk => by
    simp only [Nat.sub_zero] at hP hk ⊢
    have hc := ct_le P 6
    rw [plI]
    by_cases hle : nI (wU (lr l) (ct P 6)) ≤ J 8 8
    · rw [if_pos hle, Nat.sub_self]
      simp only [rgs, List.map_cons, List.map_nil, List.append_nil, List.foldl_cons, List.foldl_nil]
      exact judge_ok hB hP hS (by omega)
    · rw [if_neg hle, sk_ok hS hP.2.2.2 (Nat.le_refl 6) (by omega) hle]
      exact ⟨hP, hS⟩
  | m + 1, hm, J, l, s, hP, hS, hk => by
    have ihm := pl_ok hB m (by omega)
    have e1 : 6 - (m + 1) = 5 - m := by omega
    have e2 : 6 - m = (5 - m) + 1 := by omega
    have hb5 : 5 - m < 6 := by omega
    rw [plI]
    rw [e1] at hP hk ⊢
    rw [e2] at ihm
    generalize 5 - m = b at *
    have hc := ct_le P b
    have h4 := hP.2.2.2
    have hb6 : (sbit (J 8 6) (nI b)) ↔ P b = true := by
      rw [sb_iff (by omega), hP.1 8 6 (by decide) (by decide) (by decide) (by omega), hB.2.2.1 b hb5]
    by_cases hle : nI (wU (lr l) (ct P b)) ≤ J 8 8
    · rw [if_pos hle]
      cases hp : P b with
      | true =>
        rw [if_pos (hb6.mpr hp), Nat.min_eq_left (by omega)]
        have ht := ct_t hp
        have ht6 := ct_mono P (show b + 1 ≤ 6 by omega)
        generalize hF : (fun w (J : Nat → Nat → Int32) => clm (plI m (stm J b w) (max (wU (lr l) (ct P b)) (w + 1))) b w) = F
        have hit : ∀ w, w ≤ wU (lr l) (ct P b) + 1 → PLI K0 P b (itr F w J) l ∧ BLS P ((((List.range w).flatMap (fun w => (rgs (ct P 6 - ct P (b + 1)) (max (wU (lr l) (ct P b)) (w + 1))).map (fun t => w :: t))).map (l ++ ·)).foldl (stp (okV M (gan P 6) wo (ct P 6) lim) (ct P 6)) s) (itr F w J) := by
          intro w
          induction w with
          | zero => intro _; exact ⟨hP, hS⟩
          | succ w ih =>
            intro hw
            obtain ⟨i1, i2⟩ := ih (by omega)
            have q1 := PLI_stm (w := w) i1 hp hb5
            have q2 := i2.c (J' := stm (itr F w J) b w) (by unfold stm; rw [u2_a _ _ _ _ (by decide), u2_a _ _ _ _ (by decide)]) (by unfold stm; rw [u2_a _ _ _ _ (by decide), u2_a _ _ _ _ (by decide)]) (fun c => by unfold stm; rw [u2_a _ _ _ _ (by decide), u2_a _ _ _ _ (by decide)])
            have hw1 : wU (lr (l ++ [w])) (ct P (b + 1)) = max (wU (lr l) (ct P b)) (w + 1) := by
              have e3 : wU (lr (l ++ [w])) (ct P b) = wU (lr l) (ct P b) := wU_c (fun j hj => lr_app1 (by omega))
              rw [ht, wU, lr_at h4, e3]
              split
              · rw [Nat.max_eq_left (by omega)]
              · rw [Nat.max_eq_right (by omega)]
            have r := ihm (stm (itr F w J) b w) (l ++ [w]) _ q1 q2 (by rw [hw1, ht]; exact Nat.max_le.mpr ⟨by omega, by omega⟩)
            rw [hw1] at r
            have eF : itr F (w + 1) J = clm (plI m (stm (itr F w J) b w) (max (wU (lr l) (ct P b)) (w + 1))) b w := by
              rw [itr_s, ← hF]
            rw [eF]
            refine ⟨PLI_clm r.1 hp hb5 (by omega) h4, ?_⟩
            have r2 := r.2.c (J' := clm (plI m (stm (itr F w J) b w) (max (wU (lr l) (ct P b)) (w + 1))) b w) (by unfold clm; rw [u2_a _ _ _ _ (by decide)]) (by unfold clm; rw [u2_a _ _ _ _ (by decide)]) (fun c => by unfold clm; rw [u2_a _ _ _ _ (by decide)])
            rw [List.range_succ, List.flatMap_append, List.map_append, List.foldl_append]
            have e5 : (([w].flatMap (fun w => (rgs (ct P 6 - ct P (b + 1)) (max (wU (lr l) (ct P b)) (w + 1))).map (fun t => w :: t))).map (l ++ ·)) = (rgs (ct P 6 - ct P (b + 1)) (max (wU (lr l) (ct P b)) (w + 1))).map ((l ++ [w]) ++ ·) := by
              rw [List.flatMap_cons, List.flatMap_nil, List.append_nil, List.map_map]
              refine List.map_congr_left fun t _ => ?_
              show l ++ (w :: t) = (l ++ [w]) ++ t
              rw [List.append_assoc]
              rfl
            rw [e5]
            exact r2
        have e4 : ct P 6 - ct P b = (ct P 6 - ct P (b + 1)) + 1 := by omega
        rw [e4, rgs]
        exact hit _ (Nat.le_refl _)
      | false =>
        have hno : ¬ sbit (J 8 6) (nI b) := fun z => by have := hb6.mp z; rw [hp] at this; cases this
        rw [if_neg hno]
        have r := ihm J l s ((PLI_ab hp).mp hP) hS (by rw [ct_f hp]; exact hk)
        rw [ct_f hp] at r
        exact ⟨(PLI_ab hp).mpr r.1, r.2⟩
    · rw [if_neg hle, sk_ok hS h4 (by omega) (by omega) hle]
      exact ⟨hP, hS⟩
end SC
