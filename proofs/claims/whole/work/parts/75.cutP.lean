/-! ===== cut: what both sides see ===== -/
section PC
variable {J M : Nat → Nat → Int32}
theorem gan_at {p : Nat → Bool} {b : Nat} (hb : p b = true) : ∀ {N : Nat}, b < N → gan p N (ct p b) = b
  | 0, h => by omega
  | N + 1, h => by
    cases hp : p N with
    | true =>
      rw [gan_t hp]
      show (if ct p b = ct p N then N else gan p N (ct p b)) = b
      by_cases e : b = N
      · rw [e, if_pos rfl]
      · have h1 := ct_t hb
        have h2 := ct_mono p (show b + 1 ≤ N by omega)
        rw [if_neg (by omega)]; exact gan_at hb (by omega)
    | false =>
      have e : b ≠ N := fun z => by rw [z, hp] at hb; cases hb
      rw [gan_f hp]; exact gan_at hb (by omega)
theorem xgan_p {p : Nat → Bool} : ∀ {N i : Nat}, i < ct p N → p (gan p N i) = true ∧ ct p (gan p N i) = i
  | 0, i, h => absurd h (Nat.not_lt_zero _)
  | N + 1, i, h => by
    cases hp : p N with
    | true =>
      rw [gan_t hp]
      rw [ct_t hp] at h
      show p (if i = ct p N then N else gan p N i) = true ∧ ct p (if i = ct p N then N else gan p N i) = i
      by_cases e : i = ct p N
      · rw [if_pos e]; exact ⟨hp, e.symm⟩
      · rw [if_neg e]; exact xgan_p (by omega)
    | false =>
      rw [gan_f hp]
      rw [ct_f hp] at h
      exact xgan_p h
theorem ct_in6 {p : Nat → Bool} {b N : Nat} (hb : p b = true) (h : b < N) : ct p b < ct p N := by
  have h1 := ct_t hb
  have h2 := ct_mono p (show b + 1 ≤ N by omega)
  omega
theorem gb_oC {p : Nat → Bool} {f : Nat → Int32} {c : Nat} : ∀ n, gb (oC p f n) c = true ↔ ∃ b, b < n ∧ p b = true ∧ gb (f b) c = true
  | 0 => ⟨fun h => (by rw [oC, gb_0] at h; cases h), fun ⟨b, h, _⟩ => absurd h (Nat.not_lt_zero _)⟩
  | n + 1 => by
    have ih := gb_oC (p := p) (f := f) (c := c) n
    cases hp : p n with
    | true =>
      rw [oC_t hp, gb_or, Bool.or_eq_true, ih]
      constructor
      · intro h
        rcases h with ⟨b, h1, h2, h3⟩ | h
        · exact ⟨b, by omega, h2, h3⟩
        · exact ⟨n, by omega, hp, h⟩
      · intro ⟨b, h1, h2, h3⟩
        by_cases e : b = n
        · exact Or.inr (e ▸ h3)
        · exact Or.inl ⟨b, by omega, h2, h3⟩
    | false =>
      rw [oC_f hp, ih]
      constructor
      · intro ⟨b, h1, h2, h3⟩; exact ⟨b, by omega, h2, h3⟩
      · intro ⟨b, h1, h2, h3⟩
        have e : b ≠ n := fun z => by rw [z, hp] at h2; cases h2
        exact ⟨b, by omega, h2, h3⟩
theorem pBt_gb {x : Int32} {j : Nat} (hj : j < 32) : pBt x j = gb x j := by
  unfold pBt
  rw [Bool.eq_iff_iff, decide_eq_true_iff]
  exact sb_iff hj
theorem gb_nOf {y : Int32} {c : Nat} : gb (nOf J y) c = true ↔ ∃ b, b < 6 ∧ gb y b = true ∧ gb (J 9 b) c = true := by
  unfold nOf
  rw [gb_oC]
  constructor
  · intro ⟨b, h1, h2, h3⟩; exact ⟨b, h1, by rw [pBt_gb (by omega)] at h2; exact h2, h3⟩
  · intro ⟨b, h1, h2, h3⟩; exact ⟨b, h1, by rw [pBt_gb (by omega)]; exact h2, h3⟩
/-- a set of blocks hangs together -/
def hgB (J : Nat → Nat → Int32) (x : Int32) : Prop := ∀ T : Nat → Prop, (∀ b, gb x b = true → (∀ a, a < b → gb x a = false) → T b) → (∀ a b, T a → gb x a = true → gb x b = true → gb (J 9 a) b = true → T b) → ∀ b, gb x b = true → T b
theorem itg_sub {x : Int32} : ∀ k b, gb (itg J x k) b = true → gb x b = true
  | 0, b, h => by rw [itg, gb_and, Bool.and_eq_true] at h; exact h.1
  | k + 1, b, h => by
    rw [itg] at h
    split at h
    · exact itg_sub k b h
    · rw [gb_or, Bool.or_eq_true, gb_and, Bool.and_eq_true] at h
      exact h.elim (itg_sub k b) (fun q => q.2)
theorem gb_32 {x : Int32} {b : Nat} (h : gb x b = true) : b < 32 := Classical.byContradiction fun z => by rw [gb_hi (by omega)] at h; cases h
theorem itg_in {x : Int32} {T : Nat → Prop} (h1 : ∀ b, gb x b = true → (∀ a, a < b → gb x a = false) → T b) (h2 : ∀ a b, T a → gb x a = true → gb x b = true → gb (J 9 a) b = true → T b) : ∀ k b, gb (itg J x k) b = true → T b
  | 0, b, h => by
    have hb := gb_32 h
    rw [itg] at h
    have q := (low_b hb).mp h
    exact h1 b q.1 q.2
  | k + 1, b, h => by
    rw [itg] at h
    split at h
    · exact itg_in h1 h2 k b h
    · rw [gb_or, Bool.or_eq_true, gb_and, Bool.and_eq_true, gb_nOf] at h
      rcases h with h | ⟨⟨a, ha, ha2, ha3⟩, hb⟩
      · exact itg_in h1 h2 k b h
      · exact h2 a b (itg_in h1 h2 k a ha2) (itg_sub k a ha2) hb ha3
theorem itg_up {x : Int32} (k b : Nat) (h : gb (itg J x k) b = true) : gb (itg J x (k + 1)) b = true := by
  rw [itg]
  split
  · exact h
  · rw [gb_or, h]; rfl
theorem itg_low {x : Int32} : ∀ k b, gb x b = true → (∀ a, a < b → gb x a = false) → gb (itg J x k) b = true
  | 0, b, h, hl => by rw [itg]; exact (low_b (gb_32 h)).mpr ⟨h, hl⟩
  | k + 1, b, h, hl => itg_up k b (itg_low k b h hl)
theorem low_ex {x : Int32} (b : Nat) : gb x b = true → ∃ c, gb x c = true ∧ ∀ a, a < c → gb x a = false := by
  induction b using Nat.strongRecOn with
  | ind b ih =>
    intro h
    by_cases q : ∃ a, a < b ∧ gb x a = true
    · obtain ⟨a, ha, hq⟩ := q
      exact ih a ha hq
    · refine ⟨b, h, fun a ha => ?_⟩
      cases hz : gb x a with
      | true => exact absurd ⟨a, ha, hz⟩ q
      | false => rfl
theorem tog_iff {x : Int32} (hx : ∀ b, gb x b = true → b < 6) : tog J x ↔ hgB J x := by
  constructor
  · intro h T h1 h2 b hb
    have h' : itg J x 6 = x := h
    exact itg_in h1 h2 6 b (by rw [h']; exact hb)
  · intro h
    have key : ∀ k, itg J x k = x ∨ k + 1 ≤ ct (fun j => gb (itg J x k) j) 6 := by
      intro k
      induction k with
      | zero =>
        by_cases q : ∃ b, gb x b = true
        · right
          obtain ⟨b, hb⟩ := q
          obtain ⟨c, h1, h2⟩ := low_ex b hb
          have h3 := itg_low (J := J) 0 c h1 h2
          have := ct_lt (p := fun _ => false) (q := fun j => gb (itg J x 0) j) (n := 6) (k := c) (fun j hj => by cases hj) (hx c h1) rfl h3
          omega
        · left
          refine gb_ext fun j hj => ?_
          have e1 : gb x j = false := by
            cases hz : gb x j with
            | true => exact absurd ⟨j, hz⟩ q
            | false => rfl
          rw [e1]
          cases hz : gb (itg J x 0) j with
          | true => rw [itg_sub 0 j hz] at e1; cases e1
          | false => rfl
      | succ k ih =>
        by_cases e : itg J x k = x
        · left; exact itg_y e (k + 1) (by omega)
        · have ih := ih.resolve_left e
          by_cases e2 : ∀ b, gb (itg J x (k + 1)) b = true → gb (itg J x k) b = true
          · exfalso
            apply e
            refine gb_ext fun j hj => ?_
            rw [Bool.eq_iff_iff]
            refine ⟨itg_sub k j, h (fun b => gb (itg J x k) b = true) (fun b hb hl => itg_low k b hb hl) (fun a b ha hxa hxb hn => ?_) j⟩
            refine e2 b ?_
            rw [itg, if_neg e, gb_or, gb_and, hxb, Bool.and_true, Bool.or_eq_true]
            exact Or.inr (gb_nOf.mpr ⟨a, hx a hxa, ha, hn⟩)
          · right
            obtain ⟨b, hb⟩ := Classical.not_forall.mp e2
            obtain ⟨hb1, hb2⟩ := Classical.not_imp.mp hb
            have hb3 : gb (itg J x k) b = false := by
              cases hz : gb (itg J x k) b with
              | true => exact absurd hz hb2
              | false => rfl
            have := ct_lt (p := fun j => gb (itg J x k) j) (q := fun j => gb (itg J x (k + 1)) j) (n := 6) (k := b) (fun j hj => itg_up k j hj) (hx b (itg_sub _ b hb1)) hb3 hb1
            omega
    rcases key 6 with e | e
    · exact e
    · have := ct_le (fun j => gb (itg J x 6) j) 6
      omega
theorem hgB_P {P : Nat → Bool} {r : Nat → Nat} {w : Nat} {x : Int32} (hx : ∀ b, gb x b = true ↔ (b < 6 ∧ P b = true ∧ r (ct P b) = w)) (hn : ∀ a, a < 6 → ∀ b, b < 6 → gb (J 9 a) b = decide (¬ M 54 (6 * a + b) = 0)) : hgB J x ↔ hgP0 M (gan P 6) (ct P 6) (inW r (ct P 6) w) := by
  constructor
  · intro h T h1 h2 j hj
    obtain ⟨hj1, hj2⟩ := hj
    obtain ⟨q1, q2⟩ := xgan_p hj1
    have q3 := gan_lt hj1
    have key : T (ct P (gan P 6 j)) := by
      refine h (fun b => T (ct P b)) (fun b hb hl => ?_) (fun a b ha hxa hxb hnr => ?_) (gan P 6 j) ((hx _).mpr ⟨q3, q1, by rw [q2]; exact hj2⟩)
      · obtain ⟨b1, b2, b3⟩ := (hx b).mp hb
        refine h1 (ct P b) ⟨ct_in6 b2 b1, b3⟩ (fun i hi hA => ?_)
        obtain ⟨p1, p2⟩ := xgan_p hA.1
        have p3 := gan_lt hA.1
        have lt : gan P 6 i < b := Classical.byContradiction fun z => by
          have := ct_mono P (show b ≤ gan P 6 i by omega)
          omega
        have q := hl _ lt
        rw [(hx _).mpr ⟨p3, p1, by rw [p2]; exact hA.2⟩] at q
        cases q
      · obtain ⟨a1, a2, a3⟩ := (hx a).mp hxa
        obtain ⟨b1, b2, b3⟩ := (hx b).mp hxb
        refine h2 (ct P a) (ct P b) (ct_in6 a2 a1) (ct_in6 b2 b1) ha ⟨ct_in6 b2 b1, b3⟩ ?_
        show ¬ M 54 (6 * gan P 6 (ct P a) + gan P 6 (ct P b)) = 0
        rw [gan_at a2 a1, gan_at b2 b1]
        rw [hn a a1 b b1] at hnr
        exact of_decide_eq_true hnr
    rw [q2] at key
    exact key
  · intro h T h1 h2 b hb
    obtain ⟨b1, b2, b3⟩ := (hx b).mp hb
    have hxg : ∀ i, inW r (ct P 6) w i → gb x (gan P 6 i) = true := fun i hi => by
      obtain ⟨p1, p2⟩ := xgan_p hi.1
      exact (hx _).mpr ⟨gan_lt hi.1, p1, by rw [p2]; exact hi.2⟩
    have key := h (fun i => inW r (ct P 6) w i ∧ T (gan P 6 i)) (fun j hj hl => ⟨hj, h1 (gan P 6 j) (hxg j hj) (fun a ha => ?_)⟩) (fun i j hi hj hT hA hnr => ⟨hA, h2 (gan P 6 i) (gan P 6 j) hT.2 (hxg i hT.1) (hxg j hA) ?_⟩) (ct P b) ⟨ct_in6 b2 b1, b3⟩
    · have k2 := key.2
      rw [gan_at b2 b1] at k2
      exact k2
    · cases hz : gb x a with
      | false => rfl
      | true =>
        exfalso
        obtain ⟨a1, a2, a3⟩ := (hx a).mp hz
        have lt := ct_in6 (N := gan P 6 j) a2 ha
        rw [(xgan_p hj.1).2] at lt
        exact hl (ct P a) lt ⟨ct_in6 a2 a1, a3⟩
    · rw [hn _ (gan_lt hi) _ (gan_lt hj)]
      exact decide_eq_true hnr
/-- the work of a walk -/
theorem wOf_g {P : Nat → Bool} {r wo : Nat → Nat} {w : Nat} {x : Int32} (hx : ∀ b, gb x b = true ↔ (b < 6 ∧ P b = true ∧ r (ct P b) = w)) (h10 : ∀ b, b < 6 → J 10 b = nI (wo b)) : ∀ N, N ≤ 6 → sC (pBt x) (J 10) N = nI (gwS r (gan P 6) wo w (ct P N))
  | 0, _ => rfl
  | N + 1, hN => by
    have ih := wOf_g hx h10 N (by omega)
    cases hp : P N with
    | true =>
      rw [ct_t hp, gwS, gan_at hp (by omega)]
      by_cases e : r (ct P N) = w
      · rw [sC_t (by rw [pBt_gb (by omega)]; exact (hx N).mpr ⟨by omega, hp, e⟩), ih, h10 N (by omega), if_pos e, nI_add]
      · have q : pBt x N = false := by
          rw [pBt_gb (by omega)]
          cases hz : gb x N with
          | true => exact absurd ((hx N).mp hz).2.2 e
          | false => rfl
        rw [sC_f q, ih, if_neg e, Nat.add_zero]
    | false =>
      have q : pBt x N = false := by
        rw [pBt_gb (by omega)]
        cases hz : gb x N with
        | true => have := ((hx N).mp hz).2.1; rw [hp] at this; cases this
        | false => rfl
      rw [sC_f q, ih, ct_f hp]
/-- the greatest work -/
theorem mxW_g {P : Nat → Bool} {r wo : Nat → Nat} (hx : ∀ w, w < 6 → ∀ b, gb (J 12 w) b = true ↔ (b < 6 ∧ P b = true ∧ r (ct P b) = w)) (h10 : ∀ b, b < 6 → J 10 b = nI (wo b)) (hg : ∀ w, gwS r (gan P 6) wo w (ct P 6) ≤ 144) : ∀ k, k ≤ 6 → mxW J k = nI (gMx r (gan P 6) wo (ct P 6) k)
  | 0, _ => rfl
  | k + 1, hk => by
    have ih := mxW_g hx h10 hg k (by omega)
    have h1 : wOf J (J 12 k) = nI (gwS r (gan P 6) wo k (ct P 6)) := wOf_g (hx k (by omega)) h10 6 (Nat.le_refl _)
    have g1 := hg k
    have g2 := gMx_le hg k
    rw [mxW, gMx, ih, h1]
    by_cases e : gwS r (gan P 6) wo k (ct P 6) ≤ gMx r (gan P 6) wo (ct P 6) k
    · rw [if_pos e, if_neg (nI_nlt e (by omega))]
    · rw [if_neg e, if_pos (nI_lt (by omega) (by omega))]
theorem gMx_iff {r wk wo : Nat → Nat} {n N : Nat} : ∀ {p : Nat}, gMx r wk wo n p ≤ N ↔ ∀ w, w < p → gwS r wk wo w n ≤ N
  | 0 => ⟨fun _ w hw => absurd hw (Nat.not_lt_zero _), fun _ => Nat.zero_le _⟩
  | p + 1 => by
    have ih := gMx_iff (r := r) (wk := wk) (wo := wo) (n := n) (N := N) (p := p)
    rw [gMx]
    constructor
    · intro h w hw
      by_cases e : gwS r wk wo p n ≤ gMx r wk wo n p
      · rw [if_pos e] at h
        by_cases q : w = p
        · rw [q]; omega
        · exact ih.mp h w (by omega)
      · rw [if_neg e] at h
        by_cases q : w = p
        · rw [q]; exact h
        · exact ih.mp (by omega) w (by omega)
    · intro h
      split
      · exact ih.mpr (fun w hw => h w (by omega))
      · exact h p (by omega)
theorem wU_c {r r' : Nat → Nat} : ∀ {i : Nat}, (∀ j, j < i → r j = r' j) → wU r i = wU r' i
  | 0, _ => rfl
  | i + 1, h => by
    have ih := wU_c (r := r) (r' := r') (i := i) (fun j hj => h j (by omega))
    rw [wU, wU, ih, h i (by omega)]
theorem wU_mono (r : Nat → Nat) {i n : Nat} (h : i ≤ n) : wU r i ≤ wU r n := by
  induction n with
  | zero => rw [show i = 0 by omega]; exact Nat.le_refl _
  | succ n ih =>
    by_cases e : i = n + 1
    · rw [e]; exact Nat.le_refl _
    · have := ih (by omega)
      rw [wU]
      split <;> omega
theorem lr_app1 {l t : List Nat} {i : Nat} (h : i < l.length) : lr (l ++ t) i = lr l i := by
  show (l ++ t).getD i 0 = l.getD i 0
  rw [List.getD_eq_getElem?_getD, List.getD_eq_getElem?_getD, List.getElem?_append_left h]
theorem lr_app2 {l : List Nat} {w : Nat} : lr (l ++ [w]) l.length = w := by
  show (l ++ [w]).getD l.length 0 = w
  rw [List.getD_eq_getElem?_getD, List.getElem?_append_right (Nat.le_refl _), Nat.sub_self]
  rfl
theorem stp_skip {ok : List Nat → Option Nat} {n : Nat} {q : Nat × Nat × List Nat} {l : List Nat} (h : q.1 < wU (lr l) n) : stp ok n (some q) l = some q := by
  unfold stp
  cases ok l with
  | none => rfl
  | some g =>
    dsimp only
    rw [if_neg (fun z => by rcases z with z | z <;> omega)]
theorem fold_skip {ok : List Nat → Option Nat} {n : Nat} {q : Nat × Nat × List Nat} : ∀ (ls : List (List Nat)), (∀ l, l ∈ ls → q.1 < wU (lr l) n) → ls.foldl (stp ok n) (some q) = some q
  | [], _ => rfl
  | l :: ls, h => by
    rw [List.foldl_cons, stp_skip (h l List.mem_cons_self)]
    exact fold_skip ls (fun l hl => h l (List.mem_cons_of_mem _ hl))
theorem stp_some {ok : List Nat → Option Nat} {n : Nat} {q : Nat × Nat × List Nat} (l : List Nat) : ∃ q', stp ok n (some q) l = some q' := by
  unfold stp
  cases ok l with
  | none => exact ⟨q, rfl⟩
  | some g =>
    dsimp only
    split
    · exact ⟨_, rfl⟩
    · exact ⟨_, rfl⟩
theorem fold_some {ok : List Nat → Option Nat} {n : Nat} : ∀ (ls : List (List Nat)) (q : Nat × Nat × List Nat), ∃ q', ls.foldl (stp ok n) (some q) = some q'
  | [], q => ⟨q, rfl⟩
  | l :: ls, q => by
    obtain ⟨q', h⟩ := stp_some (ok := ok) (n := n) (q := q) l
    rw [List.foldl_cons, h]
    exact fold_some ls q'
theorem fold_ex {ok : List Nat → Option Nat} {n : Nat} {l0 : List Nat} {g : Nat} (h0 : ok l0 = some g) : ∀ (ls : List (List Nat)) (s : CSt), l0 ∈ ls → ∃ q', ls.foldl (stp ok n) s = some q'
  | [], s, h => by cases h
  | l :: ls, s, h => by
    rw [List.foldl_cons]
    by_cases e : l = l0
    · have : ∃ q, stp ok n s l = some q := by
        cases s with
        | some q => exact stp_some l
        | none => unfold stp; rw [e, h0]; exact ⟨_, rfl⟩
      obtain ⟨q, hq⟩ := this
      rw [hq]
      exact fold_some ls q
    · exact fold_ex h0 ls _ ((List.mem_cons.mp h).resolve_left (fun z => e z.symm))
theorem fold_none {ok : List Nat → Option Nat} {n : Nat} : ∀ (ls : List (List Nat)), (∀ l, l ∈ ls → ok l = none) → ls.foldl (stp ok n) none = none
  | [], _ => rfl
  | l :: ls, h => by
    have e : stp ok n none l = none := by unfold stp; rw [h l List.mem_cons_self]
    rw [List.foldl_cons, e]
    exact fold_none ls (fun l hl => h l (List.mem_cons_of_mem _ hl))
end PC
