/-! ===== table: the search for the cells to hide ===== -/
section HS
variable {Sm Pz H H' : Nat → Prop}
theorem rch0_mono {R R' : Nat → Nat → Prop} {s g : Nat} (h : ∀ a b, R a b → R' a b) (q : rch0 R s g) : rch0 R' s g := fun T hT hc => q T hT (fun a b ha hb h1 h2 => hc a b ha hb h1 (h a b h2))
theorem st_nd {but a b : Nat} (h : stS H Pz but a b) : clN a b < 24 ∧ ((a = clN a b / 4 ∧ b = 6 + clN a b % 4) ∨ (a = 6 + clN a b % 4 ∧ b = clN a b / 4)) := by
  obtain ⟨h1, -⟩ := h
  unfold clN
  rcases h1 with h1 | h1
  · rw [if_pos h1.1]; omega
  · rw [if_neg (by omega)]; omega
theorem ts_mono (h : ∀ c, c < 24 → H c → H' c) (q : tsafe0 Sm H Pz) : tsafe0 Sm H' Pz := fun c hc hs => by
  have m : ∀ a b, stS H Pz c a b → stS H' Pz c a b := fun a b z => ⟨z.1, z.2.1, h _ (st_nd z).1 z.2.2.1, z.2.2.2⟩
  exact (q c hc hs).imp (fun z => cP_iff.mpr (rch0_mono m (cP_iff.mp z))) (fun z => cP_iff.mpr (rch0_mono m (cP_iff.mp z)))
/-- a small cell alone in its line follows -/
theorem dead_s {lam d : Nat} (hd : d < 24) (hl : inc d lam) (hu : ∀ c, c < 24 → H c → inc c lam → c = d) (hsm : Sm d) : ¬ tsafe0 Sm H Pz := fun q => by
  have nost : ∀ a b, stS H Pz d a b → a ≠ lam ∧ b ≠ lam := fun a b hs => by
    obtain ⟨c24, hn⟩ := st_nd hs
    have hi : ∀ v, v = a ∨ v = b → inc (clN a b) v := fun v hv => by unfold inc; omega
    exact ⟨fun e => hs.2.1 (hu _ c24 hs.2.2.1 (e ▸ hi a (Or.inl rfl))), fun e => hs.2.1 (hu _ c24 hs.2.2.1 (e ▸ hi b (Or.inr rfl)))⟩
  have key : ∀ s g, (s = lam ∨ g = lam) → s ≠ g → ¬ rch0 (stS H Pz d) s g := fun s g hsg hne hr => by
    rcases hsg with e | e
    · have z := hr (fun v => v = lam) e (fun a b _ _ ha hab => absurd ha (nost a b hab).1)
      exact hne (e.trans z.symm)
    · have z := hr (fun v => v ≠ lam) (fun z => hne (z.trans e.symm)) (fun a b _ _ _ hab => (nost a b hab).2)
      exact z e
  have hl2 : d / 4 = lam ∨ 6 + d % 4 = lam := hl
  rcases q d hd hsm with z | z
  · exact key _ _ hl2.symm (by omega) (cP_iff.mp z)
  · exact key _ _ hl2 (by omega) (cP_iff.mp z)
/-- another cell alone in its line is of no use -/
theorem dead_o {lam d : Nat} (hd : d < 24) (hl : inc d lam) (hu : ∀ c, c < 24 → H c → inc c lam → c = d) (hns : ¬ Sm d) (hSH : ∀ c, c < 24 → Sm c → H c) (q : tsafe0 Sm H Pz) : tsafe0 Sm (fun c => H c ∧ c ≠ d) Pz := fun c hc hs => by
  have hcd : c ≠ d := fun e => hns (e ▸ hs)
  have hcl : ¬ inc c lam := fun z => hcd (hu c hc (hSH c hc hs) z)
  obtain ⟨mu, hmn, hmu⟩ : ∃ mu, mu ≠ lam ∧ ∀ a b, stS H Pz c a b → clN a b = d → (a = lam ∧ b = mu) ∨ (a = mu ∧ b = lam) := by
    have hl2 : d / 4 = lam ∨ 6 + d % 4 = lam := hl
    rcases hl2 with e | e
    · refine ⟨6 + d % 4, by omega, fun a b h1 h2 => ?_⟩
      have h3 := (st_nd h1).2
      rw [h2] at h3
      omega
    · refine ⟨d / 4, by omega, fun a b h1 h2 => ?_⟩
      have h3 := (st_nd h1).2
      rw [h2] at h3
      omega
  have key : ∀ s g, s ≠ lam → g ≠ lam → rch0 (stS H Pz c) s g → rch0 (stS (fun c => H c ∧ c ≠ d) Pz c) s g := fun s g h1 h2 hr T hT hc' => by
    have z := hr (fun v => (v ≠ lam ∧ T v) ∨ (v = lam ∧ T mu)) (Or.inl ⟨h1, hT⟩) (fun a b ha hb hT' hs' => by
      by_cases e : clN a b = d
      · rcases hmu a b hs' e with ⟨e1, e2⟩ | ⟨e1, e2⟩
        · rcases hT' with z | z
          · exact absurd e1 z.1
          · exact Or.inl ⟨by rw [e2]; exact hmn, by rw [e2]; exact z.2⟩
        · rcases hT' with z | z
          · exact Or.inr ⟨e2, by rw [← e1]; exact z.2⟩
          · exact absurd (e1.symm.trans z.1) hmn
      · have hs2 : stS (fun c => H c ∧ c ≠ d) Pz c a b := ⟨hs'.1, hs'.2.1, ⟨hs'.2.2.1, e⟩, hs'.2.2.2⟩
        obtain ⟨c24, hn⟩ := st_nd hs'
        have hi : ∀ v, v = a ∨ v = b → v ≠ lam := fun v hv z => e (hu _ c24 hs'.2.2.1 (by unfold inc; omega))
        rcases hT' with z | z
        · exact Or.inl ⟨hi b (Or.inr rfl), hc' a b ha hb z.2 hs2⟩
        · exact absurd z.1 (hi a (Or.inl rfl)))
    rcases z with z | z
    · exact z.2
    · exact absurd z.1 h2
  have n1 : c / 4 ≠ lam := fun z => hcl (Or.inl z)
  have n2 : 6 + c % 4 ≠ lam := fun z => hcl (Or.inr z)
  exact (q c hc hs).imp (fun z => cP_iff.mpr (key _ _ n2 n1 (cP_iff.mp z))) (fun z => cP_iff.mpr (key _ _ n1 n2 (cP_iff.mp z)))
theorem ct_ins {p q : Nat → Bool} {a : Nat} (h : ∀ c, q c = true → p c = true ∨ c = a) : ∀ n, ct q n ≤ ct p n + (if a < n then 1 else 0)
  | 0 => Nat.zero_le _
  | n + 1 => by
    have ih := ct_ins h n
    have m := ct_mono p (show n ≤ n + 1 by omega)
    have hi : (if a < n then 1 else 0) ≤ (if a < n + 1 then (1 : Nat) else 0) := by split <;> split <;> omega
    cases hq : q n with
    | true =>
      rw [ct_t hq]
      rcases h n hq with hp | e
      · rw [ct_t hp]; omega
      · rw [if_neg (by omega)] at ih
        rw [if_pos (by omega)]; omega
    | false => rw [ct_f hq]; omega
theorem ct_ins1 {p q : Nat → Bool} {a : Nat} (h : ∀ c, q c = true → p c = true ∨ c = a) (n : Nat) : ct q n ≤ ct p n + 1 := by
  have := ct_ins h n
  have h1 : (if a < n then 1 else 0) ≤ (1 : Nat) := by split <;> omega
  omega
theorem ct_lst {p : Nat → Bool} (n : Nat) : ∀ (t : List Nat) {q : Nat → Bool}, (∀ c, q c = true → p c = true ∨ c ∈ t) → ct q n ≤ ct p n + t.length
  | [], q, h => ct_imp (fun c hc => (h c hc).resolve_right List.not_mem_nil) n
  | a :: t, q, h => by
    have h1 := ct_ins1 (p := fun c => q c && !decide (c = a)) (q := q) (a := a) (fun c hc => by
      by_cases e : c = a
      · exact Or.inr e
      · left
        rw [hc, decide_eq_false e]; rfl) n
    have h2 := ct_lst (p := p) n t (q := fun c => q c && !decide (c = a)) (fun c hc => by
      rw [Bool.and_eq_true, Bool.not_eq_true', decide_eq_false_iff_not] at hc
      rcases h c hc.1 with z | z
      · exact Or.inl z
      · exact Or.inr ((List.mem_cons.mp z).resolve_left hc.2))
    rw [List.length_cons]
    omega
theorem pig {p : Nat → Bool} {f : Nat → Nat} {t : List Nat} {N : Nat} (h : t.length < ct p N) : ∃ r, r < N ∧ p r = true ∧ ∀ e, e ∈ t → f e ≠ r := by
  refine Classical.byContradiction fun z => ?_
  have h1 := ct_lst (p := fun _ => false) N (t.map f) (q := fun r => p r && decide (r < N)) (fun r hr => by
    rw [Bool.and_eq_true, decide_eq_true_iff] at hr
    right
    refine Classical.byContradiction fun y => z ⟨r, hr.2, hr.1, fun e he w => y (List.mem_map.mpr ⟨e, he, w⟩)⟩)
  have h2 : ct (fun r => p r && decide (r < N)) N = ct p N := ct_cong (fun k hk => by rw [decide_eq_true hk, Bool.and_true])
  have h3 : ct (fun _ => false) N = 0 := ct_z (fun _ _ => rfl)
  rw [List.length_map] at h1
  omega
theorem hi_ex {y : Int32} : ∀ N, (∀ c, gb y c = true → c < N) → (∃ c, gb y c = true) → ∃ d, gb y d = true ∧ ∀ c, gb y c = true → c ≤ d
  | 0, h, ⟨c, hc⟩ => absurd (h c hc) (Nat.not_lt_zero _)
  | N + 1, h, hc => by
    by_cases q : gb y N = true
    · exact ⟨N, q, fun c hc => by have := h c hc; omega⟩
    · exact hi_ex N (fun c hc => by
        have h1 := h c hc
        have h2 : c ≠ N := fun e => q (e ▸ hc)
        omega) hc
theorem oneC_u {y : Int32} (h : oneC y) : ∃ d, gb y d = true ∧ ∀ c, gb y c = true → c = d := by
  obtain ⟨h0, h1⟩ := h
  obtain ⟨d, hd, hm⟩ := hi_ex 32 (fun c hc => gb_32 hc) (gb_ne0.mp h0)
  refine ⟨d, hd, fun c hc => Classical.byContradiction fun hne => ?_⟩
  have hlt : c < d := by have := hm c hc; omega
  have hd' : (tN y).testBit d = true := hd
  have hc' : (tN y).testBit c = true := hc
  have a1 := Nat.ge_two_pow_of_testBit hd'
  have a2 : tN y < 2 ^ (d + 1) := Nat.lt_pow_two_of_testBit _ (fun i hi => by
    cases hz : (tN y).testBit i with
    | false => rfl
    | true => have := hm i hz; omega)
  have a3 : tN y ≠ 2 ^ d := fun e => by
    rw [e, Nat.testBit_two_pow_of_ne (by omega)] at hc'
    cases hc'
  have e1 : tN (nI 1) = 1 := by decide
  have a4 : tN (y - nI 1) = tN y - 1 := by
    rw [tN_sub (by rw [e1]; have := Nat.two_pow_pos d; omega), e1]
  have a5 : (tN (y - nI 1)).testBit d = true := by
    refine Nat.testBit_of_two_pow_le_and_two_pow_add_one_gt (by omega) (by omega)
  have a6 : gb (y &&& (y - nI 1)) d = true := by
    rw [gb_and, hd]
    exact a5
  rw [h1, show gb 0 d = false from gb_0 d] at a6
  cases a6
theorem m_row : ∀ j, j < 6 → ∀ c, c < 32 → gb (nI 15 <<< (nI j * nI 4 &&& 31)) c = decide (c / 4 = j) := by decide +kernel
theorem m_col : ∀ j, j < 4 → ∀ c, c < 32 → gb (1118481 <<< (nI j &&& 31)) c = decide (c < 24 ∧ c % 4 = j) := by decide +kernel
abbrev bS (x : Int32) : Nat → Prop := fun c => gb x c = true
abbrev nOt (sm x : Int32) : Nat := ct (fun c => gb x c && !gb sm c) 24
/-- nothing smaller will do -/
abbrev mnS (sm ps : Int32) (i : Nat) : Prop := ∀ p : Nat → Bool, ct p 24 < i → (∀ c, p c = true → ¬ gb sm c = true) → ¬ tsafe0 (bS sm) (fun c => gb sm c = true ∨ p c = true) (bS ps)
theorem lone_ok {sm ps x : Int32} {t : List Nat} {i : Nat} (hx : ∀ c, gb x c = true → c < 24) (hsx : ∀ c, gb sm c = true → gb x c = true) (hmin : mnS sm ps i) (hcnt : nOt sm x + t.length ≤ i) (hlt : t.length < lone x) : ¬ tsafe0 (bS sm) (fun c => gb x c = true ∨ c ∈ t) (bS ps) := by
  obtain ⟨lam, d, hdx, hl, hu⟩ : ∃ lam d, gb x d = true ∧ inc d lam ∧ ∀ c, c < 24 → (gb x c = true ∨ c ∈ t) → inc c lam → c = d := by
    have hm : t.length < ct (pLR x) 6 ∨ t.length < ct (pLC x) 4 := by unfold lone at hlt; omega
    rcases hm with hm | hm
    · obtain ⟨r, r6, rp, rt⟩ := pig (f := fun e => e / 4) hm
      obtain ⟨d, d1, d2⟩ := oneC_u (of_decide_eq_true rp)
      have d32 := gb_32 d1
      rw [gb_and, m_row r r6 d d32, Bool.and_eq_true, decide_eq_true_iff] at d1
      refine ⟨r, d, d1.1, Or.inl d1.2, fun c hc hh hi => ?_⟩
      have hi2 : c / 4 = r := by have hi : c / 4 = r ∨ 6 + c % 4 = r := hi; omega
      rcases hh with hh | hh
      · exact d2 c (by rw [gb_and, m_row r r6 c (by omega), hh, decide_eq_true hi2]; rfl)
      · exact absurd hi2 (rt c hh)
    · obtain ⟨r, r6, rp, rt⟩ := pig (f := fun e => e % 4) hm
      obtain ⟨d, d1, d2⟩ := oneC_u (of_decide_eq_true rp)
      have d32 := gb_32 d1
      rw [gb_and, m_col r r6 d d32, Bool.and_eq_true, decide_eq_true_iff] at d1
      refine ⟨6 + r, d, d1.1, Or.inr (by omega), fun c hc hh hi => ?_⟩
      have hi2 : c % 4 = r := by have hi : c / 4 = 6 + r ∨ 6 + c % 4 = 6 + r := hi; omega
      rcases hh with hh | hh
      · exact d2 c (by rw [gb_and, m_col r r6 c (by omega), hh, decide_eq_true ⟨hc, hi2⟩]; rfl)
      · exact absurd hi2 (rt c hh)
  have hd := hx d hdx
  intro hs
  by_cases hsd : gb sm d = true
  · exact dead_s hd hl hu hsd hs
  · have h2 := dead_o (Sm := bS sm) hd hl hu hsd (fun c _ z => Or.inl (hsx c z)) hs
    have hsd' : gb sm d = false := by
      cases hz : gb sm d with
      | true => exact absurd hz hsd
      | false => rfl
    refine hmin (fun c => (gb x c || decide (c ∈ t)) && (!gb sm c && !decide (c = d))) ?_ (fun c hc z => ?_) (ts_mono (fun c hc z => ?_) h2)
    · have q1 := ct_lst (p := fun c => gb x c && !gb sm c) 24 t (q := fun c => (gb x c || decide (c ∈ t)) && !gb sm c) (fun c hc => by
        rw [Bool.and_eq_true, Bool.or_eq_true, decide_eq_true_iff] at hc
        rcases hc.1 with z | z
        · left; rw [z, hc.2]; rfl
        · exact Or.inr z)
      have q2 := ct_lt (p := fun c => (gb x c || decide (c ∈ t)) && (!gb sm c && !decide (c = d))) (q := fun c => (gb x c || decide (c ∈ t)) && !gb sm c) (n := 24) (k := d) (fun c hc => by
        rw [Bool.and_eq_true, Bool.and_eq_true] at hc
        rw [hc.1, hc.2.1]; rfl) hd (by rw [decide_eq_true (rfl : d = d)]; simp) (by rw [hdx, hsd']; rfl)
      have q0 : nOt sm x = ct (fun c => gb x c && !gb sm c) 24 := rfl
      omega
    · rw [Bool.and_eq_true, Bool.and_eq_true, z] at hc
      exact absurd hc.2.1 (by decide)
    · by_cases w : gb sm c = true
      · exact Or.inl w
      · right
        have w' : gb sm c = false := by
          cases hz : gb sm c with
          | true => exact absurd hz w
          | false => rfl
        rw [w', decide_eq_false z.2]
        rcases z.1 with y | y
        · rw [y]; rfl
        · rw [decide_eq_true y, Bool.or_true]; rfl
/-! the first that will do -/
section FST
theorem fstP_none {P : List Nat → Prop} [∀ l, Decidable (P l)] : ∀ {ls : List (List Nat)}, (∀ t, t ∈ ls → ¬ P t) → fstP P ls = none
  | [], _ => rfl
  | l :: ls, h => by
    rw [fstP, if_neg (h l List.mem_cons_self)]
    exact fstP_none (fun t ht => h t (List.mem_cons_of_mem _ ht))
theorem fstP_no {P : List Nat → Prop} [∀ l, Decidable (P l)] : ∀ {ls : List (List Nat)}, fstP P ls = none → ∀ t, t ∈ ls → ¬ P t
  | [], _, t, ht => by cases ht
  | l :: ls, h, t, ht => by
    rw [fstP] at h
    by_cases q : P l
    · rw [if_pos q] at h; cases h
    · rw [if_neg q] at h
      rcases List.mem_cons.mp ht with e | e
      · rw [e]; exact q
      · exact fstP_no h t e
theorem fstP_mem {P : List Nat → Prop} [∀ l, Decidable (P l)] : ∀ {ls : List (List Nat)} {t : List Nat}, fstP P ls = some t → t ∈ ls ∧ P t
  | [], t, h => by cases h
  | l :: ls, t, h => by
    rw [fstP] at h
    by_cases q : P l
    · rw [if_pos q] at h
      have e := Option.some.inj h
      rw [← e]; exact ⟨List.mem_cons_self, q⟩
    · rw [if_neg q] at h
      exact ⟨List.mem_cons_of_mem _ (fstP_mem h).1, (fstP_mem h).2⟩
theorem fstP_a1 {P : List Nat → Prop} [∀ l, Decidable (P l)] : ∀ {a b : List (List Nat)} {t : List Nat}, fstP P a = some t → fstP P (a ++ b) = some t
  | [], b, t, h => by cases h
  | l :: a, b, t, h => by
    rw [List.cons_append, fstP]
    rw [fstP] at h
    by_cases q : P l
    · rw [if_pos q] at h ⊢; exact h
    · rw [if_neg q] at h ⊢; exact fstP_a1 h
theorem fstP_a0 {P : List Nat → Prop} [∀ l, Decidable (P l)] : ∀ {a b : List (List Nat)}, fstP P a = none → fstP P (a ++ b) = fstP P b
  | [], b, h => rfl
  | l :: a, b, h => by
    rw [List.cons_append, fstP]
    rw [fstP] at h
    by_cases q : P l
    · rw [if_pos q] at h; cases h
    · rw [if_neg q] at h ⊢; exact fstP_a0 h
theorem fstP_map {P Q : List Nat → Prop} [∀ l, Decidable (P l)] [∀ l, Decidable (Q l)] {j : Nat} : ∀ {ls : List (List Nat)}, (∀ t, t ∈ ls → (P (j :: t) ↔ Q t)) → fstP P (ls.map (fun l => j :: l)) = (fstP Q ls).map (fun l => j :: l)
  | [], _ => rfl
  | l :: ls, h => by
    have e := h l List.mem_cons_self
    have ih := fstP_map (j := j) (ls := ls) (fun t ht => h t (List.mem_cons_of_mem _ ht))
    rw [List.map_cons, fstP, fstP]
    by_cases q : Q l
    · rw [if_pos q, if_pos (e.mpr q)]; rfl
    · rw [if_neg q, if_neg (fun z => q (e.mp z))]; exact ih
theorem fstP_cong {P Q : List Nat → Prop} [∀ l, Decidable (P l)] [∀ l, Decidable (Q l)] : ∀ {ls : List (List Nat)}, (∀ t, t ∈ ls → (P t ↔ Q t)) → fstP P ls = fstP Q ls
  | [], _ => rfl
  | l :: ls, h => by
    have e := h l List.mem_cons_self
    have ih := fstP_cong (ls := ls) (fun t ht => h t (List.mem_cons_of_mem _ ht))
    rw [fstP, fstP]
    by_cases q : Q l
    · rw [if_pos q, if_pos (e.mpr q)]
    · rw [if_neg q, if_neg (fun z => q (e.mp z))]; exact ih
end FST
theorem cmb_mem : ∀ k m f t, t ∈ cmb m f k → t.length = m ∧ ∀ e, e ∈ t → f ≤ e ∧ e < f + k
  | k, 0, f, t, h => by
    have e : t = [] := by
      cases k <;> (rw [cmb] at h; exact List.mem_singleton.mp h)
    rw [e]
    exact ⟨rfl, fun e he => by cases he⟩
  | 0, m + 1, f, t, h => by rw [cmb] at h; cases h
  | k + 1, m + 1, f, t, h => by
    rw [cmb] at h
    rcases List.mem_append.mp h with z | z
    · obtain ⟨t', z1, rfl⟩ := List.mem_map.mp z
      obtain ⟨q1, q2⟩ := cmb_mem k m (f + 1) t' z1
      refine ⟨by rw [List.length_cons, q1], fun e he => ?_⟩
      rcases List.mem_cons.mp he with w | w
      · omega
      · have := q2 e w; omega
    · obtain ⟨q1, q2⟩ := cmb_mem k (m + 1) (f + 1) t z
      exact ⟨q1, fun e he => by have := q2 e he; omega⟩
/-- the others are no small ones, and none follows -/
abbrev gP (sm ps x : Int32) (t : List Nat) : Prop := cP ((∀ e, e ∈ t → ¬ gb sm e = true) ∧ tsafe0 (bS sm) (fun c => gb x c = true ∨ c ∈ t) (bS ps))
theorem gb_m1 {r x : Int32} {t : List Nat} (hx : ∀ c, gb x c = true → c < 24) (ht : ∀ e, e ∈ t → e < 24) (h : ∀ c, gb r c = true ↔ (gb x c = true ∨ c ∈ t)) : ¬ r = -1 := fun e => by
  have h1 : gb (-1) 31 = true := by decide +kernel
  rw [← e] at h1
  rcases (h 31).mp h1 with z | z
  · have := hx 31 z; omega
  · have := ht 31 z; omega
theorem gb_rst : ∀ f, f ≤ 24 → ∀ c, c < 32 → gb ((16777215 <<< (nI f &&& 31)) &&& 16777215) c = decide (f ≤ c ∧ c < 24) := by decide +kernel
theorem lone_le (x : Int32) : lone x ≤ 6 := by
  have h1 := ct_le (pLR x) 6
  have h2 := ct_le (pLC x) 4
  unfold lone
  omega
theorem chF_ok {sm ps : Int32} {i : Nat} (hi5 : i ≤ 5) (hmin : mnS sm ps i) : ∀ l f x, f ≤ 24 → (∀ c, gb x c = true → c < 24) → (∀ c, gb sm c = true → gb x c = true) → nOt sm x + l ≤ i → (∀ t, fstP (gP sm ps x) (cmb l f (24 - f)) = some t → ∀ c, gb (chF sm ps l f x) c = true ↔ (gb x c = true ∨ c ∈ t)) ∧ (fstP (gP sm ps x) (cmb l f (24 - f)) = none → chF sm ps l f x = -1)
  | 0, f, x, hf, hx, hsx, hcnt => by
    have hl := lone_le x
    have e : cmb 0 f (24 - f) = [[]] := by cases (24 - f) <;> rfl
    rw [e, chF, fstP]
    by_cases g : gP sm ps x []
    · rw [if_pos g]
      have g2 := (cP_iff.mp g).2
      have h1 : lone x ≤ 0 := Classical.byContradiction fun z => lone_ok (t := []) hx hsx hmin (by simpa using hcnt) (by simp; omega) g2
      have h2 : nfo sm ps x := (nfo_iff hx).mpr (ts_mono (fun c _ z => z.resolve_right List.not_mem_nil) g2)
      rw [if_pos (nI_le h1 (by omega)), if_pos h2]
      refine ⟨fun t ht c => ?_, fun z => by cases z⟩
      have et := Option.some.inj ht
      rw [← et]
      exact ⟨Or.inl, fun z => z.resolve_right List.not_mem_nil⟩
    · rw [if_neg g]
      refine ⟨fun t ht => (by cases ht), fun _ => ?_⟩
      split
      · split
        · rename_i _ h2
          exact absurd (cP_iff.mpr ⟨fun e he => absurd he List.not_mem_nil, ts_mono (fun c _ z => Or.inl z) ((nfo_iff hx).mp h2)⟩) g
        · rfl
      · rfl
  | l + 1, f, x, hf, hx, hsx, hcnt => by
    have hl := lone_le x
    have hmem : ∀ t, t ∈ cmb (l + 1) f (24 - f) → t.length = l + 1 ∧ ∀ e, e ∈ t → f ≤ e ∧ e < 24 := fun t ht => by
      obtain ⟨q1, q2⟩ := cmb_mem _ _ _ t ht
      exact ⟨q1, fun e he => by have := q2 e he; omega⟩
    rw [chF]
    by_cases h1 : lone x ≤ l + 1
    · rw [if_pos (nI_le h1 (by omega))]
      by_cases h2 : nfo sm ps (rst x f)
      · rw [if_pos h2]
        have inner : ∀ k j, j + k = 24 → (∀ t, fstP (gP sm ps x) (cmb (l + 1) j k) = some t → ∀ c, gb (chL sm x (chF sm ps l) j k) c = true ↔ (gb x c = true ∨ c ∈ t)) ∧ (fstP (gP sm ps x) (cmb (l + 1) j k) = none → chL sm x (chF sm ps l) j k = -1) := by
          intro k
          induction k with
          | zero =>
            intro j hj
            rw [cmb, chL]
            exact ⟨fun t ht => (by cases ht), fun _ => rfl⟩
          | succ k ih =>
            intro j hj
            have ih := ih (j + 1) (by omega)
            have hsb : sbit sm (nI j) ↔ gb sm j = true := sb_iff (by omega)
            rw [cmb, chL]
            by_cases hs : gb sm j = true
            · rw [if_pos (hsb.mpr hs)]
              have e : fstP (gP sm ps x) ((cmb l (j + 1) k).map (fun l => j :: l)) = none := fstP_none (fun t ht z => by
                obtain ⟨t', -, rfl⟩ := List.mem_map.mp ht
                exact (cP_iff.mp z).1 j List.mem_cons_self hs)
              rw [fstP_a0 e]
              exact ih
            · rw [if_neg (fun z => hs (hsb.mp z))]
              generalize hy : x ||| (nI 1 <<< (nI j &&& 31)) = y
              have ybit : ∀ c, gb y c = true ↔ (gb x c = true ∨ c = j) := fun c => by
                by_cases c32 : c < 32
                · rw [← hy, or_set (by omega) c32, Bool.or_eq_true, decide_eq_true_iff]
                · rw [gb_hi (by omega), gb_hi (by omega)]
                  exact ⟨fun z => (by cases z), fun z => z.elim (fun w => by cases w) (fun w => absurd w (by omega))⟩
              have cnt : nOt sm y ≤ nOt sm x + 1 := ct_ins1 (a := j) (fun c hc => by
                rw [Bool.and_eq_true] at hc
                rcases (ybit c).mp hc.1 with z | z
                · left; rw [z, hc.2]; rfl
                · exact Or.inr z) 24
              have IH := chF_ok hi5 hmin l (j + 1) y (by omega) (fun c hc => ((ybit c).mp hc).elim (hx c) (fun z => by omega)) (fun c hc => (ybit c).mpr (Or.inl (hsx c hc))) (by omega)
              rw [show 24 - (j + 1) = k by omega] at IH
              have set_iff : ∀ (t : List Nat) c, (gb y c = true ∨ c ∈ t) ↔ (gb x c = true ∨ c ∈ j :: t) := fun t c => by
                rw [ybit, List.mem_cons, or_assoc]
              have gq : ∀ t, t ∈ cmb l (j + 1) k → (gP sm ps x (j :: t) ↔ gP sm ps y t) := fun t _ => by
                refine cP_iff.trans (Iff.trans ?_ cP_iff.symm)
                constructor
                · intro ⟨z1, z2⟩
                  exact ⟨fun e he => z1 e (List.mem_cons_of_mem _ he), ts_mono (fun c _ w => (set_iff t c).mpr w) z2⟩
                · intro ⟨z1, z2⟩
                  exact ⟨fun e he => (List.mem_cons.mp he).elim (fun w => w ▸ hs) (z1 e), ts_mono (fun c _ w => (set_iff t c).mp w) z2⟩
              have em := fstP_map (P := gP sm ps x) (Q := gP sm ps y) gq
              cases hq : fstP (gP sm ps y) (cmb l (j + 1) k) with
              | some t =>
                rw [hq] at em
                have bits := IH.1 t hq
                have hne : ¬ chF sm ps l (j + 1) y = -1 := gb_m1 (x := y) (t := t) (fun c hc => ((ybit c).mp hc).elim (hx c) (fun z => by omega)) (fun e he => by have := ((cmb_mem _ _ _ t (fstP_mem hq).1).2 e he); omega) bits
                rw [if_neg hne, fstP_a1 em]
                refine ⟨fun t' ht' c => ?_, fun z => by cases z⟩
                have et := Option.some.inj ht'
                rw [← et, bits c]
                exact set_iff t c
              | none =>
                rw [hq] at em
                rw [if_pos (IH.2 hq), fstP_a0 em]
                exact ih
        exact inner (24 - f) f (by omega)
      · rw [if_neg h2]
        have e : fstP (gP sm ps x) (cmb (l + 1) f (24 - f)) = none := fstP_none (fun t ht z => h2 (by
          have hr : ∀ c, gb (rst x f) c = true ↔ (gb x c = true ∨ (f ≤ c ∧ c < 24)) := fun c => by
            by_cases c32 : c < 32
            · rw [gb_or, Bool.or_eq_true, gb_rst f hf c c32, decide_eq_true_iff]
            · rw [gb_hi (by omega), gb_hi (by omega)]
              exact ⟨fun z => (by cases z), fun z => z.elim (fun w => by cases w) (fun w => absurd w.2 (by omega))⟩
          refine (nfo_iff (fun c hc => ((hr c).mp hc).elim (hx c) (fun w => w.2))).mpr (ts_mono (fun c _ w => (hr c).mpr (w.imp id (fun y => (hmem t ht).2 c y))) (cP_iff.mp z).2)))
        rw [e]
        exact ⟨fun t ht => (by cases ht), fun _ => rfl⟩
    · rw [if_neg (fun z => h1 ((nI_leI (by omega) (by omega)).mp z))]
      have e : fstP (gP sm ps x) (cmb (l + 1) f (24 - f)) = none := fstP_none (fun t ht z => lone_ok hx hsx hmin (by rw [(hmem t ht).1]; omega) (by rw [(hmem t ht).1]; omega) (cP_iff.mp z).2)
      rw [e]
      exact ⟨fun t ht => (by cases ht), fun _ => rfl⟩
/-- a set as a list in order -/
def lstO (p : Nat → Bool) : Nat → Nat → List Nat
  | _, 0 => []
  | f, k + 1 => if p f = true then f :: lstO p (f + 1) k else lstO p (f + 1) k
theorem lstO_in {p : Nat → Bool} : ∀ k f, lstO p f k ∈ cmb (lstO p f k).length f k ∧ (lstO p f k).length + ct p f = ct p (f + k) ∧ ∀ c, c ∈ lstO p f k ↔ (f ≤ c ∧ c < f + k ∧ p c = true)
  | 0, f => ⟨List.mem_singleton.mpr rfl, Nat.zero_add _, fun c => ⟨fun z => (by cases z), fun z => by omega⟩⟩
  | k + 1, f => by
    obtain ⟨h1, h2, h3⟩ := lstO_in (p := p) k (f + 1)
    rw [lstO]
    cases hp : p f with
    | true =>
      rw [if_pos rfl]
      refine ⟨?_, ?_, fun c => ?_⟩
      · rw [List.length_cons, cmb]
        exact List.mem_append.mpr (Or.inl (List.mem_map.mpr ⟨_, h1, rfl⟩))
      · rw [ct_t hp] at h2
        rw [List.length_cons, show f + (k + 1) = f + 1 + k by omega]
        omega
      · rw [List.mem_cons, h3]
        constructor
        · intro z
          rcases z with z | z
          · rw [z]; exact ⟨Nat.le_refl _, by omega, hp⟩
          · exact ⟨by omega, by omega, z.2.2⟩
        · intro z
          by_cases e : c = f
          · exact Or.inl e
          · exact Or.inr ⟨by omega, by omega, z.2.2⟩
    | false =>
      rw [if_neg (by decide)]
      refine ⟨?_, ?_, fun c => ?_⟩
      · generalize hm : (lstO p (f + 1) k).length = m at *
        cases m with
        | zero =>
          rw [List.length_eq_zero_iff.mp hm]
          exact List.mem_singleton.mpr rfl
        | succ m =>
          rw [cmb]
          exact List.mem_append.mpr (Or.inr h1)
      · rw [ct_f hp] at h2
        rw [show f + (k + 1) = f + 1 + k by omega]
        exact h2
      · rw [h3]
        constructor
        · intro z
          exact ⟨by omega, by omega, z.2.2⟩
        · intro z
          have e : c ≠ f := fun e => by rw [e, hp] at z; cases z.2.2
          exact ⟨by omega, by omega, z.2.2⟩
theorem mnS_0 {sm ps : Int32} : mnS sm ps 0 := fun p h => absurd h (Nat.not_lt_zero _)
theorem mnS_s {sm ps : Int32} {n : Nat} (h : mnS sm ps n) (hno : fstP (gP sm ps sm) (cmb n 0 24) = none) : mnS sm ps (n + 1) := fun p hp hs hq => by
  by_cases e : ct p 24 < n
  · exact h p e hs hq
  · obtain ⟨h1, h2, h3⟩ := lstO_in (p := p) 24 0
    have h0 : ct p 0 = 0 := rfl
    have hn : (lstO p 0 24).length = n := by
      rw [h0, Nat.zero_add] at h2
      omega
    rw [hn] at h1
    refine fstP_no hno _ h1 (cP_iff.mpr ⟨fun e he => hs e ((h3 e).mp he).2.2, ts_mono (fun c hc z => z.imp id (fun w => (h3 c).mpr ⟨by omega, by omega, w⟩)) hq⟩)
theorem lr_mem {l : List Nat} {n c : Nat} (h : l.length = n) : (∃ k, k < n ∧ lr l k = c) ↔ c ∈ l := by
  constructor
  · intro ⟨k, hk, e⟩
    rw [← e]
    show l.getD k 0 ∈ l
    rw [List.getD_eq_getElem?_getD, List.getElem?_eq_getElem (by omega)]
    exact List.getElem_mem _
  · intro hc
    obtain ⟨k, hk, e⟩ := List.mem_iff_getElem.mp hc
    refine ⟨k, by omega, ?_⟩
    show l.getD k 0 = c
    rw [List.getD_eq_getElem?_getD, List.getElem?_eq_getElem hk]
    exact e
/-- both searches -/
theorem fo_ok {J : Nat → Nat → Int32} {sm ps : Int32} (h24 : ∀ c, gb sm c = true → c < 24) (hS : ∀ c, c < 24 → (gb sm c = true ↔ smM J c)) (hZ : ∀ c, c < 24 → (gb ps c = true ↔ ¬ J 71 c = 0)) : ∀ k n, n + k = 5 → mnS sm ps n → (∀ q, fndT J k n = some q → (∀ c, c < 24 → (gb (foF (fun i => chF sm ps i 0 sm) k n) c = true ↔ hidL J q.1 q.2 c)) ∧ (∀ c, gb (foF (fun i => chF sm ps i 0 sm) k n) c = true → c < 24) ∧ ¬ foF (fun i => chF sm ps i 0 sm) k n = -1) ∧ (fndT J k n = none → foF (fun i => chF sm ps i 0 sm) k n = -1)
  | 0, n, _, _ => ⟨fun q hq => (by rw [fndT] at hq; cases hq), fun _ => rfl⟩
  | k + 1, n, hn, hmin => by
    have e0 : nOt sm sm = 0 := ct_z (fun c _ => by cases gb sm c <;> rfl)
    have IH := chF_ok (by omega) hmin n 0 sm (by omega) h24 (fun c hc => hc) (by omega)
    have mem : ∀ t, t ∈ cmb n 0 24 → t.length = n ∧ ∀ e, e ∈ t → e < 24 := fun t ht => by
      obtain ⟨q1, q2⟩ := cmb_mem _ _ _ t ht
      exact ⟨q1, fun e he => by have := q2 e he; omega⟩
    have eg : fstP (gdL J n) (cmb n 0 24) = fstP (gP sm ps sm) (cmb n 0 24) := fstP_cong (fun t ht => by
      obtain ⟨m1, m2⟩ := mem t ht
      have hh : ∀ c, c < 24 → (hidL J n t c ↔ (gb sm c = true ∨ c ∈ t)) := fun c hc => by
        unfold hidL
        rw [lr_mem m1, hS c hc]
      have ets : tsafe (smM J) (hidL J n t) (fun c => ¬ J 71 c = 0) ↔ tsafe (bS sm) (fun c => gb sm c = true ∨ c ∈ t) (bS ps) := tsafe_c (fun c hc => (hS c hc).symm) hh (fun c hc => (hZ c hc).symm)
      refine Iff.trans ?_ cP_iff.symm
      constructor
      · intro ⟨z1, z2⟩
        refine ⟨fun e he w => ?_, cP_iff.mp (ets.mp z2)⟩
        obtain ⟨j, hj, ej⟩ := (lr_mem m1).mpr he
        exact z1 j hj (by rw [ej]; exact (hS e (m2 e he)).mp w)
      · intro ⟨z1, z2⟩
        refine ⟨fun j hj w => ?_, ets.mpr (cP_iff.mpr z2)⟩
        have he := (lr_mem m1).mp ⟨j, hj, rfl⟩
        exact z1 _ he ((hS _ (m2 _ he)).mpr w))
    rw [fndT, foF, eg]
    cases hq : fstP (gP sm ps sm) (cmb n 0 24) with
    | some t =>
      have bits := IH.1 t hq
      obtain ⟨m1, m2⟩ := mem t (fstP_mem hq).1
      have hne : ¬ chF sm ps n 0 sm = -1 := gb_m1 h24 m2 bits
      rw [if_neg hne]
      refine ⟨fun q hq2 => ?_, fun z => by cases z⟩
      have e2 := Option.some.inj hq2
      rw [← e2]
      refine ⟨fun c hc => ?_, fun c hc => ((bits c).mp hc).elim (h24 c) (m2 c), hne⟩
      show gb (chF sm ps n 0 sm) c = true ↔ (smM J c ∨ ∃ k, k < n ∧ lr t k = c)
      rw [bits c, lr_mem m1, hS c hc]
    | none =>
      rw [if_pos (IH.2 hq)]
      exact fo_ok h24 hS hZ k (n + 1) (by omega) (mnS_s hmin hq)
end HS
