/-! ===== tables with the same sums: pure ===== -/
def sZ (f : Nat → Int) : Nat → Int
  | 0 => 0
  | n + 1 => sZ f n + f n
theorem sZ_cong {f g : Nat → Int} : ∀ {n : Nat}, (∀ k, k < n → f k = g k) → sZ f n = sZ g n
  | 0, _ => rfl
  | n + 1, h => by rw [sZ, sZ, sZ_cong (fun k hk => h k (by omega)), h n (by omega)]
theorem sZ_add (f g : Nat → Int) : ∀ n, sZ (fun k => f k + g k) n = sZ f n + sZ g n
  | 0 => rfl
  | n + 1 => by rw [sZ, sZ, sZ, sZ_add f g n]; omega
theorem sZ_neg (f : Nat → Int) : ∀ n, sZ (fun k => - f k) n = - sZ f n
  | 0 => rfl
  | n + 1 => by rw [sZ, sZ, sZ_neg f n]; omega
theorem sZ_zero : ∀ n, sZ (fun _ => 0) n = 0
  | 0 => rfl
  | n + 1 => by rw [sZ, sZ_zero n]; rfl
theorem sZ_swap (f : Nat → Nat → Int) (m : Nat) : ∀ n, sZ (fun i => sZ (fun j => f i j) m) n = sZ (fun j => sZ (fun i => f i j) n) m
  | 0 => by
    show (0 : Int) = sZ (fun j => 0) m
    rw [sZ_zero]
  | n + 1 => by
    rw [sZ, sZ_swap f m n, ← sZ_add]
    rfl
theorem sZ_one (a : Nat) (A : Int) : ∀ n, sZ (fun v => if v = a then A else 0) n = if a < n then A else 0
  | 0 => rfl
  | n + 1 => by
    rw [sZ, sZ_one a A n]
    by_cases h1 : n = a
    · rw [if_pos h1, if_neg (by omega), if_pos (by omega)]; omega
    · rw [if_neg h1]
      by_cases h2 : a < n
      · rw [if_pos h2, if_pos (by omega)]; omega
      · rw [if_neg h2, if_neg (by omega)]; rfl
theorem sZ_le0 {f : Nat → Int} : ∀ {n : Nat}, (∀ k, k < n → f k ≤ 0) → sZ f n ≤ 0
  | 0, _ => Int.le_refl 0
  | n + 1, h => by
    have h1 := sZ_le0 (n := n) (fun k hk => h k (by omega))
    have h2 := h n (by omega)
    rw [sZ]; omega
theorem sZ_pt {f : Nat → Int} {c : Nat} : ∀ {n : Nat}, c < n → (∀ k, k < n → k ≠ c → f k ≤ 0) → sZ f n ≤ f c
  | 0, h, _ => by omega
  | n + 1, hc, h => by
    rw [sZ]
    by_cases e : c = n
    · subst e
      have := sZ_le0 (f := f) (n := c) (fun k hk => h k (by omega) (by omega))
      omega
    · have h1 := sZ_pt (f := f) (n := n) (by omega) (fun k hk => h k (by omega))
      have h2 := h n (by omega) (fun z => e z.symm)
      omega
theorem sZ_ge {f : Nat → Int} {c n : Nat} (hc : c < n) (h : ∀ k, k < n → 0 ≤ f k) : f c ≤ sZ f n := by
  have h1 := sZ_pt (f := fun k => - f k) hc (fun k hk _ => by have := h k hk; show - f k ≤ 0; omega)
  rw [sZ_neg] at h1
  have h1 : - sZ f n ≤ - f c := h1
  omega
theorem sZ_upd {f g : Nat → Int} {x : Nat} : ∀ {n : Nat}, (∀ k, k ≠ x → g k = f k) → sZ g n = sZ f n + (if x < n then g x - f x else 0)
  | 0, _ => rfl
  | n + 1, h => by
    rw [sZ, sZ, sZ_upd (n := n) h]
    by_cases e : n = x
    · subst e
      rw [if_neg (by omega), if_pos (by omega)]; omega
    · rw [h n e]
      by_cases e2 : x < n
      · rw [if_pos e2, if_pos (by omega)]; omega
      · rw [if_neg e2, if_neg (by omega)]; omega
abbrev inc (c v : Nat) : Prop := c / 4 = v ∨ 6 + c % 4 = v
/-- the sum of a row (0 to 5), of a column (6 to 9) -/
def nS (T : Nat → Nat) (v : Nat) : Int := sZ (fun c => if inc c v then (T c : Int) else 0) 24
theorem nS_u {T T' : Nat → Nat} {x : Nat} (hx : x < 24) (h : ∀ k, k ≠ x → T' k = T k) (v : Nat) : nS T' v = nS T v + (if inc x v then (T' x : Int) - T x else 0) := by
  unfold nS
  rw [sZ_upd (f := fun c => if inc c v then (T c : Int) else 0) (x := x) (fun k hk => by show (if inc k v then (T' k : Int) else 0) = _; rw [h k hk]), if_pos hx]
  by_cases e : inc x v
  · rw [if_pos e, if_pos e, if_pos e]
  · rw [if_neg e, if_neg e, if_neg e]; rfl
theorem nS_c {T T' : Nat → Nat} (h : ∀ c, c < 24 → T c = T' c) (v : Nat) : nS T v = nS T' v := by
  unfold nS
  exact sZ_cong (fun k hk => by rw [h k hk])
theorem nS_ge {T : Nat → Nat} {c : Nat} (hc : c < 24) : (T c : Int) ≤ nS T (c / 4) := by
  have h := sZ_ge (f := fun k => if inc k (c / 4) then (T k : Int) else 0) (c := c) (n := 24) hc (fun k _ => by
    show (0 : Int) ≤ if inc k (c / 4) then (T k : Int) else 0
    split <;> omega)
  rw [show (if inc c (c / 4) then (T c : Int) else 0) = (T c : Int) from if_pos (Or.inl rfl)] at h
  exact h
/-- the same sums, the same told cells -/
def SmT (H : Nat → Prop) (M T : Nat → Nat) : Prop := (∀ c, c < 24 → ¬ H c → T c = M c) ∧ ∀ v, v < 10 → nS T v = nS M v
theorem SmT.le {H : Nat → Prop} {M T : Nat → Nat} (h : SmT H M T) {B : Nat} (hB : ∀ v, v < 10 → nS M v ≤ B) {c : Nat} (hc : c < 24) : T c ≤ B := by
  have h1 := nS_ge (T := T) hc
  have h2 := h.2 (c / 4) (by omega)
  have h3 := hB (c / 4) (by omega)
  omega
theorem SmT.rf {H : Nat → Prop} {M : Nat → Nat} : SmT H M M := ⟨fun _ _ _ => rfl, fun _ _ => rfl⟩
/-- a set of places weighs a table -/
noncomputable def kap (R : Nat → Prop) (x : Nat) (z : Int) : Int := (if cP (R (x / 4)) then z else 0) + (if cP (R (6 + x % 4)) then - z else 0)
noncomputable def wS (R : Nat → Prop) (T : Nat → Nat) : Int := sZ (fun v => if cP (R v) then (if v < 6 then nS T v else - nS T v) else 0) 10
theorem wS_k (R : Nat → Prop) (T : Nat → Nat) : wS R T = sZ (fun x => kap R x (T x)) 24 := by
  have e1 : wS R T = sZ (fun v => sZ (fun x => if cP (R v) then (if v < 6 then (if inc x v then (T x : Int) else 0) else - (if inc x v then (T x : Int) else 0)) else 0) 24) 10 := by
    unfold wS
    refine sZ_cong (fun v hv => ?_)
    by_cases h1 : cP (R v)
    · simp only [if_pos h1]
      by_cases h2 : v < 6
      · simp only [if_pos h2]; rfl
      · simp only [if_neg h2]; rw [sZ_neg]; rfl
    · simp only [if_neg h1]
      rw [sZ_zero]
  rw [e1, sZ_swap]
  refine sZ_cong (fun x hx => ?_)
  have e2 : ∀ v, v < 10 → (if cP (R v) then (if v < 6 then (if inc x v then (T x : Int) else 0) else - (if inc x v then (T x : Int) else 0)) else 0) = (if v = x / 4 then (if cP (R (x / 4)) then (T x : Int) else 0) else 0) + (if v = 6 + x % 4 then (if cP (R (6 + x % 4)) then - (T x : Int) else 0) else 0) := fun v hv => by
    by_cases h3 : v = x / 4
    · subst h3
      rw [if_pos (rfl : x / 4 = x / 4), if_neg (show ¬ x / 4 = 6 + x % 4 by omega), if_pos (show x / 4 < 6 by omega), if_pos (Or.inl rfl)]
      omega
    · by_cases h4 : v = 6 + x % 4
      · subst h4
        rw [if_neg h3, if_pos (rfl : 6 + x % 4 = 6 + x % 4), if_neg (show ¬ 6 + x % 4 < 6 by omega), if_pos (Or.inr rfl)]
        omega
      · rw [if_neg h3, if_neg h4, if_neg (show ¬ inc x v by unfold inc; omega)]
        split
        · split <;> rfl
        · rfl
  rw [sZ_cong e2, sZ_add, sZ_one, sZ_one, if_pos (show x / 4 < 10 by omega), if_pos (show 6 + x % 4 < 10 by omega)]
  rfl
/-- the cut: a table from which no way leads is extreme -/
theorem cut_x {H R : Nat → Prop} {M T T' : Nat → Nat} {c : Nat} (hc : c < 24) (hT : SmT H M T) (hT' : SmT H M T') (hR : ∀ a b, a < 10 → b < 10 → R a → stS H (fun x => ¬ T x = 0) c a b → R b) : 0 ≤ kap R c (T' c) - kap R c (T c) := by
  have e : wS R T' = wS R T := sZ_cong (fun v hv => by rw [hT.2 v hv, hT'.2 v hv])
  rw [wS_k, wS_k] at e
  have e2 : sZ (fun x => kap R x (T' x) + - kap R x (T x)) 24 = 0 := by rw [sZ_add, sZ_neg, e]; omega
  have e3 := sZ_pt (f := fun x => kap R x (T' x) + - kap R x (T x)) (c := c) hc (fun x hx hxc => by
    show kap R x (T' x) + - kap R x (T x) ≤ 0
    by_cases hh : H x
    · have hst : R (x / 4) → R (6 + x % 4) := fun z => hR _ _ (by omega) (by omega) z ⟨Or.inl ⟨by omega, by omega, by omega⟩, by unfold clN; rw [if_pos (by omega)]; omega, by unfold clN; rw [if_pos (by omega), show 4 * (x / 4) + (6 + x % 4) - 6 = x by omega]; exact hh, Or.inl (by omega)⟩
      have hst2 : ¬ T x = 0 → R (6 + x % 4) → R (x / 4) := fun z0 z => hR _ _ (by omega) (by omega) z ⟨Or.inr ⟨by omega, by omega, by omega⟩, by unfold clN; rw [if_neg (by omega)]; omega, by unfold clN; rw [if_neg (by omega), show 4 * (x / 4) + (6 + x % 4) - 6 = x by omega]; exact hh, Or.inr (by unfold clN; rw [if_neg (by omega), show 4 * (x / 4) + (6 + x % 4) - 6 = x by omega]; exact z0)⟩
      unfold kap
      by_cases h1 : R (x / 4)
      · rw [if_pos (cP_iff.mpr h1), if_pos (cP_iff.mpr (hst h1)), if_pos (cP_iff.mpr h1), if_pos (cP_iff.mpr (hst h1))]; omega
      · rw [if_neg (fun z => h1 (cP_iff.mp z)), if_neg (fun z => h1 (cP_iff.mp z))]
        by_cases h2 : R (6 + x % 4)
        · rw [if_pos (cP_iff.mpr h2), if_pos (cP_iff.mpr h2)]
          have h3 : T x = 0 := Classical.byContradiction fun z => h1 (hst2 z h2)
          rw [h3]; omega
        · rw [if_neg (fun z => h2 (cP_iff.mp z)), if_neg (fun z => h2 (cP_iff.mp z))]; omega
    · rw [hT.1 x hx hh, hT'.1 x hx hh]; omega)
  rw [e2] at e3
  have e3 : 0 ≤ kap R c (T' c) + - kap R c (T c) := e3
  omega
theorem cut_up {H R : Nat → Prop} {M T T' : Nat → Nat} {c : Nat} (hc : c < 24) (hT : SmT H M T) (hT' : SmT H M T') (hR : ∀ a b, a < 10 → b < 10 → R a → stS H (fun x => ¬ T x = 0) c a b → R b) (h1 : R (6 + c % 4)) (h2 : ¬ R (c / 4)) : T' c ≤ T c := by
  have h := cut_x hc hT hT' hR
  unfold kap at h
  rw [if_neg (fun z => h2 (cP_iff.mp z)), if_pos (cP_iff.mpr h1), if_neg (fun z => h2 (cP_iff.mp z)), if_pos (cP_iff.mpr h1)] at h
  omega
theorem cut_dn {H R : Nat → Prop} {M T T' : Nat → Nat} {c : Nat} (hc : c < 24) (hT : SmT H M T) (hT' : SmT H M T') (hR : ∀ a b, a < 10 → b < 10 → R a → stS H (fun x => ¬ T x = 0) c a b → R b) (h1 : R (c / 4)) (h2 : ¬ R (6 + c % 4)) : T c ≤ T' c := by
  have h := cut_x hc hT hT' hR
  unfold kap at h
  rw [if_pos (cP_iff.mpr h1), if_neg (fun z => h2 (cP_iff.mp z)), if_pos (cP_iff.mpr h1), if_neg (fun z => h2 (cP_iff.mp z))] at h
  omega
theorem nrch {R : Nat → Nat → Prop} {s g : Nat} (h : ¬ rch R s g) : ∃ S : Nat → Prop, S s ∧ ¬ S g ∧ ∀ a b, a < 10 → b < 10 → S a → R a b → S b := by
  refine Classical.byContradiction fun z => h (cP_iff.mpr (fun T hT hc => Classical.byContradiction fun w => z ⟨T, hT, w, hc⟩))
/-- an extreme of a cell: the greatest (up), the least -/
def XT (up : Prop) (H : Nat → Prop) (M : Nat → Nat) (c v : Nat) : Prop := (∃ T, SmT H M T ∧ T c = v) ∧ ∀ T, SmT H M T → (up → T c ≤ v) ∧ (¬ up → v ≤ T c)
theorem XT.eq {up : Prop} {H : Nat → Prop} {M : Nat → Nat} {c v v' : Nat} (h : XT up H M c v) (h' : XT up H M c v') : v = v' := by
  obtain ⟨⟨T, h1, h2⟩, h3⟩ := h
  obtain ⟨⟨T', h1', h2'⟩, h3'⟩ := h'
  have a := h3 T' h1'
  have b := h3' T h1
  by_cases hu : up
  · have := a.1 hu; have := b.1 hu; omega
  · have := a.2 hu; have := b.2 hu; omega
theorem XT_told {up : Prop} {H : Nat → Prop} {M : Nat → Nat} {c : Nat} (hc : c < 24) (h : ¬ H c) : XT up H M c (M c) :=
  ⟨⟨M, SmT.rf, rfl⟩, fun T hT => by rw [hT.1 c hc h]; exact ⟨fun _ => Nat.le_refl _, fun _ => Nat.le_refl _⟩⟩
theorem XT_end {up : Prop} {H : Nat → Prop} {M T : Nat → Nat} {c : Nat} (hc : c < 24) (hT : SmT H M T) (hu : up → ¬ rch (stS H (fun x => ¬ T x = 0) c) (6 + c % 4) (c / 4)) (hd : ¬ up → T c = 0 ∨ ¬ rch (stS H (fun x => ¬ T x = 0) c) (c / 4) (6 + c % 4)) : XT up H M c (T c) :=
  ⟨⟨T, hT, rfl⟩, fun T' hT' => ⟨fun z => by
    obtain ⟨S, h1, h2, h3⟩ := nrch (hu z)
    exact cut_up hc hT hT' h3 h1 h2, fun z => by
    rcases hd z with h0 | h0
    · omega
    · obtain ⟨S, h1, h2, h3⟩ := nrch h0
      exact cut_dn hc hT hT' h3 h1 h2⟩⟩
/-! a way's moves -/
abbrev adj (a b : Nat) : Prop := (a < 6 ∧ 6 ≤ b ∧ b < 10) ∨ (6 ≤ a ∧ a < 10 ∧ b < 6)
theorem clN_lt {a b : Nat} (h : adj a b) : clN a b < 24 := by unfold clN; split <;> omega
theorem clN_inj {a b a' b' : Nat} (h : adj a b) (h' : adj a' b') (e : clN a b = clN a' b') : (a = a' ∧ b = b') ∨ (a = b' ∧ b = a') := by
  unfold clN at e
  split at e <;> split at e <;> omega
theorem clN_inc {a b v : Nat} (h : adj a b) : inc (clN a b) v ↔ v = a ∨ v = b := by
  unfold clN inc
  split <;> omega
/-- +1 for a row, -1 for a column -/
def eps (v : Nat) (D : Nat) : Int := if v < 6 then (D : Int) else - (D : Int)
/-- the moves have come back to place k of the queue -/
def PI (H : Nat → Prop) (M T0 : Nat → Nat) (c s D : Nat) (q : Nat → Nat) (k : Nat) (T : Nat → Nat) : Prop :=
  (∀ v, v < 10 → nS T v = nS M v + (if v = q k then eps (q k) D else 0) - (if v = s then eps s D else 0)) ∧ (∀ i j, i ≤ k → j ≤ k → adj (q i) (q j) → clN (q i) (q j) ≠ c → T (clN (q i) (q j)) = T0 (clN (q i) (q j))) ∧ ∀ x, x < 24 → ¬ H x → T x = M x
def updN (T : Nat → Nat) (x v : Nat) : Nat → Nat := fun k => if k = x then v else T k
theorem updN_s (T : Nat → Nat) (x v : Nat) : updN T x v x = v := if_pos rfl
theorem updN_o (T : Nat → Nat) {x k : Nat} (v : Nat) (h : k ≠ x) : updN T x v k = T k := if_neg h
/-- one step of a way back -/
def mvT (T : Nat → Nat) (a b D : Nat) : Nat → Nat := updN T (clN a b) (if a < 6 then T (clN a b) + D else T (clN a b) - D)
theorem PI.step {H : Nat → Prop} {M T0 T : Nat → Nat} {c s D k k' : Nat} {q : Nat → Nat} (h : PI H M T0 c s D q k T) (hk : k' < k) (hd : ∀ i, i < k → q i ≠ q k) (hst : stS H (fun x => ¬ T0 x = 0) c (q k') (q k)) (hD : 6 ≤ q k' → D ≤ T0 (clN (q k') (q k))) : PI H M T0 c s D q k' (mvT T (q k') (q k) D) := by
  obtain ⟨h1, h2, h3⟩ := h
  obtain ⟨ha, hb, hc, -⟩ := hst
  have hl := clN_lt ha
  have eT := h2 k' k (by omega) (Nat.le_refl _) ha hb
  refine ⟨fun v hv => ?_, fun i j hi hj hij hn => ?_, fun x hx hH => ?_⟩
  · rw [nS_u (T := T) (T' := mvT T (q k') (q k) D) hl (fun z hz => updN_o T _ hz) v, h1 v hv, mvT, updN_s]
    have hi := clN_inc (v := v) ha
    have hne := hd k' hk
    by_cases e1 : v = q k
    · rw [if_pos e1, if_pos (hi.mpr (Or.inr e1)), if_neg (show ¬ v = q k' from fun z => hne (z.symm.trans e1))]
      unfold eps
      by_cases e2 : q k' < 6
      · rw [if_pos e2, if_neg (show ¬ q k < 6 by omega)]; omega
      · rw [if_neg e2, if_pos (show q k < 6 by omega)]
        have := hD (by omega)
        omega
    · rw [if_neg e1]
      by_cases e3 : v = q k'
      · rw [if_pos (hi.mpr (Or.inl e3)), if_pos e3]
        unfold eps
        by_cases e2 : q k' < 6
        · rw [if_pos e2, if_pos e2]; omega
        · rw [if_neg e2, if_neg e2]
          have := hD (by omega)
          omega
      · rw [if_neg (show ¬ inc (clN (q k') (q k)) v from fun z => (hi.mp z).elim e3 e1), if_neg e3]; omega
  · rw [mvT, updN_o]
    · exact h2 i j (by omega) (by omega) hij hn
    · intro z
      rcases clN_inj hij ha z with ⟨-, w⟩ | ⟨w, -⟩
      · exact hd j (by omega) w
      · exact hd i (by omega) w
  · rw [mvT, updN_o]
    · exact h3 x hx hH
    · intro z
      exact hH (z ▸ hc)
theorem PI.fin {H : Nat → Prop} {M T0 T : Nat → Nat} {c s D : Nat} {q : Nat → Nat} (h : PI H M T0 c s D q 0 T) (h0 : q 0 = s) : SmT H M T := by
  refine ⟨h.2.2, fun v hv => ?_⟩
  rw [h.1 v hv, h0]
  omega
/-- the start: the cell itself -/
theorem PI.start {H : Nat → Prop} {M T T1 : Nat → Nat} {c s g D k : Nat} {q : Nat → Nat} (hT : SmT H M T) (hc : c < 24) (hH : H c) (hk : q k = g) (hsg : (s = 6 + c % 4 ∧ g = c / 4 ∧ T1 = updN T c (T c + D)) ∨ (s = c / 4 ∧ g = 6 + c % 4 ∧ D ≤ T c ∧ T1 = updN T c (T c - D))) : PI H M T c s D q k T1 := by
  refine ⟨fun v hv => ?_, fun i j _ _ _ hn => ?_, fun x hx h => ?_⟩
  · rw [hk, ← hT.2 v hv]
    rcases hsg with ⟨rfl, rfl, rfl⟩ | ⟨rfl, rfl, h1, rfl⟩
    · rw [nS_u hc (T := T) (fun z hz => updN_o T _ hz) v, updN_s]
      unfold eps
      rw [if_pos (show c / 4 < 6 by omega), if_neg (show ¬ 6 + c % 4 < 6 by omega)]
      by_cases e1 : v = c / 4
      · rw [if_pos e1, if_pos (Or.inl e1.symm), if_neg (show ¬ v = 6 + c % 4 by omega)]; omega
      · rw [if_neg e1]
        by_cases e2 : v = 6 + c % 4
        · rw [if_pos e2, if_pos (Or.inr e2.symm)]; omega
        · rw [if_neg e2, if_neg (show ¬ inc c v from fun z => z.elim (fun w => e1 w.symm) (fun w => e2 w.symm))]; omega
    · rw [nS_u hc (T := T) (fun z hz => updN_o T _ hz) v, updN_s]
      unfold eps
      rw [if_pos (show c / 4 < 6 by omega), if_neg (show ¬ 6 + c % 4 < 6 by omega)]
      by_cases e1 : v = c / 4
      · rw [if_pos e1, if_pos (Or.inl e1.symm), if_neg (show ¬ v = 6 + c % 4 by omega)]; omega
      · rw [if_neg e1]
        by_cases e2 : v = 6 + c % 4
        · rw [if_pos e2, if_pos (Or.inr e2.symm)]; omega
        · rw [if_neg e2, if_neg (show ¬ inc c v from fun z => z.elim (fun w => e1 w.symm) (fun w => e2 w.symm))]; omega
  · rcases hsg with ⟨-, -, rfl⟩ | ⟨-, -, -, rfl⟩ <;> exact updN_o T _ hn
  · have hx : x ≠ c := fun z => h (z ▸ hH)
    rcases hsg with ⟨-, -, rfl⟩ | ⟨-, -, -, rfl⟩ <;> (rw [updN_o T _ hx]; exact hT.1 x (by omega) h)
