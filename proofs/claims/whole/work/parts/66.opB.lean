theorem ct_z {p : Nat → Bool} : ∀ {n : Nat}, (∀ k, k < n → p k = false) → ct p n = 0
  | 0, _ => rfl
  | n + 1, h => by rw [ct_f (h n (by omega)), ct_z (fun k hk => h k (by omega))]
theorem bc_n {x : Int32} {n : Nat} (hn : n ≤ 24) (h : ∀ j, n ≤ j → gb x j = false) : bc32 x = nI (ct (fun j => gb x j) n) := by
  rw [bc_ct (fun j hj => h j (by omega))]
  congr 1
  rw [show (24 : Nat) = n + (24 - n) by omega, ct_split, ct_z (p := fun k => gb x (n + k)) (fun k _ => h _ (by omega)), Nat.add_zero]
theorem ct_not {p q : Nat → Bool} : ∀ {n : Nat}, (∀ k, k < n → q k = !p k) → ct p n + ct q n = n
  | 0, _ => rfl
  | n + 1, h => by
    have ih := ct_not (n := n) (fun k hk => h k (by omega))
    have h1 := h n (by omega)
    cases hp : p n with
    | true => rw [ct_t hp, ct_f (by rw [h1, hp]; rfl)]; omega
    | false => rw [ct_f hp, ct_t (by rw [h1, hp]; rfl)]; omega
theorem nI_ltle {n : Nat} {a : Int32} (hn : n < 1000) : nI n < a ↔ nI (n + 1) ≤ a := by
  rw [Int32.lt_iff_toInt_lt, Int32.le_iff_toInt_le, nI_toInt (by omega), nI_toInt (by omega)]
  omega
section ST2
variable {G : GG} {dc : Nat} {I : Nat → Nat → Int32} {L : Nat → Nat → Int64} {C M : Nat → Nat → Int32} {CL ML : Nat → Nat → Int64}
theorem IvD.ask {d : Nat} (h : IvD C M d) : tba C d ↔ mba M d := by
  unfold tba mba
  rw [h.b6, h.b7.1]
  constructor
  · rintro (a | a | a)
    · exact Or.inl a
    · exact Or.inr (Or.inl a)
    · exact Or.inr (Or.inr ⟨h.b7.2 a, a⟩)
  · rintro (a | a | a)
    · exact Or.inl a
    · exact Or.inr (Or.inl a)
    · exact Or.inr (Or.inr a.2)
theorem op_status (h : Inv dc I L) (w : Int32) : OpI G yX8_status cX8_status 2 3 0 0 yX9_status cX9_status 4 2 [.int w] dc I L := by
  refine OpI.rd (c_X8_status h.wx) (c_X9_status h.wm) ?_ h
  by_cases hr : ¬ w < nI 11 ∧ ¬ nI 17 < w
  · obtain ⟨t, ht, rfl⟩ : ∃ t, t < 18 ∧ w = nI t := inR_of (by decide) ⟨fun z => hr.1 (Int32.lt_trans z (by decide)), fun z => hr.2 (Int32.lt_of_lt_of_le (by decide) z)⟩
    have h11 : 11 ≤ t := Nat.not_lt.mp (fun z => hr.1 (nI_lt z (by decide)))
    rw [stX_d (fun j hj hor e => by have := (nI_eq (by omega) (by omega)).mp e; omega), if_pos hr]
    unfold mSt
    rw [if_pos hr, pk_sub (by omega), tn_nI (by omega)]
    exact h.k3 _ (by omega) (by omega)
  · unfold stX mSt
    rw [if_neg hr, if_neg hr]

    by_cases e0 : w = nI 0
    · rw [if_pos e0, if_pos e0]
      rw [h.k12.2.1, h.k12.2.2]
    rw [if_neg e0, if_neg e0]
    by_cases e1 : w = nI 1
    · rw [if_pos e1, if_pos e1]
      rw [h.k12.2.1]
      have e := ct_not (p := pWith I (nI 0)) (q := pNZ (I 45)) (n := dc) (fun d hd => by unfold pWith pNZ; rw [(h.k7 d hd).b6, decide_not]; rfl)
      rw [pk_sub (by omega)]
      congr 1
      omega
    rw [if_neg e1, if_neg e1]
    by_cases e2 : w = nI 2
    · rw [if_pos e2, if_pos e2]
      exact congrArg nI (ct_cong (fun d hd => by unfold pWith p45; rw [(h.k7 d hd).b6]))
    rw [if_neg e2, if_neg e2]
    by_cases e3 : w = nI 3
    · rw [if_pos e3, if_pos e3]
      exact sI_cong (fun d hd => (h.k7 d hd).cnt)
    rw [if_neg e3, if_neg e3]
    by_cases e4 : w = nI 4
    · rw [if_pos e4, if_pos e4]
      exact sI_cong (fun d hd => (h.k7 d hd).bc)
    rw [if_neg e4, if_neg e4]
    by_cases e5 : w = nI 5
    · rw [if_pos e5, if_pos e5]
      exact h.k4.2.1
    rw [if_neg e5, if_neg e5]
    by_cases e6 : w = nI 6
    · rw [if_pos e6, if_pos e6]
      exact h.k4.2.2
    rw [if_neg e6, if_neg e6]
    by_cases e7 : w = nI 7
    · rw [if_pos e7, if_pos e7]
      rw [h.k1.1]
    rw [if_neg e7, if_neg e7]
    by_cases e8 : w = nI 8
    · rw [if_pos e8, if_pos e8]
      exact congrArg nI (ct_cong (fun d hd => decide_eq_decide.mpr (h.k7 d hd).ask))
    rw [if_neg e8, if_neg e8]
    by_cases e9 : w = nI 9
    · rw [if_pos e9, if_pos e9]
      rw [bc_n (n := 6) (by decide) (fun j hj => (h.k9 j).2 hj)]; exact congrArg nI (ct_cong (fun b hb => (h.k9 b).1 hb))
    rw [if_neg e9, if_neg e9]
    by_cases e18 : w = nI 18
    · rw [if_pos e18, if_pos e18]
      exact h.k2.1
    rw [if_neg e18, if_neg e18]
    by_cases e19 : w = nI 19
    · rw [if_pos e19, if_pos e19]
      exact h.k2.2.1
    rw [if_neg e19, if_neg e19]
    by_cases e20 : w = nI 20
    · rw [if_pos e20, if_pos e20]
      exact h.k2.2.2.1
    rw [if_neg e20, if_neg e20]
theorem op_told (h : Inv dc I L) (r c : Int32) : OpI G yX8_told cX8_told 3 2 0 0 yX9_told cX9_told 5 1 [.int r, .int c] dc I L := by
  refine OpI.rd c_X8_told c_X9_told ?_ h
  unfold telT mTld
  rw [h.k11.1]
  by_cases h0 : I 39 42 = 0
  · rw [if_pos h0, if_pos h0]
  rw [if_neg h0, if_neg h0]
  have hk := h.k11.2 h0
  by_cases h1 : inR r 7
  · rw [if_pos h1, if_neg h1.1, if_neg (fun z => h1.2 ((nI_ltle (by decide)).mp z))]
    by_cases h2 : inR c 5
    · obtain ⟨tr, htr, rfl⟩ := inR_of (N := 7) (by decide) h1
      obtain ⟨tc, htc, rfl⟩ := inR_of (N := 5) (by decide) h2
      rw [if_pos h2, if_neg h2.1, if_pos (nI_le (by omega) (by decide))]
      have es : sC (pSm (nI tr) (nI tc)) (I 17) 24 = sC (pSm (nI tr) (nI tc)) (I 70) 24 := sC_cong (fun k hk2 => ⟨rfl, fun _ => (hk k hk2).1⟩)
      by_cases h3 : nI 6 ≤ nI tr
      · rw [if_pos h3, if_neg (fun z => z.1.2 h3)]; exact es
      · rw [if_neg h3]
        by_cases h4 : nI 4 ≤ nI tc
        · rw [if_pos h4, if_neg (fun z => z.2.2 h4)]; exact es
        · have a6 : tr < 6 := Nat.not_le.mp (fun z => h3 (nI_le z (by omega)))
          have a4 : tc < 4 := Nat.not_le.mp (fun z => h4 (nI_le z (by omega)))
          rw [if_neg h4, if_pos ⟨⟨h1.1, h3⟩, h2.1, h4⟩, tn_nI (by omega), tn_nI (by omega), pk_mul, nI_add, show tr * 4 + tc = 4 * tr + tc by omega]
          obtain ⟨q1, -, q3⟩ := hk (4 * tr + tc) (by omega)
          by_cases h5 : I 73 (4 * tr + tc) = 0
          · rw [if_pos h5, if_neg (fun z => by rw [sb_iff (by omega), q3, decide_eq_true_iff] at z; exact z h5)]; exact q1
          · rw [if_neg h5, if_pos (by rw [sb_iff (by omega), q3, decide_eq_true_iff]; exact h5)]
    · rw [if_neg h2]
      by_cases h3 : c < 0
      · rw [if_pos h3]
      · rw [if_neg h3, if_neg (fun z => h2 ⟨h3, fun y => by
          have a1 := Int32.le_iff_toInt_le.mp y
          have a2 := Int32.le_iff_toInt_le.mp z
          rw [nI_toInt (by decide)] at a1 a2
          omega⟩)]
  · rw [if_neg h1]
    by_cases h3 : r < 0
    · rw [if_pos h3]
    · rw [if_neg h3, if_pos (Classical.byContradiction fun z => h1 ⟨h3, fun y => z (by
        have a1 := Int32.le_iff_toInt_le.mp y
        rw [nI_toInt (by decide)] at a1
        rw [Int32.lt_iff_toInt_lt, nI_toInt (by decide)]
        omega)⟩)]
/-! heap -/
def fS (g : Nat → Nat) : Nat → Nat
  | 0 => 0
  | n + 1 => fS g n + g n
theorem sI_nI {f : Nat → Int32} {g : Nat → Nat} : ∀ {n : Nat}, (∀ k, k < n → f k = nI (g k)) → ∃ s, sI f n = nI s ∧ s = fS g n
  | 0, _ => ⟨0, rfl, rfl⟩
  | n + 1, h => by
    obtain ⟨s, h1, h2⟩ := sI_nI (n := n) (fun k hk => h k (by omega))
    exact ⟨s + g n, by rw [sI, h1, h n (by omega), nI_add], by rw [fS, h2]⟩
theorem ct_in {p q : Nat → Bool} {h : Nat} (hh : h ≤ 12) (e : ∀ j, j < 12 → p j = (decide (j < h) && q j)) : ct p 12 = ct q h := by
  rw [show (12 : Nat) = h + (12 - h) by omega, ct_split, ct_z (p := fun k => p (h + k)) (fun k hk => by rw [e _ (by omega), decide_eq_false (by omega)]; rfl), Nat.add_zero]
  exact ct_cong (fun k hk => by rw [e k (by omega), decide_eq_true hk, Bool.true_and])
theorem ct_12 {p : Nat → Bool} {g : Nat → Nat} : ∀ {n : Nat}, (∀ d, d < n → ct (fun j => p (12 * d + j)) 12 = g d) → ct p (12 * n) = fS g n
  | 0, _ => rfl
  | n + 1, h => by
    rw [show 12 * (n + 1) = 12 * n + 12 by omega, ct_split, ct_12 (n := n) (fun d hd => h d (by omega)), h n (by omega), fS]
theorem hp_eq (h : Iv dc C M CL ML) {s : Int32} {q : Nat → Bool} (hq : ∀ d, d < dc → ∀ j, j < mny M d → pH C d s j = q (12 * d + j)) (hq0 : ∀ d, d < dc → ∀ j, j < 12 → ¬ j < mny M d → q (12 * d + j) = false) : sI (fHp C s) dc = nI (ct q (12 * dc)) := by
  obtain ⟨t, h1, h2⟩ := sI_nI (f := fHp C s) (g := fun d => ct (fun j => q (12 * d + j)) (mny M d)) (n := dc) (fun d hd => by
    have hD := h.k7 d hd
    unfold fHp hdn
    rw [hD.b8.1]
    exact congrArg nI (ct_cong (fun j hj => hq d hd j hj)))
  rw [h1, h2, ct_12 (fun d hd => ct_in (h.k7 d hd).b8.2.2 (fun j hj => by
    by_cases hlt : j < mny M d
    · rw [decide_eq_true (show j < tn (M 46 d) from hlt), Bool.true_and]
    · rw [decide_eq_false (show ¬ j < tn (M 46 d) from hlt), Bool.false_and]; exact hq0 d hd j hj hlt))]
theorem op_heap (h : Inv dc I L) : OpI G yX8_heap cX8_heap 4 2 0 0 yX9_heap cX9_heap 4 1 [] dc I L := by
  refine OpI.rd (c_X8_heap h.wx) (c_X9_heap h.wm) ?_ h
  have key : ∀ d, d < dc → ∀ j, j < mny I d → (((¬ I (78 + 3 * d + 2) j < nI 23 ∧ ¬ nI 62 < I (78 + 3 * d + 2) j) ∧ ¬ sbit (I (78 + 3 * d) 9) (nI j)) ↔ ((12 * d + j) % 12 < mny I ((12 * d + j) / 12) ∧ I 53 (12 * d + j) = 0 ∧ ¬ I 47 (12 * d + j) < nI 23 ∧ ¬ nI 62 < I 47 (12 * d + j))) := fun d hd j hj => by
    have hD := h.k7 d hd
    have h12 : mny I d ≤ 12 := hD.b8.2.2
    have e1 : (12 * d + j) % 12 = j := by omega
    have e2 : (12 * d + j) / 12 = d := by omega
    rw [e1, e2, (hD.ag j hj).1, hD.sb hj]
    exact ⟨fun z => ⟨hj, Classical.byContradiction z.2, z.1⟩, fun z => ⟨z.2.2, fun y => y z.2.1⟩⟩
  have z0 : ∀ d, d < dc → ∀ j, j < 12 → ¬ j < mny I d → pHa I (12 * d + j) = false := fun d hd j hj hn => decide_eq_false (fun z => by
    have e1 : (12 * d + j) % 12 = j := by omega
    have e2 : (12 * d + j) / 12 = d := by omega
    rw [e1, e2] at z; exact hn z.1)
  have e1 : sI (fHp I (nI 1)) dc = nI (ct (pHa I) (12 * dc)) := hp_eq h (fun d hd j hj => by
    unfold pH pHa
    refine decide_eq_decide.mpr ((and_iff_left_of_imp (fun z => ?_)).trans (key d hd j hj))
    obtain ⟨k, hk, ek⟩ := inR_of (b := I (78 + 3 * d + 2) j) (N := 63) (by decide) ⟨fun y => z.1.1 (Int32.lt_trans y (by decide)), fun y => z.1.2 (Int32.lt_of_lt_of_le (by decide) y)⟩
    rw [ek, pk_rem (by omega) (by decide) (by decide), Nat.mod_one]; rfl) z0
  have e5 : sI (fHp I (nI 5)) dc = nI (ct (pHf I) (12 * dc)) := hp_eq h (fun d hd j hj => by
    unfold pH pHf pHa
    rw [Bool.decide_and, decide_eq_decide.mpr (key d hd j hj), ((h.k7 d hd).ag j hj).1]) (fun d hd j hj hn => by unfold pHf; rw [z0 d hd j hj hn]; rfl)
  rw [e1, e5]
/-! right -/
theorem cdF_g : ∀ (k f a b : Nat), b < 2 ^ k → 2 * k + 1 ≤ f → a < 2 ^ 62 → b < 2 ^ 62 → cdF f (lN a) (lN b) = lN (Nat.gcd a b)
  | 0, f, a, b, h1, h2, ha, hb => by
    obtain rfl : b = 0 := by omega
    obtain ⟨f, rfl⟩ : ∃ g, f = g + 1 := ⟨f - 1, by omega⟩
    rw [cdF, if_pos rfl, Nat.gcd_zero_right]
  | k + 1, f, a, b, h1, h2, ha, hb => by
    obtain ⟨f, rfl⟩ : ∃ g, f = g + 2 := ⟨f - 2, by omega⟩
    have lz : ∀ z, z < 2 ^ 62 → (lN z = lN 0 ↔ z = 0) := fun z hz => pk_lEQ (by omega) (by omega)
    rw [cdF]
    by_cases e1 : b = 0
    · rw [if_pos ((lz b hb).mpr e1), e1, Nat.gcd_zero_right]
    · rw [if_neg (fun z => e1 ((lz b hb).mp z)), pk_lRem (by omega) (by omega) (by omega), cdF]
      have hr : a % b < b := Nat.mod_lt _ (by omega)
      by_cases e2 : a % b = 0
      · rw [if_pos ((lz _ (by omega)).mpr e2)]
        rw [Nat.gcd_comm, Nat.gcd_rec, e2, Nat.gcd_zero_left]
      · rw [if_neg (fun z => e2 ((lz _ (by omega)).mp z)), pk_lRem (by omega) (by omega) (by omega)]
        have hlt : b % (a % b) < a % b := Nat.mod_lt _ (by omega)
        have hge := Nat.div_add_mod b (a % b)
        have hq : 1 ≤ b / (a % b) := (Nat.one_le_div_iff (by omega)).mpr (by omega)
        have hm : a % b ≤ (a % b) * (b / (a % b)) := Nat.le_mul_of_pos_right _ (by omega)
        have h2k : 2 ^ (k + 1) = 2 * 2 ^ k := by rw [Nat.pow_succ]; omega
        rw [cdF_g k f (a % b) (b % (a % b)) (by omega) (by omega) (by omega) (by omega)]
        congr 1
        rw [Nat.gcd_comm a b, Nat.gcd_rec b a, Nat.gcd_rec (a % b) b, Nat.gcd_comm]

def fSc (p : Nat → Bool) (g : Nat → Nat) : Nat → Nat
  | 0 => 0
  | n + 1 => if p n then fSc p g n + g n else fSc p g n
theorem fS_le {g : Nat → Nat} {B : Nat} : ∀ {n : Nat}, (∀ k, k < n → g k ≤ B) → fS g n ≤ B * n
  | 0, _ => Nat.le_refl _
  | n + 1, h => by
    have h1 := fS_le (n := n) (fun k hk => h k (by omega))
    have h2 := h n (by omega)
    rw [fS, Nat.mul_succ]
    omega
theorem fSc_le {p : Nat → Bool} {g : Nat → Nat} {B : Nat} : ∀ {n : Nat}, (∀ k, k < n → p k = true → g k ≤ B) → fSc p g n ≤ B * n
  | 0, _ => Nat.le_refl _
  | n + 1, h => by
    have h1 := fSc_le (n := n) (fun k hk => h k (by omega))
    rw [fSc, Nat.mul_succ]
    by_cases hp : p n = true
    · rw [if_pos hp]
      have h2 := h n (by omega) hp
      omega
    · rw [if_neg hp]
      omega
theorem sCL_lN {p q : Nat → Bool} {f : Nat → Int64} {g : Nat → Nat} : ∀ {n : Nat}, (∀ k, k < n → p k = q k ∧ (q k = true → f k = lN (g k))) → sCL p f n = lN (fSc q g n)
  | 0, _ => rfl
  | n + 1, h => by
    have h1 := sCL_lN (n := n) (fun k hk => h k (by omega))
    have h2 := h n (by omega)
    rw [sCL, fSc, h1, h2.1]
    by_cases hp : q n = true
    · rw [if_pos hp, if_pos hp, h2.2 hp, lN_add]
    · rw [if_neg hp, if_neg hp]
abbrev cnN (M : Nat → Nat → Int32) (d : Nat) : Nat := mny M d - ct (pSt M d) (mny M d)
theorem IvD.cnN {d : Nat} (h : IvD C M d) : mCnt M d = nI (Jvm.Pilot.CCensusNightLaw_law_r3549_233597.cnN M d) ∧ Jvm.Pilot.CCensusNightLaw_law_r3549_233597.cnN M d ≤ 12 := by
  have h1 : M 46 d = nI (mny M d) := h.b8.2.1
  have h2 : mny M d ≤ 12 := h.b8.2.2
  refine ⟨?_, Nat.le_trans (Nat.sub_le _ _) h2⟩
  unfold mCnt
  have e := pk_sub (ct_le (pSt M d) (mny M d))
  rw [← h1] at e
  exact e
theorem op_right (h : Inv dc I L) (w : Int32) : OpL G yX8_right cX8_right 10 3 yX9_right cX9_right 10 2 [.int w] dc I L := by
  have hdc := h.k12.1
  have cN : ∀ d, d < dc → mCnt I d = nI (cnN I d) ∧ cnN I d ≤ 12 := fun d hd => (h.k7 d hd).cnN
  have tN51 : ∀ d, d < dc → mSe I d = true → I (78 + 3 * d) 13 = I 51 d ∧ I 51 d = nI (tn (I 51 d)) ∧ tn (I 51 d) ≤ 99 := fun d hd hs => by
    rcases (h.k7 d hd).se with ⟨a, -⟩ | ⟨a, b, c⟩
    · unfold mSe at hs; rw [decide_eq_true_iff] at hs; exact absurd a hs
    · have := tn_lt rfl (by decide) c
      exact ⟨b, this.2, by omega⟩
  have pq : ∀ d, d < dc → pSe I d = mSe I d := fun d hd => by
    unfold pSe mSe
    rcases (h.k7 d hd).se with ⟨a, b⟩ | ⟨a, b, c⟩
    · rw [a, b]; rfl
    · rw [decide_eq_true a, b, decide_eq_true (inR_m1 c)]
  have s1 : sCL (pSe I) (fSe I) dc = lN (fSc (mSe I) (fun d => tn (I 51 d)) dc) := sCL_lN (fun d hd => ⟨pq d hd, fun hs => by
    obtain ⟨a, b, c⟩ := tN51 d hd hs
    unfold fSe
    rw [a, b, nI_l (by omega), tn_nI (by omega)]⟩)
  have s2 : sCL (mSe I) (mSf I) dc = lN (fSc (mSe I) (fun d => tn (I 51 d)) dc) := sCL_lN (fun d hd => ⟨rfl, fun hs => by
    obtain ⟨a, b, c⟩ := tN51 d hd hs
    unfold mSf
    rw [b, nI_l (by omega), tn_nI (by omega)]⟩)
  have s3 : sCL (pSe I) (fBo I) dc = lN (fSc (mSe I) (fun d => min (cnN I d) (tn (I 51 d))) dc) := sCL_lN (fun d hd => ⟨pq d hd, fun hs => by
    obtain ⟨a, b, c⟩ := tN51 d hd hs
    obtain ⟨c1, c2⟩ := cN d hd
    unfold fBo
    rw [(h.k7 d hd).cnt, a, c1, b]
    have e : (if nI (cnN I d) < nI (tn (I 51 d)) then nI (cnN I d) else nI (tn (I 51 d))) = nI (min (cnN I d) (tn (I 51 d))) := by
      rw [Nat.min_comm]
      exact nI_min (by omega) (by omega)
    rw [e, tn_nI (by omega), nI_l (by omega)]⟩)
  have s4 : sCL (mSe I) (mSb I) dc = lN (fSc (mSe I) (fun d => min (cnN I d) (tn (I 51 d))) dc) := sCL_lN (fun d hd => ⟨rfl, fun hs => by
    obtain ⟨a, b, c⟩ := tN51 d hd hs
    obtain ⟨c1, c2⟩ := cN d hd
    unfold mSb
    rw [c1, b]
    have e : (if nI (cnN I d) ≤ nI (tn (I 51 d)) then nI (cnN I d) else nI (tn (I 51 d))) = nI (min (cnN I d) (tn (I 51 d))) := by
      by_cases z : cnN I d ≤ tn (I 51 d)
      · rw [if_pos (nI_le z (by omega)), Nat.min_eq_left z]
      · rw [if_neg (fun y => z ((nI_leI (by omega) (by omega)).mp y)), Nat.min_eq_right (by omega)]
    rw [e, tn_nI (by omega), nI_l (by omega)]⟩)
  have s5 : sI (fCnt I) dc = sI (mCnt I) dc := sI_cong (fun d hd => (h.k7 d hd).cnt)
  obtain ⟨c, s6, s7⟩ := sI_nI (f := mCnt I) (g := cnN I) (n := dc) (fun d hd => (cN d hd).1)
  have b1 : fSc (mSe I) (fun d => tn (I 51 d)) dc ≤ 99 * dc := fSc_le (fun d hd hs => (tN51 d hd hs).2.2)
  have b2 : fSc (mSe I) (fun d => min (cnN I d) (tn (I 51 d))) dc ≤ 12 * dc := fSc_le (fun d hd _ => Nat.le_trans (Nat.min_le_left _ _) (cN d hd).2)
  have b3 : c ≤ 12 * dc := by rw [s7]; exact fS_le (fun d hd => (cN d hd).2)
  generalize fSc (mSe I) (fun d => tn (I 51 d)) dc = A at *
  generalize fSc (mSe I) (fun d => min (cnN I d) (tn (I 51 d))) dc = B at *
  have b4 : c * A ≤ 288 * 2376 := Nat.mul_le_mul (by omega) (by omega)
  refine OpL.rd (c_X8_right h.wx) (c_X9_right (a := c * A) (b := B) h.wm (by rw [s2, s6, nI_l (by omega), lN_mul]) s4 (by omega) (by omega)) ?_ h
  rw [s1, s3, s5, s6]
  unfold rgt mRg
  rw [nI_l (by omega), lN_mul]
  by_cases e0 : lN B = lN 0
  · rw [if_pos e0, if_pos e0]
  · rw [if_neg e0, if_neg e0, cdF_g 9 200 (c * A) B (by omega) (by omega) (by omega) (by omega)]
    have hB0 : B ≠ 0 := fun z => e0 (by rw [z])
    have hg : 0 < Nat.gcd (c * A) B := Nat.gcd_pos_of_pos_right _ (by omega)
    have hg2 : Nat.gcd (c * A) B ≤ B := Nat.gcd_le_right _ (by omega)
    rw [if_neg (fun z => by have := (pk_lEQ (by omega) (by omega)).mp z; omega)]
theorem op_blockIn (h : Inv dc I L) (s : Int32) : OpI G yX8_blockIn cX8_blockIn 4 2 0 0 yX9_blockIn cX9_blockIn 2 1 [.int s] dc I L := by
  have hd : dBlk I s = mBlk I s := by
    unfold dBlk mBlk
    by_cases hs : inR s 8
    · rw [if_pos hs, if_pos hs, (h.k6 _ (s8 hs)).skD]
    · rw [if_neg hs, if_neg hs]
  have hdn : inR s 8 → skD I (tn s) = 0 → I (23 + 2 * tn s) 3 = I 61 (tn s) ∧ inR (I 61 (tn s)) dc := fun hs h0 => by
    have h1 := h.k6 _ (s8 hs)
    rw [h1.skD] at h0
    rcases h1.ca with ⟨a, -⟩ | ⟨a, -⟩ | ⟨-, -, -, d, e⟩
    · rw [a] at h0; exact absurd h0 (by decide)
    · rw [a] at h0; exact absurd h0 (by decide)
    · exact ⟨d, e⟩
  refine OpI.rf h (c_X8_blockIn h.wx (fun hs h0 => by rw [(hdn hs h0).1]; exact (hdn hs h0).2)) (c_X9_blockIn (Wm_c h.wm (fun x j _ => u2_a _ _ _ _ (by omega)))) (show mBlk I s = dBlk I s from hd.symm) (fun h0 => ?_)
  have hs : inR s 8 := Classical.byContradiction fun z => by unfold dBlk at h0; rw [if_neg z] at h0; cases h0
  have h1 : skD I (tn s) = 0 := by unfold dBlk at h0; rw [if_pos hs] at h0; exact h0
  obtain ⟨e1, e2⟩ := hdn hs h1
  refine MP.of (c_X9_blockIn h.wm) (hd.symm.trans h0) ?_ h
  rw [e1]
  exact (h.k7 _ (d24 h e2).1).b0.1.symm
end ST2
