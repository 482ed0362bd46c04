/-! ===== second, fill ===== -/
section WF
variable {G : GG} {dc : Nat} {I : Nat → Nat → Int32} {L : Nat → Nat → Int64} {C M C' M' : Nat → Nat → Int32} {CL ML : Nat → Nat → Int64}
theorem xfz_hit {p : Nat → Bool} : ∀ k i, fzf p i k < i + k → p (fzf p i k) = true
  | 0, i, h => by rw [fzf] at h; omega
  | k + 1, i, h => by
    cases hp : p i with
    | true => rw [fzf_t hp]; exact hp
    | false =>
      rw [fzf_f hp] at h ⊢
      exact xfz_hit k (i + 1) (by omega)
theorem xks_v {f : Nat → Int32} {b : Int32} {d : Nat} : ∀ n, ksM I f b n (78 + 3 * d) 13 = if d < n ∧ I (78 + 3 * d) 0 = b then f (ct (pOf I b) d) else I (78 + 3 * d) 13
  | 0 => by rw [if_neg (by omega)]; rfl
  | n + 1 => by
    have ih := xks_v (f := f) (b := b) (d := d) n
    rw [ksM]
    by_cases hn : I (78 + 3 * n) 0 = b
    · rw [if_pos hn]
      by_cases e : d = n
      · rw [e, u2_s, if_pos ⟨by omega, hn⟩]
      · rw [u2_a _ _ _ _ (by omega), ih]
        by_cases q : d < n ∧ I (78 + 3 * d) 0 = b
        · rw [if_pos q, if_pos ⟨by omega, q.2⟩]
        · rw [if_neg q, if_neg (fun z => q ⟨by omega, z.2⟩)]
    · rw [if_neg hn, ih]
      by_cases q : d < n ∧ I (78 + 3 * d) 0 = b
      · rw [if_pos q, if_pos ⟨by omega, q.2⟩]
      · rw [if_neg q, if_neg (fun z => q ⟨Nat.lt_of_le_of_ne (by omega) (fun e => hn (e ▸ z.2)), z.2⟩)]
theorem xks_o {f : Nat → Int32} {b : Int32} {x j : Nat} : ∀ n, ¬ (78 ≤ x ∧ x < 78 + 3 * n ∧ (x - 78) % 3 = 0 ∧ j = 13) → ksM I f b n x j = I x j
  | 0, _ => rfl
  | n + 1, h => by
    have ih := xks_o (f := f) (b := b) (x := x) (j := j) n (by omega)
    rw [ksM]
    split
    · rw [show u2 (ksM I f b n) (78 + 3 * n) 13 (f (ct (pOf I b) n)) x j = ksM I f b n x j from if_neg (by omega)]; exact ih
    · exact ih
theorem xms_v {f : Nat → Int32} {b : Int32} {d : Nat} : ∀ n, (msM I f b n 51 d = if d < n ∧ I 40 d = b then f (ct (mOf I b) d) else I 51 d) ∧ (msM I f b n 56 d = if d < n ∧ I 40 d = b then nI 1 else I 56 d)
  | 0 => by rw [if_neg (by omega), if_neg (by omega)]; exact ⟨rfl, rfl⟩
  | n + 1 => by
    obtain ⟨ih, ih2⟩ := xms_v (f := f) (b := b) (d := d) n
    rw [msM]
    by_cases hn : I 40 n = b
    · rw [if_pos hn]
      by_cases e : d = n
      · rw [e, u2_a _ _ _ _ (by decide), u2_s, u2_s, if_pos ⟨by omega, hn⟩, if_pos ⟨by omega, hn⟩]; exact ⟨rfl, rfl⟩
      · rw [u2_a _ _ _ _ (by decide), u2_k _ _ _ _ e, u2_k _ _ _ _ e, u2_a _ _ _ _ (by decide), ih, ih2]
        by_cases q : d < n ∧ I 40 d = b
        · rw [if_pos q, if_pos q, if_pos ⟨by omega, q.2⟩, if_pos ⟨by omega, q.2⟩]; exact ⟨rfl, rfl⟩
        · have q' : ¬ (d < n + 1 ∧ I 40 d = b) := fun z => q ⟨by omega, z.2⟩
          rw [if_neg q, if_neg q, if_neg q', if_neg q']; exact ⟨rfl, rfl⟩
    · rw [if_neg hn, ih, ih2]
      by_cases q : d < n ∧ I 40 d = b
      · rw [if_pos q, if_pos q, if_pos ⟨by omega, q.2⟩, if_pos ⟨by omega, q.2⟩]; exact ⟨rfl, rfl⟩
      · have q' : ¬ (d < n + 1 ∧ I 40 d = b) := fun z => q ⟨Nat.lt_of_le_of_ne (by omega) (fun e => hn (e ▸ z.2)), z.2⟩
        rw [if_neg q, if_neg q, if_neg q', if_neg q']; exact ⟨rfl, rfl⟩
/-- a second count of a block -/
theorem Iv.sec {b : Nat} (h : Iv dc C M CL ML) (hb : b < 6) (hC : ∀ x j, ¬ (78 ≤ x ∧ x < 78 + 3 * dc ∧ (x - 78) % 3 = 0 ∧ j = 13) ∧ ¬ (x = 0 ∧ j = 8) → C' x j = C x j) (hM : ∀ x j, 39 ≤ x ∧ x ≠ 51 ∧ x ≠ 56 ∧ ¬ (x = 55 ∧ j = b) → M' x j = M x j) (hse : ∀ d, d < dc → (M' 56 d = 0 ∧ C' (78 + 3 * d) 13 = -1) ∨ (¬ M' 56 d = 0 ∧ C' (78 + 3 * d) 13 = M' 51 d ∧ inR (M' 51 d) 100)) (h56 : ∀ d, dc ≤ d → M' 56 d = M 56 d) (c8 : C' 0 8 = C 0 8 ||| (nI 1 <<< (nI b &&& 31))) (m55 : M' 55 b = nI 1) : Iv dc C' M' CL ML := by
  obtain ⟨h1, h2, h3, h4, h5, h6, h7, h8, h9, h10, h11, h12, h13⟩ := h
  have hdc := h12.1
  refine ⟨K1.c h1 (hC _ _ (by omega)) (hM _ _ (by omega)), K2.c h2 (fun j => hC _ _ (by omega)) (fun j _ _ => hM _ _ (by omega)), K3.c h3 (fun j => hC _ _ (by omega)) (fun j => hM _ _ (by omega)), K4.c h4 (fun x j _ => hC _ _ (by omega)) (fun x j _ => hM _ _ (by omega)), K5.c h5 (fun j => hC _ _ (by omega)) (fun j => hM _ _ (by omega)), K6.c h6 (fun x j _ _ => hC _ _ (by omega)) (fun x j _ _ => rfl) (fun x j _ => hM _ _ (by omega)) (fun j => rfl), fun d hd => ?_, K8.c h8 (fun x e h q => ?_), fun c => ?_, K10.c h10 (fun j => hC _ _ (by omega)) (fun j => hM _ _ (by omega)), K11.c h11 (fun x j _ => hC _ _ (by omega)) (fun x j _ => hM _ _ (by omega)), K12.c h12 (hC _ _ (by omega)) (hM _ _ (by omega)), K13.c h13 (fun x j _ => hC _ _ (by omega)) (fun x j _ => rfl)⟩
  · have hD := h7 d hd
    have l43 : tn (M 43 d) ≤ 12 := hD.b5.2.2
    have l46 : tn (M 46 d) ≤ 12 := hD.b8.2.2
    refine ⟨?_, ?_, ?_, ?_, ?_, ?_, ?_, ?_, ?_, ?_, ?_, ?_, ?_, hse d hd⟩
    · rw [hC _ _ (by omega), hM 40 d (by omega)]; exact hD.b0
    · rw [hC _ _ (by omega), hM 41 d (by omega)]; exact hD.b1
    · rw [hC _ _ (by omega), hM 42 d (by omega)]; exact hD.b2
    · rw [hC _ _ (by omega), hM 43 d (by omega)]; exact hD.b5
    · intro j hj
      rw [hM 43 d (by omega)] at hj
      rw [hC _ _ (by omega), hM 44 _ (by omega)]; exact hD.tr j hj
    · rw [hC _ _ (by omega), hM 45 d (by omega)]; exact hD.b6
    · rw [hC _ _ (by omega), hM 52 d (by omega), hM 45 d (by omega)]; exact hD.b7
    · rw [hC _ _ (by omega), hM 46 d (by omega)]; exact hD.b8
    · intro j hj
      rw [hM 46 d (by omega)] at hj
      rw [hC _ _ (by omega), hM 47 _ (by omega)]; exact hD.ag j hj
    · intro j
      rw [hC _ _ (by omega), hM 46 d (by omega), hM 53 _ (by omega)]; exact hD.st j
    · rw [hC _ _ (by omega), hM 48 d (by omega)]; exact hD.b10
    · rw [hC _ _ (by omega), hM 49 d (by omega)]; exact hD.b11
    · rw [hC _ _ (by omega), hM 50 d (by omega)]; exact hD.b12
  · by_cases e6 : x = 56
    · rw [e6]; exact h56 e h
    · exact hM _ _ (by omega)
  · by_cases hj : c < 32
    · refine ⟨fun hc => ?_, fun hc => ?_⟩
      · rw [c8, or_set (by omega) hj, (h9 c).1 hc]
        by_cases e : c = b
        · rw [e, m55, decide_eq_true (rfl : b = b), Bool.or_true]; rfl
        · rw [decide_eq_false e, Bool.or_false, hM 55 c (by omega)]
      · rw [c8, or_set (by omega) hj, (h9 c).2 hc, decide_eq_false (by omega)]; rfl
    · exact ⟨fun hc => absurd hc (by omega), fun _ => gb_hi (by omega)⟩
theorem op_second (h : Inv dc I L) (b s : Int32) : OpI G yX8_second cX8_second 7 3 0 0 yX9_second cX9_second 8 2 [.int b, .int s] dc I L := by
  have hdc := h.k12.1
  have hrow : mk0 I s = 0 → I (23 + 2 * tn s) 2 = I 62 (tn s) := fun hm => ((h.k6 _ (s8 (h.row1 hm).1)).row (h.row1 hm).2).2.2.1
  have hp : ∀ d, d < dc → pOf I b d = mOf I b d := fun d hd => by unfold pOf mOf; rw [(h.k7 d hd).b0.1]
  have hct : ∀ n, n ≤ dc → ct (pOf I b) n = ct (mOf I b) n := fun n hn => ct_cong (fun k hk => hp k (by omega))
  have hel : inR s 8 → ∀ j, j < 30 → elI L (tn s) j = mEl L (tn s) j := fun hs j hj => congrArg Int64.toInt32 ((h.k6 _ (s8 hs)).el j hj)
  have hle : inR s 8 → nI (ct (mOf I b) dc) ≤ I 62 (tn s) → ct (mOf I b) dc ≤ tn (I 62 (tn s)) ∧ tn (I 62 (tn s)) ≤ 30 := fun hs h5 => by
    have hz := (h.k6 _ (s8 hs)).sz
    have h30 := hz.2
    have hc := ct_le (mOf I b) dc
    have a1 := Int32.le_iff_toInt_le.mp h5
    rw [hz.1, nI_toInt (by omega), nI_toInt (by omega)] at a1
    exact ⟨by omega, h30⟩
  have h99 : ∀ v : Int32, (v < 0 ∨ ¬ v ≤ nI 99) ↔ ¬ inR v 100 := fun v => by
    have e := nI_ltle (n := 99) (a := v) (by decide)
    constructor
    · intro z y
      rcases z with z | z
      · exact y.1 z
      · exact y.2 (e.mp (Int32.not_le.mp z))
    · intro z
      by_cases q : v < 0
      · exact Or.inl q
      · exact Or.inr (fun y => z ⟨q, fun w => absurd y (Int32.not_le.mpr (e.mpr w))⟩)
  have hd : mSec dc I L b s = dSec dc I L b s := by
    unfold mSec dSec
    by_cases hb : inR b 6
    · rw [if_pos hb, if_pos hb]
      have e := h.mk0 s
      by_cases hs : inR s 8
      · rw [if_pos hs] at e ⊢
        rw [e]
        by_cases h0 : mk0 I s = 0
        · rw [if_pos h0, if_pos h0, hrow h0, hct dc (Nat.le_refl _)]
          by_cases h5 : nI (ct (mOf I b) dc) ≤ I 62 (tn s)
          · rw [if_pos h5, if_pos h5]
            obtain ⟨l1, l2⟩ := hle hs h5
            have key : (fzf (pBad (elI L (tn s))) 0 (ct (mOf I b) dc) < ct (mOf I b) dc) ↔ ¬ gdP (mEl L (tn s)) (tn (I 62 (tn s))) (ct (mOf I b) dc) := by
              constructor
              · intro z g
                have z2 := xfz_hit (p := pBad (elI L (tn s))) (ct (mOf I b) dc) 0 (by omega)
                have z3 := (h99 _).mp (of_decide_eq_true z2)
                rw [hel hs _ (by omega)] at z3
                exact z3 (g _ z (by omega))
              · intro g
                refine Classical.byContradiction fun z => g (fun j hj _ => ?_)
                have z1 := (fzf_le (pBad (elI L (tn s))) (ct (mOf I b) dc) 0).2
                have z2 := fzf_end (p := pBad (elI L (tn s))) (ct (mOf I b) dc) 0 (by omega) j (by omega) (by omega)
                have z3 := of_decide_eq_false z2
                rw [h99, hel hs _ (by omega)] at z3
                exact Classical.not_not.mp z3
            by_cases g : gdP (mEl L (tn s)) (tn (I 62 (tn s))) (ct (mOf I b) dc)
            · rw [if_pos g, if_neg (fun z => key.mp z g)]
            · rw [if_neg g, if_pos (key.mpr g)]
          · rw [if_neg h5, if_neg h5]
        · rw [if_neg h0, if_neg h0]
      · rw [if_neg hs] at e ⊢
        rw [← e]; rfl
    · rw [if_neg hb, if_neg hb]
  refine OpI.rf h (c_X8_second h.wx) (c_X9_second (Wm_r h.wm)) (show mSec dc I L b s = dSec dc I L b s from hd) (fun h0 => ?_)
  have hm := hd.trans h0
  have hb : inR b 6 := Classical.byContradiction fun y => by unfold mSec at hm; rw [if_neg y] at hm; cases hm
  have hm0 : mk0 I s = 0 := Classical.byContradiction fun y => by unfold mSec at hm; rw [if_pos hb, if_neg y] at hm; exact y hm
  have h5 : nI (ct (mOf I b) dc) ≤ I 62 (tn s) := Classical.byContradiction fun y => by unfold mSec at hm; rw [if_pos hb, if_pos hm0, if_neg y] at hm; cases hm
  have hg : gdP (mEl L (tn s)) (tn (I 62 (tn s))) (ct (mOf I b) dc) := Classical.byContradiction fun y => by unfold mSec at hm; rw [if_pos hb, if_pos hm0, if_pos h5, if_neg y] at hm; cases hm
  obtain ⟨hs, h60⟩ := h.row1 hm0
  obtain ⟨l1, l2⟩ := hle hs h5
  obtain ⟨lb, eb⟩ := b6 hb
  have hlt : ∀ d, d < dc → I 40 d = b → ct (mOf I b) d < ct (mOf I b) dc := fun d hd e => by
    have q := ct_t (p := mOf I b) (n := d) (by unfold mOf; exact decide_eq_true e)
    have q2 := ct_mono (mOf I b) (show d + 1 ≤ dc by omega)
    omega
  have ev : sC (pOf I b) (fun d => elI L (tn s) (ct (pOf I b) d)) dc = sC (mOf I b) (fun d => mEl L (tn s) (ct (mOf I b) d)) dc := by
    refine sC_cong fun k hk => ⟨hp k hk, fun q => ?_⟩
    rw [hp k hk] at q
    have q2 := hlt k hk (of_decide_eq_true q)
    show elI L (tn s) (ct (pOf I b) k) = mEl L (tn s) (ct (mOf I b) k)
    rw [hct k (by omega)]
    exact hel hs _ (by omega)
  rw [ev]
  generalize hI1 : u2 (ksM I (elI L (tn s)) b dc) 0 8 (I 0 8 ||| (nI 1 <<< (b &&& 31))) = I1
  have hC : ∀ x j, ¬ (78 ≤ x ∧ x < 78 + 3 * dc ∧ (x - 78) % 3 = 0 ∧ j = 13) ∧ ¬ (x = 0 ∧ j = 8) → I1 x j = I x j := fun x j hx => by
    rw [← hI1]
    exact (if_neg hx.2).trans (xks_o dc hx.1)
  have e40 : mOf I1 b = mOf I b := funext fun d => by unfold mOf; rw [hC 40 d (by omega)]
  have hm1 : mSec dc I1 L b s = 0 := by
    unfold mSec mk0 at hm ⊢
    rw [hC 60 _ (by omega), hC 62 _ (by omega), e40]
    exact hm
  refine MP.of (c_X9_second (Wm_c h.wm (J := I1) (fun x j _ => hC x j (by omega)))) hm1 (by rw [e40]) (Inv_of (I1 := I1) (L1 := L) ?_ (fun x j hx => ?_) (fun _ _ _ => rfl))
  · generalize hI2 : u2 (msM I1 (mEl L (tn s)) b dc) 55 (tn b) (nI 1) = I2
    have hM : ∀ x j, 39 ≤ x ∧ x < 78 ∧ x ≠ 51 ∧ x ≠ 56 ∧ ¬ (x = 55 ∧ j = tn b) → I2 x j = I x j := fun x j hx => by
      rw [← hI2]
      exact (if_neg hx.2.2.2.2).trans ((ms_o I1 _ b j hx.2.2.1 hx.2.2.2.1 dc).trans (hC x j (by omega)))
    have m51 : ∀ d, I2 51 d = if d < dc ∧ I 40 d = b then mEl L (tn s) (ct (mOf I b) d) else I 51 d := fun d => by
      rw [← hI2, u2_a _ _ _ _ (by decide), (xms_v dc).1, e40, hC 40 d (by omega), hC 51 d (by omega)]
    have m56 : ∀ d, I2 56 d = if d < dc ∧ I 40 d = b then nI 1 else I 56 d := fun d => by
      rw [← hI2, u2_a _ _ _ _ (by decide), (xms_v dc).2, hC 40 d (by omega), hC 56 d (by omega)]
    have c13 : ∀ d, d < dc → I1 (78 + 3 * d) 13 = if d < dc ∧ I (78 + 3 * d) 0 = b then elI L (tn s) (ct (pOf I b) d) else I (78 + 3 * d) 13 := fun d hd => by
      rw [← hI1, u2_a _ _ _ _ (by omega), xks_v]
    refine (h.sec (C' := I1) (M' := fun x j => if x < 78 then I2 x j else I x j) lb hC (fun x j hx => ?_) (fun d hd => ?_) (fun d hd => ?_) ?_ ?_).c (fun _ _ _ => rfl) (fun x j _ hx => (if_pos hx).symm) (fun _ _ _ => rfl) (fun _ _ _ _ => rfl)
    · show (if x < 78 then _ else _) = _
      split
      · exact hM x j (by omega)
      · rfl
    · show (I2 56 d = 0 ∧ I1 (78 + 3 * d) 13 = -1) ∨ (¬ I2 56 d = 0 ∧ I1 (78 + 3 * d) 13 = I2 51 d ∧ inR (I2 51 d) 100)
      have hD := h.k7 d hd
      rw [m56, m51, c13 d hd, hD.b0.1]
      by_cases e : I 40 d = b
      · rw [if_pos ⟨hd, e⟩, if_pos ⟨hd, e⟩, if_pos ⟨hd, e⟩, hct d (by omega)]
        have q := hlt d hd e
        exact Or.inr ⟨by decide, hel hs _ (by omega), hg _ q (by omega)⟩
      · have e' : ¬ (d < dc ∧ I 40 d = b) := fun z => e z.2
        rw [if_neg e', if_neg e', if_neg e']
        exact hD.se
    · show I2 56 d = _
      rw [m56, if_neg (by omega)]
    · rw [← hI1, u2_s, ← eb]
    · show I2 55 (tn b) = _
      rw [← hI2, u2_s]
  · rw [u2_a _ _ _ _ (by omega), ms_o _ _ _ _ (by omega) (by omega)]
/-! fill -/
theorem xga_in {p : Nat → Bool} {g : Nat → Int32} {P : Int32 → Prop} : ∀ {n : Nat}, (∀ k, k < n → p k = true → P (g k)) → ∀ j, j < ct p n → P (gaf p g n j)
  | 0, _, j, hj => by rw [ct] at hj; omega
  | n + 1, h, j, hj => by
    cases hp : p n with
    | true =>
      rw [gaf_t hp]
      rw [ct_t hp] at hj
      show P (if j = ct p n then g n else gaf p g n j)
      by_cases e : j = ct p n
      · rw [if_pos e]; exact h n (by omega) hp
      · rw [if_neg e]; exact xga_in (fun k hk => h k (by omega)) j (by omega)
    | false =>
      rw [gaf_f hp]
      rw [ct_f hp] at hj
      exact xga_in (fun k hk => h k (by omega)) j hj
theorem IvD.can {d : Nat} {w : Int32} (h : IvD C M d) : cfl C d w ↔ mcf M d w := by
  unfold cfl mcf
  rw [h.b6, h.b7.1, h.b1.1, h.b11]
  exact ⟨fun ⟨a, b, c⟩ => ⟨b, c, a.symm⟩, fun ⟨b, c, a⟩ => ⟨a.symm, b, c⟩⟩
theorem Iv.fd (h : Iv dc C M CL ML) {d : Nat} (hd : d < dc) : ∀ n, n ≤ dc → fdb C d n = mfd M d n
  | 0, _ => rfl
  | n + 1, hn => by
    have ih := Iv.fd h hd n (by omega)
    have e : cfl C n (C (78 + 3 * d) 1) ↔ mcf M n (M 41 d) := by rw [(h.k7 d hd).b1.1]; exact (h.k7 n (by omega)).can
    rw [fdb, mfd, ih]
    by_cases q : mcf M n (M 41 d)
    · rw [if_pos q, if_pos (e.mpr q)]
      cases mfd M d n <;> rfl
    · rw [if_neg q, if_neg (fun z => q (e.mp z))]
/-- a door is filled, both sides -/
theorem Iv.fill {d e : Nat} (h : Iv dc C M CL ML) (hd : d < dc) (he : e < dc) (hne : e ≠ d) : Iv dc (thI C d e (hdn C e) (nI e)) (mtI M d e) CL ML := by
  have hdc := h.k12.1
  have hE := h.k7 e he
  have l12 : tn (M 46 e) ≤ 12 := hE.b8.2.2
  have hh : hdn C e = mny M e := by unfold hdn mny; rw [hE.b8.1]
  have hpp : ∀ k, k < mny M e → pS (C (78 + 3 * e) 9) k = mun M e k := fun k hk => by
    unfold pS mun
    refine decide_eq_decide.mpr ?_
    rw [hE.sb hk]
    exact Classical.not_not
  have ect : ct (pS (C (78 + 3 * e) 9)) (mny M e) = ct (mun M e) (mny M e) := ct_cong hpp
  have ega : gaf (pS (C (78 + 3 * e) 9)) (C (78 + 3 * e + 2)) (mny M e) = gaf (mun M e) (mga M e) (mny M e) := gaf_cong (fun k hk => ⟨hpp k hk, fun _ => (hE.ag k hk).1⟩)
  have lct := ct_le (mun M e) (mny M e)
  have l12' : mny M e ≤ 12 := l12
  have hga : ∀ j, j < ct (mun M e) (mny M e) → gaf (mun M e) (mga M e) (mny M e) j = -2 ∨ 0 ≤ gaf (mun M e) (mga M e) (mny M e) j := xga_in (P := fun v => v = -2 ∨ 0 ≤ v) (fun k hk _ => (hE.ag k hk).2)
  have hR := h.ret (C' := pm (sR C d (nI 4)) d (gaf (pS (C (78 + 3 * e) 9)) (C (78 + 3 * e + 2)) (hdn C e)) (ct (pS (C (78 + 3 * e) 9)) (hdn C e))) (M' := mgS M d e (mny M e)) hd (n := ct (mun M e) (mny M e)) (w := nI 4) (br := nI 0) (g := gaf (mun M e) (mga M e) (mny M e)) (by omega) (fun x j hx => by rw [xpm_o (by omega), xsr_o (by omega)]) (by rw [xpm_o (by omega), xsr_6]) (by rw [xpm_o (by omega), xsr_7]) (by rw [hh, ect, xpm_8]) (by rw [xpm_o (by omega), xsr_9]) (fun j hj => by rw [hh, ect, xpm_a hj, ega]) (fun x j hx => ?_) ?_ ?_ ?_ (fun j hj => ?_) (fun j hj => ?_) hga (fun z => absurd rfl z)
  · have hRd := hR.k7 d hd
    have hRe := hR.k7 e he
    have h1 := hR.dr (C' := u2 (pm (sR C d (nI 4)) d (gaf (pS (C (78 + 3 * e) 9)) (C (78 + 3 * e + 2)) (hdn C e)) (ct (pS (C (78 + 3 * e) 9)) (hdn C e))) (78 + 3 * d) 12 (nI e)) (M' := u2 (mgS M d e (mny M e)) 50 d (nI e)) hd (fun x j hx => if_neg (by omega)) (fun x j hx => if_neg (by omega)) (fun j => by rw [u2_k _ _ _ _ (by decide), u2_a _ _ _ _ (by decide)]; exact hRd.st j) (by rw [u2_k _ _ _ _ (by decide), u2_a _ _ _ _ (by decide)]; exact hRd.b10) (by rw [u2_k _ _ _ _ (by decide), u2_a _ _ _ _ (by decide)]; exact hRd.b11) (by rw [u2_s, u2_s])
    have h1e := h1.k7 e he
    unfold thI mtI
    have e49 : M 49 e = mgS M d e (mny M e) 49 e := (mgS_o e (by decide) (by decide) (by decide) (by decide) (by decide)).symm
    have e11 : C (78 + 3 * e) 11 = M 49 e := hE.b11
    rw [u2_c (a := 49) (a' := 50) _ _ _ _ _ (by decide)]
    refine h1.dr he (fun x j hx => if_neg (by omega)) (fun x j hx => if_neg (by omega)) (fun j => ?_) ?_ ?_ ?_
    · rw [u2_k _ _ _ _ (by decide), u2_a (a := 49) _ _ _ _ (by decide)]; exact h1e.st j
    · rw [u2_k _ _ _ _ (by decide), u2_a (a := 49) _ _ _ _ (by decide)]; exact h1e.b10
    · rw [u2_s, u2_s, e11]
    · rw [u2_k _ _ _ _ (by decide), u2_a (a := 49) _ _ _ _ (by decide)]; exact h1e.b12
  · unfold mgS
    rw [show ∀ (f : Nat → Nat → Int32) v, u2 f 46 d v x j = f x j from fun f v => if_neg (by omega)]
    unfold gr2
    rw [if_neg (by omega), xrt_o ⟨hx.2.1, hx.2.2⟩]
  · unfold mgS
    rw [u2_a _ _ _ _ (by decide), gr2_o _ _ _ (by decide), xrt_45]
  · unfold mgS
    rw [u2_s]
  · unfold mgS
    rw [u2_a _ _ _ _ (by decide), gr2_o _ _ _ (by decide), xrt_52]
  · unfold mgS
    rw [u2_a _ _ _ _ (by decide), gr2_i _ _ hj]
  · unfold mgS
    rw [u2_a _ _ _ _ (by decide), gr2_o _ _ _ (by decide), xrt_53 hj]
theorem Iv.fls {J K : Nat → Nat → Int32} (h : Iv dc J K CL ML) : ∀ n, n ≤ dc → Iv dc (flM dc J n) (mfl dc K n) CL ML
  | 0, _ => h
  | n + 1, hn => by
    have ih := Iv.fls h n (by omega)
    rw [flM, mfl]
    have e6 := (ih.k7 n (by omega)).b6
    rw [e6]
    by_cases h0 : mfl dc K n 45 n = 0
    · rw [if_pos h0, if_pos h0]
      unfold fdI mfI
      rw [ih.fd (by omega) dc (Nat.le_refl _)]
      cases hq : mfd (mfl dc K n) n dc with
      | none => exact ih
      | some e =>
        dsimp only
        exact ih.fill (by omega) (mfd_s hq).1 (mfd_ne hq h0)
    · rw [if_neg h0, if_neg h0]; exact ih
theorem xfl_o {J : Nat → Nat → Int32} {x j : Nat} (hx : x < 78) : ∀ n, flM dc J n x j = J x j
  | 0 => rfl
  | n + 1 => by
    have ih := xfl_o (J := J) (j := j) hx n
    rw [flM]
    split
    · unfold fdI
      cases fdb (flM dc J n) n dc with
      | none => exact ih
      | some e =>
        show thI _ _ _ _ _ x j = _
        unfold thI
        rw [u2_a _ _ _ _ (by omega), u2_a _ _ _ _ (by omega), xpm_o (by omega), xsr_o (by omega)]; exact ih
    · exact ih
theorem xmf_o {J : Nat → Nat → Int32} {x j : Nat} (hx : x < 39 ∨ 78 ≤ x) : ∀ n, mfl dc J n x j = J x j
  | 0 => rfl
  | n + 1 => by
    have ih := xmf_o (J := J) (j := j) hx n
    rw [mfl]
    split
    · unfold mfI
      cases mfd (mfl dc J n) n dc with
      | none => exact ih
      | some e =>
        show mtI _ _ _ x j = _
        unfold mtI
        rw [u2_a _ _ _ _ (by omega), u2_a _ _ _ _ (by omega), mgS_o _ (by omega) (by omega) (by omega) (by omega) (by omega)]; exact ih
    · exact ih
theorem op_fill (h : Inv dc I L) : OpI G yX8_fill cX8_fill 3 3 0 0 yX9_fill cX9_fill 5 1 [] dc I L := by
  have hd : mFil I = dFil I := by
    unfold mFil dFil
    rw [← h.k1.1]
  refine OpI.rf h (c_X8_fill h.wx) (c_X9_fill (Wm_r h.wm)) (show mFil I = dFil I from hd) (fun h0 => ?_)
  have hm := hd.trans h0
  generalize hI1 : flM dc (u2 I 0 9 (nI 1)) dc = I1
  have hC : ∀ x j, x < 78 ∧ x ≠ 0 → I1 x j = I x j := fun x j hx => by
    rw [← hI1, xfl_o hx.1]; exact u2_a _ _ _ _ hx.2
  have hm1 : mFil I1 = 0 := by
    unfold mFil at hm ⊢
    rw [hC 39 _ (by omega)]
    exact hm
  have hS : Iv dc (u2 I 0 9 (nI 1)) (u2 I1 39 22 (nI 1)) L L := by
    have hM : ∀ x j, 39 ≤ x ∧ x < 78 ∧ ¬ (x = 39 ∧ j = 22) → u2 I1 39 22 (nI 1) x j = I x j := fun x j hx => (if_neg hx.2.2).trans (hC x j (by omega))
    have hC0 : ∀ x j, ¬ (x = 0 ∧ j = 9) → u2 I 0 9 (nI 1) x j = I x j := fun x j hx => if_neg hx
    obtain ⟨h1, h2, h3, h4, h5, h6, h7, h8, h9, h10, h11, h12, h13⟩ := h
    exact ⟨by rw [u2_s, u2_s]; exact ⟨rfl, Or.inr rfl⟩, K2.c h2 (fun j => hC0 _ _ (by omega)) (fun j _ _ => hM _ _ (by omega)), K3.c h3 (fun j => hC0 _ _ (by omega)) (fun j => hM _ _ (by omega)), K4.c h4 (fun x j _ => hC0 _ _ (by omega)) (fun x j _ => hM _ _ (by omega)), K5.c h5 (fun j => hC0 _ _ (by omega)) (fun j => hM _ _ (by omega)), K6.c h6 (fun x j _ _ => hC0 _ _ (by omega)) (fun x j _ _ => rfl) (fun x j _ => hM _ _ (by omega)) (fun j => rfl), K7.c h12.1 h7 (fun x j _ => hC0 _ _ (by omega)) (fun x j _ _ _ _ => hM _ _ (by omega)), K8.c h8 (fun x e _ _ => hM _ _ (by omega)), K9.c h9 (hC0 _ _ (by omega)) (fun j => hM _ _ (by omega)), K10.c h10 (fun j => hC0 _ _ (by omega)) (fun j => hM _ _ (by omega)), K11.c h11 (fun x j _ => hC0 _ _ (by omega)) (fun x j _ => hM _ _ (by omega)), K12.c h12 (hC0 _ _ (by omega)) (hM _ _ (by omega)), K13.c h13 (fun x j _ => hC0 _ _ (by omega)) (fun x j _ => rfl)⟩
  have hF := hS.fls dc (Nat.le_refl _)
  rw [hI1] at hF
  have ev : ct (pMf dc (u2 I1 39 22 (nI 1))) dc = ct (pFl dc (u2 I 0 9 (nI 1))) dc := ct_cong fun k hk => by
    have hk1 := hS.fls k (by omega)
    unfold pMf pFl
    rw [hk1.fd hk dc (Nat.le_refl _), (hk1.k7 k hk).b6]
  refine MP.of (c_X9_fill (Wm_c h.wm (J := I1) (fun x j _ => hC x j (by omega)))) hm1 (by rw [ev]) (Inv_of (I1 := I1) (L1 := L) hF (fun x j hx => (xmf_o hx dc).trans (u2_a _ _ _ _ (by omega))) (fun _ _ _ => rfl))
end WF
