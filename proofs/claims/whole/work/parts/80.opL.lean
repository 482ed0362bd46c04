/-! ===== table ===== -/
section WT
variable {G : GG} {dc : Nat} {I : Nat → Nat → Int32} {L : Nat → Nat → Int64} {C M C' M' : Nat → Nat → Int32} {CL ML : Nat → Nat → Int64}
theorem Iv.scr3 (h : Iv dc C M CL ML) (hC : ∀ x j, (x < 39 ∨ 78 ≤ x) ∧ ¬ (x = 8 ∨ x = 10 ∨ (12 ≤ x ∧ x ≤ 22)) → C' x j = C x j) (hM : ∀ x j, (39 ≤ x ∧ x < 70) ∧ ¬ ((65 ≤ x ∧ x ≤ 67) ∨ x = 69 ∨ (x = 39 ∧ (j = 36 ∨ j = 42))) → M' x j = M x j) (hk : C' 15 5 = M' 39 42 ∧ (¬ M' 39 42 = 0 → ∀ c, c < 24 → C' 17 c = M' 70 c ∧ rg (C' 17 c) 288 ∧ gb (C' 15 4) c = decide (¬ M' 73 c = 0))) : Iv dc C' M' CL ML := by
  obtain ⟨h1, h2, h3, h4, h5, h6, h7, h8, h9, h10, h11, h12, h13⟩ := h
  exact ⟨K1.c h1 (hC _ _ (by omega)) (hM _ _ (by omega)), K2.c h2 (fun j => hC _ _ (by omega)) (fun j _ _ => hM _ _ (by omega)), K3.c h3 (fun j => hC _ _ (by omega)) (fun j => hM _ _ (by omega)), K4.c h4 (fun x j _ => hC _ _ (by omega)) (fun x j _ => hM _ _ (by omega)), K5.c h5 (fun j => hC _ _ (by omega)) (fun j => hM _ _ (by omega)), K6.c h6 (fun x j _ _ => hC _ _ (by omega)) (fun x j _ _ => rfl) (fun x j _ => hM _ _ (by omega)) (fun j => rfl), K7.c h12.1 h7 (fun x j _ => hC _ _ (by omega)) (fun x j _ _ _ _ => hM _ _ (by omega)), K8.c h8 (fun x e _ _ => hM _ _ (by omega)), K9.c h9 (hC _ _ (by omega)) (fun j => hM _ _ (by omega)), K10.c h10 (fun j => hC _ _ (by omega)) (fun j => hM _ _ (by omega)), hk, K12.c h12 (hC _ _ (by omega)) (hM _ _ (by omega)), K13.c h13 (fun x j _ => hC _ _ (by omega)) (fun x j _ => rfl)⟩
theorem sC_bd {p : Nat → Bool} {f : Nat → Int32} : ∀ {n : Nat}, (∀ k, k < n → ∃ a, a ≤ 12 ∧ f k = nI a) → ∃ s, s ≤ 12 * n ∧ sC p f n = nI s
  | 0, _ => ⟨0, by omega, rfl⟩
  | n + 1, h => by
    obtain ⟨s, h1, h2⟩ := sC_bd (p := p) (n := n) (fun k hk => h k (by omega))
    obtain ⟨a, a1, a2⟩ := h n (by omega)
    cases hp : p n with
    | true => exact ⟨s + a, by omega, by rw [sC_t hp, h2, a2, nI_add]⟩
    | false => exact ⟨s, by omega, by rw [sC_f hp, h2]⟩
theorem gb_smF {v : Int32} : ∀ n, n ≤ 24 → ∀ c, gb (smF I v n) c = true ↔ (c < n ∧ ¬ I 16 c ≤ 0 ∧ ¬ v ≤ I 16 c)
  | 0, _, c => ⟨fun z => (by rw [smF, gb_0] at z; cases z), fun z => absurd z.1 (Nat.not_lt_zero _)⟩
  | n + 1, hn, c => by
    have ih := gb_smF (v := v) n (by omega) c
    rw [smF]
    by_cases h1 : I 16 n ≤ 0
    · rw [if_pos h1, ih]
      exact ⟨fun z => ⟨by omega, z.2⟩, fun z => ⟨Nat.lt_of_le_of_ne (by omega) (fun e => z.2.1 (e ▸ h1)), z.2⟩⟩
    · rw [if_neg h1]
      by_cases h2 : v ≤ I 16 n
      · rw [if_pos h2, gb_or, gb_0, Bool.or_false, ih]
        exact ⟨fun z => ⟨by omega, z.2⟩, fun z => ⟨Nat.lt_of_le_of_ne (by omega) (fun e => z.2.2 (e ▸ h2)), z.2⟩⟩
      · rw [if_neg h2]
        by_cases c32 : c < 32
        · rw [or_set (by omega) c32, Bool.or_eq_true, decide_eq_true_iff, ih]
          constructor
          · intro z
            rcases z with z | z
            · exact ⟨by omega, z.2⟩
            · rw [z]; exact ⟨by omega, h1, h2⟩
          · intro z
            by_cases e : c = n
            · exact Or.inr e
            · exact Or.inl ⟨by omega, z.2⟩
        · rw [gb_hi (by omega)]
          exact ⟨fun z => (by cases z), fun z => absurd z.1 (by omega)⟩
theorem gb_psF : ∀ n, n ≤ 24 → ∀ c, gb (psF I n) c = true ↔ (c < n ∧ ¬ I 16 c ≤ 0)
  | 0, _, c => ⟨fun z => (by rw [psF, gb_0] at z; cases z), fun z => absurd z.1 (Nat.not_lt_zero _)⟩
  | n + 1, hn, c => by
    have ih := gb_psF n (by omega) c
    rw [psF]
    by_cases h1 : I 16 n ≤ 0
    · rw [if_pos h1, ih]
      exact ⟨fun z => ⟨by omega, z.2⟩, fun z => ⟨Nat.lt_of_le_of_ne (by omega) (fun e => z.2 (e ▸ h1)), z.2⟩⟩
    · rw [if_neg h1]
      by_cases c32 : c < 32
      · rw [or_set (by omega) c32, Bool.or_eq_true, decide_eq_true_iff, ih]
        constructor
        · intro z
          rcases z with z | z
          · exact ⟨by omega, z.2⟩
          · rw [z]; exact ⟨by omega, h1⟩
        · intro z
          by_cases e : c = n
          · exact Or.inr e
          · exact Or.inl ⟨by omega, z.2⟩
      · rw [gb_hi (by omega)]
        exact ⟨fun z => (by cases z), fun z => absurd z.1 (by omega)⟩
theorem op_table (h : Inv dc I L) : OpI G yX8_table cX8_table 3 10 0 0 yX9_table cX9_table 4 4 [] dc I L := by
  have hdc := h.k12.1
  have hX := c_X8_table (G := G) (L := L) h.wx
  by_cases hcl : I 0 9 = 0
  · have hd6 : dTab I = 6 := if_pos hcl
    rw [hd6, oRk (by decide), oMk (by decide)] at hX
    refine ⟨_, hX, fun r μ1 hp => ?_⟩
    obtain ⟨rfl, rfl⟩ := hp
    refine ⟨-(nI 6), dc, rfs I 6, L, rfl, rfl, (c_tabN (show rfs I 6 39 22 = 0 from h.k1.1.symm.trans hcl)).mono (fun r2 μ2 q => ?_)⟩
    obtain ⟨rfl, rfl⟩ := q
    exact ⟨rfl, dc, _, L, rfl, Inv_ref h⟩
  · have hd0 : dTab I = 0 := if_neg hcl
    rw [hd0, oR0, oM0] at hX
    refine ⟨_, hX, fun r μ1 hp => ?_⟩
    obtain ⟨rfl, rfl⟩ := hp
    refine ⟨tbR dc I, dc, tbI dc I, L, rfl, rfl, ?_⟩
    generalize hJ : dfM dc I 24 = J
    have j16 : ∀ c, c < 24 → J 16 c = tbC dc I (c / 4) (c % 4) := fun c hc => by
      rw [← hJ]; exact rf2_i _ _ hc
    have jo : ∀ x j, x ≠ 16 → J x j = I x j := fun x j hx => by
      rw [← hJ]; exact rf2_o _ _ _ _ hx
    have eJ : tbJ dc I = mkI J (I 4 2) := by unfold tbJ; rw [hJ]
    have fno : ∀ x j, x ≠ 16 → x ≠ 18 → fnM J (I 4 2) 24 x j = I x j := fun x j h1 h2 => by
      unfold fnM
      rw [u2_a _ _ _ _ h2, u2_a _ _ _ _ h2]; exact jo x j h1
    have mko : ∀ x j, ¬ (15 ≤ x ∧ x ≤ 18) → mkI J (I 4 2) x j = I x j := fun x j hx => by
      unfold mkI
      split
      · exact fno x j (by omega) (by omega)
      · rw [u2_a _ _ _ _ (by omega), u2_a _ _ _ _ (by omega), cp2_o _ _ (by omega)]; exact fno x j (by omega) (by omega)
    have hC1 : ∀ x j, 39 ≤ x → x < 78 → tbI dc I x j = I x j := fun x j h1 h2 => by
      unfold tbI
      rw [eJ]
      split
      · unfold rfs
        rw [u2_a _ _ _ _ (by omega)]; exact mko x j (by omega)
      · exact mko x j (by omega)
    have hI1 : Iv dc I (tbI dc I) L L := h.c (fun _ _ _ => rfl) (fun x j h1 h2 => hC1 x j h1 h2) (fun _ _ _ => rfl) (fun _ _ _ _ => rfl)
    have etr : ∀ c, c < 24 → trF dc (tbI dc I) c = J 16 c := fun c hc => by
      rw [j16 c hc]
      exact (hI1.sc (nI (c / 4)) (nI (c % 4)) (nI 1)).symm
    have hbd : ∀ c, c < 24 → ∃ s, s ≤ 288 ∧ J 16 c = nI s := fun c hc => by
      rw [← etr c hc]
      obtain ⟨s, h1, h2⟩ := sC_bd (p := mCo (tbI dc I) (nI (c / 4)) (nI 1)) (f := mBd (tbI dc I) (nI (c % 4))) (n := dc) (fun k hk => ⟨_, Nat.le_trans (ct_le _ _) (hI1.k7 k hk).b8.2.2, rfl⟩)
      exact ⟨s, by omega, h2⟩
    generalize hI' : trI dc (tbI dc I) 24 = I'
    have i71 : ∀ c, c < 24 → I' 71 c = J 16 c := fun c hc => by
      rw [← hI']; exact (rf2_i _ _ hc).trans (etr c hc)
    have i20 : I' 39 20 = I 4 2 := by
      rw [← hI', show trI dc (tbI dc I) 24 39 20 = tbI dc I 39 20 from rf2_o _ _ _ _ (by decide), hC1 39 20 (by decide) (by decide)]
      exact h.k2.2.2.1.symm
    have h24 : ∀ c, gb (smF J (I 4 2) 24) c = true → c < 24 := fun c hc => ((gb_smF 24 (Nat.le_refl _) c).mp hc).1
    have hS : ∀ c, c < 24 → (gb (smF J (I 4 2) 24) c = true ↔ smM I' c) := fun c hc => by
      rw [gb_smF 24 (Nat.le_refl _) c]
      unfold smM
      rw [i71 c hc, i20]
      exact ⟨fun z => z.2, fun z => ⟨hc, z⟩⟩
    have hZ : ∀ c, c < 24 → (gb (psF J 24) c = true ↔ ¬ I' 71 c = 0) := fun c hc => by
      rw [gb_psF 24 (Nat.le_refl _) c, i71 c hc]
      obtain ⟨s, s1, s2⟩ := hbd c hc
      rw [s2]
      constructor
      · intro z y
        exact z.2 (by rw [y]; decide)
      · intro z
        refine ⟨hc, fun y => z ?_⟩
        have y2 := (nI_leI (b := 0) (by omega) (by decide)).mp y
        rw [show s = 0 by omega]; rfl
    have key := fo_ok h24 hS hZ 5 0 rfl mnS_0
    have efd : foF (fun i => chF (smF J (I 4 2) 24) (psF J 24) i 0 (smF J (I 4 2) 24)) 5 0 = fdR J (I 4 2) := rfl
    rw [efd] at key
    have hMc := c_tabY (G := G) (L := L) (Wm_c h.wm (J := tbI dc I) (fun x j _ => hC1 x j (by omega) (by omega))) (by rw [hC1 39 22 (by decide) (by decide), ← h.k1.1]; exact hcl)
    rw [hI'] at hMc
    cases hq : fndT I' 5 0 with
    | none =>
      rw [hq] at hMc
      have e1 := key.2 hq
      have eR : tbR dc I = -6 := by unfold tbR; rw [hJ]; exact if_pos e1
      have eI : tbI dc I = rfs (mkI J (I 4 2)) 6 := by unfold tbI; rw [hJ, if_pos e1, eJ]
      have eM : mkI J (I 4 2) = fnM J (I 4 2) 24 := by unfold mkI; exact if_pos e1
      rw [eR]
      refine hMc.mono (fun r2 μ2 q => ?_)
      obtain ⟨K, rfl, rfl, g1, g2, g3, g4⟩ := q
      have kc : ∀ x j, (x < 39 ∨ 78 ≤ x) → x ≠ 16 → x ≠ 18 → K x j = rfs I 6 x j := fun x j h1 h2 h3 => by
        rw [g4 x j (by omega) (by omega) (by omega) (by omega) (by omega) (by omega) (by omega) (by omega) (by omega), eI, eM]
        unfold rfs u2
        rw [fno x j h2 h3, fno 3 6 (by decide) (by decide)]
      refine ⟨rfl, dc, K, L, rfl, (Inv_ref (k := 6) h).scr3 (fun x j hx => ?_) (fun x j hx => ?_) ⟨?_, fun z c hc => ?_⟩⟩
      · rw [kc x j (by omega) (by omega) (by omega)]
        exact (u2_a _ _ _ _ (by omega)).symm
      · by_cases e : x = 59 ∧ j = 6
        · rw [e.1, e.2, g1, hC1 59 6 (by decide) (by decide)]
          unfold rms
          rw [u2_s]
          rfl
        · rw [g4 x j (by omega) (by omega) (by omega) (by omega) (by omega) (by omega) (by omega) e (by omega), hC1 x j (by omega) (by omega)]
          unfold rms
          rw [show ∀ (f : Nat → Nat → Int32) u, u2 f 59 6 u x j = f x j from fun f u => if_neg e]
          exact (u2_a _ _ _ _ (by omega)).symm
      · rw [kc 15 5 (by omega) (by decide) (by decide), g2, hC1 39 42 (by decide) (by decide)]
        exact h.k11.1
      · rw [g2, hC1 39 42 (by decide) (by decide)] at z
        rw [kc 17 c (by omega) (by decide) (by decide), kc 15 4 (by omega) (by decide) (by decide), (g3 c hc).1, (g3 c hc).2, hC1 70 c (by decide) (by decide), hC1 73 c (by decide) (by decide)]
        exact h.k11.2 z c hc
    | some q =>
      rw [hq] at hMc
      obtain ⟨b1, b2, b3⟩ := key.1 q hq
      have eM : mkI J (I 4 2) = u2 (u2 (cp2 (fnM J (I 4 2) 24) 16 17 0 0 24) 15 4 (fdR J (I 4 2))) 15 5 (nI 1) := by unfold mkI; exact if_neg b3
      have eI : tbI dc I = mkI J (I 4 2) := by unfold tbI; rw [hJ, if_neg b3, eJ]
      have e154 : tbI dc I 15 4 = fdR J (I 4 2) := by rw [eI, eM, u2_k _ _ _ _ (by decide), u2_s]
      have hbit : ∀ c, c < 24 → gb (fdR J (I 4 2)) c = decide (hidL I' q.1 q.2 c) := fun c hc => by
        rw [Bool.eq_iff_iff, decide_eq_true_iff]; exact b1 c hc
      have eR : tbR dc I = nI (ct (fun c => decide (hidL I' q.1 q.2 c)) 24) := by
        unfold tbR
        rw [hJ, if_neg b3, eJ, ← eI, e154, bc_ct (fun j hj => by
          cases hz : gb (fdR J (I 4 2)) j with
          | false => rfl
          | true => have := b2 j hz; omega)]
        exact congrArg nI (ct_cong (fun c hc => hbit c hc))
      rw [eR]
      refine hMc.mono (fun r2 μ2 q2 => ?_)
      obtain ⟨K, rfl, rfl, g1, g2, g3, g4⟩ := q2
      rw [hI'] at g3 ⊢
      have kc : ∀ x j, (x < 39 ∨ 78 ≤ x) → K x j = tbI dc I x j := fun x j h1 => g4 x j (by omega) (by omega) (by omega) (by omega) (by omega) (by omega) (by omega) (by omega) (by omega)
      have e17 : ∀ c, c < 24 → K 17 c = J 16 c := fun c hc => by
        rw [kc 17 c (by omega), eI, eM, u2_a _ _ _ _ (by decide), u2_a _ _ _ _ (by decide)]
        have e2 : cp2 (fnM J (I 4 2) 24) 16 17 0 0 24 17 c = fnM J (I 4 2) 24 16 (0 + (c - 0)) := if_pos ⟨rfl, by omega, by omega⟩
        rw [e2, show 0 + (c - 0) = c by omega]
        unfold fnM
        rw [u2_a _ _ _ _ (by decide), u2_a _ _ _ _ (by decide)]
      refine ⟨rfl, dc, K, L, rfl, h.scr3 (fun x j hx => ?_) (fun x j hx => ?_) ⟨?_, fun _ c hc => ⟨?_, ?_, ?_⟩⟩⟩
      · rw [kc x j (by omega), eI]; exact mko x j (by omega)
      · by_cases e : x = 59 ∧ j = 6
        · rw [e.1, e.2, g1]; exact hC1 59 6 (by decide) (by decide)
        · rw [g4 x j (by omega) (by omega) (by omega) (by omega) (by omega) (by omega) (by omega) e (by omega)]; exact hC1 x j (by omega) (by omega)
      · rw [kc 15 5 (by omega), g2, eI, eM, u2_s]
      · rw [e17 c hc, (g3 c hc).1, etr c hc]
      · rw [e17 c hc]
        obtain ⟨s, s1, s2⟩ := hbd c hc
        rw [s2]; exact rg_nI s1 (by decide)
      · rw [kc 15 4 (by omega), e154, (g3 c hc).2, hbit c hc]
        exact decide_eq_decide.mpr bI_n0.symm
end WT
