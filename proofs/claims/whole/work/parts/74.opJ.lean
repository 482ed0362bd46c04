/-! ===== could ===== -/
section WC
variable {G : GG} {dc : Nat} {I : Nat → Nat → Int32} {L : Nat → Nat → Int64} {C M C' M' : Nat → Nat → Int32} {CL ML : Nat → Nat → Int64}
/-- cells that the tie doesn't see -/
theorem Iv.scr (h : Iv dc C M CL ML) (hC : ∀ x j, (x < 39 ∨ 78 ≤ x) ∧ ¬ (x = 8 ∨ x = 10 ∨ x = 12 ∨ x = 13 ∨ x = 14 ∨ x = 16 ∨ (18 ≤ x ∧ x ≤ 22)) → C' x j = C x j) (hM : ∀ x j, (39 ≤ x ∧ x < 78) ∧ ¬ ((65 ≤ x ∧ x ≤ 67) ∨ x = 69 ∨ x = 71 ∨ x = 72 ∨ 74 ≤ x ∨ (x = 39 ∧ j = 36)) → M' x j = M x j) : Iv dc C' M' CL ML := by
  obtain ⟨h1, h2, h3, h4, h5, h6, h7, h8, h9, h10, h11, h12, h13⟩ := h
  exact ⟨K1.c h1 (hC _ _ (by omega)) (hM _ _ (by omega)), K2.c h2 (fun j => hC _ _ (by omega)) (fun j _ _ => hM _ _ (by omega)), K3.c h3 (fun j => hC _ _ (by omega)) (fun j => hM _ _ (by omega)), K4.c h4 (fun x j _ => hC _ _ (by omega)) (fun x j _ => hM _ _ (by omega)), K5.c h5 (fun j => hC _ _ (by omega)) (fun j => hM _ _ (by omega)), K6.c h6 (fun x j _ _ => hC _ _ (by omega)) (fun x j _ _ => rfl) (fun x j _ => hM _ _ (by omega)) (fun j => rfl), K7.c h12.1 h7 (fun x j _ => hC _ _ (by omega)) (fun x j _ _ _ _ => hM _ _ (by omega)), K8.c h8 (fun x e _ _ => hM _ _ (by omega)), K9.c h9 (hC _ _ (by omega)) (fun j => hM _ _ (by omega)), K10.c h10 (fun j => hC _ _ (by omega)) (fun j => hM _ _ (by omega)), K11.c h11 (fun x j _ => hC _ _ (by omega)) (fun x j _ => hM _ _ (by omega)), K12.c h12 (hC _ _ (by omega)) (hM _ _ (by omega)), K13.c h13 (fun x j _ => hC _ _ (by omega)) (fun x j _ => rfl)⟩
theorem sZ_bd {f : Nat → Int} : ∀ {n : Nat}, (∀ k, k < n → f k ≤ 288) → sZ f n ≤ 288 * (n : Int)
  | 0, _ => Int.le_refl 0
  | n + 1, h => by
    have h1 := sZ_bd (f := f) (n := n) (fun k hk => h k (by omega))
    have h2 := h n (by omega)
    rw [sZ]
    omega
theorem nS_bd {T : Nat → Nat} (h : ∀ c, c < 24 → T c ≤ 288) (v : Nat) : nS T v ≤ ((7000 : Nat) : Int) := by
  have h1 := sZ_bd (f := fun c => if inc c v then (T c : Int) else 0) (n := 24) (fun k hk => by
    show (if inc k v then (T k : Int) else 0) ≤ 288
    have := h k hk
    split <;> omega)
  unfold nS
  omega
theorem SmT.cg {H H' : Nat → Prop} {T T' : Nat → Nat} (e : ∀ c, c < 24 → (H c ↔ H' c)) (h : SmT H T T') : SmT H' T T' := ⟨fun c hc z => h.1 c hc (fun y => z ((e c hc).mp y)), h.2⟩
theorem XT.cg {up : Prop} {H H' : Nat → Prop} {T : Nat → Nat} {c v : Nat} (e : ∀ c, c < 24 → (H c ↔ H' c)) (h : XT up H T c v) : XT up H' T c v := by
  obtain ⟨⟨T1, h1, h2⟩, h3⟩ := h
  exact ⟨⟨T1, h1.cg e, h2⟩, fun T' hT => h3 T' (hT.cg (fun c hc => (e c hc).symm))⟩
theorem op_could (h : Inv dc I L) (r c w : Int32) : OpI G yX8_could cX8_could 4 6 0 0 yX9_could cX9_could 6 2 [.int r, .int c, .int w] dc I L := by
  by_cases hd : ¬ I 15 5 = 0 ∧ isC r c
  · have h42 : ¬ I 39 42 = 0 := by rw [← h.k11.1]; exact hd.1
    have hT := h.k11.2 h42
    have h288 : ∀ x, x < 24 → tn (I 17 x) ≤ 288 := fun x hx => (hT x hx).2.1.2
    have hM17 : ∀ x, x < 24 → I 17 x = nI (tn (I 17 x)) := fun x hx => (hT x hx).2.1.1
    refine ⟨_, c_xcY (M := fun x => tn (I 17 x)) (B := 7000) hd (fun v _ => nS_bd h288 v) (by decide) hM17, fun r' μ1 hp => ?_⟩
    obtain ⟨J, v, rfl, rfl, hag, hX⟩ := hp
    have hJ : ∀ x j, ¬ (19 ≤ x ∧ x ≤ 22) → J x j = I x j := fun x j hx => hag x j (by omega) (by omega) (by omega) (by omega)
    have hd2 : dCou J r c := ⟨by rw [hJ 39 42 (by omega)]; exact h42, hd.2.1, hd.2.2⟩
    have hMc := c_couY (G := G) (dc := dc) (I := J) (L := L) (M := fun x => tn (I 17 x)) (B := 7000) (r := r) (c := c) (w := w) hd2 (fun v _ => nS_bd h288 v) (by decide) (fun x hx => by rw [hJ 70 x (by omega), ← (hT x hx).1]; exact hM17 x hx)
    refine ⟨nI v, dc, J, L, rfl, rfl, hMc.mono (fun r2 μ2 q => ?_)⟩
    obtain ⟨J2, v2, rfl, rfl, hag2, hX2⟩ := q
    have e : ∀ x, x < 24 → ((¬ J 73 x = 0) ↔ sbit (I 15 4) (nI x)) := fun x hx => by
      rw [sb_iff (by omega), (hT x hx).2.2, hJ 73 x (by omega), decide_eq_true_iff]
    have ev : v2 = v := (hX2.cg e).eq hX
    have hJ2 : ∀ x j, ¬ (19 ≤ x ∧ x ≤ 22) → x ≠ 72 → x ≠ 75 → x ≠ 76 → J2 x j = I x j := fun x j h1 h2 h3 h4 => (hag2 x j h2 h3 h4).trans (hJ x j h1)
    exact ⟨by rw [ev], dc, J2, L, rfl, h.scr (fun x j hx => hJ2 x j (by omega) (by omega) (by omega) (by omega)) (fun x j hx => hJ2 x j (by omega) (by omega) (by omega) (by omega))⟩
  · have hd2 : ¬ dCou I r c := fun z => hd ⟨by rw [h.k11.1]; exact z.1, z.2.1, z.2.2⟩
    exact OpI.rd (c_xcN hd) (c_couN hd2) rfl h
end WC
