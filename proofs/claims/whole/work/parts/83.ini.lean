/-! ===== the start: both objects are new ===== -/
section INI
abbrev oI : Nat → Nat → Int32 := fun _ _ => 0
abbrev oL : Nat → Nat → Int64 := fun _ _ => 0
abbrev oP : Nat → Nat → Option Nat := fun _ _ => none
theorem i8I_o {I : Nat → Nat → Int32} {x j : Nat} (h : x ≠ 4 ∧ x ≠ 11 ∧ ¬ (23 ≤ x ∧ x ≤ 37)) : i8I I x j = I x j := by
  unfold i8I
  repeat rw [u2_a _ _ _ _ (by omega)]
  rw [fl2_o _ _ _ _ (by omega)]
  repeat rw [u2_a _ _ _ _ (by omega)]
theorem i9I_o {I : Nat → Nat → Int32} {x j : Nat} (h : x ≠ 39 ∧ x ≠ 68) : i9I I x j = I x j := by
  unfold i9I
  repeat rw [u2_a _ _ _ _ (by omega)]
theorem i9I_39 {I : Nat → Nat → Int32} {j : Nat} (h : ¬ (18 ≤ j ∧ j ≤ 21)) : i9I I 39 j = I 39 j := by
  unfold i9I
  repeat rw [u2_a _ _ _ _ (by omega)]
  repeat rw [u2_k _ _ _ _ (by omega)]
theorem i8P_o {P : Nat → Nat → Option Nat} {x f : Nat} (h : 39 ≤ x) : i8P P x f = P x f := by
  unfold i8P
  repeat rw [u2_a _ _ _ _ (by omega)]
theorem i8P_f {P : Nat → Nat → Option Nat} {x f : Nat} (h : 46 ≤ f) : i8P P x f = P x f := by
  unfold i8P
  repeat rw [u2_k _ _ _ _ (by omega)]
theorem i9P_o {P : Nat → Nat → Option Nat} {x f : Nat} (h : 40 ≤ x) : i9P P x f = P x f := by
  unfold i9P
  repeat rw [u2_a _ _ _ _ (by omega)]
theorem i9P_f {P : Nat → Nat → Option Nat} {x f : Nat} (h : 46 ≤ f) : i9P P x f = P x f := by
  unfold i9P
  repeat rw [u2_k _ _ _ _ (by omega)]
theorem ptrS_f {k f : Nat} (h : 46 ≤ f) : ptrS k f = none := by
  unfold ptrS
  have e : ptrT.find? (fun q => q.1 == k && q.2.1 == f) = none := by
    refine List.find?_eq_none.mpr (fun q hq => ?_)
    have a : ∀ q, q ∈ ptrT → q.2.1 < 46 := by decide +kernel
    have b := a q hq
    rw [show (q.2.1 == f) = false from beq_false_of_ne (by omega), Bool.and_false]
    decide
  rw [e]
  rfl
theorem Pc_ini1 : ∀ k, k < 78 → ∀ f, f < 46 → i9P (i8P oP) k f = Pc 0 k f := by decide +kernel
theorem Pc_ini : i9P (i8P oP) = Pc 0 := by
  funext k f
  by_cases hk : k < 78
  · by_cases hf : f < 46
    · exact Pc_ini1 k hk f hf
    · rw [i9P_f (by omega), i8P_f (by omega)]
      unfold Pc
      split
      · split
        · rw [if_neg (by omega)]
        · split
          · rw [if_neg (by omega)]
          · rw [ptrS_f (by omega)]
      · split
        · rw [if_neg (by omega)]
        · rw [ptrS_f (by omega)]
  · rw [i9P_o (by omega), i8P_o (by omega)]
    unfold Pc
    rw [if_neg (by omega), if_neg (by omega), if_neg (by omega), if_neg (by omega)]
abbrev mI : Nat → Nat → Int32 := i9I (i8I oI)
theorem mI_o {x j : Nat} (h : x ≠ 4 ∧ x ≠ 11 ∧ ¬ (23 ≤ x ∧ x ≤ 37) ∧ x ≠ 39 ∧ x ≠ 68) : mI x j = 0 := (i9I_o (by omega)).trans (i8I_o (by omega))
theorem Inv_ini : Inv 0 mI oL := by
  refine ⟨by decide +kernel, by decide +kernel, fun k h1 h2 => ?_, ⟨fun k hk => ⟨?_, ?_⟩, ?_, ?_⟩, fun a ha b hb => ?_, fun s hs => ⟨fun j hj => rfl, ?_, Or.inl ?_⟩, fun d hd => absurd hd (Nat.not_lt_zero _), fun d h1 h2 => ?_, fun b => ⟨fun hb => ?_, fun hb => ?_⟩, fun b hb => ?_, ⟨by decide +kernel, fun z => absurd (show mI 39 42 = 0 by decide +kernel) z⟩, by decide +kernel, fun x hx j => ⟨mI_o (by omega), rfl⟩⟩
  · rw [mI_o (by omega), mI_o (by omega)]
  · rw [mI_o (by omega), mI_o (by omega)]
  · rw [mI_o (by omega), mI_o (by omega)]
  · rw [mI_o (by omega), sI_cong (g := fun _ => 0) (fun k _ => mI_o (by omega))]; decide +kernel
  · rw [mI_o (by omega), sI_cong (g := fun _ => 0) (fun k _ => mI_o (by omega))]; decide +kernel
  · rw [mI_o (by omega), mI_o (by omega)]
    exact gb_0 b
  · rw [mI_o (by omega)]
    exact ⟨rfl, by decide⟩
  · have e : ∀ s, s < 8 → mI 60 s = 0 ∧ mI (23 + 2 * s) 1 = -1 ∧ mI (23 + 2 * s) 2 = nI 0 ∧ mI (23 + 2 * s) 3 = -1 := by decide +kernel
    exact e s hs
  · rw [mI_o (by omega), mI_o (by omega), mI_o (by omega), mI_o (by omega), mI_o (by omega), mI_o (by omega), mI_o (by omega)]
    exact ⟨rfl, rfl, rfl, rfl, rfl, rfl, rfl⟩
  · rw [mI_o (by omega), mI_o (by omega)]
    exact gb_0 b
  · rw [mI_o (by omega)]
    exact gb_0 b
  · have e : ∀ b, b < 6 → mI 11 b = mI 68 b := by decide +kernel
    exact e b hb
/-- from the law's entry to its loop -/
theorem law_ini {nm : String} {G : GG} {b N : Nat} {xs : Nat → Int32} {k1 k2 : Nat} {Post : Option Value → Mem → Prop} (k : VL (ZS G b N xs) G (yLn nm) cL_law 4 (some .boolean) 20 k1 k2 18 [.float 1, .ref 0, .ref 39, .int (nI 0)] [] (Mm 0 mI oL) Post) : VL (ZS G b N xs) G (yLn nm) cL_law 4 (some .boolean) 20 (k1 + 38 + 1 + 38 + 1) (k2 + 1750 + 46 + 550 + 10) 0 [.float 1, UU, UU, UU] [] (0, oI, oL, oP) Post := by
  have z1 : ∀ x, Z0 x oI oL oP := fun x j => ⟨rfl, rfl, rfl⟩
  have z2 : ∀ x, 39 ≤ x → Z0 x (i8I oI) oL (i8P oP) := fun x hx j => ⟨i8I_o (by omega), rfl, i8P_o hx⟩
  refine w_new (bc := k1 + 38 + 1 + 38) (bs := k2 + 1750 + 46 + 550) dL_law_0 cl_L_7 rfl (z1 0) ?_
  refine w_dupR dL_law_3 ?_
  refine VL.invI (bc := k1 + 38 + 1) (bs := k2 + 1750 + 46) (bc' := 38) (bs' := 550) (st := [.ref 0]) (av := []) (c_X8_init (fun x _ => z1 x)) lk_L_9 dL_law_4 (by decide) (Nat.le_of_ble_eq_true rfl) rfl (fun r μ1 hp => ?_)
  obtain ⟨rfl, rfl⟩ := hp
  show VL (ZS G b N xs) G (yLn nm) cL_law 4 (some .boolean) 20 (k1 + 38 + 1) (k2 + 1750 + 46) 7 [.float 1, UU, UU, UU] [.ref 0] (39, i8I oI, oL, i8P oP) Post
  refine w_ast1 dL_law_7 rfl ?_
  refine w_new (bc := k1 + 38) (bs := k2 + 1750) dL_law_8 cl_L_10 rfl (z2 39 (by omega)) ?_
  refine w_dupR dL_law_11 ?_
  refine VL.invI (bc := k1) (bs := k2) (bc' := 38) (bs' := 1750) (st := [.ref 39]) (av := []) (c_X9_init (fun x hx => z2 x (by omega))) lk_L_12 dL_law_12 (by decide) (Nat.le_of_ble_eq_true rfl) rfl (fun r μ1 hp => ?_)
  obtain ⟨rfl, rfl⟩ := hp
  rw [Pc_ini]
  show VL (ZS G b N xs) G (yLn nm) cL_law 4 (some .boolean) 20 k1 k2 15 [.float 1, .ref 0, UU, UU] [.ref 39] (Mm 0 mI oL) Post
  refine w_ast2 dL_law_15 rfl ?_
  refine w_icN (n := 0) dL_law_16 (by decide) ?_
  refine w_ist3 dL_law_17 rfl ?_
  exact k
end INI
