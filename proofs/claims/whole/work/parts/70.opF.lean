/-! ===== doors: paper, proxy, twice ===== -/
section WP
variable {G : GG} {dc : Nat} {I : Nat → Nat → Int32} {L : Nat → Nat → Int64} {C M C' M' : Nat → Nat → Int32} {CL ML : Nat → Nat → Int64}
theorem xrt_o {d : Nat} {w n : Int32} {x j : Nat} (h : ¬ ((x = 45 ∨ x = 46 ∨ x = 52) ∧ j = d) ∧ ¬ ((x = 47 ∨ x = 53) ∧ 12 * d ≤ j ∧ j < 12 * d + 12)) : rtI I d w n x j = I x j := by
  unfold rtI gr2 u2
  rw [if_neg (by omega), if_neg (by omega), if_neg (by omega), if_neg (by omega), if_neg (by omega)]
theorem xrt_45 {d : Nat} {w n : Int32} : rtI I d w n 45 d = w := by
  unfold rtI
  rw [gr2_o _ _ _ (by decide), gr2_o _ _ _ (by decide), u2_a _ _ _ _ (by decide), u2_a _ _ _ _ (by decide), u2_s]
theorem xrt_46 {d : Nat} {w n : Int32} : rtI I d w n 46 d = n := by
  unfold rtI
  rw [gr2_o _ _ _ (by decide), gr2_o _ _ _ (by decide), u2_a _ _ _ _ (by decide), u2_s]
theorem xrt_52 {d : Nat} {w n : Int32} : rtI I d w n 52 d = nI 0 := by
  unfold rtI
  rw [gr2_o _ _ _ (by decide), gr2_o _ _ _ (by decide), u2_s]
theorem xrt_53 {d j : Nat} {w n : Int32} (hj : j < 12) : rtI I d w n 53 (12 * d + j) = 0 := by
  unfold rtI
  exact gr2_i _ (fun _ => nI 0) hj
theorem xrt_47 {d j : Nat} {w n : Int32} (hj : j < 12) : rtI I d w n 47 (12 * d + j) = -2 := by
  unfold rtI
  rw [gr2_o _ _ _ (by decide)]
  exact gr2_i _ (fun _ => -2) hj
/-- the component's new return -/
theorem xsr_o {d : Nat} {w : Int32} {x j : Nat} (h : ¬ (x = 78 + 3 * d ∧ (j = 6 ∨ j = 7 ∨ j = 8 ∨ j = 9))) : sR I d w x j = I x j := by
  unfold sR u2
  rw [if_neg (by omega), if_neg (by omega), if_neg (by omega), if_neg (by omega)]
theorem xsr_6 {d : Nat} {w : Int32} : sR I d w (78 + 3 * d) 6 = w := by
  unfold sR
  rw [u2_k _ _ _ _ (by decide), u2_k _ _ _ _ (by decide), u2_k _ _ _ _ (by decide), u2_s]
theorem xsr_7 {d : Nat} {w : Int32} : sR I d w (78 + 3 * d) 7 = nI 0 := by
  unfold sR
  rw [u2_k _ _ _ _ (by decide), u2_k _ _ _ _ (by decide), u2_s]
theorem xsr_9 {d : Nat} {w : Int32} : sR I d w (78 + 3 * d) 9 = nI 0 := by
  unfold sR
  rw [u2_s]
theorem xpm_o {d m x j : Nat} {g : Nat → Int32} (h : ¬ (x = 78 + 3 * d ∧ j = 8) ∧ x ≠ 78 + 3 * d + 2) : pm I d g m x j = I x j := by
  unfold pm
  rw [if_neg h.1, if_neg (fun q => h.2 q.1)]
theorem xpm_8 {d m : Nat} {g : Nat → Int32} : pm I d g m (78 + 3 * d) 8 = nI m := if_pos ⟨rfl, rfl⟩
theorem xpm_a {d m j : Nat} {g : Nat → Int32} (hj : j < m) : pm I d g m (78 + 3 * d + 2) j = g j := by
  unfold pm
  rw [if_neg (by omega), if_pos ⟨rfl, hj⟩]
theorem op_proxy (h : Inv dc I L) (b n : Int32) : OpI G yX8_proxy cX8_proxy 4 2 0 0 yX9_proxy cX9_proxy 3 1 [.int b, .int n] dc I L := by
  have hd : mPro dc I b n = dPro dc I b n := by
    unfold mPro dPro
    by_cases hb : inR b dc
    · have hD := h.k7 _ (d24 h hb).1
      rw [if_pos hb, if_pos hb, ← h.k1.1]
      have e := hD.ask
      by_cases h1 : n < 0
      · rw [if_pos h1, if_neg (fun z => z.1 h1)]
      rw [if_neg h1]
      by_cases h2 : nI 12 < n
      · rw [if_pos h2, if_neg (fun z => z.2 ((nI_ltle (by decide)).mp h2))]
      rw [if_neg h2, if_pos ⟨h1, fun z => h2 ((nI_ltle (by decide)).mpr z)⟩]
      by_cases h3 : I 0 9 = 0
      · rw [if_pos h3, if_pos h3]
        by_cases h4 : tba I (tn b)
        · rw [if_pos h4, if_pos (e.mp h4), hD.b6, h.k2.2.1, hD.b10]
        · rw [if_neg h4, if_neg (fun z => h4 (e.mpr z))]
      · rw [if_neg h3, if_neg h3]
    · rw [if_neg hb, if_neg hb]
  refine OpI.rf h (c_X8_proxy h.wx) (c_X9_proxy (Wm_r h.wm)) (show mPro dc I b n = dPro dc I b n from hd) (fun h0 => ?_)
  have hm := hd.trans h0
  have hb : inR b dc := Classical.byContradiction fun y => by unfold mPro at hm; rw [if_neg y] at hm; cases hm
  have hn : inR n 13 := Classical.byContradiction fun y => by unfold mPro at hm; rw [if_pos hb, if_neg y] at hm; cases hm
  have ld := (d24 h hb).1
  have hdc := h.k12.1
  obtain ⟨ln, en⟩ := tn_lt rfl (by decide) hn
  generalize hI1 : pm (sR I (tn b) (nI 3)) (tn b) (fun _ => -2) (tn n) = I1
  have hC : ∀ x j, ¬ (x = 78 + 3 * tn b ∧ (j = 6 ∨ j = 7 ∨ j = 8 ∨ j = 9)) ∧ x ≠ 78 + 3 * tn b + 2 → I1 x j = I x j := fun x j hx => by rw [← hI1, xpm_o (by omega), xsr_o (by omega)]
  have hm1 : mPro dc I1 b n = 0 := by
    unfold mPro mba at hm ⊢
    rw [hC 39 _ (by omega), hC 45 _ (by omega), hC 52 _ (by omega), hC 39 _ (by omega), hC 48 _ (by omega)]
    exact hm
  refine MP.of (c_X9_proxy (Wm_c h.wm (fun x j _ => hC x j (by omega)))) hm1 rfl (Inv_of (I1 := I1) (L1 := L) ?_ (fun x j hx => xrt_o (by omega)) (fun _ _ _ => rfl))
  have hM : ∀ x j, 39 ≤ x ∧ ¬ ((x = 45 ∨ x = 46 ∨ x = 52) ∧ j = tn b) ∧ ¬ ((x = 47 ∨ x = 53) ∧ 12 * tn b ≤ j ∧ j < 12 * tn b + 12) → (fun x j => if x < 78 then rtI I1 (tn b) (nI 3) n x j else I x j) x j = I x j := fun x j hx => by
    show (if x < 78 then _ else _) = _
    split
    · rw [xrt_o ⟨hx.2.1, hx.2.2⟩]; exact hC x j (by omega)
    · rfl
  refine (h.ret (C' := I1) (M' := fun x j => if x < 78 then rtI I1 (tn b) (nI 3) n x j else I x j) ld (n := tn n) (w := nI 3) (br := nI 0) (g := fun _ => -2) (by omega) hC ?_ ?_ ?_ ?_ (fun j hj => ?_) hM xrt_45 ?_ xrt_52 (fun j hj => xrt_47 (by omega)) (fun j hj => xrt_53 hj) (fun j _ => Or.inl rfl) (fun z => absurd rfl z)).c (fun _ _ _ => rfl) (fun x j _ hx => (if_pos hx).symm) (fun _ _ _ => rfl) (fun _ _ _ _ => rfl)
  · rw [← hI1, xpm_o (by omega), xsr_6]
  · rw [← hI1, xpm_o (by omega), xsr_7]
  · rw [← hI1, xpm_8]
  · rw [← hI1, xpm_o (by omega), xsr_9]
  · rw [← hI1, xpm_a hj]
  · exact xrt_46.trans en
theorem fz_eq {g f : Nat → Int32} {t : Nat} (h : ∀ j, j < t → g j = f j ∧ (f j = -2 ∨ 0 ≤ f j)) : fzf (pN f) 0 t = fzf (pT g) 0 t := fzf_cong t 0 (fun j _ hj => by
  unfold pN pT
  rw [(h j (by omega)).1]
  refine decide_eq_decide.mpr ⟨fun z => (h j (by omega)).2.resolve_right (fun y => absurd z (Int32.not_lt.mpr y)), fun z => ?_⟩
  rw [z]; decide)
theorem xfz_lt {p : Nat → Bool} : ∀ k i j, i ≤ j → j < fzf p i k → p j = false
  | 0, i, j, h1, h2 => by rw [fzf] at h2; omega
  | k + 1, i, j, h1, h2 => by
    rw [fzf] at h2
    by_cases hp : p i = true
    · rw [if_pos hp] at h2; omega
    · rw [if_neg hp] at h2
      by_cases e : j = i
      · rw [e]; cases hq : p i with
        | true => exact absurd hq hp
        | false => rfl
      · exact xfz_lt k (i + 1) j (by omega) h2
end WP
