theorem add64 {i n : Int32} (hi : ¬ i < 0) (hn : 0 ≤ n) : (i.toInt64 + n.toInt64).toInt = (tn i : Int) + (tn n : Int) := by
  obtain ⟨a, ha, rfl⟩ := nI_of hi
  obtain ⟨b, hb, rfl⟩ := nI_of (show ¬ n < 0 by rw [Int32.lt_iff_toInt_lt, Int32.toInt_zero]; rw [Int32.le_iff_toInt_le, Int32.toInt_zero] at hn; omega)
  rw [tn_nI ha, tn_nI hb, Int64.toInt_add, Int32.toInt_toInt64, Int32.toInt_toInt64, nI_toInt ha, nI_toInt hb]
  rw [Int.bmod_eq_of_le (by omega) (by omega)]
/-- a stretch that a row of the model has -/
theorem gt64 {i n x : Int32} {N : Nat} (hi : ¬ i < 0) (hn : 0 ≤ n) (hx : rg x N) (hN : N < 2 ^ 31) : 0 < lg_cmp (i.toInt64 + n.toInt64) x.toInt64 ↔ ¬ tn i + tn n ≤ tn x := by
  have h1 := hx.1
  have h2 := hx.2
  rw [lcmp_g, Int64.lt_iff_toInt_lt, add64 hi hn, Int32.toInt_toInt64, h1, nI_toInt (by omega), ← h1]
  omega
theorem le64 {i n x : Int32} {N : Nat} (hi : ¬ i < 0) (hn : 0 ≤ n) (hx : rg x N) (hN : N < 2 ^ 31) : lg_cmp (i.toInt64 + n.toInt64) x.toInt64 ≤ 0 ↔ tn i + tn n ≤ tn x := by
  have h := gt64 hi hn hx hN
  rw [Int32.le_iff_toInt_le, Int32.toInt_zero]
  rw [Int32.lt_iff_toInt_lt, Int32.toInt_zero] at h
  omega
abbrev cpS (I : Nat → Nat → Int32) (s : Nat) (i n : Int32) : Prop := tn i + tn n ≤ tn (I 62 s)
def mCop (I : Nat → Nat → Int32) (p q i j n : Int32) : Nat :=
  if inR p 8 then (if inR q 8 then (if I 60 (tn p) = nI 2 then 2 else (if I 60 (tn q) = nI 2 then 2 else (if I 60 (tn p) = nI 1 then (if I 60 (tn q) = nI 1 then (if I 61 (tn p) = I 61 (tn q) then (if 0 ≤ n then (if i < 0 then 5 else (if j < 0 then 5 else (if cpS I (tn p) i n then (if cpS I (tn q) j n then 0 else 5) else 5))) else 4) else 2) else (if I 60 (tn q) = 0 then 3 else 0)) else (if I 60 (tn p) = 0 then 3 else 0)))) else 1) else 1

theorem ix_mul3 {K N x y z : Nat} {a b c : Int32} (ha : a = nI x) (hb : b = nI y) (hc : c = nI z) (h : K * x + y + z < N) (hN : N < 2 ^ 31) : ix (nI K * a + b + c) N (K * x + y + z) := ⟨by rw [ha, hb, hc, pk_mul, nI_add, nI_add], h, hN⟩

set_option maxRecDepth 4000 in
theorem lp_cpB {G : GG} {dc : Nat} {J : Nat → Nat → Int32} {L : Nat → Nat → Int64} {p q i j n : Int32} (hp : inR p 8) (hq : inR q 8) (hi : i = nI (tn i)) (hj : j = nI (tn j)) (hn : n = nI (tn n)) (h1 : tn i + tn n ≤ 30) (h2 : tn j + tn n ≤ 30) (k : Nat) : ∀ x, x + k = tn n → V G yX9_copy cX9_copy 7 (some .int) 0 0 0 210 [.ref 39, .int p, .int q, .int i, .int j, .int n, .int (nI x)] [] (Mm dc J (gr2 (gr2 L 64 0 (tn n) (fun k => L 63 (30 * tn p + tn i + k))) 63 (30 * tn q + tn j) (x) (fun k => L 63 (30 * tn p + tn i + k)))) (Is (some (.int (nI 1))) (Mm dc J (gr2 (gr2 L 64 0 (tn n) (fun k => L 63 (30 * tn p + tn i + k))) 63 (30 * tn q + tn j) (tn n) (fun k => L 63 (30 * tn p + tn i + k))))) := by
  induction k with
  | zero =>
    intro x hx
    have hp9 := ix_R (by decide) hp
    have hq9 := ix_R (by decide) hq
    have hpl := hp9.2.1
    have hql := hq9.2.1
    refine v_ild6 dX9_copy_210 ?_
    refine v_ild5 dX9_copy_212 ?_
    refine v_icmp_ge (tgt := 245) dX9_copy_214 (by decide) (fun h214 => ?_) (fun h214 => absurd (by rw [hn]; exact nI_le (by omega) (by omega)) h214)
    refine v_icN (n := 1) dX9_copy_245 (by decide) ?_
    exact v_retI dX9_copy_246 trivial (by rw [show x = tn n by omega]; exact ⟨rfl, rfl⟩)
  | succ k ih =>
    intro x hx
    have hp9 := ix_R (by decide) hp
    have hq9 := ix_R (by decide) hq
    have hpl := hp9.2.1
    have hql := hq9.2.1
    refine v_ild6 dX9_copy_210 ?_
    refine v_ild5 dX9_copy_212 ?_
    refine v_icmp_ge (tgt := 245) dX9_copy_214 (by decide) (fun h214 => absurd h214 (by rw [hn]; exact nI_ge (by omega) (by omega))) (fun h214 => ?_)
    refine v_ald0 dX9_copy_217 ?_
    refine v_getP (q := 63) dX9_copy_218 fl_X9_93 (by first | rfl | exact lay_door (by omega) | exact lay_dt (by omega) | exact lay_da (by omega) | exact lay_sh (by omega) | exact lay_se (by omega)) rfl (by omega) rfl ?_
    refine v_bipush (v := nI 30) dX9_copy_221 (by decide) ?_
    refine v_ild2 dX9_copy_223 ?_
    refine v_imul dX9_copy_224 ?_
    refine v_ild4 dX9_copy_225 ?_
    refine v_iadd dX9_copy_227 ?_
    refine v_ild6 dX9_copy_228 ?_
    refine v_iadd dX9_copy_230 ?_
    refine v_ald0 dX9_copy_231 ?_
    refine v_getP (q := 64) dX9_copy_232 fl_X9_97 (by first | rfl | exact lay_door (by omega) | exact lay_dt (by omega) | exact lay_da (by omega) | exact lay_sh (by omega) | exact lay_se (by omega)) rfl (by omega) rfl ?_
    refine v_ild6 dX9_copy_235 ?_
    refine v_lald dX9_copy_237 (by first | rfl | exact lay_door (by omega) | exact lay_dt (by omega) | exact lay_da (by omega) | exact lay_sh (by omega) | exact lay_se (by omega)) (by omega) ⟨rfl, by omega, by decide⟩ ?_
    refine v_last dX9_copy_238 (by first | rfl | exact lay_door (by omega) | exact lay_dt (by omega) | exact lay_da (by omega) | exact lay_sh (by omega) | exact lay_se (by omega)) (by omega) (ix_mul3 hq9.1 hj rfl (by omega) (by decide)) ?_
    refine v_inc6 dX9_copy_239 rfl ?_
    refine v_goto (tgt := 210) dX9_copy_242 (by decide) ?_
    rw [gr2_s _ _ _ _ _ (by rw [gr2_o _ _ _ (by decide)]; exact (congrArg (gr2 L 64 0 (tn n) (fun k => L 63 (30 * tn p + tn i + k)) 64) (Nat.zero_add x).symm).trans (gr2_i _ _ (by omega))), nI_1 x]
    exact ih (x + 1) (by omega)

set_option maxRecDepth 4000 in
theorem lp_cpA {G : GG} {dc : Nat} {J : Nat → Nat → Int32} {L : Nat → Nat → Int64} {p q i j n : Int32} (hp : inR p 8) (hq : inR q 8) (hi : i = nI (tn i)) (hj : j = nI (tn j)) (hn : n = nI (tn n)) (h1 : tn i + tn n ≤ 30) (h2 : tn j + tn n ≤ 30) (k : Nat) : ∀ x, x + k = tn n → V G yX9_copy cX9_copy 7 (some .int) 0 0 0 173 [.ref 39, .int p, .int q, .int i, .int j, .int n, .int (nI x)] [] (Mm dc J (gr2 L 64 0 (x) (fun k => L 63 (30 * tn p + tn i + k)))) (Is (some (.int (nI 1))) (Mm dc J (gr2 (gr2 L 64 0 (tn n) (fun k => L 63 (30 * tn p + tn i + k))) 63 (30 * tn q + tn j) (tn n) (fun k => L 63 (30 * tn p + tn i + k))))) := by
  induction k with
  | zero =>
    intro x hx
    have hp9 := ix_R (by decide) hp
    have hq9 := ix_R (by decide) hq
    have hpl := hp9.2.1
    have hql := hq9.2.1
    refine v_ild6 dX9_copy_173 ?_
    refine v_ild5 dX9_copy_175 ?_
    refine v_icmp_ge (tgt := 207) dX9_copy_177 (by decide) (fun h177 => ?_) (fun h177 => absurd (by rw [hn]; exact nI_le (by omega) (by omega)) h177)
    refine v_icN (n := 0) dX9_copy_207 (by decide) ?_
    refine v_ist6 dX9_copy_208 rfl ?_
    have h9 := lp_cpB (G := G) (dc := dc) (J := J) (L := L) hp hq hi hj hn h1 h2 (tn n) 0 (by omega)
    rw [gr2_0] at h9
    rw [show x = tn n by omega]
    exact h9
  | succ k ih =>
    intro x hx
    have hp9 := ix_R (by decide) hp
    have hq9 := ix_R (by decide) hq
    have hpl := hp9.2.1
    have hql := hq9.2.1
    refine v_ild6 dX9_copy_173 ?_
    refine v_ild5 dX9_copy_175 ?_
    refine v_icmp_ge (tgt := 207) dX9_copy_177 (by decide) (fun h177 => absurd h177 (by rw [hn]; exact nI_ge (by omega) (by omega))) (fun h177 => ?_)
    refine v_ald0 dX9_copy_180 ?_
    refine v_getP (q := 64) dX9_copy_181 fl_X9_97 (by first | rfl | exact lay_door (by omega) | exact lay_dt (by omega) | exact lay_da (by omega) | exact lay_sh (by omega) | exact lay_se (by omega)) rfl (by omega) rfl ?_
    refine v_ild6 dX9_copy_184 ?_
    refine v_ald0 dX9_copy_186 ?_
    refine v_getP (q := 63) dX9_copy_187 fl_X9_93 (by first | rfl | exact lay_door (by omega) | exact lay_dt (by omega) | exact lay_da (by omega) | exact lay_sh (by omega) | exact lay_se (by omega)) rfl (by omega) rfl ?_
    refine v_bipush (v := nI 30) dX9_copy_190 (by decide) ?_
    refine v_ild1 dX9_copy_192 ?_
    refine v_imul dX9_copy_193 ?_
    refine v_ild3 dX9_copy_194 ?_
    refine v_iadd dX9_copy_195 ?_
    refine v_ild6 dX9_copy_196 ?_
    refine v_iadd dX9_copy_198 ?_
    refine v_lald dX9_copy_199 (by first | rfl | exact lay_door (by omega) | exact lay_dt (by omega) | exact lay_da (by omega) | exact lay_sh (by omega) | exact lay_se (by omega)) (by omega) (ix_mul3 hp9.1 hi rfl (by omega) (by decide)) ?_
    refine v_last dX9_copy_200 (by first | rfl | exact lay_door (by omega) | exact lay_dt (by omega) | exact lay_da (by omega) | exact lay_sh (by omega) | exact lay_se (by omega)) (by omega) ⟨rfl, by omega, by decide⟩ ?_
    refine v_inc6 dX9_copy_201 rfl ?_
    refine v_goto (tgt := 173) dX9_copy_204 (by decide) ?_
    rw [gr2_o _ _ _ (by decide)]
    rw [show u2 (gr2 L 64 0 x (fun k => L 63 (30 * tn p + tn i + k))) 64 x (L 63 (30 * tn p + tn i + x)) = gr2 L 64 0 (x + 1) (fun k => L 63 (30 * tn p + tn i + k)) from (congrArg (fun w => u2 (gr2 L 64 0 x (fun k => L 63 (30 * tn p + tn i + k))) 64 w (L 63 (30 * tn p + tn i + x))) (Nat.zero_add x).symm).trans (gr2_s _ _ _ _ _ rfl), nI_1 x]
    exact ih (x + 1) (by omega)

set_option maxRecDepth 4000 in
theorem c_X9_copy {G : GG} {dc : Nat} {I : Nat → Nat → Int32} {L : Nat → Nat → Int64} {p q i j n : Int32} (hW : Wm dc I) (h60 : ∀ s, s < 8 → I 60 s = 0 ∨ I 60 s = nI 1 ∨ I 60 s = nI 2) : Cn G yX9_copy cX9_copy 7 (some .int) 1 0 0 [.ref 39, .int p, .int q, .int i, .int j, .int n] (Mm dc I L) (Is (some (.int (oR (mCop I p q i j n) (nI 1)))) (pM (mCop I p q i j n) dc I L (Mm dc (I) ((gr2 (gr2 L 64 0 (tn n) (fun k => L 63 (30 * tn p + tn i + k))) 63 (30 * tn q + tn j) (tn n) (fun k => L 63 (30 * tn p + tn i + k))))))) := by
  refine Cn.of' (by decide) (Nat.le_of_ble_eq_true rfl) rfl ?_
  refine v_ild1 dX9_copy_0 ?_
  refine v_S1 c_X9_isShelf lk_X9_162 dX9_copy_1 (by decide) (Nat.le_of_ble_eq_true rfl) ?_
  refine v_ifeq_b (tgt := 14) dX9_copy_4 (by decide) (fun h4 => ?_) (fun h4 => ?_)
  · refine v_ald0 dX9_copy_14 ?_
    refine v_icm1 dX9_copy_15 ?_
    refine v_V1 (c_X9_no (k := 1) (by decide) (by decide) (by decide)) lk_X9_146 dX9_copy_16 (by decide) (Nat.le_of_ble_eq_true rfl) (by first | rfl | exact lay_door (by omega) | exact lay_dt (by omega) | exact lay_da (by omega) | exact lay_sh (by omega) | exact lay_se (by omega)) (show _ < 78 + 3 * _ by omega) ?_
    exact v_retI dX9_copy_19 trivial (by simp only [mCop, if_neg h4]; exact ⟨rfl, rfl⟩)
  · refine v_ild2 dX9_copy_7 ?_
    refine v_S1 c_X9_isShelf lk_X9_162 dX9_copy_8 (by decide) (Nat.le_of_ble_eq_true rfl) ?_
    refine v_ifne_b (tgt := 20) dX9_copy_11 (by decide) (fun h11 => ?_) (fun h11 => ?_)
    · have hp9 := (ix_R (by decide) h4).2.1
      have hq9 := (ix_R (by decide) h11).2.1
      refine v_ald0 dX9_copy_20 ?_
      refine v_getP (q := 60) dX9_copy_21 fl_X9_84 (by first | rfl | exact lay_door (by omega) | exact lay_dt (by omega) | exact lay_da (by omega) | exact lay_sh (by omega) | exact lay_se (by omega)) rfl (by omega) rfl ?_
      refine v_ild1 dX9_copy_24 ?_
      refine v_iald dX9_copy_25 (by first | rfl | exact lay_door (by omega) | exact lay_dt (by omega) | exact lay_da (by omega) | exact lay_sh (by omega) | exact lay_se (by omega)) (by omega) (ix_R (by decide) h4) ?_
      refine v_icN (n := 2) dX9_copy_26 (by decide) ?_
      refine v_icmp_eq (tgt := 75) dX9_copy_27 (by decide) (fun h27 => ?_) (fun h27 => ?_)
      · refine v_ald0 dX9_copy_75 ?_
        refine v_bipush (v := -2) dX9_copy_76 (by decide) ?_
        refine v_V1 (c_X9_no (k := 2) (by decide) (by decide) (by decide)) lk_X9_146 dX9_copy_78 (by decide) (Nat.le_of_ble_eq_true rfl) (by first | rfl | exact lay_door (by omega) | exact lay_dt (by omega) | exact lay_da (by omega) | exact lay_sh (by omega) | exact lay_se (by omega)) (show _ < 78 + 3 * _ by omega) ?_
        exact v_retI dX9_copy_81 trivial (by simp only [mCop, if_pos h4, if_pos h11, if_pos h27]; exact ⟨rfl, rfl⟩)
      · refine v_ald0 dX9_copy_30 ?_
        refine v_getP (q := 60) dX9_copy_31 fl_X9_84 (by first | rfl | exact lay_door (by omega) | exact lay_dt (by omega) | exact lay_da (by omega) | exact lay_sh (by omega) | exact lay_se (by omega)) rfl (by omega) rfl ?_
        refine v_ild2 dX9_copy_34 ?_
        refine v_iald dX9_copy_35 (by first | rfl | exact lay_door (by omega) | exact lay_dt (by omega) | exact lay_da (by omega) | exact lay_sh (by omega) | exact lay_se (by omega)) (by omega) (ix_R (by decide) h11) ?_
        refine v_icN (n := 2) dX9_copy_36 (by decide) ?_
        refine v_icmp_eq (tgt := 75) dX9_copy_37 (by decide) (fun h37 => ?_) (fun h37 => ?_)
        · refine v_ald0 dX9_copy_75 ?_
          refine v_bipush (v := -2) dX9_copy_76 (by decide) ?_
          refine v_V1 (c_X9_no (k := 2) (by decide) (by decide) (by decide)) lk_X9_146 dX9_copy_78 (by decide) (Nat.le_of_ble_eq_true rfl) (by first | rfl | exact lay_door (by omega) | exact lay_dt (by omega) | exact lay_da (by omega) | exact lay_sh (by omega) | exact lay_se (by omega)) (show _ < 78 + 3 * _ by omega) ?_
          exact v_retI dX9_copy_81 trivial (by simp only [mCop, if_pos h4, if_pos h11, if_neg h27, if_pos h37]; exact ⟨rfl, rfl⟩)
        · refine v_ald0 dX9_copy_40 ?_
          refine v_getP (q := 60) dX9_copy_41 fl_X9_84 (by first | rfl | exact lay_door (by omega) | exact lay_dt (by omega) | exact lay_da (by omega) | exact lay_sh (by omega) | exact lay_se (by omega)) rfl (by omega) rfl ?_
          refine v_ild1 dX9_copy_44 ?_
          refine v_iald dX9_copy_45 (by first | rfl | exact lay_door (by omega) | exact lay_dt (by omega) | exact lay_da (by omega) | exact lay_sh (by omega) | exact lay_se (by omega)) (by omega) (ix_R (by decide) h4) ?_
          refine v_icN (n := 1) dX9_copy_46 (by decide) ?_
          refine v_icmp_ne (tgt := 82) dX9_copy_47 (by decide) (fun h47 => ?_) (fun h47 => ?_)
          · refine v_ald0 dX9_copy_82 ?_
            refine v_getP (q := 60) dX9_copy_83 fl_X9_84 (by first | rfl | exact lay_door (by omega) | exact lay_dt (by omega) | exact lay_da (by omega) | exact lay_sh (by omega) | exact lay_se (by omega)) rfl (by omega) rfl ?_
            refine v_ild1 dX9_copy_86 ?_
            refine v_iald dX9_copy_87 (by first | rfl | exact lay_door (by omega) | exact lay_dt (by omega) | exact lay_da (by omega) | exact lay_sh (by omega) | exact lay_se (by omega)) (by omega) (ix_R (by decide) h4) ?_
            refine v_if_eq (tgt := 100) dX9_copy_88 (by decide) (fun h88 => ?_) (fun h88 => absurd ((h60 _ hp9).resolve_left h88) (fun z => z.elim h47 h27))
            refine v_ald0 dX9_copy_100 ?_
            refine v_bipush (v := -3) dX9_copy_101 (by decide) ?_
            refine v_V1 (c_X9_no (k := 3) (by decide) (by decide) (by decide)) lk_X9_146 dX9_copy_103 (by decide) (Nat.le_of_ble_eq_true rfl) (by first | rfl | exact lay_door (by omega) | exact lay_dt (by omega) | exact lay_da (by omega) | exact lay_sh (by omega) | exact lay_se (by omega)) (show _ < 78 + 3 * _ by omega) ?_
            exact v_retI dX9_copy_106 trivial (by simp only [mCop, if_pos h4, if_pos h11, if_neg h27, if_neg h37, if_neg h47, if_pos h88]; exact ⟨rfl, rfl⟩)
          · refine v_ald0 dX9_copy_50 ?_
            refine v_getP (q := 60) dX9_copy_51 fl_X9_84 (by first | rfl | exact lay_door (by omega) | exact lay_dt (by omega) | exact lay_da (by omega) | exact lay_sh (by omega) | exact lay_se (by omega)) rfl (by omega) rfl ?_
            refine v_ild2 dX9_copy_54 ?_
            refine v_iald dX9_copy_55 (by first | rfl | exact lay_door (by omega) | exact lay_dt (by omega) | exact lay_da (by omega) | exact lay_sh (by omega) | exact lay_se (by omega)) (by omega) (ix_R (by decide) h11) ?_
            refine v_icN (n := 1) dX9_copy_56 (by decide) ?_
            refine v_icmp_ne (tgt := 82) dX9_copy_57 (by decide) (fun h57 => ?_) (fun h57 => ?_)
            · refine v_ald0 dX9_copy_82 ?_
              refine v_getP (q := 60) dX9_copy_83 fl_X9_84 (by first | rfl | exact lay_door (by omega) | exact lay_dt (by omega) | exact lay_da (by omega) | exact lay_sh (by omega) | exact lay_se (by omega)) rfl (by omega) rfl ?_
              refine v_ild1 dX9_copy_86 ?_
              refine v_iald dX9_copy_87 (by first | rfl | exact lay_door (by omega) | exact lay_dt (by omega) | exact lay_da (by omega) | exact lay_sh (by omega) | exact lay_se (by omega)) (by omega) (ix_R (by decide) h4) ?_
              refine v_if_eq (tgt := 100) dX9_copy_88 (by decide) (fun h88 => absurd (h88.symm.trans h47) (by decide)) (fun h88 => ?_)
              refine v_ald0 dX9_copy_91 ?_
              refine v_getP (q := 60) dX9_copy_92 fl_X9_84 (by first | rfl | exact lay_door (by omega) | exact lay_dt (by omega) | exact lay_da (by omega) | exact lay_sh (by omega) | exact lay_se (by omega)) rfl (by omega) rfl ?_
              refine v_ild2 dX9_copy_95 ?_
              refine v_iald dX9_copy_96 (by first | rfl | exact lay_door (by omega) | exact lay_dt (by omega) | exact lay_da (by omega) | exact lay_sh (by omega) | exact lay_se (by omega)) (by omega) (ix_R (by decide) h11) ?_
              refine v_if_ne (tgt := 107) dX9_copy_97 (by decide) (fun h97 => absurd ((h60 _ hq9).resolve_left h97) (fun z => z.elim h57 h37)) (fun h97 => ?_)
              refine v_ald0 dX9_copy_100 ?_
              refine v_bipush (v := -3) dX9_copy_101 (by decide) ?_
              refine v_V1 (c_X9_no (k := 3) (by decide) (by decide) (by decide)) lk_X9_146 dX9_copy_103 (by decide) (Nat.le_of_ble_eq_true rfl) (by first | rfl | exact lay_door (by omega) | exact lay_dt (by omega) | exact lay_da (by omega) | exact lay_sh (by omega) | exact lay_se (by omega)) (show _ < 78 + 3 * _ by omega) ?_
              exact v_retI dX9_copy_106 trivial (by simp only [mCop, if_pos h4, if_pos h11, if_neg h27, if_neg h37, if_pos h47, if_neg h57, if_neg h88, if_pos h97]; exact ⟨rfl, rfl⟩)
            · refine v_ald0 dX9_copy_60 ?_
              refine v_getP (q := 61) dX9_copy_61 fl_X9_87 (by first | rfl | exact lay_door (by omega) | exact lay_dt (by omega) | exact lay_da (by omega) | exact lay_sh (by omega) | exact lay_se (by omega)) rfl (by omega) rfl ?_
              refine v_ild1 dX9_copy_64 ?_
              refine v_iald dX9_copy_65 (by first | rfl | exact lay_door (by omega) | exact lay_dt (by omega) | exact lay_da (by omega) | exact lay_sh (by omega) | exact lay_se (by omega)) (by omega) (ix_R (by decide) h4) ?_
              refine v_ald0 dX9_copy_66 ?_
              refine v_getP (q := 61) dX9_copy_67 fl_X9_87 (by first | rfl | exact lay_door (by omega) | exact lay_dt (by omega) | exact lay_da (by omega) | exact lay_sh (by omega) | exact lay_se (by omega)) rfl (by omega) rfl ?_
              refine v_ild2 dX9_copy_70 ?_
              refine v_iald dX9_copy_71 (by first | rfl | exact lay_door (by omega) | exact lay_dt (by omega) | exact lay_da (by omega) | exact lay_sh (by omega) | exact lay_se (by omega)) (by omega) (ix_R (by decide) h11) ?_
              refine v_icmp_eq (tgt := 82) dX9_copy_72 (by decide) (fun h72 => ?_) (fun h72 => ?_)
              · refine v_ald0 dX9_copy_82 ?_
                refine v_getP (q := 60) dX9_copy_83 fl_X9_84 (by first | rfl | exact lay_door (by omega) | exact lay_dt (by omega) | exact lay_da (by omega) | exact lay_sh (by omega) | exact lay_se (by omega)) rfl (by omega) rfl ?_
                refine v_ild1 dX9_copy_86 ?_
                refine v_iald dX9_copy_87 (by first | rfl | exact lay_door (by omega) | exact lay_dt (by omega) | exact lay_da (by omega) | exact lay_sh (by omega) | exact lay_se (by omega)) (by omega) (ix_R (by decide) h4) ?_
                refine v_if_eq (tgt := 100) dX9_copy_88 (by decide) (fun h88 => absurd (h88.symm.trans h47) (by decide)) (fun h88 => ?_)
                refine v_ald0 dX9_copy_91 ?_
                refine v_getP (q := 60) dX9_copy_92 fl_X9_84 (by first | rfl | exact lay_door (by omega) | exact lay_dt (by omega) | exact lay_da (by omega) | exact lay_sh (by omega) | exact lay_se (by omega)) rfl (by omega) rfl ?_
                refine v_ild2 dX9_copy_95 ?_
                refine v_iald dX9_copy_96 (by first | rfl | exact lay_door (by omega) | exact lay_dt (by omega) | exact lay_da (by omega) | exact lay_sh (by omega) | exact lay_se (by omega)) (by omega) (ix_R (by decide) h11) ?_
                refine v_if_ne (tgt := 107) dX9_copy_97 (by decide) (fun h97 => ?_) (fun h97 => absurd (h97.symm.trans h57) (by decide))
                refine v_ild5 dX9_copy_107 ?_
                refine v_if_ge (tgt := 119) dX9_copy_109 (by decide) (fun h109 => ?_) (fun h109 => ?_)
                · refine v_ild3 dX9_copy_119 ?_
                  refine v_if_lt (tgt := 163) dX9_copy_120 (by decide) (fun h120 => ?_) (fun h120 => ?_)
                  · refine v_ald0 dX9_copy_163 ?_
                    refine v_bipush (v := -5) dX9_copy_164 (by decide) ?_
                    refine v_V1 (c_X9_no (k := 5) (by decide) (by decide) (by decide)) lk_X9_146 dX9_copy_166 (by decide) (Nat.le_of_ble_eq_true rfl) (by first | rfl | exact lay_door (by omega) | exact lay_dt (by omega) | exact lay_da (by omega) | exact lay_sh (by omega) | exact lay_se (by omega)) (show _ < 78 + 3 * _ by omega) ?_
                    exact v_retI dX9_copy_169 trivial (by simp only [mCop, if_pos h4, if_pos h11, if_neg h27, if_neg h37, if_pos h47, if_pos h57, if_pos h72, if_neg h88, if_neg h97, if_pos h109, if_pos h120]; exact ⟨rfl, rfl⟩)
                  · refine v_ild4 dX9_copy_123 ?_
                    refine v_if_lt (tgt := 163) dX9_copy_125 (by decide) (fun h125 => ?_) (fun h125 => ?_)
                    · refine v_ald0 dX9_copy_163 ?_
                      refine v_bipush (v := -5) dX9_copy_164 (by decide) ?_
                      refine v_V1 (c_X9_no (k := 5) (by decide) (by decide) (by decide)) lk_X9_146 dX9_copy_166 (by decide) (Nat.le_of_ble_eq_true rfl) (by first | rfl | exact lay_door (by omega) | exact lay_dt (by omega) | exact lay_da (by omega) | exact lay_sh (by omega) | exact lay_se (by omega)) (show _ < 78 + 3 * _ by omega) ?_
                      exact v_retI dX9_copy_169 trivial (by simp only [mCop, if_pos h4, if_pos h11, if_neg h27, if_neg h37, if_pos h47, if_pos h57, if_pos h72, if_neg h88, if_neg h97, if_pos h109, if_neg h120, if_pos h125]; exact ⟨rfl, rfl⟩)
                    · refine v_ild3 dX9_copy_128 ?_
                      refine v_i2l dX9_copy_129 ?_
                      refine v_ild5 dX9_copy_130 ?_
                      refine v_i2l dX9_copy_132 ?_
                      refine v_ladd dX9_copy_133 ?_
                      refine v_ald0 dX9_copy_134 ?_
                      refine v_getP (q := 62) dX9_copy_135 fl_X9_90 (by first | rfl | exact lay_door (by omega) | exact lay_dt (by omega) | exact lay_da (by omega) | exact lay_sh (by omega) | exact lay_se (by omega)) rfl (by omega) rfl ?_
                      refine v_ild1 dX9_copy_138 ?_
                      refine v_iald dX9_copy_139 (by first | rfl | exact lay_door (by omega) | exact lay_dt (by omega) | exact lay_da (by omega) | exact lay_sh (by omega) | exact lay_se (by omega)) (by omega) (ix_R (by decide) h4) ?_
                      refine v_i2l dX9_copy_140 ?_
                      refine v_lcmp dX9_copy_141 ?_
                      refine v_if_gt (tgt := 163) dX9_copy_142 (by decide) (fun h142 => ?_) (fun h142 => ?_)
                      · refine v_ald0 dX9_copy_163 ?_
                        refine v_bipush (v := -5) dX9_copy_164 (by decide) ?_
                        refine v_V1 (c_X9_no (k := 5) (by decide) (by decide) (by decide)) lk_X9_146 dX9_copy_166 (by decide) (Nat.le_of_ble_eq_true rfl) (by first | rfl | exact lay_door (by omega) | exact lay_dt (by omega) | exact lay_da (by omega) | exact lay_sh (by omega) | exact lay_se (by omega)) (show _ < 78 + 3 * _ by omega) ?_
                        exact v_retI dX9_copy_169 trivial (by simp only [mCop, if_pos h4, if_pos h11, if_neg h27, if_neg h37, if_pos h47, if_pos h57, if_pos h72, if_neg h88, if_neg h97, if_pos h109, if_neg h120, if_neg h125, if_neg ((gt64 h120 h109 (hW.2.2.1 _ hp9).1 (by decide)).mp h142)]; exact ⟨rfl, rfl⟩)
                      · refine v_ild4 dX9_copy_145 ?_
                        refine v_i2l dX9_copy_147 ?_
                        refine v_ild5 dX9_copy_148 ?_
                        refine v_i2l dX9_copy_150 ?_
                        refine v_ladd dX9_copy_151 ?_
                        refine v_ald0 dX9_copy_152 ?_
                        refine v_getP (q := 62) dX9_copy_153 fl_X9_90 (by first | rfl | exact lay_door (by omega) | exact lay_dt (by omega) | exact lay_da (by omega) | exact lay_sh (by omega) | exact lay_se (by omega)) rfl (by omega) rfl ?_
                        refine v_ild2 dX9_copy_156 ?_
                        refine v_iald dX9_copy_157 (by first | rfl | exact lay_door (by omega) | exact lay_dt (by omega) | exact lay_da (by omega) | exact lay_sh (by omega) | exact lay_se (by omega)) (by omega) (ix_R (by decide) h11) ?_
                        refine v_i2l dX9_copy_158 ?_
                        refine v_lcmp dX9_copy_159 ?_
                        refine v_if_le (tgt := 170) dX9_copy_160 (by decide) (fun h160 => ?_) (fun h160 => ?_)
                        · refine v_icN (n := 0) dX9_copy_170 (by decide) ?_
                          refine v_ist6 dX9_copy_171 rfl ?_
                          have hx1 := Classical.not_not.mp (fun z => h142 ((gt64 h120 h109 (hW.2.2.1 _ hp9).1 (by decide)).mpr z))
                          have hx2 := (le64 h125 h109 (hW.2.2.1 _ hq9).1 (by decide)).mp h160
                          simp only [mCop, if_pos h4, if_pos h11, if_neg h27, if_neg h37, if_pos h47, if_pos h57, if_pos h72, if_pos h109, if_neg h120, if_neg h125, if_pos hx1, if_pos hx2]
                          have hz1 := (hW.sz hp9).2
                          have hz2 := (hW.sz hq9).2
                          have hxi : i = nI (tn i) := by obtain ⟨a, ha, rfl⟩ := nI_of h120; rw [tn_nI ha]
                          have hxj : j = nI (tn j) := by obtain ⟨a, ha, rfl⟩ := nI_of h125; rw [tn_nI ha]
                          have hxn : n = nI (tn n) := by obtain ⟨a, ha, rfl⟩ := nI_of (show ¬ n < 0 by rw [Int32.lt_iff_toInt_lt, Int32.toInt_zero]; rw [Int32.le_iff_toInt_le, Int32.toInt_zero] at h109; omega); rw [tn_nI ha]
                          have h9 := lp_cpA (G := G) (dc := dc) (J := I) (L := L) h4 h11 hxi hxj hxn (by omega) (by omega) (tn n) 0 (by omega)
                          rw [gr2_0] at h9
                          exact V.mono (Nat.zero_le _) (Nat.le_refl _) (Nat.le_refl _) (fun _ _ h => h) h9
                        · refine v_ald0 dX9_copy_163 ?_
                          refine v_bipush (v := -5) dX9_copy_164 (by decide) ?_
                          refine v_V1 (c_X9_no (k := 5) (by decide) (by decide) (by decide)) lk_X9_146 dX9_copy_166 (by decide) (Nat.le_of_ble_eq_true rfl) (by first | rfl | exact lay_door (by omega) | exact lay_dt (by omega) | exact lay_da (by omega) | exact lay_sh (by omega) | exact lay_se (by omega)) (show _ < 78 + 3 * _ by omega) ?_
                          exact v_retI dX9_copy_169 trivial (by simp only [mCop, if_pos h4, if_pos h11, if_neg h27, if_neg h37, if_pos h47, if_pos h57, if_pos h72, if_neg h88, if_neg h97, if_pos h109, if_neg h120, if_neg h125, if_pos (Classical.not_not.mp (fun z => h142 ((gt64 h120 h109 (hW.2.2.1 _ hp9).1 (by decide)).mpr z))), if_neg (fun z => h160 ((le64 h125 h109 (hW.2.2.1 _ hq9).1 (by decide)).mpr z))]; exact ⟨rfl, rfl⟩)
                · refine v_ald0 dX9_copy_112 ?_
                  refine v_bipush (v := -4) dX9_copy_113 (by decide) ?_
                  refine v_V1 (c_X9_no (k := 4) (by decide) (by decide) (by decide)) lk_X9_146 dX9_copy_115 (by decide) (Nat.le_of_ble_eq_true rfl) (by first | rfl | exact lay_door (by omega) | exact lay_dt (by omega) | exact lay_da (by omega) | exact lay_sh (by omega) | exact lay_se (by omega)) (show _ < 78 + 3 * _ by omega) ?_
                  exact v_retI dX9_copy_118 trivial (by simp only [mCop, if_pos h4, if_pos h11, if_neg h27, if_neg h37, if_pos h47, if_pos h57, if_pos h72, if_neg h88, if_neg h97, if_neg h109]; exact ⟨rfl, rfl⟩)
              · refine v_ald0 dX9_copy_75 ?_
                refine v_bipush (v := -2) dX9_copy_76 (by decide) ?_
                refine v_V1 (c_X9_no (k := 2) (by decide) (by decide) (by decide)) lk_X9_146 dX9_copy_78 (by decide) (Nat.le_of_ble_eq_true rfl) (by first | rfl | exact lay_door (by omega) | exact lay_dt (by omega) | exact lay_da (by omega) | exact lay_sh (by omega) | exact lay_se (by omega)) (show _ < 78 + 3 * _ by omega) ?_
                exact v_retI dX9_copy_81 trivial (by simp only [mCop, if_pos h4, if_pos h11, if_neg h27, if_neg h37, if_pos h47, if_pos h57, if_neg h72]; exact ⟨rfl, rfl⟩)
    · refine v_ald0 dX9_copy_14 ?_
      refine v_icm1 dX9_copy_15 ?_
      refine v_V1 (c_X9_no (k := 1) (by decide) (by decide) (by decide)) lk_X9_146 dX9_copy_16 (by decide) (Nat.le_of_ble_eq_true rfl) (by first | rfl | exact lay_door (by omega) | exact lay_dt (by omega) | exact lay_da (by omega) | exact lay_sh (by omega) | exact lay_se (by omega)) (show _ < 78 + 3 * _ by omega) ?_
      exact v_retI dX9_copy_19 trivial (by simp only [mCop, if_pos h4, if_neg h11]; exact ⟨rfl, rfl⟩)

abbrev lv (f : Nat → Int32) (z i : Nat) : Int32 := if i < z then f i else -1
theorem pW_iff {f : Nat → Int32} {z i : Nat} (hi : i < 6) : pW f z i = false ↔ (if nI i = 0 then lv f z i = nI 107 else if nI i = nI 2 then lv f z i = nI 112 else if nI i = nI 4 then lv f z i = nI 99 else (¬ lv f z i < (if nI i = nI 5 then nI 50 else nI 49) ∧ ¬ nI 57 < lv f z i)) := by
  have h6 : i = 0 ∨ i = 1 ∨ i = 2 ∨ i = 3 ∨ i = 4 ∨ i = 5 := by omega
  have d : ∀ {a : Nat} {x : Int32}, pW f z a = false ↔ ¬ (z ≤ a ∨ ¬ okL a (f a)) := fun {a} {x} => by unfold pW; exact decide_eq_false_iff_not
  by_cases hz : i < z
  · have hz' : ¬ z ≤ i := by omega
    rw [d (x := 0)]
    simp only [lv, if_pos hz]
    have e : (¬ (z ≤ i ∨ ¬ okL i (f i))) ↔ okL i (f i) := ⟨fun q => Classical.not_not.mp fun w => q (Or.inr w), fun q w => w.elim hz' (fun w => w q)⟩
    rw [e]
    rcases h6 with rfl | rfl | rfl | rfl | rfl | rfl
    · rw [if_pos (show nI 0 = 0 from rfl)]; exact ⟨fun q => q.elim (fun q => q.2) (fun q => absurd q.1 (by decide)), fun q => Or.inl ⟨rfl, q⟩⟩
    · rw [if_neg (by decide), if_neg (by decide), if_neg (by decide), if_neg (by decide)]; exact ⟨fun q => q.elim (fun q => absurd q.1 (by decide)) (fun q => q.2), fun q => Or.inr ⟨rfl, q⟩⟩
    · rw [if_neg (by decide), if_pos rfl]; exact ⟨fun q => q.elim (fun q => q.2) (fun q => absurd q.1 (by decide)), fun q => Or.inl ⟨rfl, q⟩⟩
    · rw [if_neg (by decide), if_neg (by decide), if_neg (by decide), if_neg (by decide)]; exact ⟨fun q => q.elim (fun q => absurd q.1 (by decide)) (fun q => q.2), fun q => Or.inr ⟨rfl, q⟩⟩
    · rw [if_neg (by decide), if_neg (by decide), if_pos rfl]; exact ⟨fun q => q.elim (fun q => q.2) (fun q => absurd q.1 (by decide)), fun q => Or.inl ⟨rfl, q⟩⟩
    · rw [if_neg (by decide), if_neg (by decide), if_neg (by decide), if_pos rfl]; exact ⟨fun q => q.elim (fun q => absurd q.1 (by decide)) (fun q => q.2), fun q => Or.inr ⟨rfl, q⟩⟩
  · have hz' : z ≤ i := by omega
    rw [d (x := 0)]
    simp only [lv, if_neg hz]
    refine ⟨fun q => absurd (Or.inl hz') q, fun q => absurd q ?_⟩
    rcases h6 with rfl | rfl | rfl | rfl | rfl | rfl <;> decide
theorem flt_e {f : Nat → Int32} {z i k : Nat} (h : i + (k + 1) = 6) (hp : ∀ j, j < i → pW f z j = false) (hi : pW f z i = true) : flt f z = nI i := by
  have e : ∀ m a, a + m = i → fzf (pW f z) a (m + (k + 1)) = i := by
    intro m
    induction m with
    | zero => intro a ha; obtain rfl : a = i := by omega
              rw [Nat.zero_add]; exact fzf_t hi
    | succ m ih => intro a ha; rw [show m + 1 + (k + 1) = (m + (k + 1)) + 1 by omega, fzf_f (hp a (by omega))]; exact ih (a + 1) (by omega)
  have e2 := e i 0 (by omega)
  rw [show i + (k + 1) = 6 by omega] at e2
  unfold flt
  rw [e2, if_pos (by omega)]
theorem flt_n {f : Nat → Int32} {z : Nat} (hp : ∀ j, j < 6 → pW f z j = false) : flt f z = if 6 < z then nI 6 else -1 := by
  have e : ∀ m a, a + m = 6 → fzf (pW f z) a m = 6 := by
    intro m
    induction m with
    | zero => intro a ha; rw [fzf]; omega
    | succ m ih => intro a ha; rw [fzf_f (hp a (by omega))]; exact ih (a + 1) (by omega)
  unfold flt
  rw [e 6 0 rfl, if_neg (by decide)]

set_option maxRecDepth 4000 in
theorem lp_brk {G : GG} {dc : Nat} {I : Nat → Nat → Int32} {L : Nat → Nat → Int64} {p : Nat} (hp8 : p < 8) (hz : rg (I 62 p) 30) (k : Nat) : ∀ i, i + k = 6 → (∀ j, j < i → pW (mEl L p) (tn (I 62 p)) j = false) → ∀ u v : Value, V G yX9_broken cX9_broken 5 (some .int) 1 0 0 2 [.ref 39, .int (nI p), .int (nI i), u, v] [] (Mm dc I L) (Is (some (.int (flt (mEl L p) (tn (I 62 p))))) (Mm dc I L)) := by
  induction k with
  | zero =>
    intro i hi hp u v
    refine v_ild2 dX9_broken_2 ?_
    refine v_bipush (v := nI 6) dX9_broken_3 (by decide) ?_
    refine v_icmp_ge (tgt := 108) dX9_broken_5 (by decide) (fun h5 => ?_) (fun h5 => absurd (nI_le (by omega) (by omega)) h5)
    refine v_ald0 dX9_broken_108 ?_
    refine v_getP (q := 62) dX9_broken_109 fl_X9_90 (by first | rfl | exact lay_door (by omega) | exact lay_dt (by omega) | exact lay_da (by omega) | exact lay_sh (by omega) | exact lay_se (by omega)) rfl (by omega) rfl ?_
    refine v_ild1 dX9_broken_112 ?_
    refine v_iald dX9_broken_113 (by first | rfl | exact lay_door (by omega) | exact lay_dt (by omega) | exact lay_da (by omega) | exact lay_sh (by omega) | exact lay_se (by omega)) (by omega) ⟨rfl, hp8, by decide⟩ ?_
    refine v_bipush (v := nI 6) dX9_broken_114 (by decide) ?_
    refine v_icmp_le (tgt := 124) dX9_broken_116 (by decide) (fun h116 => ?_) (fun h116 => ?_)
    · refine v_icm1 dX9_broken_124 ?_
      exact v_retI dX9_broken_125 trivial (by rw [flt_n (fun j hj => hp j (by omega)), if_neg (by have := (rg_le hz (by decide) (by decide)).mp h116; omega)]; exact ⟨rfl, rfl⟩)
    · refine v_bipush (v := nI 6) dX9_broken_119 (by decide) ?_
      refine v_goto (tgt := 125) dX9_broken_121 (by decide) ?_
      exact v_retI dX9_broken_125 trivial (by rw [flt_n (fun j hj => hp j (by omega)), if_pos ((rg_lt hz (by decide) (by decide)).mp h116)]; exact ⟨rfl, rfl⟩)
  | succ k ih =>
    intro i hi hp u v
    refine v_ild2 dX9_broken_2 ?_
    refine v_bipush (v := nI 6) dX9_broken_3 (by decide) ?_
    refine v_icmp_ge (tgt := 108) dX9_broken_5 (by decide) (fun h5 => absurd h5 (nI_ge (by omega) (by omega))) (fun h5 => ?_)
    refine v_ald0 dX9_broken_8 ?_
    refine v_ild1 dX9_broken_9 ?_
    refine v_ild2 dX9_broken_10 ?_
    refine v_V2 (c_X9_letter rfl hp8 rfl (by omega) hz) lk_X9_175 dX9_broken_11 (by decide) (Nat.le_of_ble_eq_true rfl) (by first | rfl | exact lay_door (by omega) | exact lay_dt (by omega) | exact lay_da (by omega) | exact lay_sh (by omega) | exact lay_se (by omega)) (show _ < 78 + 3 * _ by omega) ?_
    refine v_ist3 dX9_broken_14 rfl ?_
    refine v_ild2 dX9_broken_15 ?_
    refine v_if_ne (tgt := 33) dX9_broken_16 (by decide) (fun h16 => ?_) (fun h16 => ?_)
    · refine v_ild2 dX9_broken_33 ?_
      refine v_icN (n := 2) dX9_broken_34 (by decide) ?_
      refine v_icmp_ne (tgt := 52) dX9_broken_35 (by decide) (fun h35 => ?_) (fun h35 => ?_)
      · refine v_ild2 dX9_broken_52 ?_
        refine v_icN (n := 4) dX9_broken_53 (by decide) ?_
        refine v_icmp_ne (tgt := 71) dX9_broken_54 (by decide) (fun h54 => ?_) (fun h54 => ?_)
        · refine v_ild3 dX9_broken_71 ?_
          refine v_i2l dX9_broken_72 ?_
          refine v_ild2 dX9_broken_73 ?_
          refine v_icN (n := 5) dX9_broken_74 (by decide) ?_
          refine v_icmp_ne (tgt := 84) dX9_broken_75 (by decide) (fun h75 => ?_) (fun h75 => ?_)
          · refine v_ldc2 dX9_broken_84 kc_X9_181 ?_
            refine v_ldc2 dX9_broken_87 kc_X9_183 ?_
            refine v_S3 (c_isIn (lo := if nI i = nI 5 then nI 50 else nI 49) (hi := nI 57) (by simp only [if_neg h5, if_neg h16, if_neg h35, if_neg h54, if_neg h75]; decide) (by decide)) lk_X9_152 dX9_broken_90 (by decide) (Nat.le_of_ble_eq_true rfl) ?_
            refine v_ist4 dX9_broken_93 rfl ?_
            refine v_ild4 dX9_broken_95 ?_
            refine v_ifne_b (tgt := 102) dX9_broken_97 (by decide) (fun h97 => ?_) (fun h97 => ?_)
            · refine v_inc2 dX9_broken_102 rfl ?_
              refine v_goto (tgt := 2) dX9_broken_105 (by decide) ?_
              rw [nI_1 i]
              refine ih (i + 1) (by omega) (fun j hj => ?_) _ _
              by_cases e : j < i
              · exact hp j e
              · obtain rfl : j = i := by omega
                exact (pW_iff (by omega)).mpr (by simp only [if_neg h16, if_neg h35, if_neg h54]; exact h97)
            · refine v_ild2 dX9_broken_100 ?_
              exact v_retI dX9_broken_101 trivial (by rw [flt_e hi hp ((Bool.eq_false_or_eq_true _).resolve_right (fun z => h97 (by have z2 := (pW_iff (by omega)).mp z; simp only [if_neg h16, if_neg h35, if_neg h54] at z2; exact z2)))]; exact ⟨rfl, rfl⟩)
          · refine v_ldc2 dX9_broken_78 kc_X9_179 ?_
            refine v_goto (tgt := 87) dX9_broken_81 (by decide) ?_
            refine v_ldc2 dX9_broken_87 kc_X9_183 ?_
            refine v_S3 (c_isIn (lo := if nI i = nI 5 then nI 50 else nI 49) (hi := nI 57) (by simp only [if_neg h5, if_neg h16, if_neg h35, if_neg h54, if_pos h75]; decide) (by decide)) lk_X9_152 dX9_broken_90 (by decide) (Nat.le_of_ble_eq_true rfl) ?_
            refine v_ist4 dX9_broken_93 rfl ?_
            refine v_ild4 dX9_broken_95 ?_
            refine v_ifne_b (tgt := 102) dX9_broken_97 (by decide) (fun h97 => ?_) (fun h97 => ?_)
            · refine v_inc2 dX9_broken_102 rfl ?_
              refine v_goto (tgt := 2) dX9_broken_105 (by decide) ?_
              rw [nI_1 i]
              refine ih (i + 1) (by omega) (fun j hj => ?_) _ _
              by_cases e : j < i
              · exact hp j e
              · obtain rfl : j = i := by omega
                exact (pW_iff (by omega)).mpr (by simp only [if_neg h16, if_neg h35, if_neg h54]; exact h97)
            · refine v_ild2 dX9_broken_100 ?_
              exact v_retI dX9_broken_101 trivial (by rw [flt_e hi hp ((Bool.eq_false_or_eq_true _).resolve_right (fun z => h97 (by have z2 := (pW_iff (by omega)).mp z; simp only [if_neg h16, if_neg h35, if_neg h54] at z2; exact z2)))]; exact ⟨rfl, rfl⟩)
        · refine v_ild3 dX9_broken_57 ?_
          refine v_bipush (v := nI 99) dX9_broken_58 (by decide) ?_
          refine v_icmp_ne (tgt := 67) dX9_broken_60 (by decide) (fun h60 => ?_) (fun h60 => ?_)
          · refine v_icN (n := 0) dX9_broken_67 (by decide) ?_
            refine v_goto (tgt := 93) dX9_broken_68 (by decide) ?_
            refine v_ist4 dX9_broken_93 rfl ?_
            refine v_ild4 dX9_broken_95 ?_
            refine v_if_ne (tgt := 102) dX9_broken_97 (by decide) (fun h97 => absurd (show nI 0 = 0 from rfl) h97) (fun h97 => ?_)
            refine v_ild2 dX9_broken_100 ?_
            exact v_retI dX9_broken_101 trivial (by rw [flt_e hi hp ((Bool.eq_false_or_eq_true _).resolve_right (fun z => h60 (by have z2 := (pW_iff (by omega)).mp z; simp only [if_neg h16, if_neg h35, if_pos h54] at z2; exact z2)))]; exact ⟨rfl, rfl⟩)
          · refine v_icN (n := 1) dX9_broken_63 (by decide) ?_
            refine v_goto (tgt := 93) dX9_broken_64 (by decide) ?_
            refine v_ist4 dX9_broken_93 rfl ?_
            refine v_ild4 dX9_broken_95 ?_
            refine v_if_ne (tgt := 102) dX9_broken_97 (by decide) (fun h97 => ?_) (fun h97 => absurd h97 (by decide))
            refine v_inc2 dX9_broken_102 rfl ?_
            refine v_goto (tgt := 2) dX9_broken_105 (by decide) ?_
            rw [nI_1 i]
            refine ih (i + 1) (by omega) (fun j hj => ?_) _ _
            by_cases e : j < i
            · exact hp j e
            · obtain rfl : j = i := by omega
              exact (pW_iff (by omega)).mpr (by simp only [if_neg h16, if_neg h35, if_pos h54]; exact h60)
      · refine v_ild3 dX9_broken_38 ?_
        refine v_bipush (v := nI 112) dX9_broken_39 (by decide) ?_
        refine v_icmp_ne (tgt := 48) dX9_broken_41 (by decide) (fun h41 => ?_) (fun h41 => ?_)
        · refine v_icN (n := 0) dX9_broken_48 (by decide) ?_
          refine v_goto (tgt := 93) dX9_broken_49 (by decide) ?_
          refine v_ist4 dX9_broken_93 rfl ?_
          refine v_ild4 dX9_broken_95 ?_
          refine v_if_ne (tgt := 102) dX9_broken_97 (by decide) (fun h97 => absurd (show nI 0 = 0 from rfl) h97) (fun h97 => ?_)
          refine v_ild2 dX9_broken_100 ?_
          exact v_retI dX9_broken_101 trivial (by rw [flt_e hi hp ((Bool.eq_false_or_eq_true _).resolve_right (fun z => h41 (by have z2 := (pW_iff (by omega)).mp z; simp only [if_neg h16, if_pos h35] at z2; exact z2)))]; exact ⟨rfl, rfl⟩)
        · refine v_icN (n := 1) dX9_broken_44 (by decide) ?_
          refine v_goto (tgt := 93) dX9_broken_45 (by decide) ?_
          refine v_ist4 dX9_broken_93 rfl ?_
          refine v_ild4 dX9_broken_95 ?_
          refine v_if_ne (tgt := 102) dX9_broken_97 (by decide) (fun h97 => ?_) (fun h97 => absurd h97 (by decide))
          refine v_inc2 dX9_broken_102 rfl ?_
          refine v_goto (tgt := 2) dX9_broken_105 (by decide) ?_
          rw [nI_1 i]
          refine ih (i + 1) (by omega) (fun j hj => ?_) _ _
          by_cases e : j < i
          · exact hp j e
          · obtain rfl : j = i := by omega
            exact (pW_iff (by omega)).mpr (by simp only [if_neg h16, if_pos h35]; exact h41)
    · refine v_ild3 dX9_broken_19 ?_
      refine v_bipush (v := nI 107) dX9_broken_20 (by decide) ?_
      refine v_icmp_ne (tgt := 29) dX9_broken_22 (by decide) (fun h22 => ?_) (fun h22 => ?_)
      · refine v_icN (n := 0) dX9_broken_29 (by decide) ?_
        refine v_goto (tgt := 93) dX9_broken_30 (by decide) ?_
        refine v_ist4 dX9_broken_93 rfl ?_
        refine v_ild4 dX9_broken_95 ?_
        refine v_if_ne (tgt := 102) dX9_broken_97 (by decide) (fun h97 => absurd (show nI 0 = 0 from rfl) h97) (fun h97 => ?_)
        refine v_ild2 dX9_broken_100 ?_
        exact v_retI dX9_broken_101 trivial (by rw [flt_e hi hp ((Bool.eq_false_or_eq_true _).resolve_right (fun z => h22 (by have z2 := (pW_iff (by omega)).mp z; simp only [if_pos h16] at z2; exact z2)))]; exact ⟨rfl, rfl⟩)
      · refine v_icN (n := 1) dX9_broken_25 (by decide) ?_
        refine v_goto (tgt := 93) dX9_broken_26 (by decide) ?_
        refine v_ist4 dX9_broken_93 rfl ?_
        refine v_ild4 dX9_broken_95 ?_
        refine v_if_ne (tgt := 102) dX9_broken_97 (by decide) (fun h97 => ?_) (fun h97 => absurd h97 (by decide))
        refine v_inc2 dX9_broken_102 rfl ?_
        refine v_goto (tgt := 2) dX9_broken_105 (by decide) ?_
        rw [nI_1 i]
        refine ih (i + 1) (by omega) (fun j hj => ?_) _ _
        by_cases e : j < i
        · exact hp j e
        · obtain rfl : j = i := by omega
          exact (pW_iff (by omega)).mpr (by simp only [if_pos h16]; exact h22)

set_option maxRecDepth 4000 in
theorem c_X9_broken {G : GG} {dc : Nat} {I : Nat → Nat → Int32} {L : Nat → Nat → Int64} {s : Int32} {p : Nat} (hs : s = nI p) (hp8 : p < 8) (hz : rg (I 62 p) 30) : Cn G yX9_broken cX9_broken 5 (some .int) 1 0 0 [.ref 39, .int s] (Mm dc I L) (Is (some (.int (flt (mEl L p) (tn (I 62 p))))) (Mm dc I L)) := by
  subst hs
  refine Cn.of' (by decide) (Nat.le_of_ble_eq_true rfl) rfl ?_
  refine v_icN (n := 0) dX9_broken_0 (by decide) ?_
  refine v_ist2 dX9_broken_1 rfl ?_
  exact lp_brk hp8 hz 6 0 (by omega) (fun j hj => absurd hj (by omega)) _ _

def mLwI (I : Nat → Nat → Int32) (f : Nat → Int32) (z : Nat) : Nat → Nat → Int32 :=
  let J := u2 I 39 21 (flt f z)
  if flt f z = -1 then u2 (u2 (u2 J 39 18 (f 1 - nI 48)) 39 19 (f 3 - nI 48)) 39 20 (f 5 - nI 48) else rms J 6
theorem flt_neg {f : Nat → Int32} {z : Nat} (h : flt f z < 0) : flt f z = -1 := by
  unfold flt at h ⊢
  split at h
  · exact absurd h (nI_pos (by omega))
  · split at h
    · exact absurd h (by decide)
    · rename_i h1 h2
      rw [if_neg h1, if_neg h2]
theorem flt_nn {f : Nat → Int32} {z : Nat} (h : ¬ flt f z < 0) : ¬ flt f z = -1 := fun q => h (by rw [q]; decide)

set_option maxRecDepth 4000 in
theorem c_X9_law {G : GG} {dc : Nat} {I : Nat → Nat → Int32} {L : Nat → Nat → Int64} {s : Int32} (hW : Wm dc I) : Cn G yX9_law cX9_law 3 (some .int) 2 0 0 [.ref 39, .int s] (Mm dc I L) (Is (some (.int (oR (mk0 I s) (if flt (mEl L (tn s)) (tn (I 62 (tn s))) = -1 then nI 1 else -6)))) (pM (mk0 I s) dc I L (Mm dc (mLwI I (mEl L (tn s)) (tn (I 62 (tn s)))) (L)))) := by
  refine Cn.of' (by decide) (Nat.le_of_ble_eq_true rfl) rfl ?_
  refine v_ald0 dX9_law_0 ?_
  refine v_ild1 dX9_law_1 ?_
  refine v_V1 c_X9_notRow lk_X9_165 dX9_law_2 (by decide) (Nat.le_of_ble_eq_true rfl) (by first | rfl | exact lay_door (by omega) | exact lay_dt (by omega) | exact lay_da (by omega) | exact lay_sh (by omega) | exact lay_se (by omega)) (show _ < 78 + 3 * _ by omega) ?_
  refine v_ist2 dX9_law_5 rfl ?_
  refine v_ild2 dX9_law_6 ?_
  refine v_ifeq_o (mk0_lt _ _) (tgt := 16) dX9_law_7 (by decide) (fun h7 => ?_) (fun h7 => ?_)
  · have hs9 : tn s < 8 := (ix_R (by decide) (mk0_in h7)).2.1
    refine v_ald0 dX9_law_16 ?_
    refine v_ald0 dX9_law_17 ?_
    refine v_ild1 dX9_law_18 ?_
    refine v_V1 (c_X9_broken (ix_R (by decide) (mk0_in h7)).1 hs9 (hW.2.2.1 _ hs9).1) lk_X9_185 dX9_law_19 (by decide) (Nat.le_of_ble_eq_true rfl) (by first | rfl | exact lay_door (by omega) | exact lay_dt (by omega) | exact lay_da (by omega) | exact lay_sh (by omega) | exact lay_se (by omega)) (show _ < 78 + 3 * _ by omega) ?_
    refine v_putI dX9_law_22 fl_X9_72 ft_9_21 (by first | rfl | exact lay_door (by omega) | exact lay_dt (by omega) | exact lay_da (by omega) | exact lay_sh (by omega) | exact lay_se (by omega)) rfl (by omega) ?_
    refine v_ald0 dX9_law_25 ?_
    refine v_getI dX9_law_26 fl_X9_72 (by first | rfl | exact lay_door (by omega) | exact lay_dt (by omega) | exact lay_da (by omega) | exact lay_sh (by omega) | exact lay_se (by omega)) rfl (by omega) ?_
    refine v_if_lt (tgt := 39) dX9_law_29 (by decide) (fun h29 => ?_) (fun h29 => ?_)
    · have e29 : flt (mEl L (tn s)) (tn (I 62 (tn s))) = -1 := flt_neg h29
      have e6 := (flt_m1 e29).1
      refine v_ald0 dX9_law_39 ?_
      refine v_ald0 dX9_law_40 ?_
      refine v_ild1 dX9_law_41 ?_
      refine v_icN (n := 1) dX9_law_42 (by decide) ?_
      refine v_V2 (c_X9_letter (p := tn s) (q := 1) (ix_R (by decide) (mk0_in h7)).1 hs9 (by decide) (by decide) (show rg (I 62 (tn s)) 30 from ⟨(hW.sz hs9).1, (hW.sz hs9).2⟩)) lk_X9_175 dX9_law_43 (by decide) (Nat.le_of_ble_eq_true rfl) (by first | rfl | exact lay_door (by omega) | exact lay_dt (by omega) | exact lay_da (by omega) | exact lay_sh (by omega) | exact lay_se (by omega)) (show _ < 78 + 3 * _ by omega) ?_
      refine v_e0 (congrArg Value.int (if_pos (show 1 < tn (I 62 (tn s)) by omega))) ?_
      refine v_bipush (v := nI 48) dX9_law_46 (by decide) ?_
      refine v_isub dX9_law_48 ?_
      refine v_putI dX9_law_49 fl_X9_62 ft_9_18 (by first | rfl | exact lay_door (by omega) | exact lay_dt (by omega) | exact lay_da (by omega) | exact lay_sh (by omega) | exact lay_se (by omega)) rfl (by omega) ?_
      refine v_ald0 dX9_law_52 ?_
      refine v_ald0 dX9_law_53 ?_
      refine v_ild1 dX9_law_54 ?_
      refine v_icN (n := 3) dX9_law_55 (by decide) ?_
      refine v_V2 (c_X9_letter (p := tn s) (q := 3) (ix_R (by decide) (mk0_in h7)).1 hs9 (by decide) (by decide) (show rg (I 62 (tn s)) 30 from ⟨(hW.sz hs9).1, (hW.sz hs9).2⟩)) lk_X9_175 dX9_law_56 (by decide) (Nat.le_of_ble_eq_true rfl) (by first | rfl | exact lay_door (by omega) | exact lay_dt (by omega) | exact lay_da (by omega) | exact lay_sh (by omega) | exact lay_se (by omega)) (show _ < 78 + 3 * _ by omega) ?_
      refine v_e0 (congrArg Value.int (if_pos (show 3 < tn (I 62 (tn s)) by omega))) ?_
      refine v_bipush (v := nI 48) dX9_law_59 (by decide) ?_
      refine v_isub dX9_law_61 ?_
      refine v_putI dX9_law_62 fl_X9_66 ft_9_19 (by first | rfl | exact lay_door (by omega) | exact lay_dt (by omega) | exact lay_da (by omega) | exact lay_sh (by omega) | exact lay_se (by omega)) rfl (by omega) ?_
      refine v_ald0 dX9_law_65 ?_
      refine v_ald0 dX9_law_66 ?_
      refine v_ild1 dX9_law_67 ?_
      refine v_icN (n := 5) dX9_law_68 (by decide) ?_
      refine v_V2 (c_X9_letter (p := tn s) (q := 5) (ix_R (by decide) (mk0_in h7)).1 hs9 (by decide) (by decide) (show rg (I 62 (tn s)) 30 from ⟨(hW.sz hs9).1, (hW.sz hs9).2⟩)) lk_X9_175 dX9_law_69 (by decide) (Nat.le_of_ble_eq_true rfl) (by first | rfl | exact lay_door (by omega) | exact lay_dt (by omega) | exact lay_da (by omega) | exact lay_sh (by omega) | exact lay_se (by omega)) (show _ < 78 + 3 * _ by omega) ?_
      refine v_e0 (congrArg Value.int (if_pos (show 5 < tn (I 62 (tn s)) by omega))) ?_
      refine v_bipush (v := nI 48) dX9_law_72 (by decide) ?_
      refine v_isub dX9_law_74 ?_
      refine v_putI dX9_law_75 fl_X9_69 ft_9_20 (by first | rfl | exact lay_door (by omega) | exact lay_dt (by omega) | exact lay_da (by omega) | exact lay_sh (by omega) | exact lay_se (by omega)) rfl (by omega) ?_
      refine v_icN (n := 1) dX9_law_78 (by decide) ?_
      exact v_retI dX9_law_79 trivial (by rw [h7, oR0, pM0, mLwI]; simp only [if_pos e29]; exact ⟨rfl, rfl⟩)
    · have e29 : ¬ flt (mEl L (tn s)) (tn (I 62 (tn s))) = -1 := flt_nn h29
      refine v_ald0 dX9_law_32 ?_
      refine v_bipush (v := -6) dX9_law_33 (by decide) ?_
      refine v_V1 (c_X9_no (k := 6) (by decide) (by decide) (by decide)) lk_X9_146 dX9_law_35 (by decide) (Nat.le_of_ble_eq_true rfl) (by first | rfl | exact lay_door (by omega) | exact lay_dt (by omega) | exact lay_da (by omega) | exact lay_sh (by omega) | exact lay_se (by omega)) (show _ < 78 + 3 * _ by omega) ?_
      exact v_retI dX9_law_38 trivial (by rw [h7, oR0, pM0, mLwI]; simp only [if_neg e29]; exact ⟨rfl, rfl⟩)
  · refine v_ald0 dX9_law_10 ?_
    refine v_ild2 dX9_law_11 ?_
    refine v_V1 (c_X9_no (oRk h7 _) (mk0_lt _ _) (Nat.one_le_iff_ne_zero.mpr h7)) lk_X9_146 dX9_law_12 (by decide) (Nat.le_of_ble_eq_true rfl) (by first | rfl | exact lay_door (by omega) | exact lay_dt (by omega) | exact lay_da (by omega) | exact lay_sh (by omega) | exact lay_se (by omega)) (show _ < 78 + 3 * _ by omega) ?_
    exact v_retI dX9_law_15 trivial (by rw [oRk h7, pMk h7]; exact ⟨rfl, rfl⟩)
