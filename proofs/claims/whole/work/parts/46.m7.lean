def mOf (I : Nat → Nat → Int32) (v : Int32) (d : Nat) : Bool := decide (I 40 d = v)
/-- the first n numbers of a row, as far as there are so many, are a second count's -/
abbrev gdP (f : Nat → Int32) (z n : Nat) : Prop := ∀ j, j < n → j < z → inR (f j) 100
theorem gdP_s {f : Nat → Int32} {z n : Nat} (h : gdP f z n) (h2 : n < z → inR (f n) 100) : gdP f z (n + 1) := fun j hj hz => by
  by_cases e : j = n
  · subst e; exact h2 hz
  · exact h j (by omega) hz
def msM (I : Nat → Nat → Int32) (f : Nat → Int32) (b : Int32) : Nat → Nat → Nat → Int32
  | 0 => I
  | d + 1 => if I 40 d = b then u2 (u2 (msM I f b d) 51 d (f (ct (mOf I b) d))) 56 d (nI 1) else msM I f b d
theorem ms_o (I : Nat → Nat → Int32) (f : Nat → Int32) (b : Int32) {x : Nat} (j : Nat) (h1 : x ≠ 51) (h2 : x ≠ 56) : ∀ d, msM I f b d x j = I x j
  | 0 => rfl
  | d + 1 => by
    simp only [msM]
    split
    · rw [u2_a _ _ _ _ h2, u2_a _ _ _ _ h1]; exact ms_o I f b j h1 h2 d
    · exact ms_o I f b j h1 h2 d
def mSec (dc : Nat) (I : Nat → Nat → Int32) (L : Nat → Nat → Int64) (b s : Int32) : Nat := if inR b 6 then (if mk0 I s = 0 then (if nI (ct (mOf I b) dc) ≤ I 62 (tn s) then (if gdP (mEl L (tn s)) (tn (I 62 (tn s))) (ct (mOf I b) dc) then 0 else 6) else 5) else mk0 I s) else 1

set_option maxRecDepth 4000 in
theorem lp_se2 {G : GG} {dc : Nat} {I : Nat → Nat → Int32} {L : Nat → Nat → Int64} {b s w0 g0 : Int32} (hW : Wm dc I) (hb : inR b 6) (hk : mk0 I s = 0) (hn : (ct (mOf I b) dc) ≤ (tn (I 62 (tn s)))) (k : Nat) : ∀ i, i + k = dc → V G yX9_second cX9_second 8 (some .int) 1 0 0 156 [.ref 39, .int b, .int s, .int w0, .int (nI (ct (mOf I b) i)), .int g0, .int (sC (mOf I b) (fun d => mEl L (tn s) (ct (mOf I b) d)) i), .int (nI i)] [] (Mm dc (msM I (mEl L (tn s)) b i) L) (Is (some (.int (sC (mOf I b) (fun d => mEl L (tn s) (ct (mOf I b) d)) dc))) (Mm dc (u2 (msM I (mEl L (tn s)) b dc) 55 (tn b) (nI 1)) L)) := by
  induction k with
  | zero =>
    intro i hi
    have hc9 := hW.1
    have h24 : i ≤ dc := by omega
    have hs9 := ix_R (by decide) (mk0_in hk)
    have hs8 := hs9.2.1
    have hz9 := hW.sz hs8
    have hmn := ct_mono (mOf I b) (show i ≤ dc by omega)
    refine v_ild7 dX9_second_156 ?_
    refine v_ald0 dX9_second_158 ?_
    refine v_getI dX9_second_159 fl_X9_139 (by first | rfl | exact lay_door (by omega) | exact lay_dt (by omega) | exact lay_da (by omega) | exact lay_sh (by omega) | exact lay_se (by omega)) rfl (by omega) ?_
    refine v_e0 (congrArg Value.int (show _ = nI dc from (ms_o I (mEl L (tn s)) b 17 (by decide) (by decide) i).trans hW.2.1)) ?_
    refine v_icmp_ge (tgt := 228) dX9_second_162 (by decide) (fun h162 => ?_) (fun h162 => absurd (nI_le (by omega) (by omega)) h162)
    refine v_ald0 dX9_second_228 ?_
    refine v_getP (q := 55) dX9_second_229 fl_X9_56 (by first | rfl | exact lay_door (by omega) | exact lay_dt (by omega) | exact lay_da (by omega) | exact lay_sh (by omega) | exact lay_se (by omega)) rfl (by omega) rfl ?_
    refine v_ild1 dX9_second_232 ?_
    refine v_icN (n := 1) dX9_second_233 (by decide) ?_
    refine v_zast dX9_second_234 (by first | rfl | exact lay_door (by omega) | exact lay_dt (by omega) | exact lay_da (by omega) | exact lay_sh (by omega) | exact lay_se (by omega)) (by omega) (ix_R (by decide) hb) (by first | exact Or.inl rfl | exact Or.inr rfl | exact bI_01) ?_
    refine v_ild6 dX9_second_235 ?_
    exact v_retI dX9_second_237 trivial (by obtain rfl : i = dc := (by omega); exact ⟨rfl, rfl⟩)
  | succ k ih =>
    intro i hi
    have hc9 := hW.1
    have h24 : i ≤ dc := by omega
    have hs9 := ix_R (by decide) (mk0_in hk)
    have hs8 := hs9.2.1
    have hz9 := hW.sz hs8
    have hmn := ct_mono (mOf I b) (show i ≤ dc by omega)
    refine v_ild7 dX9_second_156 ?_
    refine v_ald0 dX9_second_158 ?_
    refine v_getI dX9_second_159 fl_X9_139 (by first | rfl | exact lay_door (by omega) | exact lay_dt (by omega) | exact lay_da (by omega) | exact lay_sh (by omega) | exact lay_se (by omega)) rfl (by omega) ?_
    refine v_e0 (congrArg Value.int (show _ = nI dc from (ms_o I (mEl L (tn s)) b 17 (by decide) (by decide) i).trans hW.2.1)) ?_
    refine v_icmp_ge (tgt := 228) dX9_second_162 (by decide) (fun h162 => absurd h162 (nI_ge (by omega) (by omega))) (fun h162 => ?_)
    refine v_ald0 dX9_second_165 ?_
    refine v_getP (q := 40) dX9_second_166 fl_X9_7 (by first | rfl | exact lay_door (by omega) | exact lay_dt (by omega) | exact lay_da (by omega) | exact lay_sh (by omega) | exact lay_se (by omega)) rfl (by omega) rfl ?_
    refine v_ild7 dX9_second_169 ?_
    refine v_iald dX9_second_171 (by first | rfl | exact lay_door (by omega) | exact lay_dt (by omega) | exact lay_da (by omega) | exact lay_sh (by omega) | exact lay_se (by omega)) (by omega) ⟨rfl, by omega, by decide⟩ ?_
    refine v_ild1 dX9_second_172 ?_
    refine v_icmp_eq (tgt := 179) dX9_second_173 (by decide) (fun h173 => ?_) (fun h173 => ?_)
    · have e173 : I 40 i = b := by have q := h173; rw [ms_o I (mEl L (tn s)) b i (by decide) (by decide) i] at q; exact q
      have ec9 : ct (mOf I b) (i + 1) = ct (mOf I b) i + 1 := ct_t (decide_eq_true e173)
      have hm9 := ct_mono (mOf I b) (show i + 1 ≤ dc by omega)
      have hl9 : ct (mOf I b) i < tn (I 62 (tn s)) := by omega
      refine v_ald0 dX9_second_179 ?_
      refine v_getP (q := 51) dX9_second_180 fl_X9_43 (by first | rfl | exact lay_door (by omega) | exact lay_dt (by omega) | exact lay_da (by omega) | exact lay_sh (by omega) | exact lay_se (by omega)) rfl (by omega) rfl ?_
      refine v_ild7 dX9_second_183 ?_
      refine v_ald0 dX9_second_185 ?_
      refine v_getP (q := 63) dX9_second_186 fl_X9_93 (by first | rfl | exact lay_door (by omega) | exact lay_dt (by omega) | exact lay_da (by omega) | exact lay_sh (by omega) | exact lay_se (by omega)) rfl (by omega) rfl ?_
      refine v_bipush (v := nI 30) dX9_second_189 (by decide) ?_
      refine v_ild2 dX9_second_191 ?_
      refine v_imul dX9_second_192 ?_
      refine v_ild4 dX9_second_193 ?_
      refine v_iadd dX9_second_195 ?_
      refine v_lald dX9_second_196 (by first | rfl | exact lay_door (by omega) | exact lay_dt (by omega) | exact lay_da (by omega) | exact lay_sh (by omega) | exact lay_se (by omega)) (by omega) (ix_mul hs9.1 rfl (by omega) (by decide)) ?_
      refine v_l2i dX9_second_197 ?_
      refine v_iast dX9_second_198 (by first | rfl | exact lay_door (by omega) | exact lay_dt (by omega) | exact lay_da (by omega) | exact lay_sh (by omega) | exact lay_se (by omega)) (by omega) ⟨rfl, by omega, by decide⟩ ?_
      refine v_ald0 dX9_second_199 ?_
      refine v_getP (q := 56) dX9_second_200 fl_X9_59 (by first | rfl | exact lay_door (by omega) | exact lay_dt (by omega) | exact lay_da (by omega) | exact lay_sh (by omega) | exact lay_se (by omega)) rfl (by omega) rfl ?_
      refine v_ild7 dX9_second_203 ?_
      refine v_icN (n := 1) dX9_second_205 (by decide) ?_
      refine v_zast dX9_second_206 (by first | rfl | exact lay_door (by omega) | exact lay_dt (by omega) | exact lay_da (by omega) | exact lay_sh (by omega) | exact lay_se (by omega)) (by omega) ⟨rfl, by omega, by decide⟩ (by first | exact Or.inl rfl | exact Or.inr rfl | exact bI_01) ?_
      refine v_ild6 dX9_second_207 ?_
      refine v_ald0 dX9_second_209 ?_
      refine v_getP (q := 51) dX9_second_210 fl_X9_43 (by first | rfl | exact lay_door (by omega) | exact lay_dt (by omega) | exact lay_da (by omega) | exact lay_sh (by omega) | exact lay_se (by omega)) rfl (by omega) rfl ?_
      refine v_ild7 dX9_second_213 ?_
      refine v_iald dX9_second_215 (by first | rfl | exact lay_door (by omega) | exact lay_dt (by omega) | exact lay_da (by omega) | exact lay_sh (by omega) | exact lay_se (by omega)) (by omega) ⟨rfl, by omega, by decide⟩ ?_
      refine v_e0 (congrArg Value.int (show _ = mEl L (tn s) (ct (mOf I b) i) from (u2_a _ _ _ _ (by decide)).trans (u2_s _ _ _ _))) ?_
      refine v_iadd dX9_second_216 ?_
      refine v_ist6 dX9_second_217 rfl ?_
      refine v_inc4 dX9_second_219 rfl ?_
      refine v_inc7 dX9_second_222 rfl ?_
      refine v_goto (tgt := 156) dX9_second_225 (by decide) ?_
      have ec : ct (mOf I b) (i + 1) = ct (mOf I b) i + 1 := ct_t (decide_eq_true e173)
      have em : msM I (mEl L (tn s)) b (i + 1) = u2 (u2 (msM I (mEl L (tn s)) b i) 51 i (mEl L (tn s) (ct (mOf I b) i))) 56 i (nI 1) := if_pos e173
      have es : (sC (mOf I b) (fun d => mEl L (tn s) (ct (mOf I b) d)) i) + mEl L (tn s) (ct (mOf I b) i) = (sC (mOf I b) (fun d => mEl L (tn s) (ct (mOf I b) d)) (i + 1)) := (sC_t (decide_eq_true e173)).symm
      have h9 := ih (i + 1) (by omega)
      rw [em, ec] at h9
      rw [nI_1 i, nI_1 (ct (mOf I b) i), es]
      exact h9
    · have e173 : ¬ I 40 i = b := by have q := h173; rw [ms_o I (mEl L (tn s)) b i (by decide) (by decide) i] at q; exact q
      refine v_goto (tgt := 222) dX9_second_176 (by decide) ?_
      refine v_inc7 dX9_second_222 rfl ?_
      refine v_goto (tgt := 156) dX9_second_225 (by decide) ?_
      have ec : ct (mOf I b) (i + 1) = ct (mOf I b) i := ct_f (decide_eq_false e173)
      have em : msM I (mEl L (tn s)) b (i + 1) = (msM I (mEl L (tn s)) b i) := if_neg e173
      have es : (sC (mOf I b) (fun d => mEl L (tn s) (ct (mOf I b) d)) i) = (sC (mOf I b) (fun d => mEl L (tn s) (ct (mOf I b) d)) (i + 1)) := (sC_f (decide_eq_false e173)).symm
      have h9 := ih (i + 1) (by omega)
      rw [em, ec, ← es] at h9
      rw [nI_1 i]
      exact h9

set_option maxRecDepth 4000 in
theorem lp_se1 {G : GG} {dc : Nat} {I : Nat → Nat → Int32} {L : Nat → Nat → Int64} {b s w0 : Int32} {Q : Option Value → Mem → Prop} (hW : Wm dc I) (hb : inR b 6) (hk : mk0 I s = 0) (hk9 : V G yX9_second cX9_second 8 (some .int) 1 0 0 117 [.ref 39, .int b, .int s, .int w0, .int (nI (ct (mOf I b) dc)), .int (bI (gdP (mEl L (tn s)) (tn (I 62 (tn s))) (ct (mOf I b) dc))), .int (nI dc), UU] [] (Mm dc I L) Q) (k : Nat) : ∀ i, i + k = dc → V G yX9_second cX9_second 8 (some .int) 1 0 0 38 [.ref 39, .int b, .int s, .int w0, .int (nI (ct (mOf I b) i)), .int (bI (gdP (mEl L (tn s)) (tn (I 62 (tn s))) (ct (mOf I b) i))), .int (nI i), UU] [] (Mm dc I L) Q := by
  induction k with
  | zero =>
    intro i hi
    have hc9 := hW.1
    have h24 : i ≤ dc := by omega
    have hs9 := ix_R (by decide) (mk0_in hk)
    have hs8 := hs9.2.1
    have hz9 := hW.sz hs8
    have hmn := ct_mono (mOf I b) (show i ≤ dc by omega)
    have hcl := ct_le (mOf I b) i
    refine v_ild6 dX9_second_38 ?_
    refine v_ald0 dX9_second_40 ?_
    refine v_getI dX9_second_41 fl_X9_139 (by first | rfl | exact lay_door (by omega) | exact lay_dt (by omega) | exact lay_da (by omega) | exact lay_sh (by omega) | exact lay_se (by omega)) rfl (by omega) ?_
    refine v_icmp_ge (tgt := 117) dX9_second_44 (by decide) (fun h44 => ?_) (fun h44 => absurd (by rw [hW.2.1]; exact nI_le (by omega) (by omega)) h44)
    obtain rfl : i = dc := by omega
    exact hk9
  | succ k ih =>
    intro i hi
    have hc9 := hW.1
    have h24 : i ≤ dc := by omega
    have hs9 := ix_R (by decide) (mk0_in hk)
    have hs8 := hs9.2.1
    have hz9 := hW.sz hs8
    have hmn := ct_mono (mOf I b) (show i ≤ dc by omega)
    have hcl := ct_le (mOf I b) i
    refine v_ild6 dX9_second_38 ?_
    refine v_ald0 dX9_second_40 ?_
    refine v_getI dX9_second_41 fl_X9_139 (by first | rfl | exact lay_door (by omega) | exact lay_dt (by omega) | exact lay_da (by omega) | exact lay_sh (by omega) | exact lay_se (by omega)) rfl (by omega) ?_
    refine v_icmp_ge (tgt := 117) dX9_second_44 (by decide) (fun h44 => absurd h44 (by rw [hW.2.1]; exact nI_ge (by omega) (by omega))) (fun h44 => ?_)
    refine v_ald0 dX9_second_47 ?_
    refine v_getP (q := 40) dX9_second_48 fl_X9_7 (by first | rfl | exact lay_door (by omega) | exact lay_dt (by omega) | exact lay_da (by omega) | exact lay_sh (by omega) | exact lay_se (by omega)) rfl (by omega) rfl ?_
    refine v_ild6 dX9_second_51 ?_
    refine v_iald dX9_second_53 (by first | rfl | exact lay_door (by omega) | exact lay_dt (by omega) | exact lay_da (by omega) | exact lay_sh (by omega) | exact lay_se (by omega)) (by omega) ⟨rfl, by omega, by decide⟩ ?_
    refine v_ild1 dX9_second_54 ?_
    refine v_icmp_eq (tgt := 61) dX9_second_55 (by decide) (fun h55 => ?_) (fun h55 => ?_)
    · refine v_ild5 dX9_second_61 ?_
      refine v_ifeq_b (tgt := 105) dX9_second_63 (by decide) (fun h63 => ?_) (fun h63 => ?_)
      · refine v_icN (n := 0) dX9_second_105 (by decide) ?_
        refine v_ist5 dX9_second_106 rfl ?_
        refine v_inc4 dX9_second_108 rfl ?_
        refine v_inc6 dX9_second_111 rfl ?_
        refine v_goto (tgt := 38) dX9_second_114 (by decide) ?_
        have ec : ct (mOf I b) (i + 1) = ct (mOf I b) i + 1 := ct_t (decide_eq_true h55)
        have eg : nI 0 = bI (gdP (mEl L (tn s)) (tn (I 62 (tn s))) ((ct (mOf I b) i) + 1)) := (bI_f (fun z => h63 (fun j hj => z j (by omega)))).symm
        have h9 := ih (i + 1) (by omega)
        rw [ec, ← eg] at h9
        rw [nI_1 i, nI_1 (ct (mOf I b) i)]
        exact h9
      · refine v_ild4 dX9_second_66 ?_
        refine v_ald0 dX9_second_68 ?_
        refine v_getP (q := 62) dX9_second_69 fl_X9_90 (by first | rfl | exact lay_door (by omega) | exact lay_dt (by omega) | exact lay_da (by omega) | exact lay_sh (by omega) | exact lay_se (by omega)) rfl (by omega) rfl ?_
        refine v_ild2 dX9_second_72 ?_
        refine v_iald dX9_second_73 (by first | rfl | exact lay_door (by omega) | exact lay_dt (by omega) | exact lay_da (by omega) | exact lay_sh (by omega) | exact lay_se (by omega)) (by omega) hs9 ?_
        refine v_icmp_ge (tgt := 101) dX9_second_74 (by decide) (fun h74 => ?_) (fun h74 => ?_)
        · refine v_icN (n := 1) dX9_second_101 (by decide) ?_
          refine v_goto (tgt := 106) dX9_second_102 (by decide) ?_
          refine v_ist5 dX9_second_106 rfl ?_
          refine v_inc4 dX9_second_108 rfl ?_
          refine v_inc6 dX9_second_111 rfl ?_
          refine v_goto (tgt := 38) dX9_second_114 (by decide) ?_
          have ec : ct (mOf I b) (i + 1) = ct (mOf I b) i + 1 := ct_t (decide_eq_true h55)
          have eg : nI 1 = bI (gdP (mEl L (tn s)) (tn (I 62 (tn s))) ((ct (mOf I b) i) + 1)) := (bI_t (gdP_s h63 (fun z => absurd ((rg_le ⟨hz9.1, hz9.2⟩ (by decide) (by omega)).mp h74) (by omega)))).symm
          have h9 := ih (i + 1) (by omega)
          rw [ec, ← eg] at h9
          rw [nI_1 i, nI_1 (ct (mOf I b) i)]
          exact h9
        · have hl9 : ct (mOf I b) i < tn (I 62 (tn s)) := (rg_lt ⟨hz9.1, hz9.2⟩ (by decide) (by omega)).mp h74
          refine v_ald0 dX9_second_77 ?_
          refine v_getP (q := 63) dX9_second_78 fl_X9_93 (by first | rfl | exact lay_door (by omega) | exact lay_dt (by omega) | exact lay_da (by omega) | exact lay_sh (by omega) | exact lay_se (by omega)) rfl (by omega) rfl ?_
          refine v_bipush (v := nI 30) dX9_second_81 (by decide) ?_
          refine v_ild2 dX9_second_83 ?_
          refine v_imul dX9_second_84 ?_
          refine v_ild4 dX9_second_85 ?_
          refine v_iadd dX9_second_87 ?_
          refine v_lald dX9_second_88 (by first | rfl | exact lay_door (by omega) | exact lay_dt (by omega) | exact lay_da (by omega) | exact lay_sh (by omega) | exact lay_se (by omega)) (by omega) (ix_mul hs9.1 rfl (by omega) (by decide)) ?_
          refine v_l2i dX9_second_89 ?_
          refine v_i2l dX9_second_90 ?_
          refine v_lcN0 dX9_second_91 ?_
          refine v_ldc2 dX9_second_92 kc_X9_242 ?_
          refine v_S3 (c_isInR 99 (by decide) (by decide) (by decide)) lk_X9_152 dX9_second_95 (by decide) (Nat.le_of_ble_eq_true rfl) ?_
          refine v_ifeq_b (tgt := 105) dX9_second_98 (by decide) (fun h98 => ?_) (fun h98 => ?_)
          · refine v_icN (n := 0) dX9_second_105 (by decide) ?_
            refine v_ist5 dX9_second_106 rfl ?_
            refine v_inc4 dX9_second_108 rfl ?_
            refine v_inc6 dX9_second_111 rfl ?_
            refine v_goto (tgt := 38) dX9_second_114 (by decide) ?_
            have ec : ct (mOf I b) (i + 1) = ct (mOf I b) i + 1 := ct_t (decide_eq_true h55)
            have eg : nI 0 = bI (gdP (mEl L (tn s)) (tn (I 62 (tn s))) ((ct (mOf I b) i) + 1)) := (bI_f (fun z => h98 (z _ (by omega) hl9))).symm
            have h9 := ih (i + 1) (by omega)
            rw [ec, ← eg] at h9
            rw [nI_1 i, nI_1 (ct (mOf I b) i)]
            exact h9
          · refine v_icN (n := 1) dX9_second_101 (by decide) ?_
            refine v_goto (tgt := 106) dX9_second_102 (by decide) ?_
            refine v_ist5 dX9_second_106 rfl ?_
            refine v_inc4 dX9_second_108 rfl ?_
            refine v_inc6 dX9_second_111 rfl ?_
            refine v_goto (tgt := 38) dX9_second_114 (by decide) ?_
            have ec : ct (mOf I b) (i + 1) = ct (mOf I b) i + 1 := ct_t (decide_eq_true h55)
            have eg : nI 1 = bI (gdP (mEl L (tn s)) (tn (I 62 (tn s))) ((ct (mOf I b) i) + 1)) := (bI_t (gdP_s h63 (fun _ => h98))).symm
            have h9 := ih (i + 1) (by omega)
            rw [ec, ← eg] at h9
            rw [nI_1 i, nI_1 (ct (mOf I b) i)]
            exact h9
    · refine v_goto (tgt := 111) dX9_second_58 (by decide) ?_
      refine v_inc6 dX9_second_111 rfl ?_
      refine v_goto (tgt := 38) dX9_second_114 (by decide) ?_
      have ec : ct (mOf I b) (i + 1) = ct (mOf I b) i := ct_f (decide_eq_false h55)
      have h9 := ih (i + 1) (by omega)
      rw [ec] at h9
      rw [nI_1 i]
      exact h9

set_option maxRecDepth 4000 in
theorem c_X9_second {G : GG} {dc : Nat} {I : Nat → Nat → Int32} {L : Nat → Nat → Int64} {b s : Int32} (hW : Wm dc I) : Cn G yX9_second cX9_second 8 (some .int) 2 0 0 [.ref 39, .int b, .int s] (Mm dc I L) (Is (some (.int (oR (mSec dc I L b s) ((sC (mOf I b) (fun d => mEl L (tn s) (ct (mOf I b) d)) dc))))) (pM (mSec dc I L b s) dc I L (Mm dc (u2 (msM I (mEl L (tn s)) b dc) 55 (tn b) (nI 1)) (L)))) := by
  refine Cn.of' (by decide) (Nat.le_of_ble_eq_true rfl) rfl ?_
  refine v_ild1 dX9_second_0 ?_
  refine v_S1 c_X9_isBlock lk_X9_142 dX9_second_1 (by decide) (Nat.le_of_ble_eq_true rfl) ?_
  refine v_ifne_b (tgt := 13) dX9_second_4 (by decide) (fun h4 => ?_) (fun h4 => ?_)
  · refine v_ald0 dX9_second_13 ?_
    refine v_ild2 dX9_second_14 ?_
    refine v_V1 c_X9_notRow lk_X9_165 dX9_second_15 (by decide) (Nat.le_of_ble_eq_true rfl) (by first | rfl | exact lay_door (by omega) | exact lay_dt (by omega) | exact lay_da (by omega) | exact lay_sh (by omega) | exact lay_se (by omega)) (show _ < 78 + 3 * _ by omega) ?_
    refine v_ist3 dX9_second_18 rfl ?_
    refine v_ild3 dX9_second_19 ?_
    refine v_ifeq_o (mk0_lt _ _) (tgt := 29) dX9_second_20 (by decide) (fun h20 => ?_) (fun h20 => ?_)
    · refine v_icN (n := 0) dX9_second_29 (by decide) ?_
      refine v_ist4 dX9_second_30 rfl ?_
      refine v_icN (n := 1) dX9_second_32 (by decide) ?_
      refine v_ist5 dX9_second_33 rfl ?_
      refine v_icN (n := 0) dX9_second_35 (by decide) ?_
      refine v_ist6 dX9_second_36 rfl ?_
      have e0 : nI 1 = bI (gdP (mEl L (tn s)) (tn (I 62 (tn s))) (ct (mOf I b) 0)) := (bI_t (fun j hj => absurd hj (Nat.not_lt_zero _))).symm
      rw [e0]
      refine V.mono (dep' := 1) (Nat.le_of_ble_eq_true rfl) (Nat.le_refl _) (Nat.le_refl _) (fun _ _ h => h) (lp_se1 hW h4 h20 ?_ dc 0 (by omega))
      refine v_ild4 dX9_second_117 ?_
      refine v_ald0 dX9_second_119 ?_
      refine v_getP (q := 62) dX9_second_120 fl_X9_90 (by first | rfl | exact lay_door (by omega) | exact lay_dt (by omega) | exact lay_da (by omega) | exact lay_sh (by omega) | exact lay_se (by omega)) rfl (by omega) rfl ?_
      refine v_ild2 dX9_second_123 ?_
      refine v_iald dX9_second_124 (by first | rfl | exact lay_door (by omega) | exact lay_dt (by omega) | exact lay_da (by omega) | exact lay_sh (by omega) | exact lay_se (by omega)) (by omega) (ix_R (by decide) (mk0_in h20)) ?_
      refine v_icmp_le (tgt := 135) dX9_second_125 (by decide) (fun h125 => ?_) (fun h125 => ?_)
      · refine v_ild5 dX9_second_135 ?_
        refine v_ifne_b (tgt := 147) dX9_second_137 (by decide) (fun h137 => ?_) (fun h137 => ?_)
        · refine v_icN (n := 0) dX9_second_147 (by decide) ?_
          refine v_ist6 dX9_second_148 rfl ?_
          refine v_icN (n := 0) dX9_second_150 (by decide) ?_
          refine v_ist4 dX9_second_151 rfl ?_
          refine v_icN (n := 0) dX9_second_153 (by decide) ?_
          refine v_ist7 dX9_second_154 rfl ?_
          simp only [mSec, if_pos h4, if_pos h20, if_pos h125, if_pos h137]
          have hcl := ct_le (mOf I b) dc
          have hc9 := hW.1
          have hz9 := hW.sz (ix_R (by decide) (mk0_in h20)).2.1
          have hn9 : ct (mOf I b) dc ≤ tn (I 62 (tn s)) := (nI_leI (by omega) (by omega)).mp (hz9.1 ▸ h125)
          exact lp_se2 hW h4 h20 hn9 dc 0 (by omega)
        · refine v_ald0 dX9_second_140 ?_
          refine v_bipush (v := -6) dX9_second_141 (by decide) ?_
          refine v_V1 (c_X9_no (k := 6) (by decide) (by decide) (by decide)) lk_X9_146 dX9_second_143 (by decide) (Nat.le_of_ble_eq_true rfl) (by first | rfl | exact lay_door (by omega) | exact lay_dt (by omega) | exact lay_da (by omega) | exact lay_sh (by omega) | exact lay_se (by omega)) (show _ < 78 + 3 * _ by omega) ?_
          exact v_retI dX9_second_146 trivial (by simp only [mSec, if_pos h4, if_pos h20, if_pos h125, if_neg h137]; exact ⟨rfl, rfl⟩)
      · refine v_ald0 dX9_second_128 ?_
        refine v_bipush (v := -5) dX9_second_129 (by decide) ?_
        refine v_V1 (c_X9_no (k := 5) (by decide) (by decide) (by decide)) lk_X9_146 dX9_second_131 (by decide) (Nat.le_of_ble_eq_true rfl) (by first | rfl | exact lay_door (by omega) | exact lay_dt (by omega) | exact lay_da (by omega) | exact lay_sh (by omega) | exact lay_se (by omega)) (show _ < 78 + 3 * _ by omega) ?_
        exact v_retI dX9_second_134 trivial (by simp only [mSec, if_pos h4, if_pos h20, if_neg h125]; exact ⟨rfl, rfl⟩)
    · refine v_ald0 dX9_second_23 ?_
      refine v_ild3 dX9_second_24 ?_
      refine v_V1 (c_X9_no (oRk h20 _) (mk0_lt _ _) (Nat.one_le_iff_ne_zero.mpr h20)) lk_X9_146 dX9_second_25 (by decide) (Nat.le_of_ble_eq_true rfl) (by first | rfl | exact lay_door (by omega) | exact lay_dt (by omega) | exact lay_da (by omega) | exact lay_sh (by omega) | exact lay_se (by omega)) (show _ < 78 + 3 * _ by omega) ?_
      exact v_retI dX9_second_28 trivial (by simp only [mSec, if_pos h4, if_neg h20]; rw [oRk h20, pMk h20]; exact ⟨rfl, rfl⟩)
  · refine v_ald0 dX9_second_7 ?_
    refine v_icm1 dX9_second_8 ?_
    refine v_V1 (c_X9_no (k := 1) (by decide) (by decide) (by decide)) lk_X9_146 dX9_second_9 (by decide) (Nat.le_of_ble_eq_true rfl) (by first | rfl | exact lay_door (by omega) | exact lay_dt (by omega) | exact lay_da (by omega) | exact lay_sh (by omega) | exact lay_se (by omega)) (show _ < 78 + 3 * _ by omega) ?_
    exact v_retI dX9_second_12 trivial (by simp only [mSec, if_neg h4]; exact ⟨rfl, rfl⟩)

def pNZ (f : Nat → Int32) (d : Nat) : Bool := decide (¬ f d = 0)
def p45 (I : Nat → Nat → Int32) (v : Int32) (d : Nat) : Bool := decide (I 45 d = v)
def pMba (I : Nat → Nat → Int32) (d : Nat) : Bool := decide (mba I d)
def mSt (dc : Nat) (I : Nat → Nat → Int32) (w : Int32) : Int32 :=
  if ¬ w < nI 11 ∧ ¬ nI 17 < w then I 59 (tn (w - nI 10)) else if w = nI 0 then I 39 17 else if w = nI 1 then nI (ct (pNZ (I 45)) dc) else if w = nI 2 then nI (ct (p45 I (nI 4)) dc) else if w = nI 3 then sI (mCnt I) dc else if w = nI 4 then sI (mStr I) dc else if w = nI 5 then sI (I 57) 40 else if w = nI 6 then sI (I 58) 40 else if w = nI 7 then bI (¬ I 39 22 = 0) else if w = nI 8 then nI (ct (pMba I) dc) else if w = nI 9 then nI (ct (pNZ (I 55)) 6) else if w = nI 18 then I 39 18 else if w = nI 19 then I 39 19 else if w = nI 20 then I 39 20 else -1

set_option maxRecDepth 4000 in
theorem ls_1 {G : GG} {dc : Nat} {I : Nat → Nat → Int32} {L : Nat → Nat → Int64} {w : Int32} (hW : Wm dc I) (k : Nat) : ∀ i, i + k = dc → V G yX9_status cX9_status 4 (some .int) 1 0 0 131 [.ref 39, .int w, .int (nI (ct (pNZ (I 45)) i)), .int (nI i)] [] (Mm dc I L) (Is (some (.int (nI (ct (pNZ (I 45)) dc)))) (Mm dc I L)) := by
  induction k with
  | zero =>
    intro i hi
    have hc9 := hW.1
    have h24 : i ≤ dc := by omega
    refine v_ild3 dX9_status_131 ?_
    refine v_ald0 dX9_status_132 ?_
    refine v_getI dX9_status_133 fl_X9_139 (by first | rfl | exact lay_door (by omega) | exact lay_dt (by omega) | exact lay_da (by omega) | exact lay_sh (by omega) | exact lay_se (by omega)) rfl (by omega) ?_
    refine v_icmp_ge (tgt := 162) dX9_status_136 (by decide) (fun h136 => ?_) (fun h136 => absurd (by rw [hW.2.1]; exact nI_le (by omega) (by omega)) h136)
    refine v_ild2 dX9_status_162 ?_
    exact v_retI dX9_status_163 trivial (by rw [show i = dc by omega]; exact ⟨rfl, rfl⟩)
  | succ k ih =>
    intro i hi
    have hc9 := hW.1
    have h24 : i ≤ dc := by omega
    refine v_ild3 dX9_status_131 ?_
    refine v_ald0 dX9_status_132 ?_
    refine v_getI dX9_status_133 fl_X9_139 (by first | rfl | exact lay_door (by omega) | exact lay_dt (by omega) | exact lay_da (by omega) | exact lay_sh (by omega) | exact lay_se (by omega)) rfl (by omega) ?_
    refine v_icmp_ge (tgt := 162) dX9_status_136 (by decide) (fun h136 => absurd h136 (by rw [hW.2.1]; exact nI_ge (by omega) (by omega))) (fun h136 => ?_)
    refine v_ild2 dX9_status_139 ?_
    refine v_ald0 dX9_status_140 ?_
    refine v_getP (q := 45) dX9_status_141 fl_X9_25 (by first | rfl | exact lay_door (by omega) | exact lay_dt (by omega) | exact lay_da (by omega) | exact lay_sh (by omega) | exact lay_se (by omega)) rfl (by omega) rfl ?_
    refine v_ild3 dX9_status_144 ?_
    refine v_iald dX9_status_145 (by first | rfl | exact lay_door (by omega) | exact lay_dt (by omega) | exact lay_da (by omega) | exact lay_sh (by omega) | exact lay_se (by omega)) (by omega) ⟨rfl, by omega, by decide⟩ ?_
    refine v_if_eq (tgt := 153) dX9_status_146 (by decide) (fun h146 => ?_) (fun h146 => ?_)
    · refine v_icN (n := 0) dX9_status_153 (by decide) ?_
      refine v_iadd dX9_status_154 ?_
      refine v_ist2 dX9_status_155 rfl ?_
      refine v_inc3 dX9_status_156 rfl ?_
      refine v_goto (tgt := 131) dX9_status_159 (by decide) ?_
      rw [nct_f' (p := (pNZ (I 45))) (decide_eq_false (fun z => z h146)), nI_1 i]
      exact ih (i + 1) (by omega)
    · refine v_icN (n := 1) dX9_status_149 (by decide) ?_
      refine v_goto (tgt := 154) dX9_status_150 (by decide) ?_
      refine v_iadd dX9_status_154 ?_
      refine v_ist2 dX9_status_155 rfl ?_
      refine v_inc3 dX9_status_156 rfl ?_
      refine v_goto (tgt := 131) dX9_status_159 (by decide) ?_
      rw [nct_t' (p := (pNZ (I 45))) (decide_eq_true h146), nI_1 i]
      exact ih (i + 1) (by omega)

set_option maxRecDepth 4000 in
theorem ls_2 {G : GG} {dc : Nat} {I : Nat → Nat → Int32} {L : Nat → Nat → Int64} {w : Int32} (hW : Wm dc I) (k : Nat) : ∀ i, i + k = dc → V G yX9_status cX9_status 4 (some .int) 1 0 0 166 [.ref 39, .int w, .int (nI (ct (p45 I (nI 4)) i)), .int (nI i)] [] (Mm dc I L) (Is (some (.int (nI (ct (p45 I (nI 4)) dc)))) (Mm dc I L)) := by
  induction k with
  | zero =>
    intro i hi
    have hc9 := hW.1
    have h24 : i ≤ dc := by omega
    refine v_ild3 dX9_status_166 ?_
    refine v_ald0 dX9_status_167 ?_
    refine v_getI dX9_status_168 fl_X9_139 (by first | rfl | exact lay_door (by omega) | exact lay_dt (by omega) | exact lay_da (by omega) | exact lay_sh (by omega) | exact lay_se (by omega)) rfl (by omega) ?_
    refine v_icmp_ge (tgt := 198) dX9_status_171 (by decide) (fun h171 => ?_) (fun h171 => absurd (by rw [hW.2.1]; exact nI_le (by omega) (by omega)) h171)
    refine v_ild2 dX9_status_198 ?_
    exact v_retI dX9_status_199 trivial (by rw [show i = dc by omega]; exact ⟨rfl, rfl⟩)
  | succ k ih =>
    intro i hi
    have hc9 := hW.1
    have h24 : i ≤ dc := by omega
    refine v_ild3 dX9_status_166 ?_
    refine v_ald0 dX9_status_167 ?_
    refine v_getI dX9_status_168 fl_X9_139 (by first | rfl | exact lay_door (by omega) | exact lay_dt (by omega) | exact lay_da (by omega) | exact lay_sh (by omega) | exact lay_se (by omega)) rfl (by omega) ?_
    refine v_icmp_ge (tgt := 198) dX9_status_171 (by decide) (fun h171 => absurd h171 (by rw [hW.2.1]; exact nI_ge (by omega) (by omega))) (fun h171 => ?_)
    refine v_ild2 dX9_status_174 ?_
    refine v_ald0 dX9_status_175 ?_
    refine v_getP (q := 45) dX9_status_176 fl_X9_25 (by first | rfl | exact lay_door (by omega) | exact lay_dt (by omega) | exact lay_da (by omega) | exact lay_sh (by omega) | exact lay_se (by omega)) rfl (by omega) rfl ?_
    refine v_ild3 dX9_status_179 ?_
    refine v_iald dX9_status_180 (by first | rfl | exact lay_door (by omega) | exact lay_dt (by omega) | exact lay_da (by omega) | exact lay_sh (by omega) | exact lay_se (by omega)) (by omega) ⟨rfl, by omega, by decide⟩ ?_
    refine v_icN (n := 4) dX9_status_181 (by decide) ?_
    refine v_icmp_ne (tgt := 189) dX9_status_182 (by decide) (fun h182 => ?_) (fun h182 => ?_)
    · refine v_icN (n := 0) dX9_status_189 (by decide) ?_
      refine v_iadd dX9_status_190 ?_
      refine v_ist2 dX9_status_191 rfl ?_
      refine v_inc3 dX9_status_192 rfl ?_
      refine v_goto (tgt := 166) dX9_status_195 (by decide) ?_
      rw [nct_f' (p := (p45 I (nI 4))) (decide_eq_false h182), nI_1 i]
      exact ih (i + 1) (by omega)
    · refine v_icN (n := 1) dX9_status_185 (by decide) ?_
      refine v_goto (tgt := 190) dX9_status_186 (by decide) ?_
      refine v_iadd dX9_status_190 ?_
      refine v_ist2 dX9_status_191 rfl ?_
      refine v_inc3 dX9_status_192 rfl ?_
      refine v_goto (tgt := 166) dX9_status_195 (by decide) ?_
      rw [nct_t' (p := (p45 I (nI 4))) (decide_eq_true h182), nI_1 i]
      exact ih (i + 1) (by omega)

set_option maxRecDepth 4000 in
theorem ls_8 {G : GG} {dc : Nat} {I : Nat → Nat → Int32} {L : Nat → Nat → Int64} {w : Int32} (hW : Wm dc I) (k : Nat) : ∀ i, i + k = dc → V G yX9_status cX9_status 4 (some .int) 1 0 0 296 [.ref 39, .int w, .int (nI (ct (pMba I) i)), .int (nI i)] [] (Mm dc I L) (Is (some (.int (nI (ct (pMba I) dc)))) (Mm dc I L)) := by
  induction k with
  | zero =>
    intro i hi
    have hc9 := hW.1
    have h24 : i ≤ dc := by omega
    refine v_ild3 dX9_status_296 ?_
    refine v_ald0 dX9_status_297 ?_
    refine v_getI dX9_status_298 fl_X9_139 (by first | rfl | exact lay_door (by omega) | exact lay_dt (by omega) | exact lay_da (by omega) | exact lay_sh (by omega) | exact lay_se (by omega)) rfl (by omega) ?_
    refine v_icmp_ge (tgt := 326) dX9_status_301 (by decide) (fun h301 => ?_) (fun h301 => absurd (by rw [hW.2.1]; exact nI_le (by omega) (by omega)) h301)
    refine v_ild2 dX9_status_326 ?_
    exact v_retI dX9_status_327 trivial (by rw [show i = dc by omega]; exact ⟨rfl, rfl⟩)
  | succ k ih =>
    intro i hi
    have hc9 := hW.1
    have h24 : i ≤ dc := by omega
    refine v_ild3 dX9_status_296 ?_
    refine v_ald0 dX9_status_297 ?_
    refine v_getI dX9_status_298 fl_X9_139 (by first | rfl | exact lay_door (by omega) | exact lay_dt (by omega) | exact lay_da (by omega) | exact lay_sh (by omega) | exact lay_se (by omega)) rfl (by omega) ?_
    refine v_icmp_ge (tgt := 326) dX9_status_301 (by decide) (fun h301 => absurd h301 (by rw [hW.2.1]; exact nI_ge (by omega) (by omega))) (fun h301 => ?_)
    refine v_ild2 dX9_status_304 ?_
    refine v_ald0 dX9_status_305 ?_
    refine v_ild3 dX9_status_306 ?_
    refine v_V1 (c_X9_isToBeAsked rfl (by omega)) lk_X9_196 dX9_status_307 (by decide) (Nat.le_of_ble_eq_true rfl) (by first | rfl | exact lay_door (by omega) | exact lay_dt (by omega) | exact lay_da (by omega) | exact lay_sh (by omega) | exact lay_se (by omega)) (show _ < 78 + 3 * _ by omega) ?_
    refine v_ifeq_b (tgt := 317) dX9_status_310 (by decide) (fun h310 => ?_) (fun h310 => ?_)
    · refine v_icN (n := 0) dX9_status_317 (by decide) ?_
      refine v_iadd dX9_status_318 ?_
      refine v_ist2 dX9_status_319 rfl ?_
      refine v_inc3 dX9_status_320 rfl ?_
      refine v_goto (tgt := 296) dX9_status_323 (by decide) ?_
      rw [nct_f' (p := (pMba I)) (decide_eq_false h310), nI_1 i]
      exact ih (i + 1) (by omega)
    · refine v_icN (n := 1) dX9_status_313 (by decide) ?_
      refine v_goto (tgt := 318) dX9_status_314 (by decide) ?_
      refine v_iadd dX9_status_318 ?_
      refine v_ist2 dX9_status_319 rfl ?_
      refine v_inc3 dX9_status_320 rfl ?_
      refine v_goto (tgt := 296) dX9_status_323 (by decide) ?_
      rw [nct_t' (p := (pMba I)) (decide_eq_true h310), nI_1 i]
      exact ih (i + 1) (by omega)

set_option maxRecDepth 4000 in
theorem ls_9 {G : GG} {dc : Nat} {I : Nat → Nat → Int32} {L : Nat → Nat → Int64} {w : Int32} (hW : Wm dc I) (k : Nat) : ∀ i, i + k = 6 → V G yX9_status cX9_status 4 (some .int) 1 0 0 330 [.ref 39, .int w, .int (nI (ct (pNZ (I 55)) i)), .int (nI i)] [] (Mm dc I L) (Is (some (.int (nI (ct (pNZ (I 55)) 6)))) (Mm dc I L)) := by
  induction k with
  | zero =>
    intro i hi
    refine v_ild3 dX9_status_330 ?_
    refine v_bipush (v := nI 6) dX9_status_331 (by decide) ?_
    refine v_icmp_ge (tgt := 359) dX9_status_333 (by decide) (fun h333 => ?_) (fun h333 => absurd (nI_le (by omega) (by omega)) h333)
    refine v_ild2 dX9_status_359 ?_
    exact v_retI dX9_status_360 trivial (by rw [show i = 6 by omega]; exact ⟨rfl, rfl⟩)
  | succ k ih =>
    intro i hi
    refine v_ild3 dX9_status_330 ?_
    refine v_bipush (v := nI 6) dX9_status_331 (by decide) ?_
    refine v_icmp_ge (tgt := 359) dX9_status_333 (by decide) (fun h333 => absurd h333 (nI_ge (by omega) (by omega))) (fun h333 => ?_)
    refine v_ild2 dX9_status_336 ?_
    refine v_ald0 dX9_status_337 ?_
    refine v_getP (q := 55) dX9_status_338 fl_X9_56 (by first | rfl | exact lay_door (by omega) | exact lay_dt (by omega) | exact lay_da (by omega) | exact lay_sh (by omega) | exact lay_se (by omega)) rfl (by omega) rfl ?_
    refine v_ild3 dX9_status_341 ?_
    refine v_zald dX9_status_342 (by first | rfl | exact lay_door (by omega) | exact lay_dt (by omega) | exact lay_da (by omega) | exact lay_sh (by omega) | exact lay_se (by omega)) (by omega) ⟨rfl, by omega, by decide⟩ ?_
    refine v_if_eq (tgt := 350) dX9_status_343 (by decide) (fun h343 => ?_) (fun h343 => ?_)
    · refine v_icN (n := 0) dX9_status_350 (by decide) ?_
      refine v_iadd dX9_status_351 ?_
      refine v_ist2 dX9_status_352 rfl ?_
      refine v_inc3 dX9_status_353 rfl ?_
      refine v_goto (tgt := 330) dX9_status_356 (by decide) ?_
      rw [nct_f' (p := (pNZ (I 55))) (decide_eq_false (fun z => z h343)), nI_1 i]
      exact ih (i + 1) (by omega)
    · refine v_icN (n := 1) dX9_status_346 (by decide) ?_
      refine v_goto (tgt := 351) dX9_status_347 (by decide) ?_
      refine v_iadd dX9_status_351 ?_
      refine v_ist2 dX9_status_352 rfl ?_
      refine v_inc3 dX9_status_353 rfl ?_
      refine v_goto (tgt := 330) dX9_status_356 (by decide) ?_
      rw [nct_t' (p := (pNZ (I 55))) (decide_eq_true h343), nI_1 i]
      exact ih (i + 1) (by omega)

set_option maxRecDepth 4000 in
theorem ls_4 {G : GG} {dc : Nat} {I : Nat → Nat → Int32} {L : Nat → Nat → Int64} {w : Int32} (hW : Wm dc I) (k : Nat) : ∀ i, i + k = dc → V G yX9_status cX9_status 4 (some .int) 1 0 0 207 [.ref 39, .int w, .int (sI (mStr I) i), .int (nI i)] [] (Mm dc I L) (Is (some (.int (sI (mStr I) dc))) (Mm dc I L)) := by
  induction k with
  | zero =>
    intro i hi
    have hc9 := hW.1
    have h24 : i ≤ dc := by omega
    refine v_ild3 dX9_status_207 ?_
    refine v_ald0 dX9_status_208 ?_
    refine v_getI dX9_status_209 fl_X9_139 (by first | rfl | exact lay_door (by omega) | exact lay_dt (by omega) | exact lay_da (by omega) | exact lay_sh (by omega) | exact lay_se (by omega)) rfl (by omega) ?_
    refine v_icmp_ge (tgt := 229) dX9_status_212 (by decide) (fun h212 => ?_) (fun h212 => absurd (by rw [hW.2.1]; exact nI_le (by omega) (by omega)) h212)
    refine v_ild2 dX9_status_229 ?_
    exact v_retI dX9_status_230 trivial (by rw [show i = dc by omega]; exact ⟨rfl, rfl⟩)
  | succ k ih =>
    intro i hi
    have hc9 := hW.1
    have h24 : i ≤ dc := by omega
    refine v_ild3 dX9_status_207 ?_
    refine v_ald0 dX9_status_208 ?_
    refine v_getI dX9_status_209 fl_X9_139 (by first | rfl | exact lay_door (by omega) | exact lay_dt (by omega) | exact lay_da (by omega) | exact lay_sh (by omega) | exact lay_se (by omega)) rfl (by omega) ?_
    refine v_icmp_ge (tgt := 229) dX9_status_212 (by decide) (fun h212 => absurd h212 (by rw [hW.2.1]; exact nI_ge (by omega) (by omega))) (fun h212 => ?_)
    refine v_ild2 dX9_status_215 ?_
    refine v_ald0 dX9_status_216 ?_
    refine v_ild3 dX9_status_217 ?_
    refine v_V1 (c_X9_struckAt rfl (by omega) (hW.2.2.2 i (by omega)).2.2.2) lk_X9_214 dX9_status_218 (by decide) (Nat.le_of_ble_eq_true rfl) (by first | rfl | exact lay_door (by omega) | exact lay_dt (by omega) | exact lay_da (by omega) | exact lay_sh (by omega) | exact lay_se (by omega)) (show _ < 78 + 3 * _ by omega) ?_
    refine v_iadd dX9_status_221 ?_
    refine v_ist2 dX9_status_222 rfl ?_
    refine v_inc3 dX9_status_223 rfl ?_
    refine v_goto (tgt := 207) dX9_status_226 (by decide) ?_
    rw [nI_1 i]
    exact ih (i + 1) (by omega)

set_option maxRecDepth 4000 in
theorem ls_5 {G : GG} {dc : Nat} {I : Nat → Nat → Int32} {L : Nat → Nat → Int64} {w : Int32} (hW : Wm dc I) (k : Nat) : ∀ i, i + k = 40 → V G yX9_status cX9_status 4 (some .int) 1 0 0 233 [.ref 39, .int w, .int (sI (I 57) i), .int (nI i)] [] (Mm dc I L) (Is (some (.int (sI (I 57) 40))) (Mm dc I L)) := by
  induction k with
  | zero =>
    intro i hi
    refine v_ild3 dX9_status_233 ?_
    refine v_bipush (v := nI 40) dX9_status_234 (by decide) ?_
    refine v_icmp_ge (tgt := 254) dX9_status_236 (by decide) (fun h236 => ?_) (fun h236 => absurd (nI_le (by omega) (by omega)) h236)
    refine v_ild2 dX9_status_254 ?_
    exact v_retI dX9_status_255 trivial (by rw [show i = 40 by omega]; exact ⟨rfl, rfl⟩)
  | succ k ih =>
    intro i hi
    refine v_ild3 dX9_status_233 ?_
    refine v_bipush (v := nI 40) dX9_status_234 (by decide) ?_
    refine v_icmp_ge (tgt := 254) dX9_status_236 (by decide) (fun h236 => absurd h236 (nI_ge (by omega) (by omega))) (fun h236 => ?_)
    refine v_ild2 dX9_status_239 ?_
    refine v_ald0 dX9_status_240 ?_
    refine v_getP (q := 57) dX9_status_241 fl_X9_75 (by first | rfl | exact lay_door (by omega) | exact lay_dt (by omega) | exact lay_da (by omega) | exact lay_sh (by omega) | exact lay_se (by omega)) rfl (by omega) rfl ?_
    refine v_ild3 dX9_status_244 ?_
    refine v_iald dX9_status_245 (by first | rfl | exact lay_door (by omega) | exact lay_dt (by omega) | exact lay_da (by omega) | exact lay_sh (by omega) | exact lay_se (by omega)) (by omega) ⟨rfl, by omega, by decide⟩ ?_
    refine v_iadd dX9_status_246 ?_
    refine v_ist2 dX9_status_247 rfl ?_
    refine v_inc3 dX9_status_248 rfl ?_
    refine v_goto (tgt := 233) dX9_status_251 (by decide) ?_
    rw [nI_1 i]
    exact ih (i + 1) (by omega)

set_option maxRecDepth 4000 in
theorem ls_6 {G : GG} {dc : Nat} {I : Nat → Nat → Int32} {L : Nat → Nat → Int64} {w : Int32} (hW : Wm dc I) (k : Nat) : ∀ i, i + k = 40 → V G yX9_status cX9_status 4 (some .int) 1 0 0 258 [.ref 39, .int w, .int (sI (I 58) i), .int (nI i)] [] (Mm dc I L) (Is (some (.int (sI (I 58) 40))) (Mm dc I L)) := by
  induction k with
  | zero =>
    intro i hi
    refine v_ild3 dX9_status_258 ?_
    refine v_bipush (v := nI 40) dX9_status_259 (by decide) ?_
    refine v_icmp_ge (tgt := 279) dX9_status_261 (by decide) (fun h261 => ?_) (fun h261 => absurd (nI_le (by omega) (by omega)) h261)
    refine v_ild2 dX9_status_279 ?_
    exact v_retI dX9_status_280 trivial (by rw [show i = 40 by omega]; exact ⟨rfl, rfl⟩)
  | succ k ih =>
    intro i hi
    refine v_ild3 dX9_status_258 ?_
    refine v_bipush (v := nI 40) dX9_status_259 (by decide) ?_
    refine v_icmp_ge (tgt := 279) dX9_status_261 (by decide) (fun h261 => absurd h261 (nI_ge (by omega) (by omega))) (fun h261 => ?_)
    refine v_ild2 dX9_status_264 ?_
    refine v_ald0 dX9_status_265 ?_
    refine v_getP (q := 58) dX9_status_266 fl_X9_78 (by first | rfl | exact lay_door (by omega) | exact lay_dt (by omega) | exact lay_da (by omega) | exact lay_sh (by omega) | exact lay_se (by omega)) rfl (by omega) rfl ?_
    refine v_ild3 dX9_status_269 ?_
    refine v_iald dX9_status_270 (by first | rfl | exact lay_door (by omega) | exact lay_dt (by omega) | exact lay_da (by omega) | exact lay_sh (by omega) | exact lay_se (by omega)) (by omega) ⟨rfl, by omega, by decide⟩ ?_
    refine v_iadd dX9_status_271 ?_
    refine v_ist2 dX9_status_272 rfl ?_
    refine v_inc3 dX9_status_273 rfl ?_
    refine v_goto (tgt := 258) dX9_status_276 (by decide) ?_
    rw [nI_1 i]
    exact ih (i + 1) (by omega)

set_option maxRecDepth 4000 in
theorem c_X9_status {G : GG} {dc : Nat} {I : Nat → Nat → Int32} {L : Nat → Nat → Int64} {w : Int32} (hW : Wm dc I) : Cn G yX9_status cX9_status 4 (some .int) 2 0 0 [.ref 39, .int w] (Mm dc I L) (Is (some (.int (mSt dc I w))) (Mm dc I L)) := by
  refine Cn.of' (by decide) (Nat.le_of_ble_eq_true rfl) rfl ?_
  refine v_ild1 dX9_status_0 ?_
  refine v_i2l dX9_status_1 ?_
  refine v_ldc2 dX9_status_2 kc_X9_302 ?_
  refine v_ldc2 dX9_status_5 kc_X9_304 ?_
  refine v_S3 (c_isIn (lo := nI 11) (hi := nI 17) (by decide) (by decide)) lk_X9_152 dX9_status_8 (by decide) (Nat.le_of_ble_eq_true rfl) ?_
  refine v_ifeq_b (tgt := 24) dX9_status_11 (by decide) (fun h11 => ?_) (fun h11 => ?_)
  · refine v_icN (n := 0) dX9_status_24 (by decide) ?_
    refine v_ist2 dX9_status_25 rfl ?_
    have e11 : ∀ v, mSt dc I v = mSt dc I v := fun _ => rfl
    refine v_ild1 dX9_status_26 ?_
    refine v_tab (hi := 20) (tgt := 376) [124, 129, 164, 200, 205, 231, 256, 281, 294, 328, 376, 376, 376, 376, 376, 376, 376, 376, 361, 366, 371] dX9_status_27 (by decide) (by decide) (by decide) (fun j t hj ht hx => ?_) (fun hx => ?_)
    · rcases (show j = 0 ∨ j = 1 ∨ j = 2 ∨ j = 3 ∨ j = 4 ∨ j = 5 ∨ j = 6 ∨ j = 7 ∨ j = 8 ∨ j = 9 ∨ j = 10 ∨ j = 11 ∨ j = 12 ∨ j = 13 ∨ j = 14 ∨ j = 15 ∨ j = 16 ∨ j = 17 ∨ j = 18 ∨ j = 19 ∨ j = 20 by omega) with rfl | rfl | rfl | rfl | rfl | rfl | rfl | rfl | rfl | rfl | rfl | rfl | rfl | rfl | rfl | rfl | rfl | rfl | rfl | rfl | rfl <;> cases ht
      · have ev : mSt dc I w = I 39 17 := by unfold mSt; rw [if_neg h11, hx]; rfl
        rw [ev]
        refine v_ald0 dX9_status_124 ?_
        refine v_getI dX9_status_125 fl_X9_139 (by first | rfl | exact lay_door (by omega) | exact lay_dt (by omega) | exact lay_da (by omega) | exact lay_sh (by omega) | exact lay_se (by omega)) rfl (by omega) ?_
        exact v_retI dX9_status_128 trivial ⟨rfl, rfl⟩
      · have ev : mSt dc I w = nI (ct (pNZ (I 45)) dc) := by unfold mSt; rw [if_neg h11, hx]; rfl
        rw [ev]
        refine v_icN (n := 0) dX9_status_129 (by decide) ?_
        refine v_ist3 dX9_status_130 rfl ?_
        exact V.mono (dep' := 1) (Nat.le_of_ble_eq_true rfl) (Nat.le_refl _) (Nat.le_refl _) (fun _ _ h => h) (ls_1 hW dc 0 (by omega))
      · have ev : mSt dc I w = nI (ct (p45 I (nI 4)) dc) := by unfold mSt; rw [if_neg h11, hx]; rfl
        rw [ev]
        refine v_icN (n := 0) dX9_status_164 (by decide) ?_
        refine v_ist3 dX9_status_165 rfl ?_
        exact V.mono (dep' := 1) (Nat.le_of_ble_eq_true rfl) (Nat.le_refl _) (Nat.le_refl _) (fun _ _ h => h) (ls_2 hW dc 0 (by omega))
      · have ev : mSt dc I w = sI (mCnt I) dc := by unfold mSt; rw [if_neg h11, hx]; rfl
        rw [ev]
        refine v_ald0 dX9_status_200 ?_
        refine v_V0 (c_X9_countedAll hW) lk_X9_247 dX9_status_201 (by decide) (Nat.le_of_ble_eq_true rfl) (by first | rfl | exact lay_door (by omega) | exact lay_dt (by omega) | exact lay_da (by omega) | exact lay_sh (by omega) | exact lay_se (by omega)) (show _ < 78 + 3 * _ by omega) ?_
        exact v_retI dX9_status_204 trivial ⟨rfl, rfl⟩
      · have ev : mSt dc I w = sI (mStr I) dc := by unfold mSt; rw [if_neg h11, hx]; rfl
        rw [ev]
        refine v_icN (n := 0) dX9_status_205 (by decide) ?_
        refine v_ist3 dX9_status_206 rfl ?_
        exact V.mono (dep' := 1) (Nat.le_of_ble_eq_true rfl) (Nat.le_refl _) (Nat.le_refl _) (fun _ _ h => h) (ls_4 hW dc 0 (by omega))
      · have ev : mSt dc I w = sI (I 57) 40 := by unfold mSt; rw [if_neg h11, hx]; rfl
        rw [ev]
        refine v_icN (n := 0) dX9_status_231 (by decide) ?_
        refine v_ist3 dX9_status_232 rfl ?_
        exact V.mono (dep' := 1) (Nat.le_of_ble_eq_true rfl) (Nat.le_refl _) (Nat.le_refl _) (fun _ _ h => h) (ls_5 hW 40 0 (by omega))
      · have ev : mSt dc I w = sI (I 58) 40 := by unfold mSt; rw [if_neg h11, hx]; rfl
        rw [ev]
        refine v_icN (n := 0) dX9_status_256 (by decide) ?_
        refine v_ist3 dX9_status_257 rfl ?_
        exact V.mono (dep' := 1) (Nat.le_of_ble_eq_true rfl) (Nat.le_refl _) (Nat.le_refl _) (fun _ _ h => h) (ls_6 hW 40 0 (by omega))
      · have ev : mSt dc I w = bI (¬ I 39 22 = 0) := by unfold mSt; rw [if_neg h11, hx]; rfl
        rw [ev]
        refine v_ald0 dX9_status_281 ?_
        refine v_getI dX9_status_282 fl_X9_158 (by first | rfl | exact lay_door (by omega) | exact lay_dt (by omega) | exact lay_da (by omega) | exact lay_sh (by omega) | exact lay_se (by omega)) rfl (by omega) ?_
        refine v_if_eq (tgt := 292) dX9_status_285 (by decide) (fun h285 => ?_) (fun h285 => ?_)
        · refine v_icN (n := 0) dX9_status_292 (by decide) ?_
          exact v_retI dX9_status_293 trivial (by rw [bI_f (fun z => z h285)]; exact ⟨rfl, rfl⟩)
        · refine v_icN (n := 1) dX9_status_288 (by decide) ?_
          refine v_goto (tgt := 293) dX9_status_289 (by decide) ?_
          exact v_retI dX9_status_293 trivial (by rw [bI_t h285]; exact ⟨rfl, rfl⟩)
      · have ev : mSt dc I w = nI (ct (pMba I) dc) := by unfold mSt; rw [if_neg h11, hx]; rfl
        rw [ev]
        refine v_icN (n := 0) dX9_status_294 (by decide) ?_
        refine v_ist3 dX9_status_295 rfl ?_
        exact V.mono (dep' := 1) (Nat.le_of_ble_eq_true rfl) (Nat.le_refl _) (Nat.le_refl _) (fun _ _ h => h) (ls_8 hW dc 0 (by omega))
      · have ev : mSt dc I w = nI (ct (pNZ (I 55)) 6) := by unfold mSt; rw [if_neg h11, hx]; rfl
        rw [ev]
        refine v_icN (n := 0) dX9_status_328 (by decide) ?_
        refine v_ist3 dX9_status_329 rfl ?_
        exact V.mono (dep' := 1) (Nat.le_of_ble_eq_true rfl) (Nat.le_refl _) (Nat.le_refl _) (fun _ _ h => h) (ls_9 hW 6 0 (by omega))
      · have ev : mSt dc I w = -1 := by unfold mSt; rw [if_neg h11, hx]; rfl
        rw [ev]
        refine v_icm1 dX9_status_376 ?_
        exact v_retI dX9_status_377 trivial ⟨rfl, rfl⟩
      · exact absurd (show ¬ w < nI 11 ∧ ¬ nI 17 < w by rw [hx]; decide) h11
      · exact absurd (show ¬ w < nI 11 ∧ ¬ nI 17 < w by rw [hx]; decide) h11
      · exact absurd (show ¬ w < nI 11 ∧ ¬ nI 17 < w by rw [hx]; decide) h11
      · exact absurd (show ¬ w < nI 11 ∧ ¬ nI 17 < w by rw [hx]; decide) h11
      · exact absurd (show ¬ w < nI 11 ∧ ¬ nI 17 < w by rw [hx]; decide) h11
      · exact absurd (show ¬ w < nI 11 ∧ ¬ nI 17 < w by rw [hx]; decide) h11
      · exact absurd (show ¬ w < nI 11 ∧ ¬ nI 17 < w by rw [hx]; decide) h11
      · have ev : mSt dc I w = I 39 18 := by unfold mSt; rw [if_neg h11, hx]; rfl
        rw [ev]
        refine v_ald0 dX9_status_361 ?_
        refine v_getI dX9_status_362 fl_X9_62 (by first | rfl | exact lay_door (by omega) | exact lay_dt (by omega) | exact lay_da (by omega) | exact lay_sh (by omega) | exact lay_se (by omega)) rfl (by omega) ?_
        exact v_retI dX9_status_365 trivial ⟨rfl, rfl⟩
      · have ev : mSt dc I w = I 39 19 := by unfold mSt; rw [if_neg h11, hx]; rfl
        rw [ev]
        refine v_ald0 dX9_status_366 ?_
        refine v_getI dX9_status_367 fl_X9_66 (by first | rfl | exact lay_door (by omega) | exact lay_dt (by omega) | exact lay_da (by omega) | exact lay_sh (by omega) | exact lay_se (by omega)) rfl (by omega) ?_
        exact v_retI dX9_status_370 trivial ⟨rfl, rfl⟩
      · have ev : mSt dc I w = I 39 20 := by unfold mSt; rw [if_neg h11, hx]; rfl
        rw [ev]
        refine v_ald0 dX9_status_371 ?_
        refine v_getI dX9_status_372 fl_X9_69 (by first | rfl | exact lay_door (by omega) | exact lay_dt (by omega) | exact lay_da (by omega) | exact lay_sh (by omega) | exact lay_se (by omega)) rfl (by omega) ?_
        exact v_retI dX9_status_375 trivial ⟨rfl, rfl⟩
    · refine v_icm1 dX9_status_376 ?_
      exact v_retI dX9_status_377 trivial (by unfold mSt; rw [if_neg h11, if_neg (hx 0 (by decide)), if_neg (hx 1 (by decide)), if_neg (hx 2 (by decide)), if_neg (hx 3 (by decide)), if_neg (hx 4 (by decide)), if_neg (hx 5 (by decide)), if_neg (hx 6 (by decide)), if_neg (hx 7 (by decide)), if_neg (hx 8 (by decide)), if_neg (hx 9 (by decide)), if_neg (hx 18 (by decide)), if_neg (hx 19 (by decide)), if_neg (hx 20 (by decide))]; exact ⟨rfl, rfl⟩)
  · refine v_ald0 dX9_status_14 ?_
    refine v_getP (q := 59) dX9_status_15 fl_X9_81 (by first | rfl | exact lay_door (by omega) | exact lay_dt (by omega) | exact lay_da (by omega) | exact lay_sh (by omega) | exact lay_se (by omega)) rfl (by omega) rfl ?_
    refine v_ild1 dX9_status_18 ?_
    refine v_bipush (v := nI 10) dX9_status_19 (by decide) ?_
    refine v_isub dX9_status_21 ?_
    refine v_iald dX9_status_22 (by first | rfl | exact lay_door (by omega) | exact lay_dt (by omega) | exact lay_da (by omega) | exact lay_sh (by omega) | exact lay_se (by omega)) (by omega) (in11 h11.1 h11.2) ?_
    exact v_retI dX9_status_23 trivial (by unfold mSt; rw [if_pos h11]; exact ⟨rfl, rfl⟩)
