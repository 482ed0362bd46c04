abbrev mcf (I : Nat → Nat → Int32) (e : Nat) (w : Int32) : Prop := I 41 e = w ∧ ¬ nI 2 ≤ I 49 e ∧ (I 45 e = nI 2 ∨ (I 45 e = nI 1 ∧ I 52 e = 0))
/-- the nearest like door of those below e that can fill door d -/
def mfd (I : Nat → Nat → Int32) (d : Nat) : Nat → Option Nat
  | 0 => none
  | e + 1 => if mcf I e (I 41 d) then (match mfd I d e with | none => some e | some q => if dst e d < dst q d then some e else some q) else mfd I d e
theorem mfd_n {I : Nat → Nat → Int32} {d e : Nat} (h : ¬ mcf I e (I 41 d)) : mfd I d (e + 1) = mfd I d e := by simp only [mfd]; exact if_neg h
theorem mfd_0 {I : Nat → Nat → Int32} {d e : Nat} (h : mcf I e (I 41 d)) (h2 : mfd I d e = none) : mfd I d (e + 1) = some e := by simp only [mfd, h2]; exact if_pos h
theorem mfd_1 {I : Nat → Nat → Int32} {d e q : Nat} (h : mcf I e (I 41 d)) (h2 : mfd I d e = some q) (h3 : dst e d < dst q d) : mfd I d (e + 1) = some e := by simp only [mfd, h2, if_pos h3]; exact if_pos h
theorem mfd_2 {I : Nat → Nat → Int32} {d e q : Nat} (h : mcf I e (I 41 d)) (h2 : mfd I d e = some q) (h3 : ¬ dst e d < dst q d) : mfd I d (e + 1) = some q := by simp only [mfd, h2, if_neg h3]; exact if_pos h
theorem mfd_s {I : Nat → Nat → Int32} {d : Nat} : ∀ {n q : Nat}, mfd I d n = some q → q < n ∧ mcf I q (I 41 d)
  | 0, q, h => by cases h
  | n + 1, q, h => by
    by_cases hc : mcf I n (I 41 d)
    · cases hf : mfd I d n with
      | none => rw [mfd_0 hc hf] at h; cases h; exact ⟨by omega, hc⟩
      | some e =>
        by_cases h3 : dst n d < dst e d
        · rw [mfd_1 hc hf h3] at h; cases h; exact ⟨by omega, hc⟩
        · rw [mfd_2 hc hf h3] at h; cases h
          have := mfd_s hf
          exact ⟨by omega, this.2⟩
    · rw [mfd_n hc] at h
      have := mfd_s h
      exact ⟨by omega, this.2⟩
def oD (d : Nat) : Option Nat → Int32
  | none => nI 100
  | some q => nI (dst q d)
theorem dst_lt {a b N : Nat} (ha : a < N) (hb : b < N) : dst a b < N := by
  unfold dst
  split <;> omega
theorem dst_a {a b : Nat} (h : nI b ≤ nI a) (ha : a < 2 ^ 31) (hb : b < 2 ^ 31) : nI a - nI b = nI (dst a b) := by
  have h1 := (nI_leI hb ha).mp h
  rw [pk_sub h1]
  unfold dst
  rw [if_neg (by omega)]
theorem dst_b {a b : Nat} (h : ¬ nI b ≤ nI a) (ha : a < 2 ^ 31) (hb : b < 2 ^ 31) : nI b - nI a = nI (dst a b) := by
  have h1 : ¬ b ≤ a := fun q => h ((nI_leI hb ha).mpr q)
  rw [pk_sub (by omega)]
  unfold dst
  rw [if_pos (by omega)]

set_option maxRecDepth 4000 in
theorem lp_don {G : GG} {dc : Nat} {I : Nat → Nat → Int32} {L : Nat → Nat → Int64} {d : Nat} (hW : Wm dc I) (hd : d < dc) (k : Nat) : ∀ i, i + k = dc → ∀ u v : Value, V G yX9_donor cX9_donor 7 (some .int) 0 0 0 8 [.ref 39, .int (nI d), .int (oN (mfd I d i)), .int (oD d (mfd I d i)), .int (nI i), u, v] [] (Mm dc I L) (Is (some (.int (oN (mfd I d dc)))) (Mm dc I L)) := by
  induction k with
  | zero =>
    intro i hi u v
    have hc9 := hW.1
    refine v_ild4 dX9_donor_8 ?_
    refine v_ald0 dX9_donor_10 ?_
    refine v_getI dX9_donor_11 fl_X9_139 (by first | rfl | exact lay_door (by omega) | exact lay_dt (by omega) | exact lay_da (by omega) | exact lay_sh (by omega) | exact lay_se (by omega)) rfl (by omega) ?_
    refine v_icmp_ge (tgt := 128) dX9_donor_14 (by decide) (fun h14 => ?_) (fun h14 => absurd (by rw [hW.2.1]; exact nI_le (by omega) (by omega)) h14)
    refine v_ild2 dX9_donor_128 ?_
    exact v_retI dX9_donor_129 trivial (by rw [show i = dc by omega]; exact ⟨rfl, rfl⟩)
  | succ k ih =>
    intro i hi u v
    have hc9 := hW.1
    have hdl := dst_lt (a := i) (b := d) (N := 24) (by omega) (by omega)
    cases hf : mfd I d i with
    | none =>
      refine v_ild4 dX9_donor_8 ?_
      refine v_ald0 dX9_donor_10 ?_
      refine v_getI dX9_donor_11 fl_X9_139 (by first | rfl | exact lay_door (by omega) | exact lay_dt (by omega) | exact lay_da (by omega) | exact lay_sh (by omega) | exact lay_se (by omega)) rfl (by omega) ?_
      refine v_icmp_ge (tgt := 128) dX9_donor_14 (by decide) (fun h14 => absurd h14 (by rw [hW.2.1]; exact nI_ge (by omega) (by omega))) (fun h14 => ?_)
      refine v_ald0 dX9_donor_17 ?_
      refine v_getP (q := 41) dX9_donor_18 fl_X9_13 (by first | rfl | exact lay_door (by omega) | exact lay_dt (by omega) | exact lay_da (by omega) | exact lay_sh (by omega) | exact lay_se (by omega)) rfl (by omega) rfl ?_
      refine v_ild4 dX9_donor_21 ?_
      refine v_iald dX9_donor_23 (by first | rfl | exact lay_door (by omega) | exact lay_dt (by omega) | exact lay_da (by omega) | exact lay_sh (by omega) | exact lay_se (by omega)) (by omega) ⟨rfl, by omega, by decide⟩ ?_
      refine v_ald0 dX9_donor_24 ?_
      refine v_getP (q := 41) dX9_donor_25 fl_X9_13 (by first | rfl | exact lay_door (by omega) | exact lay_dt (by omega) | exact lay_da (by omega) | exact lay_sh (by omega) | exact lay_se (by omega)) rfl (by omega) rfl ?_
      refine v_ild1 dX9_donor_28 ?_
      refine v_iald dX9_donor_29 (by first | rfl | exact lay_door (by omega) | exact lay_dt (by omega) | exact lay_da (by omega) | exact lay_sh (by omega) | exact lay_se (by omega)) (by omega) ⟨rfl, by omega, by decide⟩ ?_
      refine v_icmp_ne (tgt := 80) dX9_donor_30 (by decide) (fun h30 => ?_) (fun h30 => ?_)
      · refine v_icN (n := 0) dX9_donor_80 (by decide) ?_
        refine v_ist5 dX9_donor_81 rfl ?_
        refine v_ild4 dX9_donor_83 ?_
        refine v_ild1 dX9_donor_85 ?_
        refine v_icmp_ge (tgt := 96) dX9_donor_86 (by decide) (fun h86 => ?_) (fun h86 => ?_)
        · refine v_ild4 dX9_donor_96 ?_
          refine v_ild1 dX9_donor_98 ?_
          refine v_isub dX9_donor_99 ?_
          refine v_e0 (congrArg Value.int (dst_a h86 (by omega) (by omega))) ?_
          refine v_ist6 dX9_donor_100 rfl ?_
          refine v_ild5 dX9_donor_102 ?_
          refine v_if_eq (tgt := 122) dX9_donor_104 (by decide) (fun h104 => ?_) (fun h104 => absurd (show nI 0 = 0 from rfl) h104)
          refine v_inc4 dX9_donor_122 rfl ?_
          refine v_goto (tgt := 8) dX9_donor_125 (by decide) ?_
          have e9 : mfd I d (i + 1) = mfd I d i := mfd_n (fun z => h30 z.1)
          have h9 := ih (i + 1) (by omega)
          rw [e9, hf] at h9
          rw [nI_1 i]
          exact h9 _ _
        · refine v_ild1 dX9_donor_89 ?_
          refine v_ild4 dX9_donor_90 ?_
          refine v_isub dX9_donor_92 ?_
          refine v_goto (tgt := 100) dX9_donor_93 (by decide) ?_
          refine v_e0 (congrArg Value.int (dst_b h86 (by omega) (by omega))) ?_
          refine v_ist6 dX9_donor_100 rfl ?_
          refine v_ild5 dX9_donor_102 ?_
          refine v_if_eq (tgt := 122) dX9_donor_104 (by decide) (fun h104 => ?_) (fun h104 => absurd (show nI 0 = 0 from rfl) h104)
          refine v_inc4 dX9_donor_122 rfl ?_
          refine v_goto (tgt := 8) dX9_donor_125 (by decide) ?_
          have e9 : mfd I d (i + 1) = mfd I d i := mfd_n (fun z => h30 z.1)
          have h9 := ih (i + 1) (by omega)
          rw [e9, hf] at h9
          rw [nI_1 i]
          exact h9 _ _
      · refine v_ald0 dX9_donor_33 ?_
        refine v_getP (q := 49) dX9_donor_34 fl_X9_37 (by first | rfl | exact lay_door (by omega) | exact lay_dt (by omega) | exact lay_da (by omega) | exact lay_sh (by omega) | exact lay_se (by omega)) rfl (by omega) rfl ?_
        refine v_ild4 dX9_donor_37 ?_
        refine v_iald dX9_donor_39 (by first | rfl | exact lay_door (by omega) | exact lay_dt (by omega) | exact lay_da (by omega) | exact lay_sh (by omega) | exact lay_se (by omega)) (by omega) ⟨rfl, by omega, by decide⟩ ?_
        refine v_icN (n := 2) dX9_donor_40 (by decide) ?_
        refine v_icmp_ge (tgt := 80) dX9_donor_41 (by decide) (fun h41 => ?_) (fun h41 => ?_)
        · refine v_icN (n := 0) dX9_donor_80 (by decide) ?_
          refine v_ist5 dX9_donor_81 rfl ?_
          refine v_ild4 dX9_donor_83 ?_
          refine v_ild1 dX9_donor_85 ?_
          refine v_icmp_ge (tgt := 96) dX9_donor_86 (by decide) (fun h86 => ?_) (fun h86 => ?_)
          · refine v_ild4 dX9_donor_96 ?_
            refine v_ild1 dX9_donor_98 ?_
            refine v_isub dX9_donor_99 ?_
            refine v_e0 (congrArg Value.int (dst_a h86 (by omega) (by omega))) ?_
            refine v_ist6 dX9_donor_100 rfl ?_
            refine v_ild5 dX9_donor_102 ?_
            refine v_if_eq (tgt := 122) dX9_donor_104 (by decide) (fun h104 => ?_) (fun h104 => absurd (show nI 0 = 0 from rfl) h104)
            refine v_inc4 dX9_donor_122 rfl ?_
            refine v_goto (tgt := 8) dX9_donor_125 (by decide) ?_
            have e9 : mfd I d (i + 1) = mfd I d i := mfd_n (fun z => z.2.1 h41)
            have h9 := ih (i + 1) (by omega)
            rw [e9, hf] at h9
            rw [nI_1 i]
            exact h9 _ _
          · refine v_ild1 dX9_donor_89 ?_
            refine v_ild4 dX9_donor_90 ?_
            refine v_isub dX9_donor_92 ?_
            refine v_goto (tgt := 100) dX9_donor_93 (by decide) ?_
            refine v_e0 (congrArg Value.int (dst_b h86 (by omega) (by omega))) ?_
            refine v_ist6 dX9_donor_100 rfl ?_
            refine v_ild5 dX9_donor_102 ?_
            refine v_if_eq (tgt := 122) dX9_donor_104 (by decide) (fun h104 => ?_) (fun h104 => absurd (show nI 0 = 0 from rfl) h104)
            refine v_inc4 dX9_donor_122 rfl ?_
            refine v_goto (tgt := 8) dX9_donor_125 (by decide) ?_
            have e9 : mfd I d (i + 1) = mfd I d i := mfd_n (fun z => z.2.1 h41)
            have h9 := ih (i + 1) (by omega)
            rw [e9, hf] at h9
            rw [nI_1 i]
            exact h9 _ _
        · refine v_ald0 dX9_donor_44 ?_
          refine v_getP (q := 45) dX9_donor_45 fl_X9_25 (by first | rfl | exact lay_door (by omega) | exact lay_dt (by omega) | exact lay_da (by omega) | exact lay_sh (by omega) | exact lay_se (by omega)) rfl (by omega) rfl ?_
          refine v_ild4 dX9_donor_48 ?_
          refine v_iald dX9_donor_50 (by first | rfl | exact lay_door (by omega) | exact lay_dt (by omega) | exact lay_da (by omega) | exact lay_sh (by omega) | exact lay_se (by omega)) (by omega) ⟨rfl, by omega, by decide⟩ ?_
          refine v_icN (n := 2) dX9_donor_51 (by decide) ?_
          refine v_icmp_eq (tgt := 76) dX9_donor_52 (by decide) (fun h52 => ?_) (fun h52 => ?_)
          · refine v_icN (n := 1) dX9_donor_76 (by decide) ?_
            refine v_goto (tgt := 81) dX9_donor_77 (by decide) ?_
            refine v_ist5 dX9_donor_81 rfl ?_
            refine v_ild4 dX9_donor_83 ?_
            refine v_ild1 dX9_donor_85 ?_
            refine v_icmp_ge (tgt := 96) dX9_donor_86 (by decide) (fun h86 => ?_) (fun h86 => ?_)
            · refine v_ild4 dX9_donor_96 ?_
              refine v_ild1 dX9_donor_98 ?_
              refine v_isub dX9_donor_99 ?_
              refine v_e0 (congrArg Value.int (dst_a h86 (by omega) (by omega))) ?_
              refine v_ist6 dX9_donor_100 rfl ?_
              refine v_ild5 dX9_donor_102 ?_
              refine v_if_eq (tgt := 122) dX9_donor_104 (by decide) (fun h104 => absurd h104 (by decide)) (fun h104 => ?_)
              refine v_ild6 dX9_donor_107 ?_
              refine v_ild3 dX9_donor_109 ?_
              refine v_icmp_lt (tgt := 116) dX9_donor_110 (by decide) (fun h110 => ?_) (fun h110 => absurd (nI_lt (by omega) (by decide)) h110)
              refine v_ild4 dX9_donor_116 ?_
              refine v_ist2 dX9_donor_118 rfl ?_
              refine v_ild6 dX9_donor_119 ?_
              refine v_ist3 dX9_donor_121 rfl ?_
              refine v_inc4 dX9_donor_122 rfl ?_
              refine v_goto (tgt := 8) dX9_donor_125 (by decide) ?_
              have e9 := mfd_0 (I := I) (d := d) ⟨h30, h41, Or.inl h52⟩ hf
              have h9 := ih (i + 1) (by omega)
              rw [e9] at h9
              rw [nI_1 i]
              exact h9 _ _
            · refine v_ild1 dX9_donor_89 ?_
              refine v_ild4 dX9_donor_90 ?_
              refine v_isub dX9_donor_92 ?_
              refine v_goto (tgt := 100) dX9_donor_93 (by decide) ?_
              refine v_e0 (congrArg Value.int (dst_b h86 (by omega) (by omega))) ?_
              refine v_ist6 dX9_donor_100 rfl ?_
              refine v_ild5 dX9_donor_102 ?_
              refine v_if_eq (tgt := 122) dX9_donor_104 (by decide) (fun h104 => absurd h104 (by decide)) (fun h104 => ?_)
              refine v_ild6 dX9_donor_107 ?_
              refine v_ild3 dX9_donor_109 ?_
              refine v_icmp_lt (tgt := 116) dX9_donor_110 (by decide) (fun h110 => ?_) (fun h110 => absurd (nI_lt (by omega) (by decide)) h110)
              refine v_ild4 dX9_donor_116 ?_
              refine v_ist2 dX9_donor_118 rfl ?_
              refine v_ild6 dX9_donor_119 ?_
              refine v_ist3 dX9_donor_121 rfl ?_
              refine v_inc4 dX9_donor_122 rfl ?_
              refine v_goto (tgt := 8) dX9_donor_125 (by decide) ?_
              have e9 := mfd_0 (I := I) (d := d) ⟨h30, h41, Or.inl h52⟩ hf
              have h9 := ih (i + 1) (by omega)
              rw [e9] at h9
              rw [nI_1 i]
              exact h9 _ _
          · refine v_ald0 dX9_donor_55 ?_
            refine v_getP (q := 45) dX9_donor_56 fl_X9_25 (by first | rfl | exact lay_door (by omega) | exact lay_dt (by omega) | exact lay_da (by omega) | exact lay_sh (by omega) | exact lay_se (by omega)) rfl (by omega) rfl ?_
            refine v_ild4 dX9_donor_59 ?_
            refine v_iald dX9_donor_61 (by first | rfl | exact lay_door (by omega) | exact lay_dt (by omega) | exact lay_da (by omega) | exact lay_sh (by omega) | exact lay_se (by omega)) (by omega) ⟨rfl, by omega, by decide⟩ ?_
            refine v_icN (n := 1) dX9_donor_62 (by decide) ?_
            refine v_icmp_ne (tgt := 80) dX9_donor_63 (by decide) (fun h63 => ?_) (fun h63 => ?_)
            · refine v_icN (n := 0) dX9_donor_80 (by decide) ?_
              refine v_ist5 dX9_donor_81 rfl ?_
              refine v_ild4 dX9_donor_83 ?_
              refine v_ild1 dX9_donor_85 ?_
              refine v_icmp_ge (tgt := 96) dX9_donor_86 (by decide) (fun h86 => ?_) (fun h86 => ?_)
              · refine v_ild4 dX9_donor_96 ?_
                refine v_ild1 dX9_donor_98 ?_
                refine v_isub dX9_donor_99 ?_
                refine v_e0 (congrArg Value.int (dst_a h86 (by omega) (by omega))) ?_
                refine v_ist6 dX9_donor_100 rfl ?_
                refine v_ild5 dX9_donor_102 ?_
                refine v_if_eq (tgt := 122) dX9_donor_104 (by decide) (fun h104 => ?_) (fun h104 => absurd (show nI 0 = 0 from rfl) h104)
                refine v_inc4 dX9_donor_122 rfl ?_
                refine v_goto (tgt := 8) dX9_donor_125 (by decide) ?_
                have e9 : mfd I d (i + 1) = mfd I d i := mfd_n (fun z => z.2.2.elim h52 (fun z => h63 z.1))
                have h9 := ih (i + 1) (by omega)
                rw [e9, hf] at h9
                rw [nI_1 i]
                exact h9 _ _
              · refine v_ild1 dX9_donor_89 ?_
                refine v_ild4 dX9_donor_90 ?_
                refine v_isub dX9_donor_92 ?_
                refine v_goto (tgt := 100) dX9_donor_93 (by decide) ?_
                refine v_e0 (congrArg Value.int (dst_b h86 (by omega) (by omega))) ?_
                refine v_ist6 dX9_donor_100 rfl ?_
                refine v_ild5 dX9_donor_102 ?_
                refine v_if_eq (tgt := 122) dX9_donor_104 (by decide) (fun h104 => ?_) (fun h104 => absurd (show nI 0 = 0 from rfl) h104)
                refine v_inc4 dX9_donor_122 rfl ?_
                refine v_goto (tgt := 8) dX9_donor_125 (by decide) ?_
                have e9 : mfd I d (i + 1) = mfd I d i := mfd_n (fun z => z.2.2.elim h52 (fun z => h63 z.1))
                have h9 := ih (i + 1) (by omega)
                rw [e9, hf] at h9
                rw [nI_1 i]
                exact h9 _ _
            · refine v_ald0 dX9_donor_66 ?_
              refine v_getP (q := 52) dX9_donor_67 fl_X9_46 (by first | rfl | exact lay_door (by omega) | exact lay_dt (by omega) | exact lay_da (by omega) | exact lay_sh (by omega) | exact lay_se (by omega)) rfl (by omega) rfl ?_
              refine v_ild4 dX9_donor_70 ?_
              refine v_zald dX9_donor_72 (by first | rfl | exact lay_door (by omega) | exact lay_dt (by omega) | exact lay_da (by omega) | exact lay_sh (by omega) | exact lay_se (by omega)) (by omega) ⟨rfl, by omega, by decide⟩ ?_
              refine v_if_ne (tgt := 80) dX9_donor_73 (by decide) (fun h73 => ?_) (fun h73 => ?_)
              · refine v_icN (n := 0) dX9_donor_80 (by decide) ?_
                refine v_ist5 dX9_donor_81 rfl ?_
                refine v_ild4 dX9_donor_83 ?_
                refine v_ild1 dX9_donor_85 ?_
                refine v_icmp_ge (tgt := 96) dX9_donor_86 (by decide) (fun h86 => ?_) (fun h86 => ?_)
                · refine v_ild4 dX9_donor_96 ?_
                  refine v_ild1 dX9_donor_98 ?_
                  refine v_isub dX9_donor_99 ?_
                  refine v_e0 (congrArg Value.int (dst_a h86 (by omega) (by omega))) ?_
                  refine v_ist6 dX9_donor_100 rfl ?_
                  refine v_ild5 dX9_donor_102 ?_
                  refine v_if_eq (tgt := 122) dX9_donor_104 (by decide) (fun h104 => ?_) (fun h104 => absurd (show nI 0 = 0 from rfl) h104)
                  refine v_inc4 dX9_donor_122 rfl ?_
                  refine v_goto (tgt := 8) dX9_donor_125 (by decide) ?_
                  have e9 : mfd I d (i + 1) = mfd I d i := mfd_n (fun z => z.2.2.elim h52 (fun z => h73 z.2))
                  have h9 := ih (i + 1) (by omega)
                  rw [e9, hf] at h9
                  rw [nI_1 i]
                  exact h9 _ _
                · refine v_ild1 dX9_donor_89 ?_
                  refine v_ild4 dX9_donor_90 ?_
                  refine v_isub dX9_donor_92 ?_
                  refine v_goto (tgt := 100) dX9_donor_93 (by decide) ?_
                  refine v_e0 (congrArg Value.int (dst_b h86 (by omega) (by omega))) ?_
                  refine v_ist6 dX9_donor_100 rfl ?_
                  refine v_ild5 dX9_donor_102 ?_
                  refine v_if_eq (tgt := 122) dX9_donor_104 (by decide) (fun h104 => ?_) (fun h104 => absurd (show nI 0 = 0 from rfl) h104)
                  refine v_inc4 dX9_donor_122 rfl ?_
                  refine v_goto (tgt := 8) dX9_donor_125 (by decide) ?_
                  have e9 : mfd I d (i + 1) = mfd I d i := mfd_n (fun z => z.2.2.elim h52 (fun z => h73 z.2))
                  have h9 := ih (i + 1) (by omega)
                  rw [e9, hf] at h9
                  rw [nI_1 i]
                  exact h9 _ _
              · refine v_icN (n := 1) dX9_donor_76 (by decide) ?_
                refine v_goto (tgt := 81) dX9_donor_77 (by decide) ?_
                refine v_ist5 dX9_donor_81 rfl ?_
                refine v_ild4 dX9_donor_83 ?_
                refine v_ild1 dX9_donor_85 ?_
                refine v_icmp_ge (tgt := 96) dX9_donor_86 (by decide) (fun h86 => ?_) (fun h86 => ?_)
                · refine v_ild4 dX9_donor_96 ?_
                  refine v_ild1 dX9_donor_98 ?_
                  refine v_isub dX9_donor_99 ?_
                  refine v_e0 (congrArg Value.int (dst_a h86 (by omega) (by omega))) ?_
                  refine v_ist6 dX9_donor_100 rfl ?_
                  refine v_ild5 dX9_donor_102 ?_
                  refine v_if_eq (tgt := 122) dX9_donor_104 (by decide) (fun h104 => absurd h104 (by decide)) (fun h104 => ?_)
                  refine v_ild6 dX9_donor_107 ?_
                  refine v_ild3 dX9_donor_109 ?_
                  refine v_icmp_lt (tgt := 116) dX9_donor_110 (by decide) (fun h110 => ?_) (fun h110 => absurd (nI_lt (by omega) (by decide)) h110)
                  refine v_ild4 dX9_donor_116 ?_
                  refine v_ist2 dX9_donor_118 rfl ?_
                  refine v_ild6 dX9_donor_119 ?_
                  refine v_ist3 dX9_donor_121 rfl ?_
                  refine v_inc4 dX9_donor_122 rfl ?_
                  refine v_goto (tgt := 8) dX9_donor_125 (by decide) ?_
                  have e9 := mfd_0 (I := I) (d := d) ⟨h30, h41, Or.inr ⟨h63, h73⟩⟩ hf
                  have h9 := ih (i + 1) (by omega)
                  rw [e9] at h9
                  rw [nI_1 i]
                  exact h9 _ _
                · refine v_ild1 dX9_donor_89 ?_
                  refine v_ild4 dX9_donor_90 ?_
                  refine v_isub dX9_donor_92 ?_
                  refine v_goto (tgt := 100) dX9_donor_93 (by decide) ?_
                  refine v_e0 (congrArg Value.int (dst_b h86 (by omega) (by omega))) ?_
                  refine v_ist6 dX9_donor_100 rfl ?_
                  refine v_ild5 dX9_donor_102 ?_
                  refine v_if_eq (tgt := 122) dX9_donor_104 (by decide) (fun h104 => absurd h104 (by decide)) (fun h104 => ?_)
                  refine v_ild6 dX9_donor_107 ?_
                  refine v_ild3 dX9_donor_109 ?_
                  refine v_icmp_lt (tgt := 116) dX9_donor_110 (by decide) (fun h110 => ?_) (fun h110 => absurd (nI_lt (by omega) (by decide)) h110)
                  refine v_ild4 dX9_donor_116 ?_
                  refine v_ist2 dX9_donor_118 rfl ?_
                  refine v_ild6 dX9_donor_119 ?_
                  refine v_ist3 dX9_donor_121 rfl ?_
                  refine v_inc4 dX9_donor_122 rfl ?_
                  refine v_goto (tgt := 8) dX9_donor_125 (by decide) ?_
                  have e9 := mfd_0 (I := I) (d := d) ⟨h30, h41, Or.inr ⟨h63, h73⟩⟩ hf
                  have h9 := ih (i + 1) (by omega)
                  rw [e9] at h9
                  rw [nI_1 i]
                  exact h9 _ _
    | some q =>
      have hq9 := (mfd_s hf).1
      have hql := dst_lt (a := q) (b := d) (N := 24) (by omega) (by omega)
      refine v_ild4 dX9_donor_8 ?_
      refine v_ald0 dX9_donor_10 ?_
      refine v_getI dX9_donor_11 fl_X9_139 (by first | rfl | exact lay_door (by omega) | exact lay_dt (by omega) | exact lay_da (by omega) | exact lay_sh (by omega) | exact lay_se (by omega)) rfl (by omega) ?_
      refine v_icmp_ge (tgt := 128) dX9_donor_14 (by decide) (fun h14 => absurd h14 (by rw [hW.2.1]; exact nI_ge (by omega) (by omega))) (fun h14 => ?_)
      refine v_ald0 dX9_donor_17 ?_
      refine v_getP (q := 41) dX9_donor_18 fl_X9_13 (by first | rfl | exact lay_door (by omega) | exact lay_dt (by omega) | exact lay_da (by omega) | exact lay_sh (by omega) | exact lay_se (by omega)) rfl (by omega) rfl ?_
      refine v_ild4 dX9_donor_21 ?_
      refine v_iald dX9_donor_23 (by first | rfl | exact lay_door (by omega) | exact lay_dt (by omega) | exact lay_da (by omega) | exact lay_sh (by omega) | exact lay_se (by omega)) (by omega) ⟨rfl, by omega, by decide⟩ ?_
      refine v_ald0 dX9_donor_24 ?_
      refine v_getP (q := 41) dX9_donor_25 fl_X9_13 (by first | rfl | exact lay_door (by omega) | exact lay_dt (by omega) | exact lay_da (by omega) | exact lay_sh (by omega) | exact lay_se (by omega)) rfl (by omega) rfl ?_
      refine v_ild1 dX9_donor_28 ?_
      refine v_iald dX9_donor_29 (by first | rfl | exact lay_door (by omega) | exact lay_dt (by omega) | exact lay_da (by omega) | exact lay_sh (by omega) | exact lay_se (by omega)) (by omega) ⟨rfl, by omega, by decide⟩ ?_
      refine v_icmp_ne (tgt := 80) dX9_donor_30 (by decide) (fun h30 => ?_) (fun h30 => ?_)
      · refine v_icN (n := 0) dX9_donor_80 (by decide) ?_
        refine v_ist5 dX9_donor_81 rfl ?_
        refine v_ild4 dX9_donor_83 ?_
        refine v_ild1 dX9_donor_85 ?_
        refine v_icmp_ge (tgt := 96) dX9_donor_86 (by decide) (fun h86 => ?_) (fun h86 => ?_)
        · refine v_ild4 dX9_donor_96 ?_
          refine v_ild1 dX9_donor_98 ?_
          refine v_isub dX9_donor_99 ?_
          refine v_e0 (congrArg Value.int (dst_a h86 (by omega) (by omega))) ?_
          refine v_ist6 dX9_donor_100 rfl ?_
          refine v_ild5 dX9_donor_102 ?_
          refine v_if_eq (tgt := 122) dX9_donor_104 (by decide) (fun h104 => ?_) (fun h104 => absurd (show nI 0 = 0 from rfl) h104)
          refine v_inc4 dX9_donor_122 rfl ?_
          refine v_goto (tgt := 8) dX9_donor_125 (by decide) ?_
          have e9 : mfd I d (i + 1) = mfd I d i := mfd_n (fun z => h30 z.1)
          have h9 := ih (i + 1) (by omega)
          rw [e9, hf] at h9
          rw [nI_1 i]
          exact h9 _ _
        · refine v_ild1 dX9_donor_89 ?_
          refine v_ild4 dX9_donor_90 ?_
          refine v_isub dX9_donor_92 ?_
          refine v_goto (tgt := 100) dX9_donor_93 (by decide) ?_
          refine v_e0 (congrArg Value.int (dst_b h86 (by omega) (by omega))) ?_
          refine v_ist6 dX9_donor_100 rfl ?_
          refine v_ild5 dX9_donor_102 ?_
          refine v_if_eq (tgt := 122) dX9_donor_104 (by decide) (fun h104 => ?_) (fun h104 => absurd (show nI 0 = 0 from rfl) h104)
          refine v_inc4 dX9_donor_122 rfl ?_
          refine v_goto (tgt := 8) dX9_donor_125 (by decide) ?_
          have e9 : mfd I d (i + 1) = mfd I d i := mfd_n (fun z => h30 z.1)
          have h9 := ih (i + 1) (by omega)
          rw [e9, hf] at h9
          rw [nI_1 i]
          exact h9 _ _
      · refine v_ald0 dX9_donor_33 ?_
        refine v_getP (q := 49) dX9_donor_34 fl_X9_37 (by first | rfl | exact lay_door (by omega) | exact lay_dt (by omega) | exact lay_da (by omega) | exact lay_sh (by omega) | exact lay_se (by omega)) rfl (by omega) rfl ?_
        refine v_ild4 dX9_donor_37 ?_
        refine v_iald dX9_donor_39 (by first | rfl | exact lay_door (by omega) | exact lay_dt (by omega) | exact lay_da (by omega) | exact lay_sh (by omega) | exact lay_se (by omega)) (by omega) ⟨rfl, by omega, by decide⟩ ?_
        refine v_icN (n := 2) dX9_donor_40 (by decide) ?_
        refine v_icmp_ge (tgt := 80) dX9_donor_41 (by decide) (fun h41 => ?_) (fun h41 => ?_)
        · refine v_icN (n := 0) dX9_donor_80 (by decide) ?_
          refine v_ist5 dX9_donor_81 rfl ?_
          refine v_ild4 dX9_donor_83 ?_
          refine v_ild1 dX9_donor_85 ?_
          refine v_icmp_ge (tgt := 96) dX9_donor_86 (by decide) (fun h86 => ?_) (fun h86 => ?_)
          · refine v_ild4 dX9_donor_96 ?_
            refine v_ild1 dX9_donor_98 ?_
            refine v_isub dX9_donor_99 ?_
            refine v_e0 (congrArg Value.int (dst_a h86 (by omega) (by omega))) ?_
            refine v_ist6 dX9_donor_100 rfl ?_
            refine v_ild5 dX9_donor_102 ?_
            refine v_if_eq (tgt := 122) dX9_donor_104 (by decide) (fun h104 => ?_) (fun h104 => absurd (show nI 0 = 0 from rfl) h104)
            refine v_inc4 dX9_donor_122 rfl ?_
            refine v_goto (tgt := 8) dX9_donor_125 (by decide) ?_
            have e9 : mfd I d (i + 1) = mfd I d i := mfd_n (fun z => z.2.1 h41)
            have h9 := ih (i + 1) (by omega)
            rw [e9, hf] at h9
            rw [nI_1 i]
            exact h9 _ _
          · refine v_ild1 dX9_donor_89 ?_
            refine v_ild4 dX9_donor_90 ?_
            refine v_isub dX9_donor_92 ?_
            refine v_goto (tgt := 100) dX9_donor_93 (by decide) ?_
            refine v_e0 (congrArg Value.int (dst_b h86 (by omega) (by omega))) ?_
            refine v_ist6 dX9_donor_100 rfl ?_
            refine v_ild5 dX9_donor_102 ?_
            refine v_if_eq (tgt := 122) dX9_donor_104 (by decide) (fun h104 => ?_) (fun h104 => absurd (show nI 0 = 0 from rfl) h104)
            refine v_inc4 dX9_donor_122 rfl ?_
            refine v_goto (tgt := 8) dX9_donor_125 (by decide) ?_
            have e9 : mfd I d (i + 1) = mfd I d i := mfd_n (fun z => z.2.1 h41)
            have h9 := ih (i + 1) (by omega)
            rw [e9, hf] at h9
            rw [nI_1 i]
            exact h9 _ _
        · refine v_ald0 dX9_donor_44 ?_
          refine v_getP (q := 45) dX9_donor_45 fl_X9_25 (by first | rfl | exact lay_door (by omega) | exact lay_dt (by omega) | exact lay_da (by omega) | exact lay_sh (by omega) | exact lay_se (by omega)) rfl (by omega) rfl ?_
          refine v_ild4 dX9_donor_48 ?_
          refine v_iald dX9_donor_50 (by first | rfl | exact lay_door (by omega) | exact lay_dt (by omega) | exact lay_da (by omega) | exact lay_sh (by omega) | exact lay_se (by omega)) (by omega) ⟨rfl, by omega, by decide⟩ ?_
          refine v_icN (n := 2) dX9_donor_51 (by decide) ?_
          refine v_icmp_eq (tgt := 76) dX9_donor_52 (by decide) (fun h52 => ?_) (fun h52 => ?_)
          · refine v_icN (n := 1) dX9_donor_76 (by decide) ?_
            refine v_goto (tgt := 81) dX9_donor_77 (by decide) ?_
            refine v_ist5 dX9_donor_81 rfl ?_
            refine v_ild4 dX9_donor_83 ?_
            refine v_ild1 dX9_donor_85 ?_
            refine v_icmp_ge (tgt := 96) dX9_donor_86 (by decide) (fun h86 => ?_) (fun h86 => ?_)
            · refine v_ild4 dX9_donor_96 ?_
              refine v_ild1 dX9_donor_98 ?_
              refine v_isub dX9_donor_99 ?_
              refine v_e0 (congrArg Value.int (dst_a h86 (by omega) (by omega))) ?_
              refine v_ist6 dX9_donor_100 rfl ?_
              refine v_ild5 dX9_donor_102 ?_
              refine v_if_eq (tgt := 122) dX9_donor_104 (by decide) (fun h104 => absurd h104 (by decide)) (fun h104 => ?_)
              refine v_ild6 dX9_donor_107 ?_
              refine v_ild3 dX9_donor_109 ?_
              refine v_icmp_lt (tgt := 116) dX9_donor_110 (by decide) (fun h110 => ?_) (fun h110 => ?_)
              · refine v_ild4 dX9_donor_116 ?_
                refine v_ist2 dX9_donor_118 rfl ?_
                refine v_ild6 dX9_donor_119 ?_
                refine v_ist3 dX9_donor_121 rfl ?_
                refine v_inc4 dX9_donor_122 rfl ?_
                refine v_goto (tgt := 8) dX9_donor_125 (by decide) ?_
                have e9 := mfd_1 (I := I) (d := d) ⟨h30, h41, Or.inl h52⟩ hf ((nI_ltI (by omega) (by omega)).mp h110)
                have h9 := ih (i + 1) (by omega)
                rw [e9] at h9
                rw [nI_1 i]
                exact h9 _ _
              · refine v_goto (tgt := 122) dX9_donor_113 (by decide) ?_
                refine v_inc4 dX9_donor_122 rfl ?_
                refine v_goto (tgt := 8) dX9_donor_125 (by decide) ?_
                have e9 := mfd_2 (I := I) (d := d) ⟨h30, h41, Or.inl h52⟩ hf (fun z => h110 ((nI_ltI (by omega) (by omega)).mpr z))
                have h9 := ih (i + 1) (by omega)
                rw [e9] at h9
                rw [nI_1 i]
                exact h9 _ _
            · refine v_ild1 dX9_donor_89 ?_
              refine v_ild4 dX9_donor_90 ?_
              refine v_isub dX9_donor_92 ?_
              refine v_goto (tgt := 100) dX9_donor_93 (by decide) ?_
              refine v_e0 (congrArg Value.int (dst_b h86 (by omega) (by omega))) ?_
              refine v_ist6 dX9_donor_100 rfl ?_
              refine v_ild5 dX9_donor_102 ?_
              refine v_if_eq (tgt := 122) dX9_donor_104 (by decide) (fun h104 => absurd h104 (by decide)) (fun h104 => ?_)
              refine v_ild6 dX9_donor_107 ?_
              refine v_ild3 dX9_donor_109 ?_
              refine v_icmp_lt (tgt := 116) dX9_donor_110 (by decide) (fun h110 => ?_) (fun h110 => ?_)
              · refine v_ild4 dX9_donor_116 ?_
                refine v_ist2 dX9_donor_118 rfl ?_
                refine v_ild6 dX9_donor_119 ?_
                refine v_ist3 dX9_donor_121 rfl ?_
                refine v_inc4 dX9_donor_122 rfl ?_
                refine v_goto (tgt := 8) dX9_donor_125 (by decide) ?_
                have e9 := mfd_1 (I := I) (d := d) ⟨h30, h41, Or.inl h52⟩ hf ((nI_ltI (by omega) (by omega)).mp h110)
                have h9 := ih (i + 1) (by omega)
                rw [e9] at h9
                rw [nI_1 i]
                exact h9 _ _
              · refine v_goto (tgt := 122) dX9_donor_113 (by decide) ?_
                refine v_inc4 dX9_donor_122 rfl ?_
                refine v_goto (tgt := 8) dX9_donor_125 (by decide) ?_
                have e9 := mfd_2 (I := I) (d := d) ⟨h30, h41, Or.inl h52⟩ hf (fun z => h110 ((nI_ltI (by omega) (by omega)).mpr z))
                have h9 := ih (i + 1) (by omega)
                rw [e9] at h9
                rw [nI_1 i]
                exact h9 _ _
          · refine v_ald0 dX9_donor_55 ?_
            refine v_getP (q := 45) dX9_donor_56 fl_X9_25 (by first | rfl | exact lay_door (by omega) | exact lay_dt (by omega) | exact lay_da (by omega) | exact lay_sh (by omega) | exact lay_se (by omega)) rfl (by omega) rfl ?_
            refine v_ild4 dX9_donor_59 ?_
            refine v_iald dX9_donor_61 (by first | rfl | exact lay_door (by omega) | exact lay_dt (by omega) | exact lay_da (by omega) | exact lay_sh (by omega) | exact lay_se (by omega)) (by omega) ⟨rfl, by omega, by decide⟩ ?_
            refine v_icN (n := 1) dX9_donor_62 (by decide) ?_
            refine v_icmp_ne (tgt := 80) dX9_donor_63 (by decide) (fun h63 => ?_) (fun h63 => ?_)
            · refine v_icN (n := 0) dX9_donor_80 (by decide) ?_
              refine v_ist5 dX9_donor_81 rfl ?_
              refine v_ild4 dX9_donor_83 ?_
              refine v_ild1 dX9_donor_85 ?_
              refine v_icmp_ge (tgt := 96) dX9_donor_86 (by decide) (fun h86 => ?_) (fun h86 => ?_)
              · refine v_ild4 dX9_donor_96 ?_
                refine v_ild1 dX9_donor_98 ?_
                refine v_isub dX9_donor_99 ?_
                refine v_e0 (congrArg Value.int (dst_a h86 (by omega) (by omega))) ?_
                refine v_ist6 dX9_donor_100 rfl ?_
                refine v_ild5 dX9_donor_102 ?_
                refine v_if_eq (tgt := 122) dX9_donor_104 (by decide) (fun h104 => ?_) (fun h104 => absurd (show nI 0 = 0 from rfl) h104)
                refine v_inc4 dX9_donor_122 rfl ?_
                refine v_goto (tgt := 8) dX9_donor_125 (by decide) ?_
                have e9 : mfd I d (i + 1) = mfd I d i := mfd_n (fun z => z.2.2.elim h52 (fun z => h63 z.1))
                have h9 := ih (i + 1) (by omega)
                rw [e9, hf] at h9
                rw [nI_1 i]
                exact h9 _ _
              · refine v_ild1 dX9_donor_89 ?_
                refine v_ild4 dX9_donor_90 ?_
                refine v_isub dX9_donor_92 ?_
                refine v_goto (tgt := 100) dX9_donor_93 (by decide) ?_
                refine v_e0 (congrArg Value.int (dst_b h86 (by omega) (by omega))) ?_
                refine v_ist6 dX9_donor_100 rfl ?_
                refine v_ild5 dX9_donor_102 ?_
                refine v_if_eq (tgt := 122) dX9_donor_104 (by decide) (fun h104 => ?_) (fun h104 => absurd (show nI 0 = 0 from rfl) h104)
                refine v_inc4 dX9_donor_122 rfl ?_
                refine v_goto (tgt := 8) dX9_donor_125 (by decide) ?_
                have e9 : mfd I d (i + 1) = mfd I d i := mfd_n (fun z => z.2.2.elim h52 (fun z => h63 z.1))
                have h9 := ih (i + 1) (by omega)
                rw [e9, hf] at h9
                rw [nI_1 i]
                exact h9 _ _
            · refine v_ald0 dX9_donor_66 ?_
              refine v_getP (q := 52) dX9_donor_67 fl_X9_46 (by first | rfl | exact lay_door (by omega) | exact lay_dt (by omega) | exact lay_da (by omega) | exact lay_sh (by omega) | exact lay_se (by omega)) rfl (by omega) rfl ?_
              refine v_ild4 dX9_donor_70 ?_
              refine v_zald dX9_donor_72 (by first | rfl | exact lay_door (by omega) | exact lay_dt (by omega) | exact lay_da (by omega) | exact lay_sh (by omega) | exact lay_se (by omega)) (by omega) ⟨rfl, by omega, by decide⟩ ?_
              refine v_if_ne (tgt := 80) dX9_donor_73 (by decide) (fun h73 => ?_) (fun h73 => ?_)
              · refine v_icN (n := 0) dX9_donor_80 (by decide) ?_
                refine v_ist5 dX9_donor_81 rfl ?_
                refine v_ild4 dX9_donor_83 ?_
                refine v_ild1 dX9_donor_85 ?_
                refine v_icmp_ge (tgt := 96) dX9_donor_86 (by decide) (fun h86 => ?_) (fun h86 => ?_)
                · refine v_ild4 dX9_donor_96 ?_
                  refine v_ild1 dX9_donor_98 ?_
                  refine v_isub dX9_donor_99 ?_
                  refine v_e0 (congrArg Value.int (dst_a h86 (by omega) (by omega))) ?_
                  refine v_ist6 dX9_donor_100 rfl ?_
                  refine v_ild5 dX9_donor_102 ?_
                  refine v_if_eq (tgt := 122) dX9_donor_104 (by decide) (fun h104 => ?_) (fun h104 => absurd (show nI 0 = 0 from rfl) h104)
                  refine v_inc4 dX9_donor_122 rfl ?_
                  refine v_goto (tgt := 8) dX9_donor_125 (by decide) ?_
                  have e9 : mfd I d (i + 1) = mfd I d i := mfd_n (fun z => z.2.2.elim h52 (fun z => h73 z.2))
                  have h9 := ih (i + 1) (by omega)
                  rw [e9, hf] at h9
                  rw [nI_1 i]
                  exact h9 _ _
                · refine v_ild1 dX9_donor_89 ?_
                  refine v_ild4 dX9_donor_90 ?_
                  refine v_isub dX9_donor_92 ?_
                  refine v_goto (tgt := 100) dX9_donor_93 (by decide) ?_
                  refine v_e0 (congrArg Value.int (dst_b h86 (by omega) (by omega))) ?_
                  refine v_ist6 dX9_donor_100 rfl ?_
                  refine v_ild5 dX9_donor_102 ?_
                  refine v_if_eq (tgt := 122) dX9_donor_104 (by decide) (fun h104 => ?_) (fun h104 => absurd (show nI 0 = 0 from rfl) h104)
                  refine v_inc4 dX9_donor_122 rfl ?_
                  refine v_goto (tgt := 8) dX9_donor_125 (by decide) ?_
                  have e9 : mfd I d (i + 1) = mfd I d i := mfd_n (fun z => z.2.2.elim h52 (fun z => h73 z.2))
                  have h9 := ih (i + 1) (by omega)
                  rw [e9, hf] at h9
                  rw [nI_1 i]
                  exact h9 _ _
              · refine v_icN (n := 1) dX9_donor_76 (by decide) ?_
                refine v_goto (tgt := 81) dX9_donor_77 (by decide) ?_
                refine v_ist5 dX9_donor_81 rfl ?_
                refine v_ild4 dX9_donor_83 ?_
                refine v_ild1 dX9_donor_85 ?_
                refine v_icmp_ge (tgt := 96) dX9_donor_86 (by decide) (fun h86 => ?_) (fun h86 => ?_)
                · refine v_ild4 dX9_donor_96 ?_
                  refine v_ild1 dX9_donor_98 ?_
                  refine v_isub dX9_donor_99 ?_
                  refine v_e0 (congrArg Value.int (dst_a h86 (by omega) (by omega))) ?_
                  refine v_ist6 dX9_donor_100 rfl ?_
                  refine v_ild5 dX9_donor_102 ?_
                  refine v_if_eq (tgt := 122) dX9_donor_104 (by decide) (fun h104 => absurd h104 (by decide)) (fun h104 => ?_)
                  refine v_ild6 dX9_donor_107 ?_
                  refine v_ild3 dX9_donor_109 ?_
                  refine v_icmp_lt (tgt := 116) dX9_donor_110 (by decide) (fun h110 => ?_) (fun h110 => ?_)
                  · refine v_ild4 dX9_donor_116 ?_
                    refine v_ist2 dX9_donor_118 rfl ?_
                    refine v_ild6 dX9_donor_119 ?_
                    refine v_ist3 dX9_donor_121 rfl ?_
                    refine v_inc4 dX9_donor_122 rfl ?_
                    refine v_goto (tgt := 8) dX9_donor_125 (by decide) ?_
                    have e9 := mfd_1 (I := I) (d := d) ⟨h30, h41, Or.inr ⟨h63, h73⟩⟩ hf ((nI_ltI (by omega) (by omega)).mp h110)
                    have h9 := ih (i + 1) (by omega)
                    rw [e9] at h9
                    rw [nI_1 i]
                    exact h9 _ _
                  · refine v_goto (tgt := 122) dX9_donor_113 (by decide) ?_
                    refine v_inc4 dX9_donor_122 rfl ?_
                    refine v_goto (tgt := 8) dX9_donor_125 (by decide) ?_
                    have e9 := mfd_2 (I := I) (d := d) ⟨h30, h41, Or.inr ⟨h63, h73⟩⟩ hf (fun z => h110 ((nI_ltI (by omega) (by omega)).mpr z))
                    have h9 := ih (i + 1) (by omega)
                    rw [e9] at h9
                    rw [nI_1 i]
                    exact h9 _ _
                · refine v_ild1 dX9_donor_89 ?_
                  refine v_ild4 dX9_donor_90 ?_
                  refine v_isub dX9_donor_92 ?_
                  refine v_goto (tgt := 100) dX9_donor_93 (by decide) ?_
                  refine v_e0 (congrArg Value.int (dst_b h86 (by omega) (by omega))) ?_
                  refine v_ist6 dX9_donor_100 rfl ?_
                  refine v_ild5 dX9_donor_102 ?_
                  refine v_if_eq (tgt := 122) dX9_donor_104 (by decide) (fun h104 => absurd h104 (by decide)) (fun h104 => ?_)
                  refine v_ild6 dX9_donor_107 ?_
                  refine v_ild3 dX9_donor_109 ?_
                  refine v_icmp_lt (tgt := 116) dX9_donor_110 (by decide) (fun h110 => ?_) (fun h110 => ?_)
                  · refine v_ild4 dX9_donor_116 ?_
                    refine v_ist2 dX9_donor_118 rfl ?_
                    refine v_ild6 dX9_donor_119 ?_
                    refine v_ist3 dX9_donor_121 rfl ?_
                    refine v_inc4 dX9_donor_122 rfl ?_
                    refine v_goto (tgt := 8) dX9_donor_125 (by decide) ?_
                    have e9 := mfd_1 (I := I) (d := d) ⟨h30, h41, Or.inr ⟨h63, h73⟩⟩ hf ((nI_ltI (by omega) (by omega)).mp h110)
                    have h9 := ih (i + 1) (by omega)
                    rw [e9] at h9
                    rw [nI_1 i]
                    exact h9 _ _
                  · refine v_goto (tgt := 122) dX9_donor_113 (by decide) ?_
                    refine v_inc4 dX9_donor_122 rfl ?_
                    refine v_goto (tgt := 8) dX9_donor_125 (by decide) ?_
                    have e9 := mfd_2 (I := I) (d := d) ⟨h30, h41, Or.inr ⟨h63, h73⟩⟩ hf (fun z => h110 ((nI_ltI (by omega) (by omega)).mpr z))
                    have h9 := ih (i + 1) (by omega)
                    rw [e9] at h9
                    rw [nI_1 i]
                    exact h9 _ _

set_option maxRecDepth 4000 in
theorem c_X9_donor {G : GG} {dc : Nat} {I : Nat → Nat → Int32} {L : Nat → Nat → Int64} {b : Int32} {d : Nat} (hW : Wm dc I) (hb : b = nI d) (hd : d < dc) : Cn G yX9_donor cX9_donor 7 (some .int) 0 0 0 [.ref 39, .int b] (Mm dc I L) (Is (some (.int (oN (mfd I d dc)))) (Mm dc I L)) := by
  subst hb
  refine Cn.of' (by decide) (Nat.le_of_ble_eq_true rfl) rfl ?_
  refine v_icm1 dX9_donor_0 ?_
  refine v_ist2 dX9_donor_1 rfl ?_
  refine v_bipush (v := nI 100) dX9_donor_2 (by decide) ?_
  refine v_ist3 dX9_donor_4 rfl ?_
  refine v_icN (n := 0) dX9_donor_5 (by decide) ?_
  refine v_ist4 dX9_donor_6 rfl ?_
  exact lp_don hW hd dc 0 (by omega) _ _

/-- the heads that a door is filled with -/
abbrev mun (I : Nat → Nat → Int32) (e k : Nat) : Bool := decide (I 53 (12 * e + k) = 0)
abbrev mga (I : Nat → Nat → Int32) (e k : Nat) : Int32 := I 47 (12 * e + k)
def mgS (I : Nat → Nat → Int32) (d e i : Nat) : Nat → Nat → Int32 := u2 (gr2 (rtI I d (nI 4) (nI 0)) 47 (12 * d) (ct (mun I e) i) (gaf (mun I e) (mga I e) i)) 46 d (nI (ct (mun I e) i))
def mtI (I : Nat → Nat → Int32) (d e : Nat) : Nat → Nat → Int32 := u2 (u2 (mgS I d e (mny I e)) 49 e (I 49 e + nI 1)) 50 d (nI e)
def mfI (dc : Nat) (I : Nat → Nat → Int32) (d : Nat) : Nat → Nat → Int32 := match mfd I d dc with
  | none => I
  | some e => mtI I d e
def mfl (dc : Nat) (I : Nat → Nat → Int32) : Nat → Nat → Nat → Int32
  | 0 => I
  | d + 1 => if mfl dc I d 45 d = 0 then mfI dc (mfl dc I d) d else mfl dc I d
def pMf (dc : Nat) (I : Nat → Nat → Int32) (d : Nat) : Bool := decide (mfl dc I d 45 d = 0 ∧ (mfd (mfl dc I d) d dc).isSome = true)
theorem gr2_s' {α : Type} (f : Nat → Nat → α) (a b m : Nat) (g g' : Nat → α) {v : α} (hv : v = g' m) (hg : ∀ j, j < m → g j = g' j) : u2 (gr2 f a b m g) a (b + m) v = gr2 f a b (m + 1) g' := by
  have e : gr2 f a b m g = gr2 f a b m g' := by
    funext x j
    unfold gr2
    by_cases h : x = a ∧ b ≤ j ∧ j < b + m
    · rw [if_pos h, if_pos h, hg _ (by omega)]
    · rw [if_neg h, if_neg h]
  rw [e]
  exact gr2_s f a b m g' hv
theorem u2_c {α : Type} (f : Nat → Nat → α) {a a' : Nat} (k k' : Nat) (v v' : α) (h : a ≠ a') : u2 (u2 f a k v) a' k' v' = u2 (u2 f a' k' v') a k v := by
  funext x j
  unfold u2
  by_cases h1 : x = a
  · subst h1
    have : ¬ (x = a' ∧ j = k') := fun q => h q.1
    simp only [if_neg this]
  · have : ∀ z, ¬ (x = a ∧ z = k) := fun z q => h1 q.1
    simp only [if_neg (this _)]
theorem u2_u {α : Type} (f : Nat → Nat → α) (a k : Nat) (v v' : α) : u2 (u2 f a k v) a k v' = u2 f a k v' := by
  funext x j
  unfold u2
  by_cases h : x = a ∧ j = k
  · rw [if_pos h, if_pos h]
  · rw [if_neg h, if_neg h, if_neg h]
theorem rtI_47 (I : Nat → Nat → Int32) {d : Nat} (w n : Int32) {j : Nat} (h : ¬ (12 * d ≤ j ∧ j < 12 * d + 12)) : rtI I d w n 47 j = I 47 j := by
  unfold rtI
  rw [gr2_o _ _ _ (by decide), gr2_b _ _ h, u2_a _ _ _ _ (by decide), u2_a _ _ _ _ (by decide), u2_a _ _ _ _ (by decide)]
theorem rtI_53 (I : Nat → Nat → Int32) {d : Nat} (w n : Int32) {j : Nat} (h : ¬ (12 * d ≤ j ∧ j < 12 * d + 12)) : rtI I d w n 53 j = I 53 j := by
  unfold rtI
  rw [gr2_b _ _ h, gr2_o _ _ _ (by decide), u2_a _ _ _ _ (by decide), u2_a _ _ _ _ (by decide), u2_a _ _ _ _ (by decide)]
theorem rtI_46 (I : Nat → Nat → Int32) {d : Nat} (w n : Int32) {j : Nat} (h : j ≠ d) : rtI I d w n 46 j = I 46 j := by
  unfold rtI
  rw [gr2_o _ _ _ (by decide), gr2_o _ _ _ (by decide), u2_a _ _ _ _ (by decide), u2_k _ _ _ _ h, u2_a _ _ _ _ (by decide)]
theorem rtI_46s (I : Nat → Nat → Int32) (d : Nat) (w n : Int32) : rtI I d w n 46 d = n := by
  unfold rtI
  rw [gr2_o _ _ _ (by decide), gr2_o _ _ _ (by decide), u2_a _ _ _ _ (by decide), u2_s]
section MG
variable {I : Nat → Nat → Int32} {d e i : Nat}
theorem mgS_d : mgS I d e i 46 d = nI (ct (mun I e) i) := u2_s _ _ _ _
theorem mgS_e (h : e ≠ d) : mgS I d e i 46 e = I 46 e := by
  unfold mgS
  rw [u2_k _ _ _ _ h, gr2_o _ _ _ (by decide), rtI_46 _ _ _ h]
theorem mgS_47 {k : Nat} (h : e ≠ d) (hk : k < 12) (hi : i ≤ 12) : mgS I d e i 47 (12 * e + k) = I 47 (12 * e + k) := by
  have := ct_le (mun I e) i
  unfold mgS
  rw [u2_a _ _ _ _ (by decide), gr2_b _ _ (by omega), rtI_47 _ _ _ (by omega)]
theorem mgS_53 {k : Nat} (h : e ≠ d) (hk : k < 12) : mgS I d e i 53 (12 * e + k) = I 53 (12 * e + k) := by
  unfold mgS
  rw [u2_a _ _ _ _ (by decide), gr2_o _ _ _ (by decide), rtI_53 _ _ _ (by omega)]
theorem mgS_o {x : Nat} (j : Nat) (h1 : x ≠ 45) (h2 : x ≠ 46) (h3 : x ≠ 52) (h4 : x ≠ 47) (h5 : x ≠ 53) : mgS I d e i x j = I x j := by
  unfold mgS
  rw [u2_a _ _ _ _ h2, gr2_o _ _ _ h4, rtI_o _ _ _ _ h1 h2 h3 h4 h5]
theorem mgS_t (h : mun I e i = true) (hed : e ≠ d) (hi : i < 12) {v w : Int32} (hv : v = I 47 (12 * e + i)) (hw : w = nI (ct (mun I e) i + 1)) : u2 (u2 (mgS I d e i) 47 (12 * d + ct (mun I e) i) v) 46 d w = mgS I d e (i + 1) := by
  unfold mgS
  rw [u2_c (a := 46) (a' := 47) _ _ _ _ _ (by decide), u2_u, gr2_s' _ _ _ _ _ (gaf (mun I e) (mga I e) (i + 1)) (by rw [gaf_t h]; exact hv.trans (if_pos rfl).symm) (fun j hj => by rw [gaf_t h]; exact (if_neg (by omega)).symm), ct_t h, hw]
theorem mgS_0 : mgS I d e 0 = rtI I d (nI 4) (nI 0) := by
  unfold mgS
  rw [show ct (mun I e) 0 = 0 from rfl, gr2_0]
  exact u2_id _ _ _ (rtI_46s I d (nI 4) (nI 0))
theorem mgS_f (h : mun I e i = false) : mgS I d e i = mgS I d e (i + 1) := by
  unfold mgS
  rw [gaf_f h, ct_f h]
end MG

set_option maxRecDepth 4000 in
theorem lp_fli {G : GG} {dc : Nat} {I : Nat → Nat → Int32} {L : Nat → Nat → Int64} {d e : Nat} {f0 : Int32} {Q : Option Value → Mem → Prop} (hd : d < 24) (he : e < 24) (hed : e ≠ d) (hm : rg (I 46 e) 12) (hk : V G yX9_fill cX9_fill 5 (some .int) 1 0 0 140 [.ref 39, .int f0, .int (nI d), .int (nI e), .int (nI (mny I e))] [] (Mm dc (mgS I d e (mny I e)) L) Q) (k : Nat) : ∀ i, i + k = mny I e → V G yX9_fill cX9_fill 5 (some .int) 1 0 0 67 [.ref 39, .int f0, .int (nI d), .int (nI e), .int (nI i)] [] (Mm dc (mgS I d e i) L) Q := by
  induction k with
  | zero =>
    intro i hi
    have hcl := ct_le (mun I e) i
    have hm2 : mny I e ≤ 12 := hm.2
    have hm1 : I 46 e = nI (mny I e) := hm.1
    refine v_ild4 dX9_fill_67 ?_
    refine v_ald0 dX9_fill_69 ?_
    refine v_getP (q := 46) dX9_fill_70 fl_X9_28 (by first | rfl | exact lay_door (by omega) | exact lay_dt (by omega) | exact lay_da (by omega) | exact lay_sh (by omega) | exact lay_se (by omega)) rfl (by omega) rfl ?_
    refine v_ild3 dX9_fill_73 ?_
    refine v_iald dX9_fill_74 (by first | rfl | exact lay_door (by omega) | exact lay_dt (by omega) | exact lay_da (by omega) | exact lay_sh (by omega) | exact lay_se (by omega)) (by omega) ⟨rfl, by omega, by decide⟩ ?_
    refine v_e0 (congrArg Value.int ((mgS_e hed).trans hm1)) ?_
    refine v_icmp_ge (tgt := 140) dX9_fill_75 (by decide) (fun h75 => ?_) (fun h75 => absurd (nI_le (by omega) (by omega)) h75)
    obtain rfl : i = mny I e := by omega
    exact hk
  | succ k ih =>
    intro i hi
    have hcl := ct_le (mun I e) i
    have hm2 : mny I e ≤ 12 := hm.2
    have hm1 : I 46 e = nI (mny I e) := hm.1
    refine v_ild4 dX9_fill_67 ?_
    refine v_ald0 dX9_fill_69 ?_
    refine v_getP (q := 46) dX9_fill_70 fl_X9_28 (by first | rfl | exact lay_door (by omega) | exact lay_dt (by omega) | exact lay_da (by omega) | exact lay_sh (by omega) | exact lay_se (by omega)) rfl (by omega) rfl ?_
    refine v_ild3 dX9_fill_73 ?_
    refine v_iald dX9_fill_74 (by first | rfl | exact lay_door (by omega) | exact lay_dt (by omega) | exact lay_da (by omega) | exact lay_sh (by omega) | exact lay_se (by omega)) (by omega) ⟨rfl, by omega, by decide⟩ ?_
    refine v_e0 (congrArg Value.int ((mgS_e hed).trans hm1)) ?_
    refine v_icmp_ge (tgt := 140) dX9_fill_75 (by decide) (fun h75 => absurd h75 (nI_ge (by omega) (by omega))) (fun h75 => ?_)
    refine v_ald0 dX9_fill_78 ?_
    refine v_getP (q := 53) dX9_fill_79 fl_X9_50 (by first | rfl | exact lay_door (by omega) | exact lay_dt (by omega) | exact lay_da (by omega) | exact lay_sh (by omega) | exact lay_se (by omega)) rfl (by omega) rfl ?_
    refine v_bipush (v := nI 12) dX9_fill_82 (by decide) ?_
    refine v_ild3 dX9_fill_84 ?_
    refine v_imul dX9_fill_85 ?_
    refine v_ild4 dX9_fill_86 ?_
    refine v_iadd dX9_fill_88 ?_
    refine v_zald dX9_fill_89 (by first | rfl | exact lay_door (by omega) | exact lay_dt (by omega) | exact lay_da (by omega) | exact lay_sh (by omega) | exact lay_se (by omega)) (by omega) (ix_mul rfl rfl (by omega) (by decide)) ?_
    refine v_if_eq (tgt := 96) dX9_fill_90 (by decide) (fun h90 => ?_) (fun h90 => ?_)
    · refine v_ald0 dX9_fill_96 ?_
      refine v_getP (q := 47) dX9_fill_97 fl_X9_31 (by first | rfl | exact lay_door (by omega) | exact lay_dt (by omega) | exact lay_da (by omega) | exact lay_sh (by omega) | exact lay_se (by omega)) rfl (by omega) rfl ?_
      refine v_bipush (v := nI 12) dX9_fill_100 (by decide) ?_
      refine v_ild2 dX9_fill_102 ?_
      refine v_imul dX9_fill_103 ?_
      refine v_ald0 dX9_fill_104 ?_
      refine v_getP (q := 46) dX9_fill_105 fl_X9_28 (by first | rfl | exact lay_door (by omega) | exact lay_dt (by omega) | exact lay_da (by omega) | exact lay_sh (by omega) | exact lay_se (by omega)) rfl (by omega) rfl ?_
      refine v_ild2 dX9_fill_108 ?_
      refine v_iald dX9_fill_109 (by first | rfl | exact lay_door (by omega) | exact lay_dt (by omega) | exact lay_da (by omega) | exact lay_sh (by omega) | exact lay_se (by omega)) (by omega) ⟨rfl, by omega, by decide⟩ ?_
      refine v_e0 (congrArg Value.int mgS_d) ?_
      refine v_iadd dX9_fill_110 ?_
      refine v_ald0 dX9_fill_111 ?_
      refine v_getP (q := 47) dX9_fill_112 fl_X9_31 (by first | rfl | exact lay_door (by omega) | exact lay_dt (by omega) | exact lay_da (by omega) | exact lay_sh (by omega) | exact lay_se (by omega)) rfl (by omega) rfl ?_
      refine v_bipush (v := nI 12) dX9_fill_115 (by decide) ?_
      refine v_ild3 dX9_fill_117 ?_
      refine v_imul dX9_fill_118 ?_
      refine v_ild4 dX9_fill_119 ?_
      refine v_iadd dX9_fill_121 ?_
      refine v_iald dX9_fill_122 (by first | rfl | exact lay_door (by omega) | exact lay_dt (by omega) | exact lay_da (by omega) | exact lay_sh (by omega) | exact lay_se (by omega)) (by omega) (ix_mul rfl rfl (by omega) (by decide)) ?_
      refine v_iast dX9_fill_123 (by first | rfl | exact lay_door (by omega) | exact lay_dt (by omega) | exact lay_da (by omega) | exact lay_sh (by omega) | exact lay_se (by omega)) (by omega) (ix_mul rfl rfl (by omega) (by decide)) ?_
      refine v_ald0 dX9_fill_124 ?_
      refine v_getP (q := 46) dX9_fill_125 fl_X9_28 (by first | rfl | exact lay_door (by omega) | exact lay_dt (by omega) | exact lay_da (by omega) | exact lay_sh (by omega) | exact lay_se (by omega)) rfl (by omega) rfl ?_
      refine v_ild2 dX9_fill_128 ?_
      refine v_dup2 dX9_fill_129 ?_
      refine v_iald dX9_fill_130 (by first | rfl | exact lay_door (by omega) | exact lay_dt (by omega) | exact lay_da (by omega) | exact lay_sh (by omega) | exact lay_se (by omega)) (by omega) ⟨rfl, by omega, by decide⟩ ?_
      refine v_icN (n := 1) dX9_fill_131 (by decide) ?_
      refine v_iadd dX9_fill_132 ?_
      refine v_iast dX9_fill_133 (by first | rfl | exact lay_door (by omega) | exact lay_dt (by omega) | exact lay_da (by omega) | exact lay_sh (by omega) | exact lay_se (by omega)) (by omega) ⟨rfl, by omega, by decide⟩ ?_
      refine v_inc4 dX9_fill_134 rfl ?_
      refine v_goto (tgt := 67) dX9_fill_137 (by decide) ?_
      rw [mgS_t (decide_eq_true ((mgS_53 hed (by omega)).symm.trans h90)) hed (by omega) (mgS_47 hed (by omega) (by omega)) (by rw [u2_a _ _ _ _ (by decide), mgS_d, nI_add]), nI_1 i]
      exact ih (i + 1) (by omega)
    · refine v_goto (tgt := 134) dX9_fill_93 (by decide) ?_
      refine v_inc4 dX9_fill_134 rfl ?_
      refine v_goto (tgt := 67) dX9_fill_137 (by decide) ?_
      rw [mgS_f (decide_eq_false (fun z => h90 ((mgS_53 hed (by omega)).trans z))), nI_1 i]
      exact ih (i + 1) (by omega)

theorem Wm_mt {dc : Nat} {I : Nat → Nat → Int32} (hW : Wm dc I) {d e : Nat} (hed : e ≠ d) (hd : d < dc) (he : e < dc) : Wm dc (mtI I d e) := by
  have ho : ∀ {x : Nat} (j : Nat), x ≠ 45 → x ≠ 46 → x ≠ 52 → x ≠ 47 → x ≠ 53 → x ≠ 49 → x ≠ 50 → mtI I d e x j = I x j := fun {x} j h1 h2 h3 h4 h5 h6 h7 => by
    unfold mtI
    rw [u2_a _ _ _ _ h7, u2_a _ _ _ _ h6, mgS_o _ h1 h2 h3 h4 h5]
  obtain ⟨h1, h2, h3, h4⟩ := hW
  have hme : mny I e ≤ 12 := (h4 e he).2.2.2.2
  refine ⟨h1, (ho 17 (by decide) (by decide) (by decide) (by decide) (by decide) (by decide) (by decide)).trans h2, fun s hs => ?_, fun q hq => ?_⟩
  · rw [ho s (by decide) (by decide) (by decide) (by decide) (by decide) (by decide) (by decide), ho s (by decide) (by decide) (by decide) (by decide) (by decide) (by decide) (by decide), ho s (by decide) (by decide) (by decide) (by decide) (by decide) (by decide) (by decide)]
    exact h3 s hs
  · rw [ho q (by decide) (by decide) (by decide) (by decide) (by decide) (by decide) (by decide), ho q (by decide) (by decide) (by decide) (by decide) (by decide) (by decide) (by decide), ho q (by decide) (by decide) (by decide) (by decide) (by decide) (by decide) (by decide)]
    refine ⟨(h4 q hq).1, (h4 q hq).2.1, (h4 q hq).2.2.1, ?_⟩
    unfold mtI
    rw [u2_a _ _ _ _ (by decide), u2_a _ _ _ _ (by decide)]
    by_cases hqd : q = d
    · subst hqd
      rw [mgS_d]
      have := ct_le (mun I e) (mny I e)
      exact ⟨by rw [tn_nI (by omega)], by rw [tn_nI (by omega)]; omega⟩
    · unfold mgS
      rw [u2_k _ _ _ _ hqd, gr2_o _ _ _ (by decide), rtI_46 _ _ _ hqd]
      exact (h4 q hq).2.2.2
theorem mfd_ne {dc : Nat} {I : Nat → Nat → Int32} {d e : Nat} (h : mfd I d dc = some e) (h0 : I 45 d = 0) : e ≠ d := fun q => by
  subst q
  rcases (mfd_s h).2.2.2 with z | z
  · exact absurd (h0.symm.trans z) (by decide)
  · exact absurd (h0.symm.trans z.1) (by decide)
theorem Wm_fl {dc : Nat} {I : Nat → Nat → Int32} (hW : Wm dc I) : ∀ d, d ≤ dc → Wm dc (mfl dc I d)
  | 0, _ => hW
  | d + 1, h => by
    have ih := Wm_fl hW d (by omega)
    simp only [mfl]
    split
    · rename_i h0
      unfold mfI
      split
      · exact ih
      · rename_i e he
        exact Wm_mt ih (mfd_ne he h0) (by omega) (mfd_s he).1
    · exact ih

set_option maxRecDepth 4000 in
theorem lp_flo {G : GG} {dc : Nat} {I : Nat → Nat → Int32} {L : Nat → Nat → Int64} (hW : Wm dc I) (k : Nat) : ∀ i, i + k = dc → ∀ u v : Value, V G yX9_fill cX9_fill 5 (some .int) 1 0 0 23 [.ref 39, .int (nI (ct (pMf dc I) i)), .int (nI i), u, v] [] (Mm dc (mfl dc I i) L) (Is (some (.int (nI (ct (pMf dc I) dc)))) (Mm dc (mfl dc I dc) L)) := by
  induction k with
  | zero =>
    intro i hi u v
    have hc9 := hW.1
    have hWi := Wm_fl hW i (by omega)
    refine v_ild2 dX9_fill_23 ?_
    refine v_ald0 dX9_fill_24 ?_
    refine v_getI dX9_fill_25 fl_X9_139 (by first | rfl | exact lay_door (by omega) | exact lay_dt (by omega) | exact lay_da (by omega) | exact lay_sh (by omega) | exact lay_se (by omega)) rfl (by omega) ?_
    refine v_icmp_ge (tgt := 166) dX9_fill_28 (by decide) (fun h28 => ?_) (fun h28 => absurd (by rw [hWi.2.1]; exact nI_le (by omega) (by omega)) h28)
    refine v_ild1 dX9_fill_166 ?_
    exact v_retI dX9_fill_167 trivial (by rw [show i = dc by omega]; exact ⟨rfl, rfl⟩)
  | succ k ih =>
    intro i hi u v
    have hc9 := hW.1
    have hWi := Wm_fl hW i (by omega)
    cases hf : mfd (mfl dc I i) i dc with
    | none =>
      refine v_ild2 dX9_fill_23 ?_
      refine v_ald0 dX9_fill_24 ?_
      refine v_getI dX9_fill_25 fl_X9_139 (by first | rfl | exact lay_door (by omega) | exact lay_dt (by omega) | exact lay_da (by omega) | exact lay_sh (by omega) | exact lay_se (by omega)) rfl (by omega) ?_
      refine v_icmp_ge (tgt := 166) dX9_fill_28 (by decide) (fun h28 => absurd h28 (by rw [hWi.2.1]; exact nI_ge (by omega) (by omega))) (fun h28 => ?_)
      refine v_ald0 dX9_fill_31 ?_
      refine v_getP (q := 45) dX9_fill_32 fl_X9_25 (by first | rfl | exact lay_door (by omega) | exact lay_dt (by omega) | exact lay_da (by omega) | exact lay_sh (by omega) | exact lay_se (by omega)) rfl (by omega) rfl ?_
      refine v_ild2 dX9_fill_35 ?_
      refine v_iald dX9_fill_36 (by first | rfl | exact lay_door (by omega) | exact lay_dt (by omega) | exact lay_da (by omega) | exact lay_sh (by omega) | exact lay_se (by omega)) (by omega) ⟨rfl, by omega, by decide⟩ ?_
      refine v_if_ne (tgt := 48) dX9_fill_37 (by decide) (fun h37 => ?_) (fun h37 => ?_)
      · refine v_icm1 dX9_fill_48 ?_
        refine v_ist3 dX9_fill_49 rfl ?_
        refine v_ild3 dX9_fill_50 ?_
        refine v_if_ge (tgt := 57) dX9_fill_51 (by decide) (fun h51 => absurd h51 (by decide)) (fun h51 => ?_)
        refine v_goto (tgt := 160) dX9_fill_54 (by decide) ?_
        refine v_inc2 dX9_fill_160 rfl ?_
        refine v_goto (tgt := 23) dX9_fill_163 (by decide) ?_
        have e9 : mfl dc I (i + 1) = mfl dc I i := if_neg h37
        have ep : pMf dc I i = false := decide_eq_false (fun z => h37 z.1)
        have h9 := ih (i + 1) (by omega)
        rw [e9, ct_f ep] at h9
        rw [nI_1 i]
        exact h9 _ _
      · refine v_ald0 dX9_fill_40 ?_
        refine v_ild2 dX9_fill_41 ?_
        refine v_V1 (c_X9_donor hWi rfl (by omega)) lk_X9_211 dX9_fill_42 (by decide) (Nat.le_of_ble_eq_true rfl) (by first | rfl | exact lay_door (by omega) | exact lay_dt (by omega) | exact lay_da (by omega) | exact lay_sh (by omega) | exact lay_se (by omega)) (show _ < 78 + 3 * _ by omega) ?_
        refine v_e0 (congrArg Value.int (show _ = -1 by rw [hf]; rfl)) ?_
        refine v_goto (tgt := 49) dX9_fill_45 (by decide) ?_
        refine v_ist3 dX9_fill_49 rfl ?_
        refine v_ild3 dX9_fill_50 ?_
        refine v_if_ge (tgt := 57) dX9_fill_51 (by decide) (fun h51 => absurd h51 (by decide)) (fun h51 => ?_)
        refine v_goto (tgt := 160) dX9_fill_54 (by decide) ?_
        refine v_inc2 dX9_fill_160 rfl ?_
        refine v_goto (tgt := 23) dX9_fill_163 (by decide) ?_
        have e9 : mfl dc I (i + 1) = mfl dc I i := by simp only [mfl, mfI, hf]; exact if_pos h37
        have ep : pMf dc I i = false := decide_eq_false (fun z => by rw [hf] at z; exact absurd z.2 (by decide))
        have h9 := ih (i + 1) (by omega)
        rw [e9, ct_f ep] at h9
        rw [nI_1 i]
        exact h9 _ _
    | some q =>
      refine v_ild2 dX9_fill_23 ?_
      refine v_ald0 dX9_fill_24 ?_
      refine v_getI dX9_fill_25 fl_X9_139 (by first | rfl | exact lay_door (by omega) | exact lay_dt (by omega) | exact lay_da (by omega) | exact lay_sh (by omega) | exact lay_se (by omega)) rfl (by omega) ?_
      refine v_icmp_ge (tgt := 166) dX9_fill_28 (by decide) (fun h28 => absurd h28 (by rw [hWi.2.1]; exact nI_ge (by omega) (by omega))) (fun h28 => ?_)
      refine v_ald0 dX9_fill_31 ?_
      refine v_getP (q := 45) dX9_fill_32 fl_X9_25 (by first | rfl | exact lay_door (by omega) | exact lay_dt (by omega) | exact lay_da (by omega) | exact lay_sh (by omega) | exact lay_se (by omega)) rfl (by omega) rfl ?_
      refine v_ild2 dX9_fill_35 ?_
      refine v_iald dX9_fill_36 (by first | rfl | exact lay_door (by omega) | exact lay_dt (by omega) | exact lay_da (by omega) | exact lay_sh (by omega) | exact lay_se (by omega)) (by omega) ⟨rfl, by omega, by decide⟩ ?_
      refine v_if_ne (tgt := 48) dX9_fill_37 (by decide) (fun h37 => ?_) (fun h37 => ?_)
      · refine v_icm1 dX9_fill_48 ?_
        refine v_ist3 dX9_fill_49 rfl ?_
        refine v_ild3 dX9_fill_50 ?_
        refine v_if_ge (tgt := 57) dX9_fill_51 (by decide) (fun h51 => absurd h51 (by decide)) (fun h51 => ?_)
        refine v_goto (tgt := 160) dX9_fill_54 (by decide) ?_
        refine v_inc2 dX9_fill_160 rfl ?_
        refine v_goto (tgt := 23) dX9_fill_163 (by decide) ?_
        have e9 : mfl dc I (i + 1) = mfl dc I i := if_neg h37
        have ep : pMf dc I i = false := decide_eq_false (fun z => h37 z.1)
        have h9 := ih (i + 1) (by omega)
        rw [e9, ct_f ep] at h9
        rw [nI_1 i]
        exact h9 _ _
      · refine v_ald0 dX9_fill_40 ?_
        refine v_ild2 dX9_fill_41 ?_
        refine v_V1 (c_X9_donor hWi rfl (by omega)) lk_X9_211 dX9_fill_42 (by decide) (Nat.le_of_ble_eq_true rfl) (by first | rfl | exact lay_door (by omega) | exact lay_dt (by omega) | exact lay_da (by omega) | exact lay_sh (by omega) | exact lay_se (by omega)) (show _ < 78 + 3 * _ by omega) ?_
        refine v_e0 (congrArg Value.int (show _ = nI q by rw [hf]; rfl)) ?_
        refine v_goto (tgt := 49) dX9_fill_45 (by decide) ?_
        refine v_ist3 dX9_fill_49 rfl ?_
        refine v_ild3 dX9_fill_50 ?_
        refine v_if_ge (tgt := 57) dX9_fill_51 (by decide) (fun h51 => ?_) (fun h51 => absurd (nI_pos' (by have := (mfd_s hf).1; omega)) h51)
        refine v_ald0 dX9_fill_57 ?_
        refine v_ild2 dX9_fill_58 ?_
        refine v_icN (n := 4) dX9_fill_59 (by decide) ?_
        refine v_icN (n := 0) dX9_fill_60 (by decide) ?_
        refine v_V3n (c_X9_returns rfl (by omega)) lk_X9_199 dX9_fill_61 (by decide) (Nat.le_of_ble_eq_true rfl) (by first | rfl | exact lay_door (by omega) | exact lay_dt (by omega) | exact lay_da (by omega) | exact lay_sh (by omega) | exact lay_se (by omega)) (show _ < 78 + 3 * _ by omega) ?_
        refine v_icN (n := 0) dX9_fill_64 (by decide) ?_
        refine v_ist4 dX9_fill_65 rfl ?_
        have hed := mfd_ne hf h37
        have he9 := (mfd_s hf).1
        rw [show rtI (mfl dc I i) i (nI 4) (nI 0) = mgS (mfl dc I i) i q 0 from mgS_0.symm]
        refine lp_fli (I := mfl dc I i) (by omega) (by omega) hed (hWi.2.2.2 q he9).2.2.2 ?_ _ 0 (Nat.zero_add _)
        refine v_ald0 dX9_fill_140 ?_
        refine v_getP (q := 49) dX9_fill_141 fl_X9_37 (by first | rfl | exact lay_door (by omega) | exact lay_dt (by omega) | exact lay_da (by omega) | exact lay_sh (by omega) | exact lay_se (by omega)) rfl (by omega) rfl ?_
        refine v_ild3 dX9_fill_144 ?_
        refine v_dup2 dX9_fill_145 ?_
        refine v_iald dX9_fill_146 (by first | rfl | exact lay_door (by omega) | exact lay_dt (by omega) | exact lay_da (by omega) | exact lay_sh (by omega) | exact lay_se (by omega)) (by omega) ⟨rfl, by omega, by decide⟩ ?_
        refine v_icN (n := 1) dX9_fill_147 (by decide) ?_
        refine v_iadd dX9_fill_148 ?_
        refine v_iast dX9_fill_149 (by first | rfl | exact lay_door (by omega) | exact lay_dt (by omega) | exact lay_da (by omega) | exact lay_sh (by omega) | exact lay_se (by omega)) (by omega) ⟨rfl, by omega, by decide⟩ ?_
        refine v_ald0 dX9_fill_150 ?_
        refine v_getP (q := 50) dX9_fill_151 fl_X9_40 (by first | rfl | exact lay_door (by omega) | exact lay_dt (by omega) | exact lay_da (by omega) | exact lay_sh (by omega) | exact lay_se (by omega)) rfl (by omega) rfl ?_
        refine v_ild2 dX9_fill_154 ?_
        refine v_ild3 dX9_fill_155 ?_
        refine v_iast dX9_fill_156 (by first | rfl | exact lay_door (by omega) | exact lay_dt (by omega) | exact lay_da (by omega) | exact lay_sh (by omega) | exact lay_se (by omega)) (by omega) ⟨rfl, by omega, by decide⟩ ?_
        refine v_inc1 dX9_fill_157 rfl ?_
        refine v_inc2 dX9_fill_160 rfl ?_
        refine v_goto (tgt := 23) dX9_fill_163 (by decide) ?_
        have e9 : mfl dc I (i + 1) = mtI (mfl dc I i) i q := by simp only [mfl, mfI, hf]; exact if_pos h37
        have ep : pMf dc I i = true := decide_eq_true ⟨h37, by rw [hf]; rfl⟩
        have h9 := ih (i + 1) (by omega)
        rw [e9, ct_t ep] at h9
        unfold mtI at h9
        rw [mgS_o _ (by decide) (by decide) (by decide) (by decide) (by decide), nI_1 i, nI_1 (ct (pMf dc I) i)]
        exact h9 _ _

def mFil (I : Nat → Nat → Int32) : Nat := if I 39 22 = 0 then 0 else 6

set_option maxRecDepth 4000 in
theorem c_X9_fill {G : GG} {dc : Nat} {I : Nat → Nat → Int32} {L : Nat → Nat → Int64} (hW : Wm dc I) : Cn G yX9_fill cX9_fill 5 (some .int) 1 0 0 [.ref 39] (Mm dc I L) (Is (some (.int (oR (mFil I) (nI (ct (pMf dc (u2 I 39 22 (nI 1))) dc))))) (pM (mFil I) dc I L (Mm dc (mfl dc (u2 I 39 22 (nI 1)) dc) (L)))) := by
  refine Cn.of' (by decide) (Nat.le_of_ble_eq_true rfl) rfl ?_
  refine v_ald0 dX9_fill_0 ?_
  refine v_getI dX9_fill_1 fl_X9_158 (by first | rfl | exact lay_door (by omega) | exact lay_dt (by omega) | exact lay_da (by omega) | exact lay_sh (by omega) | exact lay_se (by omega)) rfl (by omega) ?_
  refine v_if_eq (tgt := 14) dX9_fill_4 (by decide) (fun h4 => ?_) (fun h4 => ?_)
  · refine v_ald0 dX9_fill_14 ?_
    refine v_icN (n := 1) dX9_fill_15 (by decide) ?_
    refine v_putZ dX9_fill_16 fl_X9_158 ft_9_22 (by first | rfl | exact lay_door (by omega) | exact lay_dt (by omega) | exact lay_da (by omega) | exact lay_sh (by omega) | exact lay_se (by omega)) rfl (by omega) (by first | exact Or.inl rfl | exact Or.inr rfl | exact bI_01) ?_
    refine v_icN (n := 0) dX9_fill_19 (by decide) ?_
    refine v_ist1 dX9_fill_20 rfl ?_
    refine v_icN (n := 0) dX9_fill_21 (by decide) ?_
    refine v_ist2 dX9_fill_22 rfl ?_
    simp only [mFil, if_pos h4]
    exact lp_flo (I := (u2 I 39 22 (nI 1))) (show Wm dc (u2 I 39 22 (nI 1)) from hW) dc 0 (by omega) UU UU
  · refine v_ald0 dX9_fill_7 ?_
    refine v_bipush (v := -6) dX9_fill_8 (by decide) ?_
    refine v_V1 (c_X9_no (k := 6) (by decide) (by decide) (by decide)) lk_X9_146 dX9_fill_10 (by decide) (Nat.le_of_ble_eq_true rfl) (by first | rfl | exact lay_door (by omega) | exact lay_dt (by omega) | exact lay_da (by omega) | exact lay_sh (by omega) | exact lay_se (by omega)) (show _ < 78 + 3 * _ by omega) ?_
    exact v_retI dX9_fill_13 trivial (by simp only [mFil, if_neg h4]; exact ⟨rfl, rfl⟩)
