section V10
variable {G : GG} {y : MethodName} {cc : ByteArray} {nL : Nat} {ret : Option FieldType} {dep bc bs pc : Nat} {ls st : List Value} {μ : Mem} {Post : Option Value → Mem → Prop}
theorem v_ild10 {a0 a1 a2 a3 a4 a5 a6 a7 a8 a9 : Value} {t : List Value} {x : Int32} (hdg : decode cc pc = .ok (.iload 10, 2)) (k : V G y cc nL ret dep bc bs (pc + 2) (a0 :: a1 :: a2 :: a3 :: a4 :: a5 :: a6 :: a7 :: a8 :: a9 :: .int x :: t) (.int x :: st) μ Post) : V G y cc nL ret dep bc bs pc (a0 :: a1 :: a2 :: a3 :: a4 :: a5 :: a6 :: a7 :: a8 :: a9 :: .int x :: t) st μ Post := V.go (fun _ _ _ _ _ _ _ _ _ _ _ _ _ _ _ X hl kk => lv_iload X.1 X.2.1 hdg (hl.at (i := 10) (v := .int x) rfl rfl) kk) k
theorem v_ist10 {a0 a1 a2 a3 a4 a5 a6 a7 a8 a9 : Value} {b : Value} {t : List Value} {x : Int32} (hdg : decode cc pc = .ok (.istore 10, 2)) (hp : okc a9 = true) (k : V G y cc nL ret dep bc bs (pc + 2) (a0 :: a1 :: a2 :: a3 :: a4 :: a5 :: a6 :: a7 :: a8 :: a9 :: .int x :: t) st μ Post) : V G y cc nL ret dep bc bs pc (a0 :: a1 :: a2 :: a3 :: a4 :: a5 :: a6 :: a7 :: a8 :: a9 :: b :: t) (.int x :: st) μ Post := V.sto (i := 10) (v := .int x) rfl (fun w hw _ => by cases hw; exact hp) (fun _ _ _ _ _ _ _ _ _ _ _ _ _ _ _ X hl kk => by
  have hi : 10 < nL := by have := hl.1; simp at this; omega
  exact lv_istore X.1 X.2.1 hdg hl.2 hi rfl kk) k
end V10

/-! ===== ways: the search of both ===== -/
/-- a search from s: e places are met, q tells them in their order, W whence each was met, Q the queue -/
def BF (W Q : Nat → Int32) (R : Nat → Nat → Prop) (s e : Nat) (q : Nat → Nat) : Prop := (1 ≤ e) ∧ (q 0 = s) ∧ (∀ k, k < e → q k < 10 ∧ Q k = nI (q k)) ∧ (W s = nI s) ∧ (∀ k, k < e → 1 ≤ k → ∃ k', k' < k ∧ W (q k) = nI (q k') ∧ R (q k') (q k)) ∧ (∀ v, v < 10 → (∀ k, k < e → q k ≠ v) → W v = -1) ∧ (∀ k, k < e → ∀ k', k' < k → q k' ≠ q k) ∧ (ct (fun v => decide (¬ W v = -1)) 10 = e)
theorem BF.e1 {W Q : Nat → Int32} {R : Nat → Nat → Prop} {s e : Nat} {q : Nat → Nat} (h : BF W Q R s e q) : 1 ≤ e := h.1
theorem BF.q0 {W Q : Nat → Int32} {R : Nat → Nat → Prop} {s e : Nat} {q : Nat → Nat} (h : BF W Q R s e q) : q 0 = s := h.2.1
theorem BF.ql {W Q : Nat → Int32} {R : Nat → Nat → Prop} {s e : Nat} {q : Nat → Nat} (h : BF W Q R s e q) : ∀ k, k < e → q k < 10 ∧ Q k = nI (q k) := h.2.2.1
theorem BF.ws {W Q : Nat → Int32} {R : Nat → Nat → Prop} {s e : Nat} {q : Nat → Nat} (h : BF W Q R s e q) : W s = nI s := h.2.2.2.1
theorem BF.pr {W Q : Nat → Int32} {R : Nat → Nat → Prop} {s e : Nat} {q : Nat → Nat} (h : BF W Q R s e q) : ∀ k, k < e → 1 ≤ k → ∃ k', k' < k ∧ W (q k) = nI (q k') ∧ R (q k') (q k) := h.2.2.2.2.1
theorem BF.nv {W Q : Nat → Int32} {R : Nat → Nat → Prop} {s e : Nat} {q : Nat → Nat} (h : BF W Q R s e q) : ∀ v, v < 10 → (∀ k, k < e → q k ≠ v) → W v = -1 := h.2.2.2.2.2.1
theorem BF.qd {W Q : Nat → Int32} {R : Nat → Nat → Prop} {s e : Nat} {q : Nat → Nat} (h : BF W Q R s e q) : ∀ k, k < e → ∀ k', k' < k → q k' ≠ q k := h.2.2.2.2.2.2.1
theorem BF.cn {W Q : Nat → Int32} {R : Nat → Nat → Prop} {s e : Nat} {q : Nat → Nat} (h : BF W Q R s e q) : ct (fun v => decide (¬ W v = -1)) 10 = e := h.2.2.2.2.2.2.2
abbrev vis (e : Nat) (q : Nat → Nat) (v : Nat) : Prop := ∃ k, k < e ∧ q k = v
theorem BF.in {W Q : Nat → Int32} {R : Nat → Nat → Prop} {s e : Nat} {q : Nat → Nat} (h : BF W Q R s e q) {v : Nat} (hv : vis e q v) : ∃ j, j < 10 ∧ W v = nI j := by
  obtain ⟨k, hk, rfl⟩ := hv
  by_cases h0 : k = 0
  · subst h0; rw [h.q0]; exact ⟨s, by have := (h.ql 0 hk).1; rw [h.q0] at this; exact this, h.ws⟩
  · obtain ⟨k', h1, h2, -⟩ := h.pr k hk (by omega)
    exact ⟨q k', (h.ql k' (by omega)).1, h2⟩
theorem BF.vis_iff {W Q : Nat → Int32} {R : Nat → Nat → Prop} {s e : Nat} {q : Nat → Nat} (h : BF W Q R s e q) {v : Nat} (hv : v < 10) : vis e q v ↔ ¬ W v = -1 := by
  constructor
  · intro hx
    obtain ⟨j, hj, e1⟩ := h.in hx
    rw [e1]
    exact nI_m1 (by omega)
  · intro hx
    exact Classical.byContradiction fun z => hx (h.nv v hv (fun k hk e => z ⟨k, hk, e⟩))
theorem ct_u {p p' : Nat → Bool} {b : Nat} : ∀ {n : Nat}, (∀ v, v ≠ b → p' v = p v) → p b = false → p' b = true → ct p' n = ct p n + (if b < n then 1 else 0)
  | 0, _, _, _ => by simp [ct]
  | n + 1, h, h1, h2 => by
    have ih := ct_u (n := n) h h1 h2
    by_cases e : n = b
    · subst e
      rw [ct_t h2, ct_f h1, ih, if_neg (by omega), if_pos (by omega)]
    · have h3 := h n e
      cases hp : p n with
      | true => rw [ct_t hp, ct_t (h3.trans hp), ih]; split <;> split <;> omega
      | false => rw [ct_f hp, ct_f (h3.trans hp), ih]; split <;> split <;> omega
theorem BF.room {W Q : Nat → Int32} {R : Nat → Nat → Prop} {s e : Nat} {q : Nat → Nat} (h : BF W Q R s e q) {b : Nat} (hb : b < 10) (hn : ¬ vis e q b) : e < 10 := by
  have hW := h.nv b hb (fun k hk z => hn ⟨k, hk, z⟩)
  have h1 := ct_u (p := fun v => decide (¬ W v = -1)) (p' := fun v => decide (¬ W v = -1) || decide (v = b)) (b := b) (n := 10) (fun v hv => by simp [hv]) (by simp [hW]) (by simp)
  have h2 := ct_le (fun v => decide (¬ W v = -1) || decide (v = b)) 10
  rw [h.cn, if_pos hb] at h1
  omega
theorem BF.le {W Q : Nat → Int32} {R : Nat → Nat → Prop} {s e : Nat} {q : Nat → Nat} (h : BF W Q R s e q) : e ≤ 10 := by
  have := ct_le (fun v => decide (¬ W v = -1)) 10
  rw [h.cn] at this
  exact this
/-- a place more -/
theorem BF.add {W Q W' Q' : Nat → Int32} {R : Nat → Nat → Prop} {s e : Nat} {q : Nat → Nat} (h : BF W Q R s e q) {i b : Nat} (hi : i < e) (hR : R (q i) b) (hb : b < 10) (hn : ¬ vis e q b) (hW : ∀ v, W' v = if v = b then nI (q i) else W v) (hQ : ∀ k, Q' k = if k = e then nI b else Q k) : BF W' Q' R s (e + 1) (fun k => if k = e then b else q k) := ⟨
       (by omega)
  ,    (by have := h.e1; show (if 0 = e then b else q 0) = s; rw [if_neg (by omega)]; exact h.q0)
  ,    (fun k hk => by
    show (if k = e then b else q k) < 10 ∧ Q' k = nI (if k = e then b else q k)
    rw [hQ]
    by_cases z : k = e
    · rw [if_pos z, if_pos z]; exact ⟨hb, rfl⟩
    · rw [if_neg z, if_neg z]; exact h.ql k (by omega))
  ,    (by
    rw [hW]
    have hsb : s ≠ b := fun z => hn ⟨0, h.e1, by rw [h.q0]; exact z⟩
    rw [if_neg hsb]; exact h.ws)
  ,    (fun k hk h1 => by
    show ∃ k', k' < k ∧ W' (if k = e then b else q k) = nI (if k' = e then b else q k') ∧ R (if k' = e then b else q k') (if k = e then b else q k)
    by_cases z : k = e
    · refine ⟨i, by omega, ?_⟩
      rw [if_pos z, if_neg (by omega), hW, if_pos rfl]
      exact ⟨rfl, hR⟩
    · obtain ⟨k', h2, h3, h4⟩ := h.pr k (by omega) h1
      refine ⟨k', h2, ?_⟩
      rw [if_neg z, if_neg (by omega), hW, if_neg (fun w => hn ⟨k, by omega, w⟩)]
      exact ⟨h3, h4⟩)
  ,    (fun v hv hx => by
    have h1 : v ≠ b := fun z => hx e (by omega) (by show (if e = e then b else q e) = v; rw [if_pos rfl]; exact z.symm)
    rw [hW, if_neg h1]
    refine h.nv v hv (fun k hk z => hx k (by omega) ?_)
    show (if k = e then b else q k) = v
    rw [if_neg (by omega)]; exact z)
  ,    (fun k hk k' hk' => by
    show (if k' = e then b else q k') ≠ (if k = e then b else q k)
    rw [if_neg (by omega)]
    by_cases z : k = e
    · rw [if_pos z]; exact fun w => hn ⟨k', by omega, w⟩
    · rw [if_neg z]; exact h.qd k (by omega) k' hk')
  ,    (by
    have hWb := h.nv b hb (fun k hk z => hn ⟨k, hk, z⟩)
    have h1 := ct_u (p := fun v => decide (¬ W v = -1)) (p' := fun v => decide (¬ W' v = -1)) (b := b) (n := 10) (fun v hv => by show decide (¬ W' v = -1) = decide (¬ W v = -1); rw [hW, if_neg hv]) (by simp [hWb]) (by
      show decide (¬ W' b = -1) = true
      rw [hW, if_pos rfl]
      exact decide_eq_true (nI_m1 (by have := (h.ql i hi).1; omega)))
    rw [h1, h.cn, if_pos hb])⟩
/-- the start -/
theorem BF.start {W Q : Nat → Int32} {R : Nat → Nat → Prop} {s : Nat} (hs : s < 10) (hW : ∀ v, v < 10 → W v = if v = s then nI s else -1) (hQ : Q 0 = nI s) : BF W Q R s 1 (fun _ => s) := ⟨
       (Nat.le_refl 1)
  ,    (rfl)
  ,    (fun k hk => by obtain rfl : k = 0 := by omega
                       exact ⟨hs, hQ⟩)
  ,    (by rw [hW s hs, if_pos rfl])
  ,    (fun k hk h1 => by omega)
  ,    (fun v hv hx => by rw [hW v hv, if_neg (fun z => hx 0 (by omega) z.symm)])
  ,    (fun k hk k' hk' => by omega)
  ,    (by
    have h1 := ct_u (p := fun _ => false) (p' := fun v => decide (v = s)) (b := s) (n := 10) (fun v hv => by simp [hv]) rfl (by simp)
    rw [if_pos hs] at h1
    have h2 : ct (fun v => decide (¬ W v = -1)) 10 = ct (fun v => decide (v = s)) 10 := ct_cong (fun v hv => by
      rw [hW v hv]
      by_cases z : v = s
      · rw [if_pos z, decide_eq_true z]; exact decide_eq_true (nI_m1 (by omega))
      · rw [if_neg z, decide_eq_false z]; exact decide_eq_false (fun w => w rfl))
    rw [h2, h1]
    decide)⟩
/-- a place can be reached -/
def rch0 (R : Nat → Nat → Prop) (s g : Nat) : Prop := ∀ T : Nat → Prop, T s → (∀ a b, a < 10 → b < 10 → T a → R a b → T b) → T g
abbrev rch (R : Nat → Nat → Prop) (s g : Nat) : Prop := cP (rch0 R s g)
theorem BF.reach {W Q : Nat → Int32} {R : Nat → Nat → Prop} {s e : Nat} {q : Nat → Nat} (h : BF W Q R s e q) {v : Nat} (hv : vis e q v) : rch R s v := by
  obtain ⟨k, hk, rfl⟩ := hv
  refine cP_iff.mpr ?_
  intro T hT hc
  have : ∀ n k, k < n → k < e → T (q k) := by
    intro n
    induction n with
    | zero => intro k hk; omega
    | succ n ih =>
      intro k hk hke
      by_cases h0 : k = 0
      · subst h0; rw [h.q0]; exact hT
      · obtain ⟨k', h1, h2, h3⟩ := h.pr k hke (by omega)
        exact hc _ _ (h.ql k' (by omega)).1 (h.ql k hke).1 (ih k' (by omega) (by omega)) h3
  exact this (k + 1) k (by omega) hk
theorem BF.unreach {W Q : Nat → Int32} {R : Nat → Nat → Prop} {s e : Nat} {q : Nat → Nat} (h : BF W Q R s e q) (hc : ∀ k, k < e → ∀ v, v < 10 → R (q k) v → vis e q v) {g : Nat} (hg : ¬ vis e q g) : ¬ rch R s g := fun z =>
  hg (cP_iff.mp z (vis e q) ⟨0, h.e1, h.q0⟩ (fun a b _ hb ha hR => by obtain ⟨k, hk, rfl⟩ := ha; exact hc k hk b hb hR))

/-- the cell between two places -/
def clN (a b : Nat) : Nat := if a < 6 then 4 * a + b - 6 else 4 * b + a - 6
/-- a step by hidden cells but one, down by what is no 0 -/
def stM (H N : Nat → Int32) (but a b : Nat) : Prop := ((a < 6 ∧ 6 ≤ b ∧ b < 10) ∨ (6 ≤ a ∧ a < 10 ∧ b < 6)) ∧ clN a b ≠ but ∧ ¬ H (clN a b) = 0 ∧ (a < 6 ∨ ¬ N (clN a b) = 0)
def agF (I J : Nat → Nat → Int32) : Prop := ∀ x j, x ≠ 75 → x ≠ 76 → J x j = I x j

set_option maxRecDepth 4000 in
theorem lp_fiL {G : GG} {dc : Nat} {I : Nat → Nat → Int32} {L : Nat → Nat → Int64} {s g but hc nc : Nat} {Q : Option Value → Mem → Prop} {qa i : Nat} (hbut : but < 24) (hh : hc = 73 ∨ hc = 74) (hnc : nc = 70 ∨ nc = 71 ∨ nc = 72) (hlow : qa < 6) (hk9 : ∀ (J : Nat → Nat → Int32) (e : Nat) (q : Nat → Nat) (b0 c0 : Value), agF I J → BF (J 75) (J 76) (stM (I hc) (I nc) but) s e q → i < e → (∀ k, k < i + 1 → ∀ v, v < 10 → (stM (I hc) (I nc) but) (q k) v → vis e q v) → V G yX9_finds cX9_finds 11 (some .boolean) 0 0 0 194 [.ref 39, .int (nI s), .int (nI g), .int (nI but), .ref hc, .ref nc, .int (nI e), .int (nI i), .int (nI qa), b0, c0] [] (Mm dc J L) Q) (k : Nat) : ∀ b, b + k = 10 → 6 ≤ b → ∀ (J : Nat → Nat → Int32) (e : Nat) (q : Nat → Nat) (c0 : Value), agF I J → BF (J 75) (J 76) (stM (I hc) (I nc) but) s e q → i < e → q i = qa → (∀ k, k < i → ∀ v, v < 10 → (stM (I hc) (I nc) but) (q k) v → vis e q v) → (∀ v, v < b → (stM (I hc) (I nc) but) (q i) v → vis e q v) → V G yX9_finds cX9_finds 11 (some .boolean) 0 0 0 75 [.ref 39, .int (nI s), .int (nI g), .int (nI but), .ref hc, .ref nc, .int (nI e), .int (nI i), .int (nI qa), .int (nI b), c0] [] (Mm dc J L) Q := by
  induction k with
  | zero =>
    intro b hbk hlo J e q c0 hJ hB hi hqa hd hb2
    have hle := hB.le
    have hqi : qa < 10 := hqa ▸ (hB.ql i hi).1
    subst hqa
    have hx1 : hc ≠ 75 := by omega
    have hx2 : hc ≠ 76 := by omega
    have hx3 : nc ≠ 75 := by omega
    have hx4 : nc ≠ 76 := by omega
    refine v_ild9 dX9_finds_75 ?_
    refine v_ild8 dX9_finds_77 ?_
    refine v_bipush (v := nI 6) dX9_finds_79 (by decide) ?_
    refine v_icmp_ge (tgt := 89) dX9_finds_81 (by decide) (fun h81 => absurd h81 (nI_ge hlow (by decide))) (fun h81 => ?_)
    refine v_bipush (v := nI 10) dX9_finds_84 (by decide) ?_
    refine v_goto (tgt := 91) dX9_finds_86 (by decide) ?_
    refine v_icmp_ge (tgt := 194) dX9_finds_91 (by decide) (fun h91 => ?_) (fun h91 => absurd (nI_le (by omega) (by omega)) h91)
    obtain rfl : b = 10 := by omega
    refine hk9 J e q _ _ hJ hB hi (fun k hk v hv hR => ?_)
    by_cases z : k = i
    · subst z; exact hb2 v (by have := hR.1; omega) hR
    · exact hd k (by omega) v hv hR
  | succ k ih =>
    intro b hbk hlo J e q c0 hJ hB hi hqa hd hb2
    have hle := hB.le
    have hqi : qa < 10 := hqa ▸ (hB.ql i hi).1
    subst hqa
    have hx1 : hc ≠ 75 := by omega
    have hx2 : hc ≠ 76 := by omega
    have hx3 : nc ≠ 75 := by omega
    have hx4 : nc ≠ 76 := by omega
    refine v_ild9 dX9_finds_75 ?_
    refine v_ild8 dX9_finds_77 ?_
    refine v_bipush (v := nI 6) dX9_finds_79 (by decide) ?_
    refine v_icmp_ge (tgt := 89) dX9_finds_81 (by decide) (fun h81 => absurd h81 (nI_ge hlow (by decide))) (fun h81 => ?_)
    refine v_bipush (v := nI 10) dX9_finds_84 (by decide) ?_
    refine v_goto (tgt := 91) dX9_finds_86 (by decide) ?_
    refine v_icmp_ge (tgt := 194) dX9_finds_91 (by decide) (fun h91 => absurd h91 (nI_ge (by omega) (by omega))) (fun h91 => ?_)
    have hc24 : clN (q i) b < 24 := by unfold clN; split <;> omega
    have hvb := hB.vis_iff (v := b) (by omega)
    refine v_ild8 dX9_finds_94 ?_
    refine v_bipush (v := nI 6) dX9_finds_96 (by decide) ?_
    refine v_icmp_ge (tgt := 114) dX9_finds_98 (by decide) (fun h98 => absurd h98 (nI_ge hlow (by decide))) (fun h98 => ?_)
    refine v_icN (n := 4) dX9_finds_101 (by decide) ?_
    refine v_ild8 dX9_finds_102 ?_
    refine v_imul dX9_finds_104 ?_
    refine v_ild9 dX9_finds_105 ?_
    refine v_iadd dX9_finds_107 ?_
    refine v_bipush (v := nI 6) dX9_finds_108 (by decide) ?_
    refine v_isub dX9_finds_110 ?_
    refine v_goto (tgt := 124) dX9_finds_111 (by decide) ?_
    refine v_e0 (congrArg Value.int (show _ = nI (clN (q i) b) from by rw [pk_mul, nI_add, pk_sub (by omega)]; exact congrArg nI (if_pos hlow).symm)) ?_
    refine v_ist10 dX9_finds_124 rfl ?_
    refine v_ald0 dX9_finds_126 ?_
    refine v_getP (q := 75) dX9_finds_127 fl_X9_130 (by first | rfl | exact lay_door (by omega) | exact lay_dt (by omega) | exact lay_da (by omega) | exact lay_sh (by omega) | exact lay_se (by omega)) rfl (by omega) rfl ?_
    refine v_ild9 dX9_finds_130 ?_
    refine v_iald dX9_finds_132 (by first | rfl | exact lay_door (by omega) | exact lay_dt (by omega) | exact lay_da (by omega) | exact lay_sh (by omega) | exact lay_se (by omega)) (by omega) ⟨rfl, by omega, by decide⟩ ?_
    refine v_if_ge (tgt := 188) dX9_finds_133 (by decide) (fun h133 => ?_) (fun h133 => ?_)
    · have hvv : 0 ≤ J 75 b → vis e q b := fun z => hvb.mpr (fun w => by rw [w] at z; exact absurd z (by decide))
      refine v_inc9 dX9_finds_188 rfl ?_
      refine v_goto (tgt := 75) dX9_finds_191 (by decide) ?_
      rw [nI_1 b]
      refine ih (b + 1) (by omega) (by omega) J e q _ hJ hB hi rfl hd (fun v hv hR => ?_)
      by_cases z : v = b
      · subst z
        exact (hvv h133)
      · exact hb2 v (by omega) hR
    · have hnv : ¬ vis e q b := fun z => by obtain ⟨j, hj, ej⟩ := hB.in z; exact h133 (by rw [ej]; exact nI_pos' (by omega))
      refine v_ild10 dX9_finds_136 ?_
      refine v_ild3 dX9_finds_138 ?_
      refine v_icmp_eq (tgt := 188) dX9_finds_139 (by decide) (fun h139 => ?_) (fun h139 => ?_)
      · have hvv : 0 ≤ J 75 b → vis e q b := fun z => hvb.mpr (fun w => by rw [w] at z; exact absurd z (by decide))
        refine v_inc9 dX9_finds_188 rfl ?_
        refine v_goto (tgt := 75) dX9_finds_191 (by decide) ?_
        rw [nI_1 b]
        refine ih (b + 1) (by omega) (by omega) J e q _ hJ hB hi rfl hd (fun v hv hR => ?_)
        by_cases z : v = b
        · subst z
          exact (absurd ((nI_eq (by omega) (by omega)).mp h139) hR.2.1)
        · exact hb2 v (by omega) hR
      · refine v_ald4 dX9_finds_142 ?_
        refine v_ild10 dX9_finds_144 ?_
        refine v_zald dX9_finds_146 (by rcases hh with rfl | rfl <;> rfl) (by omega) ⟨rfl, hc24, by decide⟩ ?_
        refine v_if_eq (tgt := 188) dX9_finds_147 (by decide) (fun h147 => ?_) (fun h147 => ?_)
        · have hvv : 0 ≤ J 75 b → vis e q b := fun z => hvb.mpr (fun w => by rw [w] at z; exact absurd z (by decide))
          refine v_inc9 dX9_finds_188 rfl ?_
          refine v_goto (tgt := 75) dX9_finds_191 (by decide) ?_
          rw [nI_1 b]
          refine ih (b + 1) (by omega) (by omega) J e q _ hJ hB hi rfl hd (fun v hv hR => ?_)
          by_cases z : v = b
          · subst z
            exact (absurd ((hJ _ _ hx1 hx2).symm.trans h147) hR.2.2.1)
          · exact hb2 v (by omega) hR
        · refine v_ild8 dX9_finds_150 ?_
          refine v_icN (n := 5) dX9_finds_152 (by decide) ?_
          refine v_icmp_le (tgt := 167) dX9_finds_153 (by decide) (fun h153 => ?_) (fun h153 => absurd (nI_le (by omega) (by decide)) h153)
          have hroom := hB.room (b := b) (by omega) hnv
          refine v_ald0 dX9_finds_167 ?_
          refine v_getP (q := 75) dX9_finds_168 fl_X9_130 (by first | rfl | exact lay_door (by omega) | exact lay_dt (by omega) | exact lay_da (by omega) | exact lay_sh (by omega) | exact lay_se (by omega)) rfl (by omega) rfl ?_
          refine v_ild9 dX9_finds_171 ?_
          refine v_ild8 dX9_finds_173 ?_
          refine v_iast dX9_finds_175 (by first | rfl | exact lay_door (by omega) | exact lay_dt (by omega) | exact lay_da (by omega) | exact lay_sh (by omega) | exact lay_se (by omega)) (by omega) ⟨rfl, by omega, by decide⟩ ?_
          refine v_ald0 dX9_finds_176 ?_
          refine v_getP (q := 76) dX9_finds_177 fl_X9_133 (by first | rfl | exact lay_door (by omega) | exact lay_dt (by omega) | exact lay_da (by omega) | exact lay_sh (by omega) | exact lay_se (by omega)) rfl (by omega) rfl ?_
          refine v_ild6 dX9_finds_180 ?_
          refine v_ild9 dX9_finds_182 ?_
          refine v_iast dX9_finds_184 (by first | rfl | exact lay_door (by omega) | exact lay_dt (by omega) | exact lay_da (by omega) | exact lay_sh (by omega) | exact lay_se (by omega)) (by omega) ⟨rfl, by omega, by decide⟩ ?_
          refine v_inc6 dX9_finds_185 rfl ?_
          have hvv : 0 ≤ J 75 b → vis e q b := fun z => hvb.mpr (fun w => by rw [w] at z; exact absurd z (by decide))
          refine v_inc9 dX9_finds_188 rfl ?_
          refine v_goto (tgt := 75) dX9_finds_191 (by decide) ?_
          have hRb : (stM (I hc) (I nc) but) (q i) b := ⟨Or.inl ⟨hlow, by omega, by omega⟩, fun z => h139 (by rw [z]), fun z => h147 ((hJ _ _ hx1 hx2).trans z), Or.inl hlow⟩
          rw [nI_1 b, nI_1 e]
          refine ih (b + 1) (by omega) (by omega) _ (e + 1) (fun k => if k = e then b else q k) _ (fun x j h1 h2 => ?_) (hB.add hi hRb (by omega) hnv (fun v => ?_) (fun k => ?_)) (by omega) ?_ ?_ ?_
          · rw [u2_a _ _ _ _ h2, u2_a _ _ _ _ h1]; exact hJ x j h1 h2
          · rw [u2_a _ _ _ _ (by decide)]; by_cases z : v = b
            · rw [if_pos z, z, u2_s]
            · rw [if_neg z, u2_k _ _ _ _ z]
          · by_cases z : k = e
            · rw [if_pos z, z, u2_s]
            · rw [if_neg z, u2_k _ _ _ _ z, u2_a _ _ _ _ (by decide)]
          · show (if i = e then b else q i) = q i
            rw [if_neg (by omega)]
          · intro k hk v hv hR
            have hR : (stM (I hc) (I nc) but) (q k) v := by have z := hR; rw [show (if k = e then b else q k) = q k from if_neg (by omega)] at z; exact z
            obtain ⟨k2, h1, h2⟩ := hd k hk v hv hR
            exact ⟨k2, by omega, (if_neg (by omega)).trans h2⟩
          · intro v hv hR
            have hR : (stM (I hc) (I nc) but) (q i) v := by have z := hR; rw [show (if i = e then b else q i) = q i from if_neg (by omega)] at z; exact z
            by_cases z : v = b
            · exact ⟨e, by omega, (if_pos rfl).trans z.symm⟩
            · obtain ⟨k2, h1, h2⟩ := hb2 v (by omega) hR
              exact ⟨k2, by omega, (if_neg (by omega)).trans h2⟩

set_option maxRecDepth 4000 in
theorem lp_fiH {G : GG} {dc : Nat} {I : Nat → Nat → Int32} {L : Nat → Nat → Int64} {s g but hc nc : Nat} {Q : Option Value → Mem → Prop} {qa i : Nat} (hbut : but < 24) (hh : hc = 73 ∨ hc = 74) (hnc : nc = 70 ∨ nc = 71 ∨ nc = 72) (hlow : ¬ qa < 6) (hk9 : ∀ (J : Nat → Nat → Int32) (e : Nat) (q : Nat → Nat) (b0 c0 : Value), agF I J → BF (J 75) (J 76) (stM (I hc) (I nc) but) s e q → i < e → (∀ k, k < i + 1 → ∀ v, v < 10 → (stM (I hc) (I nc) but) (q k) v → vis e q v) → V G yX9_finds cX9_finds 11 (some .boolean) 0 0 0 194 [.ref 39, .int (nI s), .int (nI g), .int (nI but), .ref hc, .ref nc, .int (nI e), .int (nI i), .int (nI qa), b0, c0] [] (Mm dc J L) Q) (k : Nat) : ∀ b, b + k = 6 → 0 ≤ b → ∀ (J : Nat → Nat → Int32) (e : Nat) (q : Nat → Nat) (c0 : Value), agF I J → BF (J 75) (J 76) (stM (I hc) (I nc) but) s e q → i < e → q i = qa → (∀ k, k < i → ∀ v, v < 10 → (stM (I hc) (I nc) but) (q k) v → vis e q v) → (∀ v, v < b → (stM (I hc) (I nc) but) (q i) v → vis e q v) → V G yX9_finds cX9_finds 11 (some .boolean) 0 0 0 75 [.ref 39, .int (nI s), .int (nI g), .int (nI but), .ref hc, .ref nc, .int (nI e), .int (nI i), .int (nI qa), .int (nI b), c0] [] (Mm dc J L) Q := by
  induction k with
  | zero =>
    intro b hbk hlo J e q c0 hJ hB hi hqa hd hb2
    have hle := hB.le
    have hqi : qa < 10 := hqa ▸ (hB.ql i hi).1
    subst hqa
    have hx1 : hc ≠ 75 := by omega
    have hx2 : hc ≠ 76 := by omega
    have hx3 : nc ≠ 75 := by omega
    have hx4 : nc ≠ 76 := by omega
    refine v_ild9 dX9_finds_75 ?_
    refine v_ild8 dX9_finds_77 ?_
    refine v_bipush (v := nI 6) dX9_finds_79 (by decide) ?_
    refine v_icmp_ge (tgt := 89) dX9_finds_81 (by decide) (fun h81 => ?_) (fun h81 => absurd (nI_le (Nat.le_of_not_lt hlow) (by omega)) h81)
    refine v_bipush (v := nI 6) dX9_finds_89 (by decide) ?_
    refine v_icmp_ge (tgt := 194) dX9_finds_91 (by decide) (fun h91 => ?_) (fun h91 => absurd (nI_le (by omega) (by omega)) h91)
    obtain rfl : b = 6 := by omega
    refine hk9 J e q _ _ hJ hB hi (fun k hk v hv hR => ?_)
    by_cases z : k = i
    · subst z; exact hb2 v (by have := hR.1; omega) hR
    · exact hd k (by omega) v hv hR
  | succ k ih =>
    intro b hbk hlo J e q c0 hJ hB hi hqa hd hb2
    have hle := hB.le
    have hqi : qa < 10 := hqa ▸ (hB.ql i hi).1
    subst hqa
    have hx1 : hc ≠ 75 := by omega
    have hx2 : hc ≠ 76 := by omega
    have hx3 : nc ≠ 75 := by omega
    have hx4 : nc ≠ 76 := by omega
    refine v_ild9 dX9_finds_75 ?_
    refine v_ild8 dX9_finds_77 ?_
    refine v_bipush (v := nI 6) dX9_finds_79 (by decide) ?_
    refine v_icmp_ge (tgt := 89) dX9_finds_81 (by decide) (fun h81 => ?_) (fun h81 => absurd (nI_le (Nat.le_of_not_lt hlow) (by omega)) h81)
    refine v_bipush (v := nI 6) dX9_finds_89 (by decide) ?_
    refine v_icmp_ge (tgt := 194) dX9_finds_91 (by decide) (fun h91 => absurd h91 (nI_ge (by omega) (by omega))) (fun h91 => ?_)
    have hc24 : clN (q i) b < 24 := by unfold clN; split <;> omega
    have hvb := hB.vis_iff (v := b) (by omega)
    refine v_ild8 dX9_finds_94 ?_
    refine v_bipush (v := nI 6) dX9_finds_96 (by decide) ?_
    refine v_icmp_ge (tgt := 114) dX9_finds_98 (by decide) (fun h98 => ?_) (fun h98 => absurd (nI_le (Nat.le_of_not_lt hlow) (by omega)) h98)
    refine v_icN (n := 4) dX9_finds_114 (by decide) ?_
    refine v_ild9 dX9_finds_115 ?_
    refine v_imul dX9_finds_117 ?_
    refine v_ild8 dX9_finds_118 ?_
    refine v_iadd dX9_finds_120 ?_
    refine v_bipush (v := nI 6) dX9_finds_121 (by decide) ?_
    refine v_isub dX9_finds_123 ?_
    refine v_e0 (congrArg Value.int (show _ = nI (clN (q i) b) from by rw [pk_mul, nI_add, pk_sub (by omega)]; exact congrArg nI (if_neg hlow).symm)) ?_
    refine v_ist10 dX9_finds_124 rfl ?_
    refine v_ald0 dX9_finds_126 ?_
    refine v_getP (q := 75) dX9_finds_127 fl_X9_130 (by first | rfl | exact lay_door (by omega) | exact lay_dt (by omega) | exact lay_da (by omega) | exact lay_sh (by omega) | exact lay_se (by omega)) rfl (by omega) rfl ?_
    refine v_ild9 dX9_finds_130 ?_
    refine v_iald dX9_finds_132 (by first | rfl | exact lay_door (by omega) | exact lay_dt (by omega) | exact lay_da (by omega) | exact lay_sh (by omega) | exact lay_se (by omega)) (by omega) ⟨rfl, by omega, by decide⟩ ?_
    refine v_if_ge (tgt := 188) dX9_finds_133 (by decide) (fun h133 => ?_) (fun h133 => ?_)
    · have hvv : 0 ≤ J 75 b → vis e q b := fun z => hvb.mpr (fun w => by rw [w] at z; exact absurd z (by decide))
      refine v_inc9 dX9_finds_188 rfl ?_
      refine v_goto (tgt := 75) dX9_finds_191 (by decide) ?_
      rw [nI_1 b]
      refine ih (b + 1) (by omega) (by omega) J e q _ hJ hB hi rfl hd (fun v hv hR => ?_)
      by_cases z : v = b
      · subst z
        exact (hvv h133)
      · exact hb2 v (by omega) hR
    · have hnv : ¬ vis e q b := fun z => by obtain ⟨j, hj, ej⟩ := hB.in z; exact h133 (by rw [ej]; exact nI_pos' (by omega))
      refine v_ild10 dX9_finds_136 ?_
      refine v_ild3 dX9_finds_138 ?_
      refine v_icmp_eq (tgt := 188) dX9_finds_139 (by decide) (fun h139 => ?_) (fun h139 => ?_)
      · have hvv : 0 ≤ J 75 b → vis e q b := fun z => hvb.mpr (fun w => by rw [w] at z; exact absurd z (by decide))
        refine v_inc9 dX9_finds_188 rfl ?_
        refine v_goto (tgt := 75) dX9_finds_191 (by decide) ?_
        rw [nI_1 b]
        refine ih (b + 1) (by omega) (by omega) J e q _ hJ hB hi rfl hd (fun v hv hR => ?_)
        by_cases z : v = b
        · subst z
          exact (absurd ((nI_eq (by omega) (by omega)).mp h139) hR.2.1)
        · exact hb2 v (by omega) hR
      · refine v_ald4 dX9_finds_142 ?_
        refine v_ild10 dX9_finds_144 ?_
        refine v_zald dX9_finds_146 (by rcases hh with rfl | rfl <;> rfl) (by omega) ⟨rfl, hc24, by decide⟩ ?_
        refine v_if_eq (tgt := 188) dX9_finds_147 (by decide) (fun h147 => ?_) (fun h147 => ?_)
        · have hvv : 0 ≤ J 75 b → vis e q b := fun z => hvb.mpr (fun w => by rw [w] at z; exact absurd z (by decide))
          refine v_inc9 dX9_finds_188 rfl ?_
          refine v_goto (tgt := 75) dX9_finds_191 (by decide) ?_
          rw [nI_1 b]
          refine ih (b + 1) (by omega) (by omega) J e q _ hJ hB hi rfl hd (fun v hv hR => ?_)
          by_cases z : v = b
          · subst z
            exact (absurd ((hJ _ _ hx1 hx2).symm.trans h147) hR.2.2.1)
          · exact hb2 v (by omega) hR
        · refine v_ild8 dX9_finds_150 ?_
          refine v_icN (n := 5) dX9_finds_152 (by decide) ?_
          refine v_icmp_le (tgt := 167) dX9_finds_153 (by decide) (fun h153 => absurd h153 (nI_ge (by omega) (by omega))) (fun h153 => ?_)
          refine v_ald5 dX9_finds_156 ?_
          refine v_ild10 dX9_finds_158 ?_
          refine v_iald dX9_finds_160 (by rcases hnc with rfl | rfl | rfl <;> rfl) (by omega) ⟨rfl, hc24, by decide⟩ ?_
          refine v_if_ne (tgt := 167) dX9_finds_161 (by decide) (fun h161 => ?_) (fun h161 => ?_)
          · have hroom := hB.room (b := b) (by omega) hnv
            refine v_ald0 dX9_finds_167 ?_
            refine v_getP (q := 75) dX9_finds_168 fl_X9_130 (by first | rfl | exact lay_door (by omega) | exact lay_dt (by omega) | exact lay_da (by omega) | exact lay_sh (by omega) | exact lay_se (by omega)) rfl (by omega) rfl ?_
            refine v_ild9 dX9_finds_171 ?_
            refine v_ild8 dX9_finds_173 ?_
            refine v_iast dX9_finds_175 (by first | rfl | exact lay_door (by omega) | exact lay_dt (by omega) | exact lay_da (by omega) | exact lay_sh (by omega) | exact lay_se (by omega)) (by omega) ⟨rfl, by omega, by decide⟩ ?_
            refine v_ald0 dX9_finds_176 ?_
            refine v_getP (q := 76) dX9_finds_177 fl_X9_133 (by first | rfl | exact lay_door (by omega) | exact lay_dt (by omega) | exact lay_da (by omega) | exact lay_sh (by omega) | exact lay_se (by omega)) rfl (by omega) rfl ?_
            refine v_ild6 dX9_finds_180 ?_
            refine v_ild9 dX9_finds_182 ?_
            refine v_iast dX9_finds_184 (by first | rfl | exact lay_door (by omega) | exact lay_dt (by omega) | exact lay_da (by omega) | exact lay_sh (by omega) | exact lay_se (by omega)) (by omega) ⟨rfl, by omega, by decide⟩ ?_
            refine v_inc6 dX9_finds_185 rfl ?_
            have hvv : 0 ≤ J 75 b → vis e q b := fun z => hvb.mpr (fun w => by rw [w] at z; exact absurd z (by decide))
            refine v_inc9 dX9_finds_188 rfl ?_
            refine v_goto (tgt := 75) dX9_finds_191 (by decide) ?_
            have hRb : (stM (I hc) (I nc) but) (q i) b := ⟨Or.inr ⟨by omega, hqi, by omega⟩, fun z => h139 (by rw [z]), fun z => h147 ((hJ _ _ hx1 hx2).trans z), Or.inr (fun z => h161 ((hJ _ _ hx3 hx4).trans z))⟩
            rw [nI_1 b, nI_1 e]
            refine ih (b + 1) (by omega) (by omega) _ (e + 1) (fun k => if k = e then b else q k) _ (fun x j h1 h2 => ?_) (hB.add hi hRb (by omega) hnv (fun v => ?_) (fun k => ?_)) (by omega) ?_ ?_ ?_
            · rw [u2_a _ _ _ _ h2, u2_a _ _ _ _ h1]; exact hJ x j h1 h2
            · rw [u2_a _ _ _ _ (by decide)]; by_cases z : v = b
              · rw [if_pos z, z, u2_s]
              · rw [if_neg z, u2_k _ _ _ _ z]
            · by_cases z : k = e
              · rw [if_pos z, z, u2_s]
              · rw [if_neg z, u2_k _ _ _ _ z, u2_a _ _ _ _ (by decide)]
            · show (if i = e then b else q i) = q i
              rw [if_neg (by omega)]
            · intro k hk v hv hR
              have hR : (stM (I hc) (I nc) but) (q k) v := by have z := hR; rw [show (if k = e then b else q k) = q k from if_neg (by omega)] at z; exact z
              obtain ⟨k2, h1, h2⟩ := hd k hk v hv hR
              exact ⟨k2, by omega, (if_neg (by omega)).trans h2⟩
            · intro v hv hR
              have hR : (stM (I hc) (I nc) but) (q i) v := by have z := hR; rw [show (if i = e then b else q i) = q i from if_neg (by omega)] at z; exact z
              by_cases z : v = b
              · exact ⟨e, by omega, (if_pos rfl).trans z.symm⟩
              · obtain ⟨k2, h1, h2⟩ := hb2 v (by omega) hR
                exact ⟨k2, by omega, (if_neg (by omega)).trans h2⟩
          · refine v_goto (tgt := 188) dX9_finds_164 (by decide) ?_
            have hvv : 0 ≤ J 75 b → vis e q b := fun z => hvb.mpr (fun w => by rw [w] at z; exact absurd z (by decide))
            refine v_inc9 dX9_finds_188 rfl ?_
            refine v_goto (tgt := 75) dX9_finds_191 (by decide) ?_
            rw [nI_1 b]
            refine ih (b + 1) (by omega) (by omega) J e q _ hJ hB hi rfl hd (fun v hv hR => ?_)
            by_cases z : v = b
            · subst z
              exact (hR.2.2.2.elim (fun z => absurd z hlow) (fun z => absurd ((hJ _ _ hx3 hx4).symm.trans h161) z))
            · exact hb2 v (by omega) hR

def fnQ (dc : Nat) (I : Nat → Nat → Int32) (L : Nat → Nat → Int64) (R : Nat → Nat → Prop) (s g : Nat) : Option Value → Mem → Prop := fun r μ => ∃ J, μ = Mm dc J L ∧ r = some (.int (bI (rch R s g))) ∧ agF I J ∧ (rch R s g → ∃ e q, BF (J 75) (J 76) R s e q ∧ vis e q g)
theorem agF.f {I J : Nat → Nat → Int32} (h : agF I J) {x : Nat} (h1 : x ≠ 75) (h2 : x ≠ 76) : J x = I x := funext fun j => h x j h1 h2
theorem agF.t {I J K : Nat → Nat → Int32} (h : agF I J) (h2 : agF J K) : agF I K := fun x j h3 h4 => (h2 x j h3 h4).trans (h x j h3 h4)

set_option maxRecDepth 4000 in
theorem lp_fiO {G : GG} {dc : Nat} {I : Nat → Nat → Int32} {L : Nat → Nat → Int64} {s g but hc nc : Nat} {Q : Option Value → Mem → Prop} (hbut : but < 24) (hh : hc = 73 ∨ hc = 74) (hnc : nc = 70 ∨ nc = 71 ∨ nc = 72) (hk9 : ∀ (J : Nat → Nat → Int32) (e i : Nat) (q : Nat → Nat) (a0 b0 c0 : Value), agF I J → BF (J 75) (J 76) (stM (I hc) (I nc) but) s e q → (∀ k, k < e → ∀ v, v < 10 → (stM (I hc) (I nc) but) (q k) v → vis e q v) → V G yX9_finds cX9_finds 11 (some .boolean) 0 0 0 200 [.ref 39, .int (nI s), .int (nI g), .int (nI but), .ref hc, .ref nc, .int (nI e), .int (nI i), a0, b0, c0] [] (Mm dc J L) Q) (k : Nat) : ∀ i, i + k = 10 → ∀ (J : Nat → Nat → Int32) (e : Nat) (q : Nat → Nat) (a0 b0 c0 : Value), agF I J → BF (J 75) (J 76) (stM (I hc) (I nc) but) s e q → i ≤ e → (∀ k, k < i → ∀ v, v < 10 → (stM (I hc) (I nc) but) (q k) v → vis e q v) → V G yX9_finds cX9_finds 11 (some .boolean) 0 0 0 44 [.ref 39, .int (nI s), .int (nI g), .int (nI but), .ref hc, .ref nc, .int (nI e), .int (nI i), a0, b0, c0] [] (Mm dc J L) Q := by
  induction k with
  | zero =>
    intro i hi J e q a0 b0 c0 hJ hB hie hd
    have hle := hB.le
    refine v_ild7 dX9_finds_44 ?_
    refine v_ild6 dX9_finds_46 ?_
    refine v_icmp_ge (tgt := 200) dX9_finds_48 (by decide) (fun h48 => ?_) (fun h48 => absurd (nI_le (by omega) (by omega)) h48)
    exact hk9 J e i q _ _ _ hJ hB (fun k hk => hd k (by omega))
  | succ k ih =>
    intro i hi J e q a0 b0 c0 hJ hB hie hd
    have hle := hB.le
    refine v_ild7 dX9_finds_44 ?_
    refine v_ild6 dX9_finds_46 ?_
    refine v_icmp_ge (tgt := 200) dX9_finds_48 (by decide) (fun h48 => ?_) (fun h48 => ?_)
    · have hei : e = i := Nat.le_antisymm ((nI_leI (by omega) (by omega)).mp h48) hie
      exact hk9 J e i q _ _ _ hJ hB (fun k hk => hd k (by omega))
    · have hie9 : i < e := Nat.lt_of_not_le fun z => h48 (nI_le z (by omega))
      have hqi := (hB.ql i hie9).1
      refine v_ald0 dX9_finds_51 ?_
      refine v_getP (q := 76) dX9_finds_52 fl_X9_133 (by first | rfl | exact lay_door (by omega) | exact lay_dt (by omega) | exact lay_da (by omega) | exact lay_sh (by omega) | exact lay_se (by omega)) rfl (by omega) rfl ?_
      refine v_ild7 dX9_finds_55 ?_
      refine v_iald dX9_finds_57 (by first | rfl | exact lay_door (by omega) | exact lay_dt (by omega) | exact lay_da (by omega) | exact lay_sh (by omega) | exact lay_se (by omega)) (by omega) ⟨rfl, by omega, by decide⟩ ?_
      refine v_e0 (congrArg Value.int (hB.ql i hie9).2) ?_
      refine v_ist8 dX9_finds_58 rfl ?_
      refine v_ild8 dX9_finds_60 ?_
      refine v_bipush (v := nI 6) dX9_finds_62 (by decide) ?_
      refine v_icmp_ge (tgt := 72) dX9_finds_64 (by decide) (fun h64 => ?_) (fun h64 => ?_)
      · refine v_icN (n := 0) dX9_finds_72 (by decide) ?_
        refine v_ist9 dX9_finds_73 rfl ?_
        have hlow : ¬ q i < 6 := fun z => nI_ge z (by decide) h64
        refine lp_fiH hbut hh hnc hlow (fun J1 e1 q1 b1 c1 hJ1 hB1 hi1 hd1 => ?_) 6 0 (by omega) (by omega) J e q _ hJ hB hie9 rfl hd (fun v hv hR => absurd hv (Nat.not_lt_zero _))
        refine v_inc7 dX9_finds_194 rfl ?_
        refine v_goto (tgt := 44) dX9_finds_197 (by decide) ?_
        rw [nI_1 i]
        exact ih (i + 1) (by omega) J1 e1 q1 _ _ _ hJ1 hB1 (by omega) hd1
      · refine v_bipush (v := nI 6) dX9_finds_67 (by decide) ?_
        refine v_goto (tgt := 73) dX9_finds_69 (by decide) ?_
        refine v_ist9 dX9_finds_73 rfl ?_
        have hlow : q i < 6 := Nat.lt_of_not_le fun z => h64 (nI_le z (by omega))
        refine lp_fiL hbut hh hnc hlow (fun J1 e1 q1 b1 c1 hJ1 hB1 hi1 hd1 => ?_) 4 6 (by omega) (by omega) J e q _ hJ hB hie9 rfl hd (fun v hv hR => absurd hR.1 (by omega))
        refine v_inc7 dX9_finds_194 rfl ?_
        refine v_goto (tgt := 44) dX9_finds_197 (by decide) ?_
        rw [nI_1 i]
        exact ih (i + 1) (by omega) J1 e1 q1 _ _ _ hJ1 hB1 (by omega) hd1

set_option maxRecDepth 4000 in
theorem lp_fiE {G : GG} {dc : Nat} {I : Nat → Nat → Int32} {L : Nat → Nat → Int64} {s g but hc nc : Nat} {J : Nat → Nat → Int32} {e i : Nat} {q : Nat → Nat} {a0 b0 c0 : Value} (hg : g < 10) (hJ : agF I J) (hB : BF (J 75) (J 76) (stM (I hc) (I nc) but) s e q) (hcl : ∀ k, k < e → ∀ v, v < 10 → (stM (I hc) (I nc) but) (q k) v → vis e q v) : V G yX9_finds cX9_finds 11 (some .boolean) 0 0 0 200 [.ref 39, .int (nI s), .int (nI g), .int (nI but), .ref hc, .ref nc, .int (nI e), .int (nI i), a0, b0, c0] [] (Mm dc J L) (fnQ dc I L (stM (I hc) (I nc) but) s g) := by
  refine v_ald0 dX9_finds_200 ?_
  refine v_getP (q := 75) dX9_finds_201 fl_X9_130 (by first | rfl | exact lay_door (by omega) | exact lay_dt (by omega) | exact lay_da (by omega) | exact lay_sh (by omega) | exact lay_se (by omega)) rfl (by omega) rfl ?_
  refine v_ild2 dX9_finds_204 ?_
  refine v_iald dX9_finds_205 (by first | rfl | exact lay_door (by omega) | exact lay_dt (by omega) | exact lay_da (by omega) | exact lay_sh (by omega) | exact lay_se (by omega)) (by omega) ⟨rfl, hg, by decide⟩ ?_
  refine v_if_lt (tgt := 213) dX9_finds_206 (by decide) (fun h206 => ?_) (fun h206 => ?_)
  · refine v_icN (n := 0) dX9_finds_213 (by decide) ?_
    exact v_retI dX9_finds_214 (by first | exact Or.inl rfl | exact Or.inr rfl | exact bI_01) (by have hnv : ¬ vis e q g := fun z => Exists.elim (hB.in z) (fun j hj => nI_pos (n := j) (by have := hj.1; omega) (hj.2 ▸ h206)); exact ⟨J, rfl, by rw [bI_f (hB.unreach hcl hnv)], hJ, fun z => absurd z (hB.unreach hcl hnv)⟩)
  · refine v_icN (n := 1) dX9_finds_209 (by decide) ?_
    refine v_goto (tgt := 214) dX9_finds_210 (by decide) ?_
    exact v_retI dX9_finds_214 (by first | exact Or.inl rfl | exact Or.inr rfl | exact bI_01) (by have hv : vis e q g := (hB.vis_iff hg).mpr (fun z => h206 (by rw [z]; decide)); exact ⟨J, rfl, by rw [bI_t (hB.reach hv)], hJ, fun _ => ⟨e, q, hB, hv⟩⟩)

set_option maxRecDepth 4000 in
theorem lp_fi0 {G : GG} {dc : Nat} {I : Nat → Nat → Int32} {L : Nat → Nat → Int64} {s g but hc nc : Nat} {Q : Option Value → Mem → Prop} (hs : s < 10) (hk9 : V G yX9_finds cX9_finds 11 (some .boolean) 0 0 0 44 [.ref 39, .int (nI s), .int (nI g), .int (nI but), .ref hc, .ref nc, .int (nI 1), .int (nI 0), UU, UU, UU] [] (Mm dc (u2 (u2 (fl2 I 75 10 (-1)) 75 s (nI s)) 76 0 (nI s)) L) Q) (k : Nat) : ∀ i, i + k = 10 → V G yX9_finds cX9_finds 11 (some .boolean) 0 0 0 3 [.ref 39, .int (nI s), .int (nI g), .int (nI but), .ref hc, .ref nc, .int (nI i), UU, UU, UU, UU] [] (Mm dc (fl2 I 75 i (-1)) L) Q := by
  induction k with
  | zero =>
    intro i hi
    refine v_ild6 dX9_finds_3 ?_
    refine v_bipush (v := nI 10) dX9_finds_5 (by decide) ?_
    refine v_icmp_ge (tgt := 24) dX9_finds_7 (by decide) (fun h7 => ?_) (fun h7 => absurd (nI_le (by omega) (by omega)) h7)
    refine v_ald0 dX9_finds_24 ?_
    refine v_getP (q := 75) dX9_finds_25 fl_X9_130 (by first | rfl | exact lay_door (by omega) | exact lay_dt (by omega) | exact lay_da (by omega) | exact lay_sh (by omega) | exact lay_se (by omega)) rfl (by omega) rfl ?_
    refine v_ild1 dX9_finds_28 ?_
    refine v_ild1 dX9_finds_29 ?_
    refine v_iast dX9_finds_30 (by first | rfl | exact lay_door (by omega) | exact lay_dt (by omega) | exact lay_da (by omega) | exact lay_sh (by omega) | exact lay_se (by omega)) (by omega) ⟨rfl, hs, by decide⟩ ?_
    refine v_ald0 dX9_finds_31 ?_
    refine v_getP (q := 76) dX9_finds_32 fl_X9_133 (by first | rfl | exact lay_door (by omega) | exact lay_dt (by omega) | exact lay_da (by omega) | exact lay_sh (by omega) | exact lay_se (by omega)) rfl (by omega) rfl ?_
    refine v_icN (n := 0) dX9_finds_35 (by decide) ?_
    refine v_ild1 dX9_finds_36 ?_
    refine v_iast dX9_finds_37 (by first | rfl | exact lay_door (by omega) | exact lay_dt (by omega) | exact lay_da (by omega) | exact lay_sh (by omega) | exact lay_se (by omega)) (by omega) ⟨rfl, by omega, by decide⟩ ?_
    refine v_icN (n := 1) dX9_finds_38 (by decide) ?_
    refine v_ist6 dX9_finds_39 rfl ?_
    refine v_icN (n := 0) dX9_finds_41 (by decide) ?_
    refine v_ist7 dX9_finds_42 rfl ?_
    obtain rfl : i = 10 := by omega
    exact hk9
  | succ k ih =>
    intro i hi
    refine v_ild6 dX9_finds_3 ?_
    refine v_bipush (v := nI 10) dX9_finds_5 (by decide) ?_
    refine v_icmp_ge (tgt := 24) dX9_finds_7 (by decide) (fun h7 => absurd h7 (nI_ge (by omega) (by omega))) (fun h7 => ?_)
    refine v_ald0 dX9_finds_10 ?_
    refine v_getP (q := 75) dX9_finds_11 fl_X9_130 (by first | rfl | exact lay_door (by omega) | exact lay_dt (by omega) | exact lay_da (by omega) | exact lay_sh (by omega) | exact lay_se (by omega)) rfl (by omega) rfl ?_
    refine v_ild6 dX9_finds_14 ?_
    refine v_icm1 dX9_finds_16 ?_
    refine v_iast dX9_finds_17 (by first | rfl | exact lay_door (by omega) | exact lay_dt (by omega) | exact lay_da (by omega) | exact lay_sh (by omega) | exact lay_se (by omega)) (by omega) ⟨rfl, by omega, by decide⟩ ?_
    refine v_inc6 dX9_finds_18 rfl ?_
    refine v_goto (tgt := 3) dX9_finds_21 (by decide) ?_
    rw [fl2_s, nI_1 i]
    exact ih (i + 1) (by omega)

set_option maxRecDepth 4000 in
theorem c_X9_finds {G : GG} {dc : Nat} {I : Nat → Nat → Int32} {L : Nat → Nat → Int64} {xs xg xb : Int32} {s g but hc nc : Nat} (e1 : xs = nI s) (e2 : xg = nI g) (e3 : xb = nI but) (hs : s < 10) (hg : g < 10) (hbut : but < 24) (hh : hc = 73 ∨ hc = 74) (hnc : nc = 70 ∨ nc = 71 ∨ nc = 72) : Cn G yX9_finds cX9_finds 11 (some .boolean) 0 0 0 [.ref 39, .int xs, .int xg, .int xb, .ref hc, .ref nc] (Mm dc I L) (fnQ dc I L (stM (I hc) (I nc) but) s g) := by
  subst e1
  subst e2
  subst e3
  refine Cn.of' (by decide) (Nat.le_of_ble_eq_true rfl) rfl ?_
  refine v_icN (n := 0) dX9_finds_0 (by decide) ?_
  refine v_ist6 dX9_finds_1 rfl ?_
  have h9 := lp_fi0 (G := G) (dc := dc) (I := I) (L := L) (s := s) (g := g) (but := but) (hc := hc) (nc := nc) (Q := fnQ dc I L (stM (I hc) (I nc) but) s g) hs ?_ 10 0 (by omega)
  · rw [fl2_0] at h9
    exact h9
  · refine lp_fiO hbut hh hnc (fun J e i q a0 b0 c0 hJ hB hcl => lp_fiE hg hJ hB hcl) 10 0 (by omega) _ 1 (fun _ => s) _ _ _ (fun x j h1 h2 => ?_) (BF.start hs (fun v hv => ?_) (u2_s _ _ _ _)) (by omega) (fun k hk => absurd hk (Nat.not_lt_zero _))
    · rw [u2_a _ _ _ _ h2, u2_a _ _ _ _ h1, fl2_o _ _ _ _ h1]
    · rw [u2_a _ _ _ _ (by decide)]
      by_cases z : v = s
      · rw [if_pos z, z, u2_s]
      · rw [if_neg z, u2_k _ _ _ _ z]; exact if_pos ⟨rfl, hv⟩

set_option maxRecDepth 4000 in
theorem c_X9_canRise {G : GG} {dc : Nat} {I : Nat → Nat → Int32} {L : Nat → Nat → Int64} {x : Int32} {c hc nc : Nat} (e1 : x = nI c) (hc24 : c < 24) (hh : hc = 73 ∨ hc = 74) (hnc : nc = 70 ∨ nc = 71 ∨ nc = 72) : Cn G yX9_canRise cX9_canRise 4 (some .boolean) 1 0 0 [.ref 39, .int x, .ref hc, .ref nc] (Mm dc I L) (fnQ dc I L (stM (I hc) (I nc) c) (6 + c % 4) (c / 4)) := by
  subst e1
  refine Cn.of' (by decide) (Nat.le_of_ble_eq_true rfl) rfl ?_
  refine v_ald0 dX9_canRise_0 ?_
  refine v_bipush (v := nI 6) dX9_canRise_1 (by decide) ?_
  refine v_ild1 dX9_canRise_3 ?_
  refine v_icN (n := 4) dX9_canRise_4 (by decide) ?_
  refine v_irem dX9_canRise_5 (by decide) ?_
  refine v_iadd dX9_canRise_6 ?_
  refine v_ild1 dX9_canRise_7 ?_
  refine v_icN (n := 4) dX9_canRise_8 (by decide) ?_
  refine v_idiv dX9_canRise_9 (by decide) ?_
  refine v_ild1 dX9_canRise_10 ?_
  refine v_ald2 dX9_canRise_11 ?_
  refine v_ald3 dX9_canRise_12 ?_
  refine v_V5p (c_X9_finds (s := 6 + c % 4) (g := c / 4) (but := c) (by rw [pk_rem (by omega) (by decide) (by decide), nI_add]) (pk_div (by omega) (by decide) (by decide)) rfl (by omega) (by omega) hc24 hh hnc) lk_X9_259 dX9_canRise_13 (by decide) (Nat.le_of_ble_eq_true rfl) rfl (show _ < 78 + 3 * _ by omega) (fun r μ₁ h => ?_)
  obtain ⟨K, rfl, rfl, h2, h3⟩ := h
  exact v_retI dX9_canRise_16 (by first | exact Or.inl rfl | exact Or.inr rfl | exact bI_01) ⟨K, rfl, rfl, h2, h3⟩

def flQ (dc : Nat) (I : Nat → Nat → Int32) (L : Nat → Nat → Int64) (P : Prop) [Decidable P] (R : Nat → Nat → Prop) (s g : Nat) : Option Value → Mem → Prop := fun r μ => ∃ J, μ = Mm dc J L ∧ r = some (.int (bI (P ∧ rch R s g))) ∧ agF I J ∧ (P ∧ rch R s g → ∃ e q, BF (J 75) (J 76) R s e q ∧ vis e q g)

set_option maxRecDepth 4000 in
theorem c_X9_canFall {G : GG} {dc : Nat} {I : Nat → Nat → Int32} {L : Nat → Nat → Int64} {x : Int32} {c hc nc : Nat} (e1 : x = nI c) (hc24 : c < 24) (hh : hc = 73 ∨ hc = 74) (hnc : nc = 70 ∨ nc = 71 ∨ nc = 72) : Cn G yX9_canFall cX9_canFall 4 (some .boolean) 1 0 0 [.ref 39, .int x, .ref hc, .ref nc] (Mm dc I L) (flQ dc I L (¬ I nc c ≤ 0) (stM (I hc) (I nc) c) (c / 4) (6 + c % 4)) := by
  subst e1
  refine Cn.of' (by decide) (Nat.le_of_ble_eq_true rfl) rfl ?_
  refine v_ald3 dX9_canFall_0 ?_
  refine v_ild1 dX9_canFall_1 ?_
  refine v_iald dX9_canFall_2 (by rcases hnc with rfl | rfl | rfl <;> rfl) (by omega) ⟨rfl, hc24, by decide⟩ ?_
  refine v_if_le (tgt := 29) dX9_canFall_3 (by decide) (fun h3 => ?_) (fun h3 => ?_)
  · refine v_icN (n := 0) dX9_canFall_29 (by decide) ?_
    exact v_retI dX9_canFall_30 (by first | exact Or.inl rfl | exact Or.inr rfl | exact bI_01) ⟨I, rfl, by rw [bI_f (fun z => z.1 h3)], fun _ _ _ _ => rfl, fun z => absurd h3 z.1⟩
  · refine v_ald0 dX9_canFall_6 ?_
    refine v_ild1 dX9_canFall_7 ?_
    refine v_icN (n := 4) dX9_canFall_8 (by decide) ?_
    refine v_idiv dX9_canFall_9 (by decide) ?_
    refine v_bipush (v := nI 6) dX9_canFall_10 (by decide) ?_
    refine v_ild1 dX9_canFall_12 ?_
    refine v_icN (n := 4) dX9_canFall_13 (by decide) ?_
    refine v_irem dX9_canFall_14 (by decide) ?_
    refine v_iadd dX9_canFall_15 ?_
    refine v_ild1 dX9_canFall_16 ?_
    refine v_ald2 dX9_canFall_17 ?_
    refine v_ald3 dX9_canFall_18 ?_
    refine v_V5p (c_X9_finds (s := c / 4) (g := 6 + c % 4) (but := c) (pk_div (by omega) (by decide) (by decide)) (by rw [pk_rem (by omega) (by decide) (by decide), nI_add]) rfl (by omega) (by omega) hc24 hh hnc) lk_X9_259 dX9_canFall_19 (by decide) (Nat.le_of_ble_eq_true rfl) rfl (show _ < 78 + 3 * _ by omega) (fun r μ₁ h => ?_)
    obtain ⟨K, rfl, rfl, h2, h30⟩ := h
    refine v_ifeq_b (tgt := 29) dX9_canFall_22 (by decide) (fun h22 => ?_) (fun h22 => ?_)
    · refine v_icN (n := 0) dX9_canFall_29 (by decide) ?_
      exact v_retI dX9_canFall_30 (by first | exact Or.inl rfl | exact Or.inr rfl | exact bI_01) ⟨K, rfl, by rw [bI_f (fun z => h22 z.2)], h2, fun z => h30 z.2⟩
    · refine v_icN (n := 1) dX9_canFall_25 (by decide) ?_
      refine v_goto (tgt := 30) dX9_canFall_26 (by decide) ?_
      exact v_retI dX9_canFall_30 (by first | exact Or.inl rfl | exact Or.inr rfl | exact bI_01) ⟨K, rfl, by rw [bI_t ⟨h3, h22⟩], h2, fun z => h30 z.2⟩
