/-! THE CLAIM OUT OF ONE WALK OF THE LAW'S BODY. Your part is whole_start (and what it stands on); all else here is the same for every law, but numbers. -/
def R_law : String := "CensusNightLaw"
def lw_P (b : Addr) (xs : List Int32) (args : Array Value) (s : State) : Prop := args = #[.ref b] ∧ s.IntsAt b xs ∧ xs.length ≤ 3072 ∧ (Jvm.Cond.and given_1 narrow_1).before args s = true
def lw_Q (_ : Array Value) (s : State) (o : Outcome) (t : State) : Prop := o = .returned (some (.int 1)) ∧ Framed s o t [] 600000 7302250
def lw_Z (below : List Frame) (a : Array Value) (s : State) : State → Prop := fun t => ∃ o, t.status = .running ∧ Ended t below o ∧ lw_Q a s o t
/-- the law's own end, with 1 on the stack, nothing written that was there before, its room as the claim has it -/
theorem lw_ret {p : Program} {l : Launch} {e : Env} {s : State} {m : MethodId} {below : List Frame} {meth : Method} {c : Code} {b : Nat} (hx : p.tables.exec = Jvm.exec) (hb : c.code = code) (hr : meth.sig.returnType = ret) (hlocks : meth.locks = false) {pc : Nat} {H : Heap} {ls : Array Slot} (hdg : decode code pc = .ok (.ireturn, 1)) : W p l e room_1 s m #[Value.ref b] below meth c H [] 600000 7302250 (lw_Z below #[Value.ref b] s) (F0 m pc ls [.int 1]) := by
  intro T hT X
  obtain ⟨fs, hret, hrun, hended, hW, hframe⟩ := X.leave (v := some (.int 1)) (hlocks := hlocks) (fun h => by rw [hr] at h; cases h)
  have hmeth' : T.vm.method? m = some meth := X.method'
  refine ⟨T.setFrames fs, ?_, .returned (some (.int 1)), hrun, hended, rfl, ⟨_, rfl⟩, hW, hframe⟩
  jvm_step X.here [X.here.top, hx, hb, hdg, hmeth', hr, ret, narrow_b1]
  (try refine ⟨rfl, ?_⟩); (try refine ⟨rfl, ?_⟩)
  first | (intro acts; rw [hret _ acts rfl rfl rfl]) | rw [hret _ _ rfl rfl rfl]
  exact Steps.refl _
/-- what holds at the law's entry: the machine, the code, the tables' words (any of lw_tbl by 'hts w (by decide +kernel)'), the script of L ints xs at the cell b, what the Statement gives of the start (any of its parts by flat_of_before) -/
def lw_At (p : Program) (s : State) (m : MethodId) (meth : Method) (c : Code) (b L : Nat) (xs : Nat → Int32) : Prop :=
  p.tables.exec = Jvm.exec ∧ c.code = code ∧ meth.sig.returnType = ret ∧ c.maxLocals = 4 ∧ s.vm.findClass R_law = some m.cls ∧ (∀ w ∈ lw_tbl, w.before #[Value.ref b] s = true) ∧ va_X b L xs s s.heap ∧ b < s.heap.size ∧ meth.locks = false ∧ (Jvm.Cond.and given_1 narrow_1).before #[Value.ref b] s = true
-- ===== YOUR PART BEGINS =====
theorem tbl_at {n : Nat} {w : Cond} (h : lw_tbl[n]? = some w) : w ∈ lw_tbl := List.mem_of_getElem? h
/-- the classes' numbers and places -/
theorem kls_known {args : Array Value} {s : State} (hts : ∀ w ∈ lw_tbl, w.before args s = true) : ∃ D : va_G, ∀ (c : Nat) (q : vw_C), kls[c]? = some q → u_Kn s q.1 q.2.1 q.2.2 (D.1 c) (D.2 c) := by
  have h0 : ∀ w ∈ lw0, w.before args s = true := fun w hw => hts w (List.mem_filter.mp hw).1
  have hk : ∀ c : Nat, ∃ y : ClassId × (Nat → Nat), ∀ q : vw_C, kls[c]? = some q → u_Kn s q.1 q.2.1 q.2.2 y.1 y.2 := fun c => by
    match c with
    | 0 =>
      obtain ⟨a, b, h⟩ := u_known (C := RX0) (T := TX0) (N := 4) (n := 4) h0 iX0 (hts (.instantiable RX0 4) (tbl_at (n := 110) (by decide +kernel)))
      exact ⟨(a, b), fun q hq => by cases hq; exact h⟩
    | 1 =>
      obtain ⟨a, b, h⟩ := u_known (C := RX1) (T := TX1) (N := 14) (n := 14) h0 iX1 (hts (.instantiable RX1 14) (tbl_at (n := 297) (by decide +kernel)))
      exact ⟨(a, b), fun q hq => by cases hq; exact h⟩
    | 2 =>
      obtain ⟨a, b, h⟩ := u_known (C := RX2) (T := TX2) (N := 2) (n := 2) h0 iX2 (hts (.instantiable RX2 2) (tbl_at (n := 177) (by decide +kernel)))
      exact ⟨(a, b), fun q hq => by cases hq; exact h⟩
    | 3 =>
      obtain ⟨a, b, h⟩ := u_known (C := RX3) (T := TX3) (N := 4) (n := 4) h0 iX3 (hts (.instantiable RX3 4) (tbl_at (n := 86) (by decide +kernel)))
      exact ⟨(a, b), fun q hq => by cases hq; exact h⟩
    | 4 =>
      obtain ⟨a, b, h⟩ := u_known (C := RX4) (T := TX4) (N := 4) (n := 4) h0 iX4 (hts (.instantiable RX4 4) (tbl_at (n := 227) (by decide +kernel)))
      exact ⟨(a, b), fun q hq => by cases hq; exact h⟩
    | 5 =>
      obtain ⟨a, b, h⟩ := u_known (C := RX5) (T := TX5) (N := 4) (n := 4) h0 iX5 (hts (.instantiable RX5 4) (tbl_at (n := 190) (by decide +kernel)))
      exact ⟨(a, b), fun q hq => by cases hq; exact h⟩
    | 6 =>
      obtain ⟨a, b, h⟩ := u_known (C := RX6) (T := TX6) (N := 6) (n := 6) h0 iX6 (hts (.instantiable RX6 6) (tbl_at (n := 171) (by decide +kernel)))
      exact ⟨(a, b), fun q hq => by cases hq; exact h⟩
    | 7 =>
      obtain ⟨a, b, h⟩ := u_known (C := RX7) (T := TX7) (N := 10) (n := 10) h0 iX7 (hts (.instantiable RX7 10) (tbl_at (n := 131) (by decide +kernel)))
      exact ⟨(a, b), fun q hq => by cases hq; exact h⟩
    | 8 =>
      obtain ⟨a, b, h⟩ := u_known (C := RX8) (T := TX8) (N := 10) (n := 10) h0 iX8 (hts (.instantiable RX8 10) (tbl_at (n := 74) (by decide +kernel)))
      exact ⟨(a, b), fun q hq => by cases hq; exact h⟩
    | 9 =>
      obtain ⟨a, b, h⟩ := u_known (C := RX9) (T := TX9) (N := 46) (n := 46) h0 iX9 (hts (.instantiable RX9 46) (tbl_at (n := 876) (by decide +kernel)))
      exact ⟨(a, b), fun q hq => by cases hq; exact h⟩
    | c + 10 => exact ⟨((0 : Nat), fun _ => 0), fun q hq => by simp [kls] at hq⟩
  obtain ⟨f, hf⟩ := Classical.skolem.mp hk
  exact ⟨(fun c => (f c).1, fun c => (f c).2), fun c q hq => hf c q hq⟩
theorem arr_known {args : Array Value} {s : State} {ty : FieldType} (h : (Cond.arrayClass ty).before args s = true) : ∃ cA, ArrOfT s cA ty ∧ s.vm.findClass ("[" ++ ty.toString) = some cA := by
  obtain ⟨cA, kA, comp, h1, h2, h3⟩ := Cond.arrayClass_spec h
  exact ⟨cA, fun n z => ⟨fun k q => (by cases q), kA, h2, comp, h3⟩, h1⟩
theorem over_known {args : Array Value} {s : State} {C : String} (h : (Cond.arrayOver (.object C)).before args s = true) : ∃ cA, ArrOfT s cA (.object C) ∧ va_RA s cA (.object C) := by
  obtain ⟨comp, cA, kA, h1, -, h2, h3, h4⟩ := Cond.arrayOver_spec h
  exact ⟨cA, fun n z => ⟨fun k q => (by cases q), kA, h2, comp, h3⟩, kA, comp, h2, h3, h1, h4⟩
/-- YOUR PART: from the entry, for every script of at most 3072 ints, the law comes to its end with true ('hflags': the launch's flags, for a law that throws: no stack traces) -/
theorem whole_start {p : Program} {e : Env} {s : State} {m : MethodId} {below : List Frame} {meth : Method} {c : Code} (l : Launch) (hflags : l.flags = flags0) {b L : Nat} {xs : Nat → Int32} (hL : L ≤ 3072) (C0 : lw_At p s m meth c b L xs) : W p l e room_1 s m #[Value.ref b] below meth c s.heap [] 0 0 (lw_Z below #[Value.ref b] s) (entryFrame m ([Value.ref b] : List Value).toArray 4) := by
  obtain ⟨hx, hb, hr, hml, hown, hts, hX, hbl, hlocks, hgv⟩ := id C0
  have hts0 : ∀ w ∈ lw0, w.before #[Value.ref b] s = true := fun w hw => hts w (List.mem_filter.mp hw).1
  have hg := flat_of_before _ hgv
  have hA : ∀ a : Nat, a < s.heap.size → ¬ (fun q : Nat => s.heap.size ≤ q) a := fun a h => Nat.not_le.mpr h
  obtain ⟨D, hD⟩ := kls_known hts
  obtain ⟨c10, a10, n10⟩ := arr_known (hts (.arrayClass .int) (tbl_at (n := 108) (by decide +kernel)))
  obtain ⟨c11, a11, n11⟩ := arr_known (hts (.arrayClass .long) (tbl_at (n := 251) (by decide +kernel)))
  obtain ⟨c12, a12, n12⟩ := arr_known (hts (.arrayClass .boolean) (tbl_at (n := 1020) (by decide +kernel)))
  obtain ⟨c13, a13, n13⟩ := over_known (hts (.arrayOver (.object RX1)) (tbl_at (n := 84) (by decide +kernel)))
  obtain ⟨c14, a14, n14⟩ := over_known (hts (.arrayOver (.object RX4)) (tbl_at (n := 82) (by decide +kernel)))
  obtain ⟨adK, adV, hvS, hvE⟩ := vk_Sof (args := #[Value.ref b]) (s := s) (N := 1) (tm := fun _ => .string "CensusNight$Law" 41) (len := [3]) (byt := [[107, 112, 99]]) (A := fun q : Nat => s.heap.size ≤ q) (fun i hi => by rw [show i = 0 by omega]; decide) (fun i _ => hg _ (by decide +kernel)) (fun i _ => hg _ (by decide +kernel)) (fun i _ => hg _ (by decide +kernel)) (fun i hi => by rw [show i = 0 by omega]; exact hg _ (by decide +kernel)) (fun i hi j hj => by
    obtain rfl : i = 0 := by omega
    have hj3 : j < 3 := hj
    match j, hj3 with
    | 0, _ => exact hg _ (by decide +kernel)
    | 1, _ => exact hg _ (by decide +kernel)
    | 2, _ => exact hg _ (by decide +kernel)) (fun i j hi hj h => absurd (show i = j by omega) h) hA
  have hZ1 := va_Zof (A := fun q : Nat => s.heap.size ≤ q) (hts (.laysStatic "java/lang/String" "COMPACT_STRINGS" "Z") (tbl_at (n := 487) (by decide +kernel))) (hts (.initialized "java/lang/String") (tbl_at (n := 67) (by decide +kernel))) (va_eqi (hg (.eq (.static "java/lang/String" "COMPACT_STRINGS" "Z") (.int 1)) (by decide +kernel))) hA
  obtain ⟨fv, hfc, hZ2⟩ : ∃ fv : Value, fv.category = 1 ∧ va_Z "jdk/internal/util/Preconditions" "SIOOBE_FORMATTER" "Ljava/util/function/BiFunction;" fv (fun q : Nat => s.heap.size ≤ q) s s.heap := by
    rcases va_Zqof (A := fun q : Nat => s.heap.size ≤ q) (hts (.laysStatic "jdk/internal/util/Preconditions" "SIOOBE_FORMATTER" "Ljava/util/function/BiFunction;") (tbl_at (n := 495) (by decide +kernel))) (hts (.initialized "jdk/internal/util/Preconditions") (tbl_at (n := 69) (by decide +kernel))) (hg (.isRef (.static "jdk/internal/util/Preconditions" "SIOOBE_FORMATTER" "Ljava/util/function/BiFunction;")) (by decide +kernel)) hA with h | ⟨t, h⟩
    · exact ⟨.null, rfl, h⟩
    · exact ⟨.ref t, rfl, h⟩
  obtain ⟨G, eL, eD, e10, e11, e12, e13, e14, eB, eS, eV, x1, x2, x3, x4, eC⟩ : ∃ G : GG, gl G = l ∧ gD G = D ∧ gA G 10 = c10 ∧ gA G 11 = c11 ∧ gA G 12 = c12 ∧ gA G 13 = c13 ∧ gA G 14 = c14 ∧ gB G = s.heap.size ∧ gs G = adK 0 ∧ gv G = adV 0 ∧ gx G 1 = .ref b ∧ gx G 2 = .ref (adK 0) ∧ gx G 3 = .ref (adV 0) ∧ gx G 4 = fv ∧ ∀ w, (gx G w).category = 1 := by
    refine ⟨((l, D, fun t => if t = 10 then c10 else if t = 11 then c11 else if t = 12 then c12 else if t = 13 then c13 else c14), s.heap.size, adK 0, adV 0, fun w => if w = 1 then .ref b else if w = 2 then .ref (adK 0) else if w = 3 then .ref (adV 0) else if w = 4 then fv else .null), rfl, rfl, rfl, rfl, rfl, rfl, rfl, rfl, rfl, rfl, rfl, rfl, rfl, rfl, fun w => ?_⟩
    show Value.category (if w = 1 then .ref b else if w = 2 then .ref (adK 0) else if w = 3 then .ref (adV 0) else if w = 4 then fv else .null) = 1
    split
    · rfl
    · split
      · rfl
      · split
        · rfl
        · split
          · exact hfc
          · rfl
  subst eL
  have eA : AA G = fun q : Nat => s.heap.size ≤ q := by
    funext q
    unfold AA
    rw [eB]
  have hKK : KK G s := by
    refine ⟨⟨by rw [eD]; exact hD, fun k q hq => ?_⟩, by rw [eB]; exact Nat.le_refl _, fun q hq => ?_, ⟨⟨va_AO.of (hts (.arrayOver (.object RX1)) (tbl_at (n := 84) (by decide +kernel))), va_AO.of (hts (.arrayOver (.object RX4)) (tbl_at (n := 82) (by decide +kernel)))⟩, eC⟩, ?_, ?_, ?_, ?_, ?_, ?_⟩
    · match k, hq with
      | 0, hq => cases hq; rw [e10]; exact ⟨a10, n10⟩
      | 1, hq => cases hq; rw [e11]; exact ⟨a11, n11⟩
      | 2, hq => cases hq; rw [e12]; exact ⟨a12, n12⟩
      | 3, hq => cases hq; rw [e13]; exact ⟨a13, n13⟩
      | 4, hq => cases hq; rw [e14]; exact ⟨a14, n14⟩
      | k + 5, hq => simp [tyl] at hq
    · simp only [nestL, List.mem_cons, List.not_mem_nil, or_false] at hq
      rcases hq with rfl | rfl | rfl | rfl | rfl | rfl
      · exact va_tabs rfl rfl (hts _ (tbl_at (n := 87) (by decide +kernel)))
      · exact va_tabs rfl rfl (hts _ (tbl_at (n := 111) (by decide +kernel)))
      · exact va_tabs rfl rfl (hts _ (tbl_at (n := 172) (by decide +kernel)))
      · exact va_tabs rfl rfl (hts _ (tbl_at (n := 228) (by decide +kernel)))
      · exact va_tabs rfl rfl (hts _ (tbl_at (n := 178) (by decide +kernel)))
      · exact va_tabs rfl rfl (hts _ (tbl_at (n := 191) (by decide +kernel)))
    · rw [eA, eS, eV]
      refine ⟨fun i hi => ?_, fun i j hi hj _ => by omega⟩
      obtain rfl : i = 0 := by omega
      exact hvS.1 0 hi
    · rw [eS]
      exact vk_R.of (hts (.stringRef "CensusNight$Law" 41 "kpc") (tbl_at (n := 477) (by decide +kernel))) (hvE 0 (by omega))
    · rw [eA]; exact hZ1
    · rw [eA, x4]; exact hZ2
    · rw [eS]; exact x2
    · rw [eV]; exact x3
  have hZ : ZS G b L xs s := ⟨hX, hbl, by rw [eA]; exact hA b hbl, x1⟩
  have hl := lv_entry ([.ref b]) (n := 4) (Nat.le_of_ble_eq_true rfl)
  rw [lg_entry_eq]
  generalize (lg_sl ([.ref b]) ++ List.replicate (4 - (lg_sl ([.ref b])).length) Slot.unset).toArray = lr at hl ⊢
  have hl : lv_has lr 4 [(0, .ref b)] := hl
  have hLR : LR G lr 4 [.float 1, UU, UU, UU] := by
    refine ⟨rfl, hl.1, hl.2.1, fun q hq => ?_⟩
    obtain ⟨w, h1, h2, h3⟩ := prs_of hq
    obtain ⟨i, v⟩ := q
    refine hl.2.2 _ ?_
    match i, h1 with
    | 0, h1 =>
      cases h1
      have h4 : v = .ref b := h3.trans x1
      rw [h4]
      exact List.mem_cons_self
    | 1, h1 => cases h1; simp [isU] at h2
    | 2, h1 => cases h1; simp [isU] at h2
    | 3, h1 => cases h1; simp [isU] at h2
    | i + 4, h1 => simp at h1
  have hV := law_ini (nm := meth.name) (law_loop (nm := meth.name) (G := G) (b := b) (N := L) (xs := xs) x1 hL 512 0 0 mI oL (by omega) (by omega) Inv_ini)
  refine hV p e room_1 s m #[Value.ref b] below meth c s.heap [] 0 0 _ lr hZ ⟨hx, hb, hml, hown, hts0, rfl, hKK⟩ hLR ⟨by rw [eB]; rfl, fun k hk => absurd hk (Nat.not_lt_zero _)⟩ va_S.rf ⟨Nat.le_of_ble_eq_true rfl, Nat.le_of_ble_eq_true rfl⟩ ⟨Nat.le_of_ble_eq_true rfl, Nat.le_of_ble_eq_true rfl⟩ ?_
  intro r μ' H' locs' cells' slots' pc' lr' hp hrt hdg hR' hS' hc' hs'
  obtain rfl := hp
  refine va_forget (fun q hq => ?_) ?_
  · have h9 := hS'.2.2 q hq
    rw [eA] at h9
    exact h9
  · refine W.widen (k := 600000) (n := 7302250) (by omega) (by omega) ?_
    exact lw_ret hx hb hr hlocks hdg
-- ===== YOUR PART ENDS =====
set_option maxHeartbeats 4000000 in
theorem lw_walk (l : Launch) (hflags : l.flags = flags0) (b : Addr) (xs : List Int32) : MetFree l x (headSpec (Jvm.Cond.code x code maxLocals ret :: tables_1) room_1) (lw_P b xs) (fun _ _ _ _ _ => True) lw_Q := by
  refine MetFree.of_bodyS (code := code) (maxLocals := maxLocals) (ret := ret) (by decide) ?_ ?_
  · intro args s m h hn
    obtain ⟨meth, c, h1, h2, h3, h4, h5, h6, -, -⟩ := Cond.code_spec hn (atoms_spec (ws := Jvm.Cond.code x code maxLocals ret :: tables_1) h _ List.mem_cons_self)
    exact ⟨meth, c, h1, h2, h3, h4, h5, h6⟩
  · intro p e s m args below meth c s₁ B hml0 hP _
    obtain ⟨rfl, hx, hbd, hgv⟩ := hP
    obtain ⟨scr, harrAt, hlist, hof, hsmall⟩ := hx
    obtain ⟨hcb, hkn, -, -⟩ := State.arrayAt?_spec harrAt
    have hown : s.vm.findClass R_law = some m.cls := findClass_of_methodNamed B.named
    have hts0 : ∀ c ∈ (Jvm.Cond.code x code maxLocals ret :: tables_1), c.before #[Value.ref b] s = true := atoms_spec (ws := Jvm.Cond.code x code maxLocals ret :: tables_1) B.pre
    have hts : ∀ w ∈ lw_tbl, w.before #[Value.ref b] s = true := k2_hts_sels lw_privs (fun w hw => hts0 w (List.mem_cons_of_mem _ hw)) lw_privs_ok
    have hml : c.maxLocals = 4 := B.maxLocals_eq (hts0 _ List.mem_cons_self)
    have X₀ : Stand p l e room_1 s m #[Value.ref b] below meth c s₁ [] 0 0 := Stand.of_body B
    have hh0 : s₁.heap = s.heap := by rw [B.state]; rfl
    have hsz : scr.slots.size = xs.length := by rw [← Array.length_toList, hlist, List.length_map]
    have hval : ∀ j : Nat, j < xs.length → scr.slots[j]? = some (.int (xs.getD j 0)) := fun j hj => by
      rw [← Array.getElem?_toList, hlist]
      simp [hj]
    have hbl : b < s.heap.size := (Array.getElem?_eq_some_iff.mp hcb).1
    have hX : va_X b xs.length (fun j => xs.getD j 0) s s.heap := ⟨scr, hcb, hof, hkn, hsz, hval⟩
    have K : W p l e room_1 s m #[Value.ref b] below meth c s₁.heap [] 0 0 (lw_Z below #[Value.ref b] s) (entryFrame m ([Value.ref b] : List Value).toArray 4) := by
      rw [hh0]
      exact whole_start l hflags hbd ⟨B.exec, B.bytes, B.returns, hml, hown, hts, hX, hbl, B.notSynchronized, hgv⟩
    obtain ⟨t, a1, o, b1, b2, b3⟩ := K s₁ rfl X₀
    exact ⟨t, o, a1, b1, b2, b3⟩
theorem lw_pre_spec {args : Array Value} {s : State} (h : (Jvm.Cond.and given_1 narrow_1).before args s = true) (hr : rest_1_c.before args s = true) : ∃ (b : Addr) (xs : List Int32), lw_P b xs args s := by
  have hs := flat_of_before _ h
  have hq := flat_of_before _ hr
  have hc : (Cond.count 1).before args s = true := hs _ (by decide +kernel)
  have harr : (Cond.arrayOf (.arg 0) .int).before args s = true := hs _ (by decide +kernel)
  have hle : (Cond.le (.length (.arg 0)) (.int 3072)).before args s = true := hs _ (by decide +kernel)
  have hlen : (Cond.isInt (.length (.arg 0))).before args s = true := hq _ (by decide +kernel)
  have hall : (Cond.all (.arg 0) (.isInt (.elem (.arg 0) (.index 0)))).before args s = true := hq _ (by decide +kernel)
  obtain ⟨b, xs, hb, hx⟩ := State.ints_of_pre rfl harr hlen hall
  have hsm : xs.length < 2 ^ 31 := hx.choose_spec.2.2.2
  have hev : (Term.length (.arg 0)).eval args s none [] s = some (.int xs.length.toInt32) := hx.length_eval hb
  have hv := Cond.le_ints hev (show (Term.int 3072).eval args s none [] s = some (.int 3072) from rfl)
  have hd : xs.length.toInt32 ≤ 3072 := by
    simpa [Cond.before, Cond.holds, hv] using hle
  have hN : xs.length ≤ 3072 := (Int32.ofNat_le_ofNat hsm (by decide)).mp (show Int32.ofNat xs.length ≤ Int32.ofNat 3072 from hd)
  exact ⟨b, xs, Cond.one_arg hc (show args[0]? = some (.ref b) from hb), hx, hN, h⟩
theorem lw_comes (l : Launch) (hflags : l.flags = flags0) : Comes l x (Jvm.Cond.code x code maxLocals ret :: tables_1) room_1 (fun tb e args s => Calls_1 tb e args s ∧ rest_1 tb e args s ∧ Pre_1 tb e args s)
    (fun _ _ args s o t => lw_Q args s o t) := by
  intro p e ha hc hk s m args below hf hfit hheap happ hpre
  obtain ⟨b, xs, hP⟩ := lw_pre_spec hpre.2.2 hpre.2.1
  obtain ⟨k, o, h1, h2, h3, hQ⟩ := lw_walk l hflags b xs p e ha hc hk s m args below hf ((Spec.applies_iff_loose hf).mp happ).1 hP trivial
  exact ⟨k, o, h1, h2, h3, hQ⟩
theorem lw_frame {s t : State} {o : Outcome} {args : Array Value} (h : Framed s o t [] 600000 7302250) :
    Framed s o t (fieldLocs frame_1_writes args s ++ arrayLocs frame_1_arrays args s ++ staticLocs frame_1_statics s) 600000 7302250 := h
theorem lw_limb (L : Cond) (hL : ∀ (args : Array Value) (s t : State), L.after args s (.returned (some (.int 1))) t = true) :
    ArmFor flags0 classFile x code maxLocals ret World_1 tables_1 room_1 Calls_1 rest_1 Pre_1
      (fun tb e a s o t => postC L tb e a s o t ∧ Framed s o t (fieldLocs frame_1_writes a s ++ arrayLocs frame_1_arrays a s ++ staticLocs frame_1_statics s) 600000 7302250) := by
  intro l hflags _ _ p e ha hc hk s m args below hf hfit hheap happ hpre
  obtain ⟨k, o, h1, h2, h3, rfl, hF⟩ := lw_comes l hflags p e ha hc hk s m args below hf hfit hheap happ hpre
  exact ⟨k, _, h1, h2, h3, hL args s _, lw_frame hF⟩
theorem i_vc : Claimed_1_1 ∧ Claimed_1_2 := ⟨lw_limb limb_1_1 (fun args s t => by simp [limb_1_1, Cond.after, Cond.holds, Cond.value]), lw_limb limb_1_2 (fun args s t => Cond.after_iff.mpr (by
  first | (rw [show limb_1_2 = Cond.eq .result (.int 1) from rfl, Cond.eq_ints (x := 1) (y := 1) rfl rfl]; simp; done) | (simp [limb_1_2, Cond.value, Term.eval]; done)))⟩
