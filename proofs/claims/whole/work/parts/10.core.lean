/-! ===== the judgement V: a method at a place, locals and stack by relative addresses, the memory as three functions ===== -/
def lw0 : List Cond := lw_tbl.filter goodWord
theorem lw0_in {n : Nat} {w : Cond} (h : lw_tbl[n]? = some w) (g : goodWord w = true) : w ∈ lw0 := List.mem_filter.mpr ⟨List.mem_of_getElem? h, g⟩
theorem lw0_good {w : Cond} (h : w ∈ lw0) : (w.onTables && w.keeps) = true ∨ ∃ ty, w = .arrayClass ty := good_of_word (List.mem_filter.mp h).2
abbrev GG : Type := (Launch × va_G × (Nat → ClassId)) × Nat × Nat × Nat × (UInt32 → Value)
def gl (G : GG) : Launch := G.1.1
def gD (G : GG) : va_G := G.1.2.1
def gA (G : GG) (t : Nat) : ClassId := G.1.2.2 t
def gB (G : GG) : Nat := G.2.1
def gs (G : GG) : Nat := G.2.2.1
def gv (G : GG) : Nat := G.2.2.2.1
def gx (G : GG) (w : UInt32) : Value := G.2.2.2.2 w
def AA (G : GG) : Nat → Prop := fun q => gB G ≤ q
abbrev Mem : Type := Nat × (Nat → Nat → Int32) × (Nat → Nat → Int64) × (Nat → Nat → Option Nat)
def kls : List vw_C := [(RX0, TX0, 4), (RX1, TX1, 14), (RX2, TX2, 2), (RX3, TX3, 4), (RX4, TX4, 4), (RX5, TX5, 4), (RX6, TX6, 6), (RX7, TX7, 10), (RX8, TX8, 10), (RX9, TX9, 46)]
/-- which fields of a class are references -/
def rfT : List (List Nat) := [[0, 1], [3, 4], [], [], [0], [0, 1, 2], [0, 1, 2, 3], [0, 1, 2, 3, 4, 5], [0, 1, 2, 3, 4, 5, 6], [0, 1, 2, 3, 4, 5, 6, 7, 8, 9, 10, 11, 12, 13, 14, 15, 16, 23, 24, 25, 26, 27, 28, 29, 30, 31, 32, 33, 34, 35, 37, 38, 39, 40, 41, 43, 44, 45]]
/-- the cells in the order in which they are made: tag (a class's number; 10 int[], 11 long[], 12 boolean[], 13 Door[], 14 Shelf[]) and length -/
def layT : List (Nat × Nat) := [(8, 10), (14, 8), (13, 24), (10, 8), (3, 4), (0, 4), (10, 40), (10, 40), (7, 10), (10, 6), (10, 6), (10, 6), (10, 6), (10, 6), (10, 6), (6, 6), (10, 24), (10, 24), (2, 2), (5, 4), (10, 24), (10, 10), (10, 10), (4, 4), (11, 30), (4, 4), (11, 30), (4, 4), (11, 30), (4, 4), (11, 30), (4, 4), (11, 30), (4, 4), (11, 30), (4, 4), (11, 30), (4, 4), (11, 30), (9, 46), (10, 24), (10, 24), (10, 24), (10, 24), (10, 288), (10, 24), (10, 24), (10, 288), (10, 24), (10, 24), (10, 24), (10, 24), (12, 24), (12, 288), (12, 36), (12, 6), (12, 24), (10, 40), (10, 40), (10, 8), (10, 8), (10, 8), (10, 8), (11, 240), (11, 30), (10, 6), (10, 6), (10, 6), (10, 6), (10, 6), (10, 24), (10, 24), (10, 24), (12, 24), (12, 24), (10, 10), (10, 10), (10, 4)]
def lay (k : Nat) : Nat × Nat := if k < 78 then layT.getD k (99, 0) else if k < 150 then (if (k - 78) % 3 = 0 then (1, 14) else (10, 12)) else (99, 0)
def kdT (t j : Nat) : Nat := if t = 11 then 1 else if t = 13 then 2 else if t = 14 then 2 else if (rfT.getD t []).contains j then 2 else 0
def kd (k j : Nat) : Nat := kdT (lay k).1 j
def tyl (G : GG) : List (ClassId × FieldType) := [(gA G 10, .int), (gA G 11, .long), (gA G 12, .boolean), (gA G 13, .object RX1), (gA G 14, .object RX4)]
def tv (G : GG) : Value → Value
  | .ref k => .ref (gB G + k)
  | .float w => gx G w
  | v => v
def isU : Value → Bool
  | .float w => w == 0
  | _ => false
abbrev UU : Value := .float 0
def sv (G : GG) (μ : Mem) (k j : Nat) : Value := if kd k j = 0 then .int (μ.2.1 k j) else if kd k j = 1 then .long (μ.2.2.1 k j) else va_rf ((μ.2.2.2 k j).map (fun q => gB G + q))
def Rep (G : GG) (μ : Mem) (H : Heap) : Prop := H.size = gB G + μ.1 ∧ ∀ k, k < μ.1 → (10 ≤ (lay k).1 → H[gB G + k]? = some (arrV (gA G (lay k).1) (lay k).2 (sv G μ k))) ∧ ((lay k).1 < 10 → t_OB (gB G + k) ((gD G).1 (lay k).1) (lay k).2 ((gD G).2 (lay k).1) H (sv G μ k))
/-- one of an array's places has changed -/
theorem Rep.arr {G : GG} {μ μ' : Mem} {H H' : Heap} {k j : Nat} {v : Value} (h : Rep G μ H) (hk : k < μ.1) (ht : 10 ≤ (lay k).1) (e : H'[gB G + k]? = some ((arrV (gA G (lay k).1) (lay k).2 (sv G μ k)).setSlot j v)) (z : H'.size = H.size) (oq : ∀ q, q ≠ gB G + k → H'[q]? = H[q]?) (hn : μ'.1 = μ.1) (hv : ∀ x y, sv G μ' x y = if x = k ∧ y = j then v else sv G μ x y) : Rep G μ' H' := by
  refine ⟨by rw [z, h.1, hn], fun x hx => ?_⟩
  rw [hn] at hx
  by_cases hxk : x = k
  · subst hxk
    refine ⟨fun _ => ?_, fun h1 => by omega⟩
    rw [e, arrV_store]
    congr 2
    funext y
    rw [hv x y]
    by_cases hy : y = j
    · simp [updV, hy]
    · simp [updV, hy]
  · have e1 : sv G μ' x = sv G μ x := by
      funext y
      rw [hv x y, if_neg (fun q => hxk q.1)]
    have e2 : H'[gB G + x]? = H[gB G + x]? := oq _ (by omega)
    rw [e1]
    exact ⟨fun q => by rw [e2]; exact (h.2 x hx).1 q, fun q => ((h.2 x hx).2 q).kept e2⟩
/-- one of an object's fields has changed -/
theorem Rep.obj {G : GG} {μ μ' : Mem} {H H' : Heap} {k j : Nat} {v : Value} (h : Rep G μ H) (hk : k < μ.1) (ht : (lay k).1 < 10) (e : t_OB (gB G + k) ((gD G).1 (lay k).1) (lay k).2 ((gD G).2 (lay k).1) H' (updV (sv G μ k) j v)) (z : H'.size = H.size) (oq : ∀ q, q ≠ gB G + k → H'[q]? = H[q]?) (hn : μ'.1 = μ.1) (hv : ∀ x y, sv G μ' x y = if x = k ∧ y = j then v else sv G μ x y) : Rep G μ' H' := by
  refine ⟨by rw [z, h.1, hn], fun x hx => ?_⟩
  rw [hn] at hx
  by_cases hxk : x = k
  · subst hxk
    refine ⟨fun h1 => by omega, fun _ => e.to (fun y _ => ?_)⟩
    rw [hv x y]
    by_cases hy : y = j
    · simp [updV, hy]
    · simp [updV, hy]
  · have e1 : sv G μ' x = sv G μ x := by
      funext y
      rw [hv x y, if_neg (fun q => hxk q.1)]
    have e2 : H'[gB G + x]? = H[gB G + x]? := oq _ (by omega)
    rw [e1]
    exact ⟨fun q => by rw [e2]; exact (h.2 x hx).1 q, fun q => ((h.2 x hx).2 q).kept e2⟩
/-- a cell more -/
theorem Rep.push {G : GG} {μ μ' : Mem} {H H' : Heap} (h : Rep G μ H) (z : H'.size = H.size + 1) (oq : ∀ q, q < H.size → H'[q]? = H[q]?) (hn : μ'.1 = μ.1 + 1) (hv : ∀ x y, x < μ.1 → sv G μ' x y = sv G μ x y) (hc : (10 ≤ (lay μ.1).1 → H'[gB G + μ.1]? = some (arrV (gA G (lay μ.1).1) (lay μ.1).2 (sv G μ' μ.1))) ∧ ((lay μ.1).1 < 10 → t_OB (gB G + μ.1) ((gD G).1 (lay μ.1).1) (lay μ.1).2 ((gD G).2 (lay μ.1).1) H' (sv G μ' μ.1))) : Rep G μ' H' := by
  refine ⟨by rw [z, h.1, hn]; omega, fun x hx => ?_⟩
  rw [hn] at hx
  by_cases hxk : x = μ.1
  · rw [hxk]; exact hc
  · have hl : x < μ.1 := by omega
    have e1 : sv G μ' x = sv G μ x := by
      funext y
      exact hv x y hl
    have e2 : H'[gB G + x]? = H[gB G + x]? := oq _ (by rw [h.1]; omega)
    rw [e1]
    exact ⟨fun q => by rw [e2]; exact (h.2 x hl).1 q, fun q => ((h.2 x hl).2 q).kept e2⟩
def u2 {α : Type} (f : Nat → Nat → α) (a k : Nat) (v : α) : Nat → Nat → α := fun x j => if x = a ∧ j = k then v else f x j
theorem sv_uI {G : GG} {n : Nat} {I : Nat → Nat → Int32} {L : Nat → Nat → Int64} {P : Nat → Nat → Option Nat} {a k : Nat} {v : Int32} (h : kd a k = 0) (x y : Nat) : sv G (n, u2 I a k v, L, P) x y = if x = a ∧ y = k then .int v else sv G (n, I, L, P) x y := by
  by_cases hc : x = a ∧ y = k
  · obtain ⟨rfl, rfl⟩ := hc
    simp [sv, h, u2]
  · simp only [sv, u2, if_neg hc]
theorem sv_uL {G : GG} {n : Nat} {I : Nat → Nat → Int32} {L : Nat → Nat → Int64} {P : Nat → Nat → Option Nat} {a k : Nat} {v : Int64} (h : kd a k = 1) (x y : Nat) : sv G (n, I, u2 L a k v, P) x y = if x = a ∧ y = k then .long v else sv G (n, I, L, P) x y := by
  by_cases hc : x = a ∧ y = k
  · obtain ⟨rfl, rfl⟩ := hc
    simp [sv, h, u2]
  · simp only [sv, u2, if_neg hc]
theorem sv_uP {G : GG} {n : Nat} {I : Nat → Nat → Int32} {L : Nat → Nat → Int64} {P : Nat → Nat → Option Nat} {a k : Nat} {v : Option Nat} (h : kd a k = 2) (x y : Nat) : sv G (n, I, L, u2 P a k v) x y = if x = a ∧ y = k then va_rf (v.map (fun q => gB G + q)) else sv G (n, I, L, P) x y := by
  by_cases hc : x = a ∧ y = k
  · obtain ⟨rfl, rfl⟩ := hc
    simp [sv, h, u2]
  · simp only [sv, u2, if_neg hc]
theorem sv_I {G : GG} {n : Nat} {I : Nat → Nat → Int32} {L : Nat → Nat → Int64} {P : Nat → Nat → Option Nat} {a k : Nat} (h : kd a k = 0) : sv G (n, I, L, P) a k = .int (I a k) := by simp [sv, h]
theorem sv_L {G : GG} {n : Nat} {I : Nat → Nat → Int32} {L : Nat → Nat → Int64} {P : Nat → Nat → Option Nat} {a k : Nat} (h : kd a k = 1) : sv G (n, I, L, P) a k = .long (L a k) := by simp [sv, h]
theorem sv_P {G : GG} {n : Nat} {I : Nat → Nat → Int32} {L : Nat → Nat → Int64} {P : Nat → Nat → Option Nat} {a k q : Nat} (h : kd a k = 2) (hp : P a k = some q) : sv G (n, I, L, P) a k = .ref (gB G + q) := by simp [sv, h, hp, va_rf]
theorem sv_N {G : GG} {n : Nat} {I : Nat → Nat → Int32} {L : Nat → Nat → Int64} {P : Nat → Nat → Option Nat} {a k : Nat} (h : kd a k = 2) (hp : P a k = none) : sv G (n, I, L, P) a k = .null := by simp [sv, h, hp, va_rf]
/-! the tables and what is never written -/
def nestL : List (String × Nat × MethodName) := [(RX8, 27, yX3_init), (RX8, 34, yX0_init), (RX8, 48, yX6_init), (RX8, 53, yX4_init), (RX6, 20, yX2_init), (RX6, 27, yX5_init)]
def SS (G : GG) (U : State) : Prop := vk_S 1 [3] [[107, 112, 99]] (fun _ => gs G) (fun _ => gv G) (AA G) U U.heap ∧ vk_R "CensusNight$Law" 41 "kpc" (gs G) U ∧ va_Z "java/lang/String" "COMPACT_STRINGS" "Z" (.int 1) (AA G) U U.heap ∧ va_Z "jdk/internal/util/Preconditions" "SIOOBE_FORMATTER" "Ljava/util/function/BiFunction;" (gx G 4) (AA G) U U.heap ∧ gx G 2 = .ref (gs G) ∧ gx G 3 = .ref (gv G)
def KK (G : GG) (U : State) : Prop := va_K (gD G) kls (tyl G) U ∧ gB G ≤ U.heap.size ∧ (∀ q ∈ nestL, va_Nw (.methodLinkNest q.1 q.2.1 q.2.2 "CensusNight") U) ∧ ((va_AO RX1 U ∧ va_AO RX4 U) ∧ ∀ w, (gx G w).category = 1) ∧ SS G U
theorem SS.calling {G : GG} {U : State} {g : JFrame} {mk : MethodId} {a : Array Value} (h : SS G U) : SS G (U.calling g mk a) := by
  obtain ⟨h1, h2, h3, h4, h5, h6⟩ := h
  exact ⟨vk_S.moved (u := U) (U := U.calling g mk a) (Vm.Alike.refl U.vm) h1, vk_R.same rfl h2, va_Z.moved (u := U) (U := U.calling g mk a) (Vm.Alike.refl U.vm) h3, va_Z.moved (u := U) (U := U.calling g mk a) (Vm.Alike.refl U.vm) h4, h5, h6⟩
theorem KK.calling {G : GG} {U : State} {g : JFrame} {mk : MethodId} {a : Array Value} (h : KK G U) : KK G (U.calling g mk a) := by
  obtain ⟨h1, h2, h3, h30, h4⟩ := h
  exact ⟨va_K.moved (u := U) (U := U.calling g mk a) (Vm.Alike.refl U.vm) h1, h2, fun q hq => va_tabs rfl (rfl : U.vm = (U.calling g mk a).vm) (h3 q hq), ⟨⟨va_AO.moved (u := U) (U := U.calling g mk a) (Vm.Alike.refl U.vm) h30.1.1, va_AO.moved (u := U) (U := U.calling g mk a) (Vm.Alike.refl U.vm) h30.1.2⟩, h30.2⟩, h4.calling⟩
theorem KK.moved {G : GG} {s U : State} {H : Heap} {locs : List Loc} (h : KK G s) (hS : va_S (AA G) s.heap H locs) (hU : U.heap = H) (hW : s.WarmedH U.vm) : KK G U := by
  obtain ⟨h1, h2, h3, h30, h4, h5, h6, h7, h8, h9⟩ := h
  refine ⟨va_K.moved hW.alike h1, by rw [hU]; exact Nat.le_trans h2 hS.1, fun q hq => va_Nw.warmM hW (h3 q hq), ⟨⟨va_AO.moved hW.alike h30.1.1, va_AO.moved hW.alike h30.1.2⟩, h30.2⟩, ?_, vk_R.warm hW h5, ?_, ?_, h8, h9⟩
  · rw [hU]; exact vk_S.moved hW.alike (h4.kept hS.2.1)
  · rw [hU]; exact va_Z.moved hW.alike (h6.kept hS.2.1)
  · rw [hU]; exact va_Z.moved hW.alike (h7.kept hS.2.1)
theorem KK.cat {G : GG} {U : State} (h : KK G U) (v : Value) : (tv G v).category = v.category := by
  cases v with
  | float w => exact h.2.2.2.1.2 w
  | _ => rfl
def okc : Value → Bool
  | .long _ => false
  | .double _ => false
  | _ => true
theorem okc_cat {v : Value} (h : okc v = true) : v.category = 1 := by
  cases v <;> first | rfl | (simp [okc] at h)
/-! locals -/
def prs (G : GG) (ls : List Value) : List (Nat × Value) := (List.range ls.length).filterMap (fun i => (ls[i]?).bind (fun v => if isU v then none else some (i, tv G v)))
theorem prs_mem {G : GG} {ls : List Value} {i : Nat} {v : Value} (h : ls[i]? = some v) (hu : isU v = false) : (i, tv G v) ∈ prs G ls := by
  refine List.mem_filterMap.mpr ⟨i, List.mem_range.mpr (List.getElem?_eq_some_iff.mp h).1, ?_⟩
  rw [h]
  simp [hu]
theorem prs_of {G : GG} {ls : List Value} {q : Nat × Value} (h : q ∈ prs G ls) : ∃ v, ls[q.1]? = some v ∧ isU v = false ∧ q.2 = tv G v := by
  obtain ⟨i, -, hi⟩ := List.mem_filterMap.mp h
  cases hv : ls[i]? with
  | none => rw [hv] at hi; simp at hi
  | some v =>
    rw [hv] at hi
    cases hu : isU v with
    | true => simp [hu] at hi
    | false =>
      simp [hu] at hi
      subst hi
      exact ⟨v, hv, hu, rfl⟩
def LR (G : GG) (lr : Array Slot) (nL : Nat) (ls : List Value) : Prop := ls.length = nL ∧ lv_has lr nL (prs G ls)
theorem LR.at {G : GG} {lr : Array Slot} {nL i : Nat} {ls : List Value} {v : Value} (h : LR G lr nL ls) (hi : ls[i]? = some v) (hu : isU v = false) : lr[i]? = some (.val (tv G v)) := h.2.2.2 _ (prs_mem hi hu)
theorem LR.st {G : GG} {lr : Array Slot} {nL i : Nat} {ls : List Value} {v : Value} (h0 : ls.length = nL) (hu : isU v = false) (hp : ∀ w, ls[i - 1]? = some w → 0 < i → (tv G w).category = 1) (h : lv_has lr nL ((i, tv G v) :: (prs G ls).filter (fun q => !(q.1 == i) && !(q.1 + 1 == i && q.2.category == 2)))) : LR G lr nL (ls.set i v) := by
  refine ⟨by rw [List.length_set]; exact h0, h.1, h.2.1, fun q hq => ?_⟩
  obtain ⟨w, h1, h2, h3⟩ := prs_of hq
  refine h.2.2 q ?_
  by_cases hqi : q.1 = i
  · rw [hqi] at h1
    have hl : i < ls.length := by
      have := (List.getElem?_eq_some_iff.mp h1).1
      rw [List.length_set] at this
      exact this
    rw [List.getElem?_set_self hl] at h1
    cases h1
    obtain ⟨q1, q2⟩ := q
    simp only at hqi h3
    subst hqi
    subst h3
    exact List.mem_cons_self
  · rw [List.getElem?_set_ne (Ne.symm hqi)] at h1
    have hm := prs_mem (G := G) h1 h2
    rw [← h3] at hm
    refine List.mem_cons_of_mem _ (List.mem_filter.mpr ⟨hm, ?_⟩)
    by_cases hq2 : q.1 + 1 = i
    · have hc := hp w (by rw [← hq2, Nat.add_sub_cancel]; exact h1) (by omega)
      rw [← h3] at hc
      simp [hqi, hc]
    · simp [hqi, hq2]
theorem LR.st2 {G : GG} {lr : Array Slot} {nL i : Nat} {ls : List Value} {v : Value} (h0 : ls.length = nL) (hp : ∀ w, ls[i - 1]? = some w → 0 < i → (tv G w).category = 1) (h : lv_has lr nL ((i, tv G v) :: (prs G ls).filter (fun q => !(q.1 == i) && (!(q.1 == i + 1) && !(q.1 + 1 == i && q.2.category == 2))))) : LR G lr nL ((ls.set i v).set (i + 1) UU) := by
  refine ⟨by rw [List.length_set, List.length_set]; exact h0, h.1, h.2.1, fun q hq => ?_⟩
  obtain ⟨w, h1, h2, h3⟩ := prs_of hq
  refine h.2.2 q ?_
  have hlen : q.1 < ls.length := by
    have := (List.getElem?_eq_some_iff.mp h1).1
    rw [List.length_set, List.length_set] at this
    exact this
  by_cases hq9 : q.1 = i + 1
  · rw [hq9] at h1 hlen
    rw [List.getElem?_set_self (by rw [List.length_set]; exact hlen)] at h1
    cases h1
    simp [isU] at h2
  · rw [List.getElem?_set_ne (Ne.symm hq9)] at h1
    by_cases hqi : q.1 = i
    · rw [hqi] at h1 hlen
      rw [List.getElem?_set_self hlen] at h1
      cases h1
      obtain ⟨q1, q2⟩ := q
      simp only at hqi h3
      subst hqi
      subst h3
      exact List.mem_cons_self
    · rw [List.getElem?_set_ne (Ne.symm hqi)] at h1
      have hm := prs_mem (G := G) h1 h2
      rw [← h3] at hm
      refine List.mem_cons_of_mem _ (List.mem_filter.mpr ⟨hm, ?_⟩)
      by_cases hq2 : q.1 + 1 = i
      · have hc := hp w (by rw [← hq2, Nat.add_sub_cancel]; exact h1) (by omega)
        rw [← h3] at hc
        simp [hqi, hq9, hc]
      · simp [hqi, hq9, hq2]
/-! the locals with which a method begins -/
def entL : List Value → List Value
  | [] => []
  | v :: vs => if v.category = 2 then v :: UU :: entL vs else v :: entL vs
theorem entL_in (G : GG) : ∀ (vs : List Value), (∀ v ∈ vs, (tv G v).category = v.category) → ∀ (b i : Nat) (v : Value), (entL vs)[i]? = some v → isU v = false → (b + i, tv G v) ∈ lv_args b (vs.map (tv G))
  | [], _, b, i, v, h, _ => by simp [entL] at h
  | w :: vs, hc, b, i, v, h, hu => by
    have hw := hc w List.mem_cons_self
    have ih := entL_in G vs (fun x hx => hc x (List.mem_cons_of_mem _ hx))
    simp only [List.map_cons, lv_args]
    rw [hw]
    by_cases h2 : w.category = 2
    · simp only [entL, if_pos h2] at h ⊢
      match i, h with
      | 0, h => simp at h; subst h; exact List.mem_cons_self
      | 1, h => simp at h; subst h; simp [isU] at hu
      | i + 2, h =>
        simp at h
        have := ih (b + 2) i v h hu
        rw [show b + (i + 2) = b + 2 + i by omega]
        exact List.mem_cons_of_mem _ this
    · simp only [entL, if_neg h2] at h ⊢
      match i, h with
      | 0, h => simp at h; subst h; exact List.mem_cons_self
      | i + 1, h =>
        simp at h
        have := ih (b + 1) i v h hu
        rw [show b + (i + 1) = b + 1 + i by omega]
        exact List.mem_cons_of_mem _ this
theorem entL_len (G : GG) : ∀ (vs : List Value), (∀ v ∈ vs, (tv G v).category = v.category) → (lg_sl (vs.map (tv G))).length = (entL vs).length
  | [], _ => rfl
  | w :: vs, hc => by
    have hw := hc w List.mem_cons_self
    have ih := entL_len G vs (fun x hx => hc x (List.mem_cons_of_mem _ hx))
    simp only [lg_sl, List.map_cons, List.flatMap_cons, List.length_append] at ih ⊢
    rw [hw, ih]
    by_cases h2 : w.category = 2
    · simp [entL, h2]; omega
    · simp [entL, h2]; omega
def ent (nL : Nat) (vs : List Value) : List Value := entL vs ++ List.replicate (nL - (entL vs).length) UU
