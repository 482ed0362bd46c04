/-! ===== V ===== -/
def RetOK (ret : Option FieldType) (r : Option Value) : Prop := match ret, r with
  | none, none => True
  | some .int, some (.int _) => True
  | some .boolean, some (.int v) => v = 0 ∨ v = 1
  | some .char, some (.int v) => narrow .char (.int v) = .int v
  | some .long, some (.long _) => True
  | some (.object _), some (.ref _) => True
  | some (.object _), some .null => True
  | _, _ => False
def RetI : Option Value → Instr
  | none => .return_
  | some (.int _) => .ireturn
  | some (.long _) => .lreturn
  | some _ => .areturn
def Cx (G : GG) (y : MethodName) (cc : ByteArray) (nL : Nat) (p : Program) (s : State) (m : MethodId) (args : Array Value) (meth : Method) (c : Code) : Prop :=
  p.tables.exec = Jvm.exec ∧ c.code = cc ∧ c.maxLocals = nL ∧ s.vm.findClass y.cls = some m.cls ∧ (∀ w ∈ lw0, w.before args s = true) ∧ meth.name = y.name ∧ KK G s
def V (G : GG) (y : MethodName) (cc : ByteArray) (nL : Nat) (ret : Option FieldType) (dep bc bs pc : Nat) (ls st : List Value) (μ : Mem) (Post : Option Value → Mem → Prop) : Prop :=
  ∀ (p : Program) (e : Env) (R : Room) (s : State) (m : MethodId) (args : Array Value) (below : List Frame) (meth : Method) (c : Code) (H : Heap) (locs : List Loc) (cells slots : Nat) (Q : State → Prop) (lr : Array Slot),
    Cx G y cc nL p s m args meth c → LR G lr nL ls → Rep G μ H → va_S (AA G) s.heap H locs → dep ≤ R.frames ∧ 64 * dep ≤ R.locals → cells + bc ≤ R.cells ∧ slots + bs ≤ R.slots →
    (∀ (r : Option Value) (μ' : Mem) (H' : Heap) (locs' : List Loc) (cells' slots' pc' : Nat) (lr' : Array Slot), Post r μ' → RetOK ret r → decode cc pc' = .ok (RetI r, 1) → Rep G μ' H' → va_S (AA G) s.heap H' locs' → cells' ≤ cells + bc → slots' ≤ slots + bs → W p (gl G) e R s m args below meth c H' locs' cells' slots' Q (F0 m pc' lr' (r.toList.map (tv G)))) →
    W p (gl G) e R s m args below meth c H locs cells slots Q (F0 m pc lr (st.map (tv G)))
section VR
variable {G : GG} {y : MethodName} {cc : ByteArray} {nL : Nat} {ret : Option FieldType} {dep bc bs pc : Nat} {ls st : List Value} {μ : Mem} {Post : Option Value → Mem → Prop}
/-- a step that leaves locals and memory -/
theorem V.go {pc' : Nat} {st' : List Value} (h : ∀ (p : Program) (e : Env) (R : Room) (s : State) (m : MethodId) (args : Array Value) (below : List Frame) (meth : Method) (c : Code) (H : Heap) (locs : List Loc) (cells slots : Nat) (Q : State → Prop) (lr : Array Slot),
    Cx G y cc nL p s m args meth c → LR G lr nL ls → W p (gl G) e R s m args below meth c H locs cells slots Q (F0 m pc' lr (st'.map (tv G))) → W p (gl G) e R s m args below meth c H locs cells slots Q (F0 m pc lr (st.map (tv G))))
    (k : V G y cc nL ret dep bc bs pc' ls st' μ Post) : V G y cc nL ret dep bc bs pc ls st μ Post := by
  intro p e R s m args below meth c H locs cells slots Q lr X hl hR hS hd hc hend
  exact h p e R s m args below meth c H locs cells slots Q lr X hl (k p e R s m args below meth c H locs cells slots Q lr X hl hR hS hd hc hend)
/-- a step that stores into the locals -/
theorem V.sto {i pc' : Nat} {v : Value} {st' : List Value} (hu : isU v = false) (hp : ∀ w, ls[i - 1]? = some w → 0 < i → okc w = true)
    (h : ∀ (p : Program) (e : Env) (R : Room) (s : State) (m : MethodId) (args : Array Value) (below : List Frame) (meth : Method) (c : Code) (H : Heap) (locs : List Loc) (cells slots : Nat) (Q : State → Prop) (lr : Array Slot),
    Cx G y cc nL p s m args meth c → LR G lr nL ls → (∀ lr' : Array Slot, lv_has lr' nL ((i, tv G v) :: (prs G ls).filter (fun q => !(q.1 == i) && !(q.1 + 1 == i && q.2.category == 2))) → W p (gl G) e R s m args below meth c H locs cells slots Q (F0 m pc' lr' (st'.map (tv G)))) → W p (gl G) e R s m args below meth c H locs cells slots Q (F0 m pc lr (st.map (tv G))))
    (k : V G y cc nL ret dep bc bs pc' (ls.set i v) st' μ Post) : V G y cc nL ret dep bc bs pc ls st μ Post := by
  intro p e R s m args below meth c H locs cells slots Q lr X hl hR hS hd hc hend
  exact h p e R s m args below meth c H locs cells slots Q lr X hl (fun lr' hl' => k p e R s m args below meth c H locs cells slots Q lr' X (LR.st hl.1 hu (fun w h1 h2 => by rw [X.2.2.2.2.2.2.cat]; exact okc_cat (hp w h1 h2)) hl') hR hS hd hc hend)
theorem V.st2 {i pc' : Nat} {v : Value} {st' : List Value} (hp : ∀ w, ls[i - 1]? = some w → 0 < i → okc w = true)
    (h : ∀ (p : Program) (e : Env) (R : Room) (s : State) (m : MethodId) (args : Array Value) (below : List Frame) (meth : Method) (c : Code) (H : Heap) (locs : List Loc) (cells slots : Nat) (Q : State → Prop) (lr : Array Slot),
    Cx G y cc nL p s m args meth c → LR G lr nL ls → (∀ lr' : Array Slot, lv_has lr' nL ((i, tv G v) :: (prs G ls).filter (fun q => !(q.1 == i) && (!(q.1 == i + 1) && !(q.1 + 1 == i && q.2.category == 2)))) → W p (gl G) e R s m args below meth c H locs cells slots Q (F0 m pc' lr' (st'.map (tv G)))) → W p (gl G) e R s m args below meth c H locs cells slots Q (F0 m pc lr (st.map (tv G))))
    (k : V G y cc nL ret dep bc bs pc' ((ls.set i v).set (i + 1) UU) st' μ Post) : V G y cc nL ret dep bc bs pc ls st μ Post := by
  intro p e R s m args below meth c H locs cells slots Q lr X hl hR hS hd hc hend
  exact h p e R s m args below meth c H locs cells slots Q lr X hl (fun lr' hl' => k p e R s m args below meth c H locs cells slots Q lr' X (LR.st2 hl.1 (fun w h1 h2 => by rw [X.2.2.2.2.2.2.cat]; exact okc_cat (hp w h1 h2)) hl') hR hS hd hc hend)
theorem V.br {a b : Nat} {st' : List Value} {A B : Prop} (h : ∀ (p : Program) (e : Env) (R : Room) (s : State) (m : MethodId) (args : Array Value) (below : List Frame) (meth : Method) (c : Code) (H : Heap) (locs : List Loc) (cells slots : Nat) (Q : State → Prop) (lr : Array Slot),
    Cx G y cc nL p s m args meth c → (A → W p (gl G) e R s m args below meth c H locs cells slots Q (F0 m a lr (st'.map (tv G)))) → (B → W p (gl G) e R s m args below meth c H locs cells slots Q (F0 m b lr (st'.map (tv G)))) → W p (gl G) e R s m args below meth c H locs cells slots Q (F0 m pc lr (st.map (tv G))))
    (k1 : A → V G y cc nL ret dep bc bs a ls st' μ Post) (k2 : B → V G y cc nL ret dep bc bs b ls st' μ Post) : V G y cc nL ret dep bc bs pc ls st μ Post := by
  intro p e R s m args below meth c H locs cells slots Q lr X hl hR hS hd hc hend
  exact h p e R s m args below meth c H locs cells slots Q lr X (fun q => k1 q p e R s m args below meth c H locs cells slots Q lr X hl hR hS hd hc hend) (fun q => k2 q p e R s m args below meth c H locs cells slots Q lr X hl hR hS hd hc hend)
/-- the end -/
theorem V.fin {r : Option Value} (hp : Post r μ) (hr : RetOK ret r) (hdg : decode cc pc = .ok (RetI r, 1)) : V G y cc nL ret dep bc bs pc ls r.toList μ Post := by
  intro p e R s m args below meth c H locs cells slots Q lr X hl hR hS hd hc hend
  exact hend r μ H locs cells slots pc lr hp hr hdg hR hS (Nat.le_add_right _ _) (Nat.le_add_right _ _)
/-- less is asked, more is told -/
theorem V.mono {dep' bc' bs' : Nat} {Post' : Option Value → Mem → Prop} (h1 : dep' ≤ dep) (h2 : bc' ≤ bc) (h3 : bs' ≤ bs) (hq : ∀ r μ', Post' r μ' → Post r μ') (k : V G y cc nL ret dep' bc' bs' pc ls st μ Post') : V G y cc nL ret dep bc bs pc ls st μ Post := by
  intro p e R s m args below meth c H locs cells slots Q lr X hl hR hS hd hc hend
  exact k p e R s m args below meth c H locs cells slots Q lr X hl hR hS ⟨by omega, by omega⟩ ⟨by omega, by omega⟩ (fun r μ' H' locs' cells' slots' pc' lr' a b c' d e' f g => hend r μ' H' locs' cells' slots' pc' lr' (hq r μ' a) b c' d e' (by omega) (by omega))
end VR
/-! a contract -/
def Qn (G : GG) (Post : Option Value → Mem → Prop) : Array Value → State → Outcome → State → Prop := fun _ st o t => (∃ (r : Option Value) (μ' : Mem), o = .returned (r.map (tv G)) ∧ Post r μ' ∧ Rep G μ' t.heap) ∧ va_F (AA G) st t
def rmN (dep bc bs : Nat) : Room := { frames := dep, cells := bc, slots := bs, locals := 64 * dep }
def Cn (G : GG) (y : MethodName) (cc : ByteArray) (nL : Nat) (ret : Option FieldType) (dep bc bs : Nat) (av : List Value) (μ : Mem) (Post : Option Value → Mem → Prop) : Prop :=
  Met (gl G) y (Cond.code y cc nL ret :: lw0) (rmN dep bc bs) (va_Pc (av.map (tv G)) (fun U => Rep G μ U.heap ∧ KK G U)) (Qn G Post) bc bs (AA G)
theorem va_S_start {G : GG} {s : State} : va_S (AA G) s.heap s.heap [] := va_S.rf
theorem Cn.of {G : GG} {y : MethodName} {cc : ByteArray} {nL : Nat} {ret : Option FieldType} {dep bc bs : Nat} {av ls : List Value} {μ : Mem} {Post : Option Value → Mem → Prop} (hy : plainName y.cls = true) (hln : (entL av).length ≤ nL) (hls : ent nL av = ls) (hV : V G y cc nL ret dep bc bs 0 ls [] μ Post) : Cn G y cc nL ret dep bc bs av μ Post := by
  refine Met.ofW (cc := cc) (maxL := nL) (ret := ret) hy rfl ?_
  intro p e s m args below meth c s₁ B hml hv
  obtain ⟨rfl, hR, hK⟩ := hv
  have hx := B.exec
  have hb := B.bytes
  have hr := B.returns
  have hts := atoms_spec (ws := Cond.code y cc nL ret :: lw0) B.pre
  have hown : s.vm.findClass y.cls = some m.cls := findClass_of_methodNamed B.named
  have hlocks : meth.locks = false := B.notSynchronized
  have hin : meth.name = y.name := (name_of_methodNamed B.named B.method).1
  have hcat : ∀ v ∈ av, (tv G v).category = v.category := fun v _ => hK.cat v
  have hlen := entL_len G av hcat
  have hl := lv_entry (av.map (tv G)) (n := nL) (by rw [hlen]; exact hln)
  rw [lg_entry_eq]
  generalize (lg_sl (av.map (tv G)) ++ List.replicate (nL - (lg_sl (av.map (tv G))).length) Slot.unset).toArray = lr at hl ⊢
  have hLR : LR G lr nL ls := by
    subst hls
    refine ⟨by simp [ent]; omega, hl.1, hl.2.1, fun q hq => ?_⟩
    obtain ⟨w, h1, h2, h3⟩ := prs_of hq
    refine hl.2.2 q ?_
    have h4 : (entL av)[q.1]? = some w := by
      unfold ent at h1
      by_cases hlt : q.1 < (entL av).length
      · rw [List.getElem?_append_left hlt] at h1; exact h1
      · rw [List.getElem?_append_right (by omega), List.getElem?_replicate] at h1
        split at h1
        · cases h1
          simp [isU] at h2
        · cases h1
    have h5 := entL_in G av hcat 0 q.1 w h4 h2
    rw [Nat.zero_add, ← h3] at h5
    exact h5
  refine hV p e _ s m _ below meth c s.heap [] 0 0 _ lr ⟨hx, hb, hml, hown, fun w hw => hts w (List.mem_cons_of_mem _ hw), hin, hK⟩ hLR hR va_S.rf ⟨Nat.le_refl _, Nat.le_refl _⟩ ⟨by simp [headSpec, rmN], by simp [headSpec, rmN]⟩ ?_
  intro r μ' H' locs' cells' slots' pc' lr' hp hrt hdg hR' hS' hc' hs'
  refine W.widen (k := bc) (n := bs) (by omega) (by omega) ?_
  have hq : ∀ t : State, t.heap = H' → s.WarmedH t.vm → Qn G Post (av.map (tv G)).toArray s (.returned (r.map (tv G))) t := fun t ht _ => ⟨⟨r, μ', rfl, hp, by rw [ht]; exact hR'⟩, hS'.F ht⟩
  have hf : ∀ q ∈ locs', AA G q.base := hS'.2.2
  cases ret with
  | none =>
    cases r with
    | none => exact W.vret hx hb hr hq hf hdg
    | some v => exact absurd hrt (by simp [RetOK])
  | some ty =>
    cases r with
    | none => cases ty <;> exact absurd hrt (by simp [RetOK])
    | some v =>
      cases v with
      | int x =>
        cases ty <;> first
          | exact W.iret hx hb hr hq hf hdg
          | (rcases hrt with rfl | rfl <;> exact W.zret hx hb hr (by decide) hq hf hdg)
          | exact W.zret hx hb hr hrt hq hf hdg
          | exact absurd hrt (by simp [RetOK])
      | long x =>
        cases ty <;> first
          | exact W.lret hx hb hr hq hf hdg
          | exact absurd hrt (by simp [RetOK])
      | ref x =>
        cases ty <;> first
          | exact W.aret hx hb hr (Or.inl ⟨_, rfl⟩) (Or.inr ⟨_, rfl⟩) hq hf hdg
          | exact absurd hrt (by simp [RetOK])
      | null =>
        cases ty <;> first
          | exact W.aret hx hb hr (Or.inl ⟨_, rfl⟩) (Or.inl rfl) hq hf hdg
          | exact absurd hrt (by simp [RetOK])
      | float x => cases ty <;> exact absurd hrt (by simp [RetOK])
      | double x => cases ty <;> exact absurd hrt (by simp [RetOK])
      | retAddr x => cases ty <;> exact absurd hrt (by simp [RetOK])
