/-! ===== the law: V with a word on the state ===== -/
def VL (Z : State → Prop) (G : GG) (y : MethodName) (cc : ByteArray) (nL : Nat) (ret : Option FieldType) (dep bc bs pc : Nat) (ls st : List Value) (μ : Mem) (Post : Option Value → Mem → Prop) : Prop :=
  ∀ (p : Program) (e : Env) (R : Room) (s : State) (m : MethodId) (args : Array Value) (below : List Frame) (meth : Method) (c : Code) (H : Heap) (locs : List Loc) (cells slots : Nat) (Q : State → Prop) (lr : Array Slot),
    Z s → Cx G y cc nL p s m args meth c → LR G lr nL ls → Rep G μ H → va_S (AA G) s.heap H locs → dep ≤ R.frames ∧ 64 * dep ≤ R.locals → cells + bc ≤ R.cells ∧ slots + bs ≤ R.slots →
    (∀ (r : Option Value) (μ' : Mem) (H' : Heap) (locs' : List Loc) (cells' slots' pc' : Nat) (lr' : Array Slot), Post r μ' → RetOK ret r → decode cc pc' = .ok (RetI r, 1) → Rep G μ' H' → va_S (AA G) s.heap H' locs' → cells' ≤ cells + bc → slots' ≤ slots + bs → W p (gl G) e R s m args below meth c H' locs' cells' slots' Q (F0 m pc' lr' (r.toList.map (tv G)))) →
    W p (gl G) e R s m args below meth c H locs cells slots Q (F0 m pc lr (st.map (tv G)))
section VLR
variable {Z : State → Prop} {G : GG} {y : MethodName} {cc : ByteArray} {nL : Nat} {ret : Option FieldType} {dep bc bs pc : Nat} {ls st : List Value} {μ : Mem} {Post : Option Value → Mem → Prop}
theorem VL.go {pc' : Nat} {st' : List Value} (h : ∀ (p : Program) (e : Env) (R : Room) (s : State) (m : MethodId) (args : Array Value) (below : List Frame) (meth : Method) (c : Code) (H : Heap) (locs : List Loc) (cells slots : Nat) (Q : State → Prop) (lr : Array Slot),
    Cx G y cc nL p s m args meth c → LR G lr nL ls → W p (gl G) e R s m args below meth c H locs cells slots Q (F0 m pc' lr (st'.map (tv G))) → W p (gl G) e R s m args below meth c H locs cells slots Q (F0 m pc lr (st.map (tv G))))
    (k : VL Z G y cc nL ret dep bc bs pc' ls st' μ Post) : VL Z G y cc nL ret dep bc bs pc ls st μ Post := by
  intro p e R s m args below meth c H locs cells slots Q lr hZ X hl hR hS hd hc hend
  exact h p e R s m args below meth c H locs cells slots Q lr X hl (k p e R s m args below meth c H locs cells slots Q lr hZ X hl hR hS hd hc hend)
theorem VL.sto {i pc' : Nat} {v : Value} {st' : List Value} (hu : isU v = false) (hp : ∀ w, ls[i - 1]? = some w → 0 < i → okc w = true)
    (h : ∀ (p : Program) (e : Env) (R : Room) (s : State) (m : MethodId) (args : Array Value) (below : List Frame) (meth : Method) (c : Code) (H : Heap) (locs : List Loc) (cells slots : Nat) (Q : State → Prop) (lr : Array Slot),
    Cx G y cc nL p s m args meth c → LR G lr nL ls → (∀ lr' : Array Slot, lv_has lr' nL ((i, tv G v) :: (prs G ls).filter (fun q => !(q.1 == i) && !(q.1 + 1 == i && q.2.category == 2))) → W p (gl G) e R s m args below meth c H locs cells slots Q (F0 m pc' lr' (st'.map (tv G)))) → W p (gl G) e R s m args below meth c H locs cells slots Q (F0 m pc lr (st.map (tv G))))
    (k : VL Z G y cc nL ret dep bc bs pc' (ls.set i v) st' μ Post) : VL Z G y cc nL ret dep bc bs pc ls st μ Post := by
  intro p e R s m args below meth c H locs cells slots Q lr hZ X hl hR hS hd hc hend
  exact h p e R s m args below meth c H locs cells slots Q lr X hl (fun lr' hl' => k p e R s m args below meth c H locs cells slots Q lr' hZ X (LR.st hl.1 hu (fun w h1 h2 => by rw [X.2.2.2.2.2.2.cat]; exact okc_cat (hp w h1 h2)) hl') hR hS hd hc hend)
theorem VL.br {a b : Nat} {st' : List Value} {A B : Prop} (h : ∀ (p : Program) (e : Env) (R : Room) (s : State) (m : MethodId) (args : Array Value) (below : List Frame) (meth : Method) (c : Code) (H : Heap) (locs : List Loc) (cells slots : Nat) (Q : State → Prop) (lr : Array Slot),
    Cx G y cc nL p s m args meth c → (A → W p (gl G) e R s m args below meth c H locs cells slots Q (F0 m a lr (st'.map (tv G)))) → (B → W p (gl G) e R s m args below meth c H locs cells slots Q (F0 m b lr (st'.map (tv G)))) → W p (gl G) e R s m args below meth c H locs cells slots Q (F0 m pc lr (st.map (tv G))))
    (k1 : A → VL Z G y cc nL ret dep bc bs a ls st' μ Post) (k2 : B → VL Z G y cc nL ret dep bc bs b ls st' μ Post) : VL Z G y cc nL ret dep bc bs pc ls st μ Post := by
  intro p e R s m args below meth c H locs cells slots Q lr hZ X hl hR hS hd hc hend
  exact h p e R s m args below meth c H locs cells slots Q lr X (fun q => k1 q p e R s m args below meth c H locs cells slots Q lr hZ X hl hR hS hd hc hend) (fun q => k2 q p e R s m args below meth c H locs cells slots Q lr hZ X hl hR hS hd hc hend)
theorem VL.fin {r : Option Value} (hp : Post r μ) (hr : RetOK ret r) (hdg : decode cc pc = .ok (RetI r, 1)) : VL Z G y cc nL ret dep bc bs pc ls r.toList μ Post := by
  intro p e R s m args below meth c H locs cells slots Q lr hZ X hl hR hS hd hc hend
  exact hend r μ H locs cells slots pc lr hp hr hdg hR hS (Nat.le_add_right _ _) (Nat.le_add_right _ _)
theorem VL.mono {dep' bc' bs' : Nat} {Post' : Option Value → Mem → Prop} (h1 : dep' ≤ dep) (h2 : bc' ≤ bc) (h3 : bs' ≤ bs) (hq : ∀ r μ', Post' r μ' → Post r μ') (k : VL Z G y cc nL ret dep' bc' bs' pc ls st μ Post') : VL Z G y cc nL ret dep bc bs pc ls st μ Post := by
  intro p e R s m args below meth c H locs cells slots Q lr hZ X hl hR hS hd hc hend
  exact k p e R s m args below meth c H locs cells slots Q lr hZ X hl hR hS ⟨by omega, by omega⟩ ⟨by omega, by omega⟩ (fun r μ' H' locs' cells' slots' pc' lr' a b c' d e' f g => hend r μ' H' locs' cells' slots' pc' lr' (hq r μ' a) b c' d e' (by omega) (by omega))
theorem w_bipush {n : Int} {v : Int32} (hdg : decode cc pc = .ok (.bipush n, 2)) (hv : (Int8.ofInt n).toInt32 = v) (k : VL Z G y cc nL ret dep bc bs (pc + 2) ls (.int v :: st) μ Post) : VL Z G y cc nL ret dep bc bs pc ls (st) μ Post := VL.go (fun _ _ _ _ _ _ _ _ _ _ _ _ _ _ _ X hl kk => lv_bipush X.1 X.2.1 hdg hv kk) k
theorem w_iadd {a b : Int32} (hdg : decode cc pc = .ok (.iadd, 1)) (k : VL Z G y cc nL ret dep bc bs (pc + 1) ls (.int (a + b) :: st) μ Post) : VL Z G y cc nL ret dep bc bs pc ls (.int b :: .int a :: st) μ Post := VL.go (fun _ _ _ _ _ _ _ _ _ _ _ _ _ _ _ X hl kk => lv_iadd X.1 X.2.1 hdg kk) k
theorem w_isub {a b : Int32} (hdg : decode cc pc = .ok (.isub, 1)) (k : VL Z G y cc nL ret dep bc bs (pc + 1) ls (.int (a - b) :: st) μ Post) : VL Z G y cc nL ret dep bc bs pc ls (.int b :: .int a :: st) μ Post := VL.go (fun _ _ _ _ _ _ _ _ _ _ _ _ _ _ _ X hl kk => lv_isub X.1 X.2.1 hdg kk) k
theorem w_iand {a b : Int32} (hdg : decode cc pc = .ok (.iand, 1)) (k : VL Z G y cc nL ret dep bc bs (pc + 1) ls (.int (a &&& b) :: st) μ Post) : VL Z G y cc nL ret dep bc bs pc ls (.int b :: .int a :: st) μ Post := VL.go (fun _ _ _ _ _ _ _ _ _ _ _ _ _ _ _ X hl kk => lv_iand X.1 X.2.1 hdg kk) k
theorem w_i2l {a : Int32} (hdg : decode cc pc = .ok (.i2l, 1)) (k : VL Z G y cc nL ret dep bc bs (pc + 1) ls (.long a.toInt64 :: st) μ Post) : VL Z G y cc nL ret dep bc bs pc ls (.int a :: st) μ Post := VL.go (fun _ _ _ _ _ _ _ _ _ _ _ _ _ _ _ X hl kk => lv_i2l X.1 X.2.1 hdg rfl kk) k
theorem w_lshl {a : Int64} {b : Int32} (hdg : decode cc pc = .ok (.lshl, 1)) (k : VL Z G y cc nL ret dep bc bs (pc + 1) ls (.long (a <<< (b.toInt64 &&& 63)) :: st) μ Post) : VL Z G y cc nL ret dep bc bs pc ls (.int b :: .long a :: st) μ Post := VL.go (fun _ _ _ _ _ _ _ _ _ _ _ _ _ _ _ X hl kk => lv_lshl X.1 X.2.1 hdg rfl kk) k
theorem w_ldc2 {i : Nat} {v : Int64} (hdg : decode cc pc = .ok (.ldc2_w i, 3)) (hc : Cond.constantLong y.cls i v ∈ lw0) (k : VL Z G y cc nL ret dep bc bs (pc + 3) ls (.long v :: st) μ Post) : VL Z G y cc nL ret dep bc bs pc ls (st) μ Post := VL.go (fun _ _ _ _ _ _ _ _ _ _ _ _ _ _ _ X hl kk => lv_ldc2 X.1 X.2.1 X.2.2.2.1 (X.2.2.2.2.1 _ hc) hdg kk) k
theorem w_land {a b : Int64} (hdg : decode cc pc = .ok (.land, 1)) (k : VL Z G y cc nL ret dep bc bs (pc + 1) ls (.long (a &&& b) :: st) μ Post) : VL Z G y cc nL ret dep bc bs pc ls (.long b :: .long a :: st) μ Post := VL.go (fun _ _ _ _ _ _ _ _ _ _ _ _ _ _ _ X hl kk => lv_land X.1 X.2.1 hdg kk) k
theorem w_lor {a b : Int64} (hdg : decode cc pc = .ok (.lor, 1)) (k : VL Z G y cc nL ret dep bc bs (pc + 1) ls (.long (a ||| b) :: st) μ Post) : VL Z G y cc nL ret dep bc bs pc ls (.long b :: .long a :: st) μ Post := VL.go (fun _ _ _ _ _ _ _ _ _ _ _ _ _ _ _ X hl kk => lv_lor X.1 X.2.1 hdg kk) k
theorem w_lcmp {a b : Int64} (hdg : decode cc pc = .ok (.lcmp, 1)) (k : VL Z G y cc nL ret dep bc bs (pc + 1) ls (.int (lg_cmp a b) :: st) μ Post) : VL Z G y cc nL ret dep bc bs pc ls (.long b :: .long a :: st) μ Post := VL.go (fun _ _ _ _ _ _ _ _ _ _ _ _ _ _ _ X hl kk => W.lcmp X.1 X.2.1 hdg kk) k
theorem w_dupR {a : Nat} (hdg : decode cc pc = .ok (.dup, 1)) (k : VL Z G y cc nL ret dep bc bs (pc + 1) ls (.ref a :: .ref a :: st) μ Post) : VL Z G y cc nL ret dep bc bs pc ls (.ref a :: st) μ Post := VL.go (fun _ _ _ _ _ _ _ _ _ _ _ _ _ _ _ X hl kk => lv_dup X.1 X.2.1 hdg rfl kk) k
theorem w_if_eq {x : Int32} {off : Int} {tgt : Nat} (hdg : decode cc pc = .ok (.ifCond .eq off, 3)) (ht : (pc : Int) + off = (tgt : Int)) (k1 : x = 0 → VL Z G y cc nL ret dep bc bs tgt ls st μ Post) (k2 : ¬ x = 0 → VL Z G y cc nL ret dep bc bs (pc + 3) ls st μ Post) : VL Z G y cc nL ret dep bc bs pc ls (.int x :: st) μ Post := VL.br (fun _ _ _ _ _ _ _ _ _ _ _ _ _ _ _ X a b => lv_if_eq X.1 X.2.1 hdg ht a b) k1 k2
theorem w_icmp_eq {x y' : Int32} {off : Int} {tgt : Nat} (hdg : decode cc pc = .ok (.if_icmp .eq off, 3)) (ht : (pc : Int) + off = (tgt : Int)) (k1 : x = y' → VL Z G y cc nL ret dep bc bs tgt ls st μ Post) (k2 : ¬ x = y' → VL Z G y cc nL ret dep bc bs (pc + 3) ls st μ Post) : VL Z G y cc nL ret dep bc bs pc ls (.int y' :: .int x :: st) μ Post := VL.br (fun _ _ _ _ _ _ _ _ _ _ _ _ _ _ _ X a b => lv_icmp_eq X.1 X.2.1 hdg ht a b) k1 k2
theorem w_icmp_gt {x y' : Int32} {off : Int} {tgt : Nat} (hdg : decode cc pc = .ok (.if_icmp .gt off, 3)) (ht : (pc : Int) + off = (tgt : Int)) (k1 : y' < x → VL Z G y cc nL ret dep bc bs tgt ls st μ Post) (k2 : ¬ y' < x → VL Z G y cc nL ret dep bc bs (pc + 3) ls st μ Post) : VL Z G y cc nL ret dep bc bs pc ls (.int y' :: .int x :: st) μ Post := VL.br (fun _ _ _ _ _ _ _ _ _ _ _ _ _ _ _ X a b => lv_icmp_gt X.1 X.2.1 hdg ht a b) k1 k2
theorem w_goto {off : Int} {tgt : Nat} (hdg : decode cc pc = .ok (.goto off, 3)) (ht : (pc : Int) + off = (tgt : Int)) (k : VL Z G y cc nL ret dep bc bs tgt ls st μ Post) : VL Z G y cc nL ret dep bc bs pc ls st μ Post := VL.go (fun _ _ _ _ _ _ _ _ _ _ _ _ _ _ _ X hl kk => lv_goto X.1 X.2.1 hdg ht kk) k
theorem w_tabOut {dflt lo hi : Int} {offs : Array Int} {len : Nat} {x : Int32} {tgt : Nat} (hdg : decode cc pc = .ok (.tableswitch dflt lo hi offs, len)) (h : x.toInt < lo ∨ hi < x.toInt) (ht : (pc : Int) + dflt = (tgt : Int)) (k : VL Z G y cc nL ret dep bc bs tgt ls st μ Post) : VL Z G y cc nL ret dep bc bs pc ls (.int x :: st) μ Post := VL.go (fun _ _ _ _ _ _ _ _ _ _ _ _ _ _ _ X hl kk => lv_tableOut X.1 X.2.1 hdg h ht kk) k
theorem w_tabIn {dflt lo hi : Int} {offs : Array Int} {len : Nat} {x : Int32} {off : Int} {tgt : Nat} (hdg : decode cc pc = .ok (.tableswitch dflt lo hi offs, len)) (h1 : ¬ x.toInt < lo) (h2 : ¬ hi < x.toInt) (ho : offs[(x.toInt - lo).toNat]? = some off) (ht : (pc : Int) + off = (tgt : Int)) (k : VL Z G y cc nL ret dep bc bs tgt ls st μ Post) : VL Z G y cc nL ret dep bc bs pc ls (.int x :: st) μ Post := VL.go (fun _ _ _ _ _ _ _ _ _ _ _ _ _ _ _ X hl kk => lv_tableIn X.1 X.2.1 hdg h1 h2 ho ht kk) k
theorem w_ald1 {a0 : Value} {t : List Value} {x : Nat} (hdg : decode cc pc = .ok (.aload_n 1, 1)) (k : VL Z G y cc nL ret dep bc bs (pc + 1) (a0 :: .ref x :: t) (.ref x :: st) μ Post) : VL Z G y cc nL ret dep bc bs pc (a0 :: .ref x :: t) st μ Post := VL.go (fun _ _ _ _ _ _ _ _ _ _ _ _ _ _ _ X hl kk => lv_aload_n X.1 X.2.1 hdg rfl (hl.at (i := 1) (v := .ref x) rfl rfl) kk) k
theorem w_ald2 {a0 a1 : Value} {t : List Value} {x : Nat} (hdg : decode cc pc = .ok (.aload_n 2, 1)) (k : VL Z G y cc nL ret dep bc bs (pc + 1) (a0 :: a1 :: .ref x :: t) (.ref x :: st) μ Post) : VL Z G y cc nL ret dep bc bs pc (a0 :: a1 :: .ref x :: t) st μ Post := VL.go (fun _ _ _ _ _ _ _ _ _ _ _ _ _ _ _ X hl kk => lv_aload_n X.1 X.2.1 hdg rfl (hl.at (i := 2) (v := .ref x) rfl rfl) kk) k
theorem w_ast1 {a0 : Value} {b : Value} {t : List Value} {x : Nat} (hdg : decode cc pc = .ok (.astore_n 1, 1)) (hp : okc a0 = true) (k : VL Z G y cc nL ret dep bc bs (pc + 1) (a0 :: .ref x :: t) st μ Post) : VL Z G y cc nL ret dep bc bs pc (a0 :: b :: t) (.ref x :: st) μ Post := VL.sto (i := 1) (v := .ref x) rfl (fun w hw _ => by cases hw; exact hp) (fun _ _ _ _ _ _ _ _ _ _ _ _ _ _ _ X hl kk => by
  have hi : 1 < nL := by have := hl.1; simp at this; omega
  exact lv_astore_n X.1 X.2.1 hdg rfl hl.2 hi rfl kk) k
theorem w_ast2 {a0 a1 : Value} {b : Value} {t : List Value} {x : Nat} (hdg : decode cc pc = .ok (.astore_n 2, 1)) (hp : okc a1 = true) (k : VL Z G y cc nL ret dep bc bs (pc + 1) (a0 :: a1 :: .ref x :: t) st μ Post) : VL Z G y cc nL ret dep bc bs pc (a0 :: a1 :: b :: t) (.ref x :: st) μ Post := VL.sto (i := 2) (v := .ref x) rfl (fun w hw _ => by cases hw; exact hp) (fun _ _ _ _ _ _ _ _ _ _ _ _ _ _ _ X hl kk => by
  have hi : 2 < nL := by have := hl.1; simp at this; omega
  exact lv_astore_n X.1 X.2.1 hdg rfl hl.2 hi rfl kk) k
theorem w_ild3 {a0 a1 a2 : Value} {t : List Value} {x : Int32} (hdg : decode cc pc = .ok (.iload_n 3, 1)) (k : VL Z G y cc nL ret dep bc bs (pc + 1) (a0 :: a1 :: a2 :: .int x :: t) (.int x :: st) μ Post) : VL Z G y cc nL ret dep bc bs pc (a0 :: a1 :: a2 :: .int x :: t) st μ Post := VL.go (fun _ _ _ _ _ _ _ _ _ _ _ _ _ _ _ X hl kk => lv_iload_n X.1 X.2.1 hdg rfl (hl.at (i := 3) (v := .int x) rfl rfl) kk) k
theorem w_ist3 {a0 a1 a2 : Value} {b : Value} {t : List Value} {x : Int32} (hdg : decode cc pc = .ok (.istore_n 3, 1)) (hp : okc a2 = true) (k : VL Z G y cc nL ret dep bc bs (pc + 1) (a0 :: a1 :: a2 :: .int x :: t) st μ Post) : VL Z G y cc nL ret dep bc bs pc (a0 :: a1 :: a2 :: b :: t) (.int x :: st) μ Post := VL.sto (i := 3) (v := .int x) rfl (fun w hw _ => by cases hw; exact hp) (fun _ _ _ _ _ _ _ _ _ _ _ _ _ _ _ X hl kk => by
  have hi : 3 < nL := by have := hl.1; simp at this; omega
  exact lv_istore_n X.1 X.2.1 hdg rfl hl.2 hi rfl kk) k
theorem w_icN {n : Nat} (hdg : decode cc pc = .ok (.iconst (n : Int), 1)) (hv : Int32.ofInt (n : Int) = nI n) (k : VL Z G y cc nL ret dep bc bs (pc + 1) ls (.int (nI n) :: st) μ Post) : VL Z G y cc nL ret dep bc bs pc ls st μ Post := VL.go (fun _ _ _ _ _ _ _ _ _ _ _ _ _ _ _ X hl kk => lv_iconst X.1 X.2.1 hdg hv kk) k
theorem w_retI {x : Int32} (hdg : decode cc pc = .ok (.ireturn, 1)) (hr : RetOK ret (some (.int x))) (hp : Post (some (.int x)) μ) : VL Z G y cc nL ret dep bc bs pc ls [.int x] μ Post := VL.fin (r := some (.int x)) hp hr hdg
theorem w_ald0 {t : List Value} {b : Nat} (hb : gx G 1 = .ref b) (hdg : decode cc pc = .ok (.aload_n 0, 1)) (k : VL Z G y cc nL ret dep bc bs (pc + 1) (.float 1 :: t) (.float 1 :: st) μ Post) : VL Z G y cc nL ret dep bc bs pc (.float 1 :: t) st μ Post := VL.go (fun _ _ _ _ _ _ _ _ _ _ _ _ _ _ _ X hl kk => by
  have e : tv G (.float 1) = .ref b := hb
  have h0 := hl.at (i := 0) (v := .float 1) rfl rfl
  rw [List.map_cons, e] at kk
  rw [e] at h0
  exact lv_aload_n X.1 X.2.1 hdg rfl h0 kk) k
theorem w_inc6 {a0 a1 a2 : Value} {t : List Value} {x : Int32} (hdg : decode cc pc = .ok (.iinc 3 6, 3)) (hp : okc a2 = true) (k : VL Z G y cc nL ret dep bc bs (pc + 3) (a0 :: a1 :: a2 :: .int (x + nI 6) :: t) st μ Post) : VL Z G y cc nL ret dep bc bs pc (a0 :: a1 :: a2 :: .int x :: t) st μ Post := VL.sto (i := 3) (v := .int (x + nI 6)) rfl (fun w hw _ => by cases hw; exact hp) (fun _ _ _ _ _ _ _ _ _ _ _ _ _ _ _ X hl kk => by
  have hi : 3 < nL := by have := hl.1; simp at this; omega
  obtain ⟨k0, hk0⟩ := List.getElem?_of_mem (prs_mem (G := G) (ls := a0 :: a1 :: a2 :: .int x :: t) (i := 3) (v := .int x) rfl rfl)
  exact lv_iinc X.1 X.2.1 hdg hl.2 hk0 (by rw [show Int32.ofInt 6 = nI 6 by decide]) hi rfl kk) k
theorem w_tab {dflt : Int} {hi len tgt : Nat} {offs : Array Int} {x : Int32} (tgts : List Nat) (hdg : decode cc pc = .ok (.tableswitch dflt 0 (hi : Int) offs, len)) (hh : hi < 1000) (ht : ∀ j, j < hi + 1 → (offs[j]?).map (fun z => (pc : Int) + z) = (tgts[j]?).map (fun z => (z : Int)) ∧ j < offs.size) (htd : (pc : Int) + dflt = (tgt : Int))
    (k : ∀ j t, j < hi + 1 → tgts[j]? = some t → x = nI j → VL Z G y cc nL ret dep bc bs t ls st μ Post) (kd : (∀ j, j < hi + 1 → ¬ x = nI j) → VL Z G y cc nL ret dep bc bs tgt ls st μ Post) : VL Z G y cc nL ret dep bc bs pc ls (.int x :: st) μ Post := by
  by_cases h : inR x (hi + 1)
  · obtain ⟨j, hj, hx⟩ := inR_of (by omega) h
    obtain ⟨h1, h2⟩ := ht j hj
    obtain ⟨off, ho⟩ : ∃ off, offs[j]? = some off := ⟨offs[j], Array.getElem?_eq_getElem h2⟩
    rw [ho] at h1
    cases htg : tgts[j]? with
    | none => rw [htg] at h1; cases h1
    | some t =>
      rw [htg] at h1
      have h3 : (pc : Int) + off = (t : Int) := Option.some.inj h1
      have hxi : x.toInt = (j : Int) := by rw [hx]; exact nI_toInt (by omega)
      exact w_tabIn hdg (by rw [hxi]; omega) (by rw [hxi]; omega) (by rw [hxi]; simpa using ho) h3 (k j t hj htg hx)
  · have hn : ∀ j, j < hi + 1 → ¬ x = nI j := fun j hj e => h (by rw [e]; exact inR_nI hj (by omega))
    refine w_tabOut hdg ?_ htd (kd hn)
    by_cases h0 : x < 0
    · left
      have := Int32.lt_iff_toInt_lt.mp h0
      simpa using this
    · right
      have h1 : nI (hi + 1) ≤ x := Classical.byContradiction fun q => h ⟨h0, q⟩
      have h2 := Int32.le_iff_toInt_le.mp h1
      rw [nI_toInt (by omega)] at h2
      omega
end VLR
section VLN
variable {Z : State → Prop} {G : GG} {y : MethodName} {cc : ByteArray} {nL : Nat} {ret : Option FieldType} {dep bc bs pc : Nat} {ls st : List Value} {Post : Option Value → Mem → Prop}
variable {n : Nat} {I : Nat → Nat → Int32} {L : Nat → Nat → Int64} {P : Nat → Nat → Option Nat}
theorem w_new {idx ci N : Nat} (hdg : decode cc pc = .ok (.new idx, 3)) (lk : LkC y.cls idx ci N) (hl0 : lay n = (ci, N)) (hz : Z0 n I L P) (k : VL Z G y cc nL ret dep bc bs (pc + 3) ls (.ref n :: st) (n + 1, I, L, P) Post) : VL Z G y cc nL ret dep (bc + 1) (bs + N) pc ls st (n, I, L, P) Post := by
  intro p e R s m args below meth c H locs cells slots Q lr hZ X hl hR hS hd hc hend
  obtain ⟨hx, hb, hml, hown, hts, hin, hK⟩ := id X
  obtain ⟨C, T, ty, hcl, hci, w1, w2, w3, hty, hdf⟩ := lk
  obtain ⟨hin', -, -⟩ := kls_ok ci C T N hcl
  have hKn := hK.1.1 ci _ hcl
  have hsz : H.size = gB G + n := hR.1
  refine W.newcK hx hb hown (hts _ w1) (hts _ w2) (hts _ w3) rfl hdg (by omega) (by omega) hKn.2.1 hsz fun H1 kC hkC e1 z1 o1 => ?_
  have hob := u_born ty hts hin' hKn hkC e1 hty
  refine k p e R s m args below meth c H1 locs (cells + 1) (slots + N) Q lr hZ X hl ?_ ⟨Nat.le_trans hS.1 (by omega), fun q h1 h2 => (o1 q (by have := hS.1; omega)).trans (hS.2.1 q h1 h2), hS.2.2⟩ hd ⟨by omega, by omega⟩ (fun r μ' H' locs' cells' slots' pc' lr' a b c' d e' f g => hend r μ' H' locs' cells' slots' pc' lr' a b c' d e' (by omega) (by omega))
  refine hR.push (by omega) (fun q hq => o1 q (by omega)) rfl (fun x y _ => rfl) ⟨fun h => by simp only [hl0] at h; omega, fun _ => ?_⟩
  simp only [hl0]
  refine hob.to fun j hj => ?_
  rw [hdf j hj, sv_Z hz hl0 (fun j _ => kdT_obj hci j) hj]
end VLN
section VLC
variable {Z : State → Prop} {G : GG} {y : MethodName} {cc : ByteArray} {nL : Nat} {ret : Option FieldType} {dep bc bs pc : Nat} {ls st : List Value} {μ : Mem} {Post : Option Value → Mem → Prop}
variable {y' : MethodName} {cc' : ByteArray} {nL' dep' bc' bs' idx : Nat} {ret' : Option FieldType} {Post' : Option Value → Mem → Prop}
theorem VL.after {p : Program} {e : Env} {R : Room} {s : State} {m : MethodId} {args : Array Value} {below : List Frame} {meth : Method} {c : Code} {H : Heap} {locs : List Loc} {cells slots : Nat} {Q : State → Prop} {lr : Array Slot} {a : Array Value} {st0 : List Value}
    (run : va_Run p (gl G) e R s m args below meth c H locs cells slots bc' bs' (F0 m pc lr st0) (st.map (tv G)) (Qn G Post' a) (AA G))
    (k : ∀ r μ', Post' r μ' → VL Z G y cc nL ret dep bc bs (pc + 3) ls (r.toList ++ st) μ' Post) (hZ : Z s) (X : Cx G y cc nL p s m args meth c) (hl : LR G lr nL ls) (hS : va_S (AA G) s.heap H locs) (hd : dep ≤ R.frames ∧ 64 * dep ≤ R.locals) (hc : cells + (bc + bc') ≤ R.cells ∧ slots + (bs + bs') ≤ R.slots)
    (hend : ∀ (r : Option Value) (μ' : Mem) (H' : Heap) (locs' : List Loc) (cells' slots' pc' : Nat) (lr' : Array Slot), Post r μ' → RetOK ret r → decode cc pc' = .ok (RetI r, 1) → Rep G μ' H' → va_S (AA G) s.heap H' locs' → cells' ≤ cells + (bc + bc') → slots' ≤ slots + (bs + bs') → W p (gl G) e R s m args below meth c H' locs' cells' slots' Q (F0 m pc' lr' (r.toList.map (tv G)))) :
    W p (gl G) e R s m args below meth c H locs cells slots Q (F0 m pc lr st0) := by
  intro T hT X'
  obtain ⟨v, st₀, t, T', Lc, h0, X'', hL, e1, e2, ⟨⟨r, μ', hv, hp, hR'⟩, hF⟩, hgo⟩ := run T hT X'
  have hv' : v = r.map (tv G) := by injection hv
  subst hv'
  have hFz := hF.1
  have hFk := hF.2
  rw [h0] at hFz hFk
  obtain ⟨t2, a1, b1⟩ := k r μ' hp p e R s m args below meth c T'.heap (locs ++ Lc) (cells + bc') (slots + bs') Q lr hZ X hl (by rw [e1]; exact hR')
    ⟨Nat.le_trans hS.1 (by rw [e1]; exact hFz), fun q h1 h2 => by rw [e1, hFk q (Nat.lt_of_lt_of_le h1 hS.1) h2]; exact hS.2.1 q h1 h2, fun q hq => by
      rcases List.mem_append.mp hq with h | h
      · exact hS.2.2 q h
      · exact hL q h⟩ hd ⟨by omega, by omega⟩ (fun r μ' H' locs' cells' slots' pc' lr' a b c' d e' f g => hend r μ' H' locs' cells' slots' pc' lr' a b c' d e' (by omega) (by omega)) T' rfl X''
  refine ⟨t2, hgo t2 ?_, b1⟩
  have es : (r.toList ++ st).map (tv G) = (r.map (tv G)).toList ++ st.map (tv G) := by cases r <;> simp
  rw [es] at a1
  exact a1
theorem VL.invV {av : List Value} {stk : List Value} {o ci N : Nat} (hC : Cn G y' cc' nL' ret' dep' bc' bs' (.ref o :: av) μ Post') (lk : LkV y.cls idx y' cc' nL' ret' av.length ci) (hdg : decode cc pc = .ok (.invokevirtual idx, 3)) (hd1 : dep' + 1 ≤ dep) (hst : csum st ≤ 8) (hs : stk = av.reverse ++ .ref o :: st) (ho : lay o = (ci, N)) (hn : o < μ.1)
    (k : ∀ r μ', Post' r μ' → VL Z G y cc nL ret dep bc bs (pc + 3) ls (r.toList ++ st) μ' Post) : VL Z G y cc nL ret dep (bc + bc') (bs + bs') pc ls stk μ Post := by
  intro p e R s m args below meth c H locs cells slots Q lr hZ X hl hR hS hd hc hend
  obtain ⟨hx, hb, hml, hown, hts, hin, hK⟩ := id X
  subst hs
  have hroom := csum_le hK st
  obtain ⟨lk1, lk2, lk3, lk4, hci, hkc⟩ := lk
  have hob := (hR.2 o hn).2 (by rw [ho]; exact hci)
  rw [ho] at hob
  obtain ⟨cell, q1, q2, q3, q4⟩ := hob
  have hcls : s.vm.findClass y'.cls = some cell.cls := by
    cases hk : kls[ci]? with
    | none => rw [hk] at hkc; cases hkc
    | some w =>
      rw [hk] at hkc
      have hw : w.1 = y'.cls := Option.some.inj hkc
      rw [q2, ← hw]
      exact (hK.1.1 ci w hk).2.1
  have run := va_runV (l := gl G) (e := e) (below := below) (meth := meth) (locs := locs) (cells := cells) (slots := slots) (g := F0 m pc lr ((av.reverse ++ .ref o :: st).map (tv G))) (As := av.map (tv G)) (rest := st.map (tv G)) (b := gB G + o) (C := y'.cls) (H := H) ⟨hx, hb, hml, hown, hts⟩ hC ⟨callBN (R := R) hts lk1 lk2 hd1 hd, hts _ lk3, hts _ lk4⟩ ⟨blindN, ⟨cell, q1, by rw [q3]; rfl, hcls⟩, fun U hU hW => ⟨rfl, by rw [hU]; exact hR, hK.moved hS hU hW⟩⟩ rfl (by simp) hl.2.1 (by simp [tv]) (lv_room (by omega)) hdg ⟨by omega, by omega⟩
  exact VL.after run k hZ X hl hS hd hc hend
theorem VL.invI {av : List Value} {stk : List Value} {o : Nat} (hC : Cn G y' cc' nL' none dep' bc' bs' (.ref o :: av) μ Post') (lk : LkI y.cls idx y' cc' nL' av.length) (hdg : decode cc pc = .ok (.invokespecial idx, 3)) (hd1 : dep' + 1 ≤ dep) (hst : csum st ≤ 8) (hs : stk = av.reverse ++ .ref o :: st)
    (k : ∀ r μ', Post' r μ' → VL Z G y cc nL ret dep bc bs (pc + 3) ls (r.toList ++ st) μ' Post) : VL Z G y cc nL ret dep (bc + bc') (bs + bs') pc ls stk μ Post := by
  intro p e R s m args below meth c H locs cells slots Q lr hZ X hl hR hS hd hc hend
  obtain ⟨hx, hb, hml, hown, hts, hin, hK⟩ := id X
  subst hs
  have hroom := csum_le hK st
  obtain ⟨lk1, lk2, lk3, lk4⟩ := lk
  have run := va_runI (l := gl G) (e := e) (below := below) (meth := meth) (locs := locs) (cells := cells) (slots := slots) (g := F0 m pc lr ((av.reverse ++ .ref o :: st).map (tv G))) (As := av.map (tv G)) (rest := st.map (tv G)) (b := gB G + o) (H := H) ⟨hx, hb, hml, hown, hts⟩ hC ⟨callBN (R := R) hts lk1 lk2 hd1 hd, lk4, hts _ lk3⟩ ⟨blindN, fun U hU hW => ⟨rfl, by rw [hU]; exact hR, hK.moved hS hU hW⟩⟩ rfl (by simp) hl.2.1 (by simp [tv]) (lv_room (by omega)) hdg ⟨by omega, by omega⟩
  exact VL.after run k hZ X hl hS hd hc hend
end VLC
/-! the script -/
def ZS (G : GG) (b N : Nat) (xs : Nat → Int32) (s : State) : Prop := va_X b N xs s s.heap ∧ b < s.heap.size ∧ ¬ AA G b ∧ gx G 1 = .ref b
section VLS
variable {G : GG} {y : MethodName} {cc : ByteArray} {nL : Nat} {ret : Option FieldType} {dep bc bs pc : Nat} {ls st : List Value} {μ : Mem} {Post : Option Value → Mem → Prop} {b N : Nat} {xs : Nat → Int32}
theorem w_sld {i : Int32} {j : Nat} (hdg : decode cc pc = .ok (.iaload, 1)) (hi : i = nI j) (hj : j < N) (hN : N < 2 ^ 31) (k : VL (ZS G b N xs) G y cc nL ret dep bc bs (pc + 1) ls (.int (xs j) :: st) μ Post) : VL (ZS G b N xs) G y cc nL ret dep bc bs pc ls (.int i :: .float 1 :: st) μ Post := by
  intro p e R s m args below meth c H locs cells slots Q lr hZ X hl hR hS hd hc hend
  obtain ⟨z1, z2, z3, z4⟩ := id hZ
  have e0 : tv G (.float 1) = .ref b := z4
  have kk := k p e R s m args below meth c H locs cells slots Q lr hZ X hl hR hS hd hc hend
  subst hi
  rw [List.map_cons, List.map_cons, e0]
  refine va_sld X.1 X.2.1 z1 z2 z3 hS (nI_in hj hN) hdg ?_
  rw [nI_clamp (by omega)]
  exact kk
theorem w_slen {v : Int32} (hdg : decode cc pc = .ok (.arraylength, 1)) (hv : nI N = v) (k : VL (ZS G b N xs) G y cc nL ret dep bc bs (pc + 1) ls (.int v :: st) μ Post) : VL (ZS G b N xs) G y cc nL ret dep bc bs pc ls (.float 1 :: st) μ Post := by
  intro p e R s m args below meth c H locs cells slots Q lr hZ X hl hR hS hd hc hend
  obtain ⟨z1, z2, z3, z4⟩ := id hZ
  have e0 : tv G (.float 1) = .ref b := z4
  have kk := k p e R s m args below meth c H locs cells slots Q lr hZ X hl hR hS hd hc hend
  subst hv
  rw [List.map_cons, e0]
  exact va_slen X.1 X.2.1 z1 z2 z3 hS hdg kk
/-- a number as a condition: 1 if it isn't 0 -/
theorem w_ne0 {Z : State → Prop} {z : Int32} {o1 o2 : Int} {q1 q2 : Nat} (h1 : decode cc pc = .ok (.ifCond .eq o1, 3)) (t1 : (pc : Int) + o1 = (q1 : Int)) (h2 : decode cc (pc + 3) = .ok (.iconst 1, 1)) (h3 : decode cc (pc + 3 + 1) = .ok (.goto o2, 3)) (t2 : ((pc + 3 + 1 : Nat) : Int) + o2 = (q2 : Int)) (h4 : decode cc q1 = .ok (.iconst 0, 1)) (e4 : q1 + 1 = q2) (k : VL Z G y cc nL ret dep bc bs q2 ls (.int (bI (¬ z = 0)) :: st) μ Post) : VL Z G y cc nL ret dep bc bs pc ls (.int z :: st) μ Post := by
  refine w_if_eq h1 t1 (fun h => ?_) (fun h => ?_)
  · refine w_icN (n := 0) h4 (by decide) ?_
    rw [bI_f (fun q => q h)] at k
    rw [e4]; exact k
  · refine w_icN (n := 1) h2 (by decide) ?_
    refine w_goto h3 t2 ?_
    rw [bI_t h] at k
    exact k
end VLS
