/-! ===== new cells ===== -/
section VN
variable {G : GG} {y : MethodName} {cc : ByteArray} {nL : Nat} {ret : Option FieldType} {dep bc bs pc : Nat} {ls st : List Value} {Post : Option Value → Mem → Prop}
variable {n : Nat} {I : Nat → Nat → Int32} {L : Nat → Nat → Int64} {P : Nat → Nat → Option Nat}
/-- a cell that was not there holds nothing -/
def Z0 (n : Nat) (I : Nat → Nat → Int32) (L : Nat → Nat → Int64) (P : Nat → Nat → Option Nat) : Prop := ∀ j, I n j = 0 ∧ L n j = 0 ∧ P n j = none
def LkC (own : String) (idx ci N : Nat) : Prop := ∃ (C : String) (T : u_T) (ty : Nat → FieldType), kls[ci]? = some (C, T, N) ∧ ci < 10 ∧ Cond.classLink own idx C ∈ lw0 ∧ Cond.instantiable C N ∈ lw0 ∧ Cond.initialized C ∈ lw0 ∧ (∀ k, k < N → parseFieldDescriptor (T k).2.2.1 = some (ty k)) ∧ ∀ k, k < N → defaultValue (ty k) = if kdT ci k = 0 then .int 0 else .null
theorem sv_Z {G : GG} {ci N : Nat} (hz : Z0 n I L P) (hl : lay n = (ci, N)) (h1 : ∀ j, j < N → kdT ci j = 0 ∨ kdT ci j = 2) {j : Nat} (hj : j < N) : sv G (n + 1, I, L, P) n j = if kdT ci j = 0 then .int 0 else .null := by
  have hk : kd n j = kdT ci j := by rw [kd, hl]
  rcases h1 j hj with h | h
  · rw [if_pos h, sv_I (by rw [hk]; exact h), (hz j).1]
  · rw [if_neg (by omega), sv_N (by rw [hk]; exact h) (hz j).2.2]
theorem kdT_obj {ci : Nat} (h : ci < 10) (j : Nat) : kdT ci j = 0 ∨ kdT ci j = 2 := by
  unfold kdT
  rw [if_neg (by omega), if_neg (by omega), if_neg (by omega)]
  split
  · exact Or.inr rfl
  · exact Or.inl rfl
theorem v_new {idx ci N : Nat} (hdg : decode cc pc = .ok (.new idx, 3)) (lk : LkC y.cls idx ci N) (hl0 : lay n = (ci, N)) (hz : Z0 n I L P) (k : V G y cc nL ret dep bc bs (pc + 3) ls (.ref n :: st) (n + 1, I, L, P) Post) : V G y cc nL ret dep (bc + 1) (bs + N) pc ls st (n, I, L, P) Post := by
  intro p e R s m args below meth c H locs cells slots Q lr X hl hR hS hd hc hend
  obtain ⟨hx, hb, hml, hown, hts, hin, hK⟩ := id X
  obtain ⟨C, T, ty, hcl, hci, w1, w2, w3, hty, hdf⟩ := lk
  obtain ⟨hin', -, -⟩ := kls_ok ci C T N hcl
  have hKn := hK.1.1 ci _ hcl
  have hsz : H.size = gB G + n := hR.1
  refine W.newcK hx hb hown (hts _ w1) (hts _ w2) (hts _ w3) rfl hdg (by omega) (by omega) hKn.2.1 hsz fun H1 kC hkC e1 z1 o1 => ?_
  have hob := u_born ty hts hin' hKn hkC e1 hty
  refine k p e R s m args below meth c H1 locs (cells + 1) (slots + N) Q lr X hl ?_ ⟨Nat.le_trans hS.1 (by omega), fun q h1 h2 => (o1 q (by have := hS.1; omega)).trans (hS.2.1 q h1 h2), hS.2.2⟩ hd ⟨by omega, by omega⟩ (fun r μ' H' locs' cells' slots' pc' lr' a b c' d e' f g => hend r μ' H' locs' cells' slots' pc' lr' a b c' d e' (by omega) (by omega))
  refine hR.push (by omega) (fun q hq => o1 q (by omega)) rfl (fun x y _ => rfl) ⟨fun h => by simp only [hl0] at h; omega, fun _ => ?_⟩
  simp only [hl0]
  refine hob.to fun j hj => ?_
  rw [hdf j hj, sv_Z hz hl0 (fun j _ => kdT_obj hci j) hj]
theorem v_newaI {N : Nat} {v : Int32} (hdg : decode cc pc = .ok (.newarray .int, 2)) (hw : Cond.arrayClass .int ∈ lw0) (hl0 : lay n = (10, N)) (hv : v = nI N) (hN : N ≤ 1000) (hz : Z0 n I L P) (k : V G y cc nL ret dep bc bs (pc + 2) ls (.ref n :: st) (n + 1, I, L, P) Post) : V G y cc nL ret dep (bc + 1) (bs + N) pc ls (.int v :: st) (n, I, L, P) Post := by
  intro p e R s m args below meth c H locs cells slots Q lr X hl hR hS hd hc hend
  obtain ⟨hx, hb, hml, hown, hts, hin, hK⟩ := id X
  subst hv
  have hsz : H.size = gB G + n := hR.1
  refine va_newaK hx hb (atype := .int) (hts _ hw) rfl hdg rfl (nI_pos (by omega)) (nI_clamp (by omega)) (show N * 4 ≤ _ by omega) (by omega) (by omega) hsz fun H1 cA e1 z1 o1 hAr hNm => ?_
  have hcA : cA = gA G 10 := Option.some.inj (hNm.symm.trans (hK.1.2 0 _ rfl).2)
  subst hcA
  refine k p e R s m args below meth c H1 locs (cells + 1) (slots + N) Q lr X hl ?_ ⟨Nat.le_trans hS.1 (by omega), fun q h1 h2 => (o1 q (by have := hS.1; omega)).trans (hS.2.1 q h1 h2), hS.2.2⟩ hd ⟨by omega, by omega⟩ (fun r μ' H' locs' cells' slots' pc' lr' a b c' d e' f g => hend r μ' H' locs' cells' slots' pc' lr' a b c' d e' (by omega) (by omega))
  refine hR.push (by omega) (fun q hq => o1 q (by omega)) rfl (fun x y _ => rfl) ⟨fun h => ?_, fun h => by simp only [hl0] at h; omega⟩
  simp only [hl0]
  rw [e1]
  congr 2
  funext j
  rw [sv_I (by rw [kd, hl0]; rfl), (hz j).1]
  rfl
theorem v_newaL {N : Nat} {v : Int32} (hdg : decode cc pc = .ok (.newarray .long, 2)) (hw : Cond.arrayClass .long ∈ lw0) (hl0 : lay n = (11, N)) (hv : v = nI N) (hN : N ≤ 1000) (hz : Z0 n I L P) (k : V G y cc nL ret dep bc bs (pc + 2) ls (.ref n :: st) (n + 1, I, L, P) Post) : V G y cc nL ret dep (bc + 1) (bs + N) pc ls (.int v :: st) (n, I, L, P) Post := by
  intro p e R s m args below meth c H locs cells slots Q lr X hl hR hS hd hc hend
  obtain ⟨hx, hb, hml, hown, hts, hin, hK⟩ := id X
  subst hv
  have hsz : H.size = gB G + n := hR.1
  refine va_newaK hx hb (atype := .long) (hts _ hw) rfl hdg rfl (nI_pos (by omega)) (nI_clamp (by omega)) (show N * 8 ≤ _ by omega) (by omega) (by omega) hsz fun H1 cA e1 z1 o1 hAr hNm => ?_
  have hcA : cA = gA G 11 := Option.some.inj (hNm.symm.trans (hK.1.2 1 _ rfl).2)
  subst hcA
  refine k p e R s m args below meth c H1 locs (cells + 1) (slots + N) Q lr X hl ?_ ⟨Nat.le_trans hS.1 (by omega), fun q h1 h2 => (o1 q (by have := hS.1; omega)).trans (hS.2.1 q h1 h2), hS.2.2⟩ hd ⟨by omega, by omega⟩ (fun r μ' H' locs' cells' slots' pc' lr' a b c' d e' f g => hend r μ' H' locs' cells' slots' pc' lr' a b c' d e' (by omega) (by omega))
  refine hR.push (by omega) (fun q hq => o1 q (by omega)) rfl (fun x y _ => rfl) ⟨fun h => ?_, fun h => by simp only [hl0] at h; omega⟩
  simp only [hl0]
  rw [e1]
  congr 2
  funext j
  rw [sv_L (by rw [kd, hl0]; rfl), (hz j).2.1]
  rfl
theorem v_newaZ {N : Nat} {v : Int32} (hdg : decode cc pc = .ok (.newarray .boolean, 2)) (hw : Cond.arrayClass .boolean ∈ lw0) (hl0 : lay n = (12, N)) (hv : v = nI N) (hN : N ≤ 1000) (hz : Z0 n I L P) (k : V G y cc nL ret dep bc bs (pc + 2) ls (.ref n :: st) (n + 1, I, L, P) Post) : V G y cc nL ret dep (bc + 1) (bs + N) pc ls (.int v :: st) (n, I, L, P) Post := by
  intro p e R s m args below meth c H locs cells slots Q lr X hl hR hS hd hc hend
  obtain ⟨hx, hb, hml, hown, hts, hin, hK⟩ := id X
  subst hv
  have hsz : H.size = gB G + n := hR.1
  refine va_newaK hx hb (atype := .boolean) (hts _ hw) rfl hdg rfl (nI_pos (by omega)) (nI_clamp (by omega)) (show N * 1 ≤ _ by omega) (by omega) (by omega) hsz fun H1 cA e1 z1 o1 hAr hNm => ?_
  have hcA : cA = gA G 12 := Option.some.inj (hNm.symm.trans (hK.1.2 2 _ rfl).2)
  subst hcA
  refine k p e R s m args below meth c H1 locs (cells + 1) (slots + N) Q lr X hl ?_ ⟨Nat.le_trans hS.1 (by omega), fun q h1 h2 => (o1 q (by have := hS.1; omega)).trans (hS.2.1 q h1 h2), hS.2.2⟩ hd ⟨by omega, by omega⟩ (fun r μ' H' locs' cells' slots' pc' lr' a b c' d e' f g => hend r μ' H' locs' cells' slots' pc' lr' a b c' d e' (by omega) (by omega))
  refine hR.push (by omega) (fun q hq => o1 q (by omega)) rfl (fun x y _ => rfl) ⟨fun h => ?_, fun h => by simp only [hl0] at h; omega⟩
  simp only [hl0]
  rw [e1]
  congr 2
  funext j
  rw [sv_I (by rw [kd, hl0]; rfl), (hz j).1]
  rfl
theorem v_anew {N t t0 idx : Nat} {v : Int32} {C : String} (ht : t = 13 ∨ t = 14) (hd0 : (tyl G)[t0]? = some (gA G t, .object C)) (hdg : decode cc pc = .ok (.anewarray idx, 3)) (hw : Cond.classLink y.cls idx C ∈ lw0) (hw2 : C = RX1 ∨ C = RX4) (hl0 : lay n = (t, N)) (hv : v = nI N) (hN : N ≤ 1000) (hz : Z0 n I L P) (k : V G y cc nL ret dep bc bs (pc + 3) ls (.ref n :: st) (n + 1, I, L, P) Post) : V G y cc nL ret dep (bc + 1) (bs + N) pc ls (.int v :: st) (n, I, L, P) Post := by
  intro p e R s m args below meth c H locs cells slots Q lr X hl hR hS hd hc hend
  obtain ⟨hx, hb, hml, hown, hts, hin, hK⟩ := id X
  subst hv
  have hsz : H.size = gB G + n := hR.1
  have hcl : (nI N).toNatClampNeg = N := nI_clamp (by omega)
  refine W.anew hx hb hown (hts _ hw) (hw2.elim (fun e => by rw [e]; exact va_AO.use hK.2.2.2.1.1.1) (fun e => by rw [e]; exact va_AO.use hK.2.2.2.1.1.2)) rfl hdg rfl (nI_pos (by omega)) (by rw [hcl]; omega) (by omega) (by rw [hcl]; omega) fun cA kA comp f1 f2 f3 f4 => ?_
  rw [hcl]
  generalize hH1 : H.push ({ cls := cA, slots := Array.replicate N .null, vm := .none } : Cell) = H1
  have z1 : H1.size = H.size + 1 := by rw [← hH1, Array.size_push]
  have e1 : H1[H.size]? = some (arrV cA N (fun _ => .null)) := by rw [← hH1, Array.getElem?_push_size, ← arrV_new]
  have o1 : ∀ q : Nat, q < H.size → H1[q]? = H[q]? := fun q hq => by rw [← hH1, Array.getElem?_push, if_neg (Nat.ne_of_lt hq)]
  have hcA : cA = gA G t := by
    obtain ⟨-, -, -, -, -, h4⟩ := (hK.1.2 t0 _ hd0).2
    exact Option.some.inj (f1.symm.trans h4)
  subst hcA
  have hW : W p (gl G) e R s m args below meth c H1 locs (cells + 1) (slots + N) Q (F0 m (pc + 3) lr ((Value.ref n :: st).map (tv G))) := by
    refine k p e R s m args below meth c H1 locs (cells + 1) (slots + N) Q lr X hl ?_ ⟨Nat.le_trans hS.1 (by omega), fun q h1 h2 => (o1 q (by have := hS.1; omega)).trans (hS.2.1 q h1 h2), hS.2.2⟩ hd ⟨by omega, by omega⟩ (fun r μ' H' locs' cells' slots' pc' lr' a b c' d e' f g => hend r μ' H' locs' cells' slots' pc' lr' a b c' d e' (by omega) (by omega))
    refine hR.push z1 o1 rfl (fun x y _ => rfl) ⟨fun h => ?_, fun h => by simp only [hl0] at h; omega⟩
    simp only [hl0]
    rw [← hsz, e1]
    congr 2
    funext j
    rw [sv_N (by rw [kd, hl0]; rcases ht with rfl | rfl <;> rfl) (hz j).2.2]
  have e9 : tv G (.ref n) = .ref H.size := by rw [hsz]; rfl
  rw [List.map_cons, e9] at hW
  exact hW
theorem v_objInit {idx a : Nat} {μ : Mem} (hdg : decode cc pc = .ok (.invokespecial idx, 3)) (hw : Cond.methodLink y.cls idx objectInit ∈ lw0) (hw2 : Cond.instanceMethod objectInit ∈ lw0) (hw3 : Cond.code objectInit ⟨#[0xb1]⟩ 1 none ∈ lw0) (hdep : 1 ≤ dep) (hst : st = []) (k : V G y cc nL ret dep bc bs (pc + 3) ls st μ Post) : V G y cc nL ret dep bc bs pc ls (.ref a :: st) μ Post := by
  intro p e R s m args below meth c H locs cells slots Q lr X hl hR hS hd hc hend
  obtain ⟨hx, hb, hml, hown, hts, hin, hK⟩ := id X
  subst hst
  exact W.objInit hx hb hown (hts _ hw) (hts _ hw2) (hts _ hw3) rfl (by rw [hml]; exact hl.2.1) rfl hdg (by omega) (show 2 * 0 + 0 + 12 ≤ R.locals by omega) (k p e R s m args below meth c H locs cells slots Q lr X hl hR hS hd hc hend)
end VN
/-! ===== calls ===== -/
def csum : List Value → Nat
  | [] => 0
  | .long _ :: vs => 2 + csum vs
  | .double _ :: vs => 2 + csum vs
  | _ :: vs => 1 + csum vs
theorem csum_le {G : GG} {U : State} (hK : KK G U) : ∀ (vs : List Value), ((vs.map (tv G)).map fun v => v.category).sum ≤ csum vs
  | [] => Nat.le_refl _
  | v :: vs => by
    have ih := csum_le hK vs
    have hs : (((v :: vs).map (tv G)).map fun v => v.category).sum = (tv G v).category + ((vs.map (tv G)).map fun v => v.category).sum := by simp
    rw [hs, hK.cat v]
    cases v <;> simp only [csum] <;> first | (show 1 + _ ≤ _; omega) | (show 2 + _ ≤ _; omega)
def MthN (y : MethodName) (cc : ByteArray) (nL : Nat) (ret : Option FieldType) (n : Nat) : Prop := Cond.code y cc nL ret ∈ lw0 ∧ Cond.initialized y.cls ∈ lw0 ∧ (y.cls ≠ "java/lang/invoke/MethodHandle" ∧ y.cls ≠ "java/lang/invoke/VarHandle") ∧ (parseMethodDescriptor y.desc).map (fun d => d.parameters.length) = some n ∧ nL ≤ 40
def LkS (own : String) (idx : Nat) (y : MethodName) (cc : ByteArray) (nL : Nat) (ret : Option FieldType) (n : Nat) : Prop := MthN y cc nL ret n ∧ Cond.methodLink own idx y ∈ lw0 ∧ Cond.static y ∈ lw0
def LkV (own : String) (idx : Nat) (y : MethodName) (cc : ByteArray) (nL : Nat) (ret : Option FieldType) (n ci : Nat) : Prop := MthN y cc nL ret n ∧ Cond.methodLink own idx y ∈ lw0 ∧ Cond.instanceMethod y ∈ lw0 ∧ Cond.selects y.cls y y ∈ lw0 ∧ ci < 10 ∧ (kls[ci]?).map (fun q => q.1) = some y.cls
def LkI (own : String) (idx : Nat) (y : MethodName) (cc : ByteArray) (nL n : Nat) : Prop := MthN y cc nL none n ∧ Cond.methodLink own idx y ∈ lw0 ∧ Cond.instanceMethod y ∈ lw0 ∧ y.name = "<init>"
def LkN (own : String) (idx : Nat) (y : MethodName) (cc : ByteArray) (nL n : Nat) : Prop := MthN y cc nL none n ∧ (own, idx, y) ∈ nestL ∧ Cond.instanceMethod y ∈ lw0 ∧ y.name = "<init>"
section VC
variable {G : GG} {y : MethodName} {cc : ByteArray} {nL : Nat} {ret : Option FieldType} {dep bc bs pc : Nat} {ls st : List Value} {Post : Option Value → Mem → Prop} {μ : Mem}
variable {y' : MethodName} {cc' : ByteArray} {nL' dep' bc' bs' idx : Nat} {ret' : Option FieldType} {Post' : Option Value → Mem → Prop}
theorem blindN {av : List Value} : FrameBlind (va_Pc (av.map (tv G)) (fun U => Rep G μ U.heap ∧ KK G U)) := fun _ _ _ _ h => ⟨h.1, h.2.1, h.2.2.calling⟩
theorem callBN {own : String} {R : Room} {s : State} {args : Array Value} {n : Nat} (hts : ∀ w ∈ lw0, w.before args s = true) (hm : MthN y' cc' nL' ret' n) (hlk : Cond.methodLink own idx y' ∈ lw0) (hd : dep' + 1 ≤ dep) (hr : dep ≤ R.frames ∧ 64 * dep ≤ R.locals) : CallB R s args own idx y' cc' nL' ret' (Cond.code y' cc' nL' ret' :: lw0) (rmN dep' bc' bs') bc' bs' n := by
  obtain ⟨h1, h2, h3, h4, h5⟩ := hm
  have hG : GoodIn lw0 (Cond.code y' cc' nL' ret' :: lw0) := fun w hw => by
    have hm : w ∈ lw0 := (List.mem_cons.mp hw).elim (fun e => e ▸ h1) id
    exact ⟨hm, lw0_good hm⟩
  exact callB_of n hts hG rfl rfl rfl (hts _ h2) (hts _ hlk) ⟨h3.1, h3.2, h4⟩ ⟨by show dep' + 1 ≤ R.frames; omega, by show 8 + (nL' + 11) + 64 * dep' ≤ R.locals; omega⟩
/-- behind a call -/
theorem V.after {p : Program} {e : Env} {R : Room} {s : State} {m : MethodId} {args : Array Value} {below : List Frame} {meth : Method} {c : Code} {H : Heap} {locs : List Loc} {cells slots : Nat} {Q : State → Prop} {lr : Array Slot} {a : Array Value} {st0 : List Value}
    (run : va_Run p (gl G) e R s m args below meth c H locs cells slots bc' bs' (F0 m pc lr st0) (st.map (tv G)) (Qn G Post' a) (AA G))
    (k : ∀ r μ', Post' r μ' → V G y cc nL ret dep bc bs (pc + 3) ls (r.toList ++ st) μ' Post) (X : Cx G y cc nL p s m args meth c) (hl : LR G lr nL ls) (hS : va_S (AA G) s.heap H locs) (hd : dep ≤ R.frames ∧ 64 * dep ≤ R.locals) (hc : cells + (bc + bc') ≤ R.cells ∧ slots + (bs + bs') ≤ R.slots)
    (hend : ∀ (r : Option Value) (μ' : Mem) (H' : Heap) (locs' : List Loc) (cells' slots' pc' : Nat) (lr' : Array Slot), Post r μ' → RetOK ret r → decode cc pc' = .ok (RetI r, 1) → Rep G μ' H' → va_S (AA G) s.heap H' locs' → cells' ≤ cells + (bc + bc') → slots' ≤ slots + (bs + bs') → W p (gl G) e R s m args below meth c H' locs' cells' slots' Q (F0 m pc' lr' (r.toList.map (tv G)))) :
    W p (gl G) e R s m args below meth c H locs cells slots Q (F0 m pc lr st0) := by
  intro T hT X'
  obtain ⟨v, st₀, t, T', Lc, h0, X'', hL, e1, e2, ⟨⟨r, μ', hv, hp, hR'⟩, hF⟩, hgo⟩ := run T hT X'
  have hv' : v = r.map (tv G) := by injection hv
  subst hv'
  have hFz := hF.1
  have hFk := hF.2
  rw [h0] at hFz hFk
  obtain ⟨t2, a1, b1⟩ := k r μ' hp p e R s m args below meth c T'.heap (locs ++ Lc) (cells + bc') (slots + bs') Q lr X hl (by rw [e1]; exact hR')
    ⟨Nat.le_trans hS.1 (by rw [e1]; exact hFz), fun q h1 h2 => by rw [e1, hFk q (Nat.lt_of_lt_of_le h1 hS.1) h2]; exact hS.2.1 q h1 h2, fun q hq => by
      rcases List.mem_append.mp hq with h | h
      · exact hS.2.2 q h
      · exact hL q h⟩ hd ⟨by omega, by omega⟩ (fun r μ' H' locs' cells' slots' pc' lr' a b c' d e' f g => hend r μ' H' locs' cells' slots' pc' lr' a b c' d e' (by omega) (by omega)) T' rfl X''
  refine ⟨t2, hgo t2 ?_, b1⟩
  have es : (r.toList ++ st).map (tv G) = (r.map (tv G)).toList ++ st.map (tv G) := by cases r <;> simp
  rw [es] at a1
  exact a1
theorem V.invS {av : List Value} {stk : List Value} (hC : Cn G y' cc' nL' ret' dep' bc' bs' av μ Post') (lk : LkS y.cls idx y' cc' nL' ret' av.length) (hdg : decode cc pc = .ok (.invokestatic idx, 3)) (hd1 : dep' + 1 ≤ dep) (hst : csum st ≤ 8) (hs : stk = av.reverse ++ st)
    (k : ∀ r μ', Post' r μ' → V G y cc nL ret dep bc bs (pc + 3) ls (r.toList ++ st) μ' Post) : V G y cc nL ret dep (bc + bc') (bs + bs') pc ls stk μ Post := by
  intro p e R s m args below meth c H locs cells slots Q lr X hl hR hS hd hc hend
  obtain ⟨hx, hb, hml, hown, hts, hin, hK⟩ := id X
  subst hs
  have hroom := csum_le hK st
  have run := va_runS (l := gl G) (e := e) (below := below) (meth := meth) (locs := locs) (cells := cells) (slots := slots) (g := F0 m pc lr ((av.reverse ++ st).map (tv G))) (As := av.map (tv G)) (rest := st.map (tv G)) (H := H) ⟨hx, hb, hml, hown, hts⟩ hC ⟨callBN (R := R) hts lk.1 lk.2.1 hd1 hd, hts _ lk.2.2⟩ ⟨blindN, fun U hU hW => ⟨rfl, by rw [hU]; exact hR, hK.moved hS hU hW⟩⟩ rfl (by simp) hl.2.1 (by simp) (lv_room (by omega)) hdg ⟨by omega, by omega⟩
  exact V.after run k X hl hS hd hc hend
theorem V.invV {av : List Value} {stk : List Value} {o ci N : Nat} (hC : Cn G y' cc' nL' ret' dep' bc' bs' (.ref o :: av) μ Post') (lk : LkV y.cls idx y' cc' nL' ret' av.length ci) (hdg : decode cc pc = .ok (.invokevirtual idx, 3)) (hd1 : dep' + 1 ≤ dep) (hst : csum st ≤ 8) (hs : stk = av.reverse ++ .ref o :: st) (ho : lay o = (ci, N)) (hn : o < μ.1)
    (k : ∀ r μ', Post' r μ' → V G y cc nL ret dep bc bs (pc + 3) ls (r.toList ++ st) μ' Post) : V G y cc nL ret dep (bc + bc') (bs + bs') pc ls stk μ Post := by
  intro p e R s m args below meth c H locs cells slots Q lr X hl hR hS hd hc hend
  obtain ⟨hx, hb, hml, hown, hts, hin, hK⟩ := id X
  subst hs
  have hroom := csum_le hK st
  obtain ⟨lk1, lk2, lk3, lk4, hci, hkc⟩ := lk
  have hob := (hR.2 o hn).2 (by rw [ho]; exact hci)
  rw [ho] at hob
  obtain ⟨cell, q1, q2, q3, q4⟩ := hob
  have hcls : s.vm.findClass y'.cls = some cell.cls := by
    cases hk : kls[ci]? with
    | none => rw [hk] at hkc; cases hkc
    | some w =>
      rw [hk] at hkc
      have hw : w.1 = y'.cls := Option.some.inj hkc
      rw [q2, ← hw]
      exact (hK.1.1 ci w hk).2.1
  have run := va_runV (l := gl G) (e := e) (below := below) (meth := meth) (locs := locs) (cells := cells) (slots := slots) (g := F0 m pc lr ((av.reverse ++ .ref o :: st).map (tv G))) (As := av.map (tv G)) (rest := st.map (tv G)) (b := gB G + o) (C := y'.cls) (H := H) ⟨hx, hb, hml, hown, hts⟩ hC ⟨callBN (R := R) hts lk1 lk2 hd1 hd, hts _ lk3, hts _ lk4⟩ ⟨blindN, ⟨cell, q1, by rw [q3]; rfl, hcls⟩, fun U hU hW => ⟨rfl, by rw [hU]; exact hR, hK.moved hS hU hW⟩⟩ rfl (by simp) hl.2.1 (by simp [tv]) (lv_room (by omega)) hdg ⟨by omega, by omega⟩
  exact V.after run k X hl hS hd hc hend
theorem V.invI {av : List Value} {stk : List Value} {o : Nat} (hC : Cn G y' cc' nL' none dep' bc' bs' (.ref o :: av) μ Post') (lk : LkI y.cls idx y' cc' nL' av.length) (hdg : decode cc pc = .ok (.invokespecial idx, 3)) (hd1 : dep' + 1 ≤ dep) (hst : csum st ≤ 8) (hs : stk = av.reverse ++ .ref o :: st)
    (k : ∀ r μ', Post' r μ' → V G y cc nL ret dep bc bs (pc + 3) ls (r.toList ++ st) μ' Post) : V G y cc nL ret dep (bc + bc') (bs + bs') pc ls stk μ Post := by
  intro p e R s m args below meth c H locs cells slots Q lr X hl hR hS hd hc hend
  obtain ⟨hx, hb, hml, hown, hts, hin, hK⟩ := id X
  subst hs
  have hroom := csum_le hK st
  obtain ⟨lk1, lk2, lk3, lk4⟩ := lk
  have run := va_runI (l := gl G) (e := e) (below := below) (meth := meth) (locs := locs) (cells := cells) (slots := slots) (g := F0 m pc lr ((av.reverse ++ .ref o :: st).map (tv G))) (As := av.map (tv G)) (rest := st.map (tv G)) (b := gB G + o) (H := H) ⟨hx, hb, hml, hown, hts⟩ hC ⟨callBN (R := R) hts lk1 lk2 hd1 hd, lk4, hts _ lk3⟩ ⟨blindN, fun U hU hW => ⟨rfl, by rw [hU]; exact hR, hK.moved hS hU hW⟩⟩ rfl (by simp) hl.2.1 (by simp [tv]) (lv_room (by omega)) hdg ⟨by omega, by omega⟩
  exact V.after run k X hl hS hd hc hend
theorem V.invN {av : List Value} {stk : List Value} {o : Nat} (hC : Cn G y' cc' nL' none dep' bc' bs' (.ref o :: av) μ Post') (lk : LkN y.cls idx y' cc' nL' av.length) (hdg : decode cc pc = .ok (.invokespecial idx, 3)) (hd1 : dep' + 1 ≤ dep) (hst : csum st ≤ 8) (hs : stk = av.reverse ++ .ref o :: st)
    (k : ∀ r μ', Post' r μ' → V G y cc nL ret dep bc bs (pc + 3) ls (r.toList ++ st) μ' Post) : V G y cc nL ret dep (bc + bc') (bs + bs') pc ls stk μ Post := by
  intro p e R s m args below meth c H locs cells slots Q lr X hl hR hS hd hc hend
  obtain ⟨hx, hb, hml, hown, hts, hin, hK⟩ := id X
  subst hs
  have hroom := csum_le hK st
  obtain ⟨⟨h1, h2, h3, h4, h5⟩, lk2, lk3, lk4⟩ := lk
  have hG : GoodIn lw0 (Cond.code y' cc' nL' none :: lw0) := fun w hw => by
    have hm : w ∈ lw0 := (List.mem_cons.mp hw).elim (fun e => e ▸ h1) id
    exact ⟨hm, lw0_good hm⟩
  have hcn := va_cnB (R := R) (rm := rmN dep' bc' bs') av.length hts hG rfl rfl rfl (hK.2.2.1 _ lk2) (hts _ h2) ⟨h3.1, h3.2, h4⟩ ⟨by show dep' + 1 ≤ R.frames; omega, by show 8 + (nL' + 11) + 64 * dep' ≤ R.locals; omega⟩
  have run := va_runIN (l := gl G) (e := e) (below := below) (meth := meth) (locs := locs) (cells := cells) (slots := slots) (g := F0 m pc lr ((av.reverse ++ .ref o :: st).map (tv G))) (As := av.map (tv G)) (rest := st.map (tv G)) (b := gB G + o) (H := H) ⟨hx, hb, hml, hown, hts⟩ hC ⟨hcn, lk4, hts _ lk3⟩ ⟨blindN, fun U hU hW => ⟨rfl, by rw [hU]; exact hR, hK.moved hS hU hW⟩⟩ rfl (by simp) hl.2.1 (by simp [tv]) (lv_room (by omega)) hdg ⟨by omega, by omega⟩
  exact V.after run k X hl hS hd hc hend
end VC
