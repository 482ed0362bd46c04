/-! ===== memory: fields, arrays, new ===== -/
theorem iX0 : ∀ w ∈ u_ws RX0 TX0 4, w ∈ lw0 := by decide +kernel
theorem iX1 : ∀ w ∈ u_ws RX1 TX1 14, w ∈ lw0 := by decide +kernel
theorem iX2 : ∀ w ∈ u_ws RX2 TX2 2, w ∈ lw0 := by decide +kernel
theorem iX3 : ∀ w ∈ u_ws RX3 TX3 4, w ∈ lw0 := by decide +kernel
theorem iX4 : ∀ w ∈ u_ws RX4 TX4 4, w ∈ lw0 := by decide +kernel
theorem iX5 : ∀ w ∈ u_ws RX5 TX5 4, w ∈ lw0 := by decide +kernel
theorem iX6 : ∀ w ∈ u_ws RX6 TX6 6, w ∈ lw0 := by decide +kernel
theorem iX7 : ∀ w ∈ u_ws RX7 TX7 10, w ∈ lw0 := by decide +kernel
theorem iX8 : ∀ w ∈ u_ws RX8 TX8 10, w ∈ lw0 := by decide +kernel
theorem iX9 : ∀ w ∈ u_ws RX9 TX9 46, w ∈ lw0 := by decide +kernel
theorem kls_ok : ∀ (ci : Nat) (C : String) (T : u_T) (N : Nat), kls[ci]? = some (C, T, N) → (∀ w ∈ u_ws C T N, w ∈ lw0) ∧ (∃ ty0 : Nat → FieldType, ∀ k, k < N → parseFieldDescriptor (T k).2.2.1 = some (ty0 k)) ∧ ∀ a, a < N → ∀ b, b < N → a ≠ b → (T a).2.1 ≠ (T b).2.1
  | 0, _, _, _, h => by cases h; exact ⟨iX0, ⟨tyX0, tyX0_ok⟩, nmX0⟩
  | 1, _, _, _, h => by cases h; exact ⟨iX1, ⟨tyX1, tyX1_ok⟩, nmX1⟩
  | 2, _, _, _, h => by cases h; exact ⟨iX2, ⟨tyX2, tyX2_ok⟩, nmX2⟩
  | 3, _, _, _, h => by cases h; exact ⟨iX3, ⟨tyX3, tyX3_ok⟩, nmX3⟩
  | 4, _, _, _, h => by cases h; exact ⟨iX4, ⟨tyX4, tyX4_ok⟩, nmX4⟩
  | 5, _, _, _, h => by cases h; exact ⟨iX5, ⟨tyX5, tyX5_ok⟩, nmX5⟩
  | 6, _, _, _, h => by cases h; exact ⟨iX6, ⟨tyX6, tyX6_ok⟩, nmX6⟩
  | 7, _, _, _, h => by cases h; exact ⟨iX7, ⟨tyX7, tyX7_ok⟩, nmX7⟩
  | 8, _, _, _, h => by cases h; exact ⟨iX8, ⟨tyX8, tyX8_ok⟩, nmX8⟩
  | 9, _, _, _, h => by cases h; exact ⟨iX9, ⟨tyX9, tyX9_ok⟩, nmX9⟩
  | n + 10, _, _, _, h => by simp [kls] at h
/-- a field by its link: the class's number, how many fields it has, the field's number -/
def LkF (own : String) (idx ci N f : Nat) : Prop := ∃ (C : String) (T : u_T), kls[ci]? = some (C, T, N) ∧ f < N ∧ ci < 10 ∧ Cond.fieldLink own idx (T f).1 (T f).2.1 (T f).2.2.1 ∈ lw0
section VM
variable {G : GG} {y : MethodName} {cc : ByteArray} {nL : Nat} {ret : Option FieldType} {dep bc bs pc : Nat} {ls st : List Value} {Post : Option Value → Mem → Prop}
variable {n : Nat} {I : Nat → Nat → Int32} {L : Nat → Nat → Int64} {P : Nat → Nat → Option Nat}
theorem V.get {μ : Mem} {idx ci N f a : Nat} {v : Value} (hdg : decode cc pc = .ok (.getfield idx, 3)) (lk : LkF y.cls idx ci N f) (ha : lay a = (ci, N)) (hn : a < μ.1) (hv : sv G μ a f = tv G v) (k : V G y cc nL ret dep bc bs (pc + 3) ls (v :: st) μ Post) : V G y cc nL ret dep bc bs pc ls (.ref a :: st) μ Post := by
  intro p e R s m args below meth c H locs cells slots Q lr X hl hR hS hd hc hend
  obtain ⟨hx, hb, hml, hown, hts, hin, hK⟩ := id X
  obtain ⟨C, T, hcl, hf, hci, hlk⟩ := lk
  obtain ⟨hin', -, -⟩ := kls_ok ci C T N hcl
  have hob := (hR.2 a hn).2 (by rw [ha]; exact hci)
  rw [ha] at hob
  obtain ⟨cell, q1, q2, q3, q4⟩ := hob
  obtain ⟨hSl, hfc, kC, hkC, hkind⟩ := hK.1.1 ci _ hcl
  obtain ⟨cf, kf, fi, fd, hi, hsl⟩ := hSl f hf
  refine W.getf (v := tv G v) hx hb hown (hts _ hlk) hi (u_facts hfc hkC (u_lays hts hin' hf) hi).1 q1 (by rw [q3]; exact fun h => by cases h) ?_ rfl rfl hdg (k p e R s m args below meth c H locs cells slots Q lr X hl hR hS hd hc hend)
  rw [hsl, q4 f hf, hv]
theorem v_getI {idx ci N f a : Nat} (hdg : decode cc pc = .ok (.getfield idx, 3)) (lk : LkF y.cls idx ci N f) (ha : lay a = (ci, N)) (hk : kdT ci f = 0) (hn : a < n) (k : V G y cc nL ret dep bc bs (pc + 3) ls (.int (I a f) :: st) (n, I, L, P) Post) : V G y cc nL ret dep bc bs pc ls (.ref a :: st) (n, I, L, P) Post :=
  V.get hdg lk ha hn (sv_I (by rw [kd, ha]; exact hk)) k
theorem v_getP {idx ci N f a q : Nat} (hdg : decode cc pc = .ok (.getfield idx, 3)) (lk : LkF y.cls idx ci N f) (ha : lay a = (ci, N)) (hk : kdT ci f = 2) (hn : a < n) (hp : P a f = some q) (k : V G y cc nL ret dep bc bs (pc + 3) ls (.ref q :: st) (n, I, L, P) Post) : V G y cc nL ret dep bc bs pc ls (.ref a :: st) (n, I, L, P) Post :=
  V.get hdg lk ha hn (sv_P (by rw [kd, ha]; exact hk) hp) k
/-- a field is written: not final -/
theorem V.put {μ μ' : Mem} {idx ci N f a : Nat} {v : Value} (hdg : decode cc pc = .ok (.putfield idx, 3)) (lk : LkF y.cls idx ci N f) (hty : ∀ (C : String) (T : u_T), kls[ci]? = some (C, T, N) → (T f).2.2.2 = false ∧ ∃ ty, parseFieldDescriptor (T f).2.2.1 = some ty ∧ narrow ty (tv G v) = tv G v ∧ fits ty (tv G v) = true) (ha : lay a = (ci, N)) (hn : a < μ.1) (hn' : μ'.1 = μ.1) (hv : ∀ x y, sv G μ' x y = if x = a ∧ y = f then tv G v else sv G μ x y) (k : V G y cc nL ret dep bc bs (pc + 3) ls st μ' Post) : V G y cc nL ret dep bc bs pc ls (v :: .ref a :: st) μ Post := by
  intro p e R s m args below meth c H locs cells slots Q lr X hl hR hS hd hc hend
  obtain ⟨hx, hb, hml, hown, hts, hin, hK⟩ := id X
  obtain ⟨C, T, hcl, hf, hci, hlk⟩ := lk
  obtain ⟨hin', ⟨ty0, hty0⟩, hnm⟩ := kls_ok ci C T N hcl
  obtain ⟨hfin, ty, hpd, hnar, hfit⟩ := hty C T hcl
  have hci' : (lay a).1 < 10 := by rw [ha]; exact hci
  have hob := (hR.2 a hn).2 hci'
  rw [ha] at hob
  obtain ⟨cell, q1, q2, q3, q4⟩ := hob
  have hap := va_apart (own := y.cls) hts hin' ty0 hty0 hnm hK.1 hcl
  obtain ⟨hSl, hfc, kC, hkC, hkind⟩ := hK.1.1 ci _ hcl
  obtain ⟨cf, kf, fi, fd, hi, hsl⟩ := hSl f hf
  have hlay := hts _ (hin' _ (u_in_lay hf))
  unfold u_lay at hlay
  rw [if_neg (by rw [hfin]; decide)] at hlay
  have hst := (u_facts hfc hkC (u_lays hts hin' hf) hi).1
  have h6 := u_store hfc hkC hkind hlay hi hpd hnar hfit
  refine W.putK hx hb (f := fd) ⟨hown, hts _ hlk, ⟨_, _, _, hi⟩, hst⟩ (by rw [q2]; exact h6) q1 q3 (by rw [hsl]; exact k2_hasslot (q4 f hf)) rfl rfl hdg fun H' e1 e2 e3 => ?_
  rw [hsl] at e1 ⊢
  refine k p e R s m args below meth c H' _ cells slots Q lr X hl (hR.obj hn hci' ?_ e2 e3 hn' hv) (hS.put e2 e3 (Nat.le_add_right _ _)) hd hc hend
  rw [ha]
  exact ⟨_, e1, q2, q3, t_set q4 hap hf (tv G v)⟩
/-- a final field is written in a constructor -/
theorem V.putF {μ μ' : Mem} {idx ci N f a : Nat} {v : Value} (hdg : decode cc pc = .ok (.putfield idx, 3)) (lk : LkF y.cls idx ci N f) (hy : y.name = "<init>") (hty : ∀ (C : String) (T : u_T), kls[ci]? = some (C, T, N) → (T f).2.2.2 = true ∧ (T f).1 = y.cls ∧ ∃ ty, parseFieldDescriptor (T f).2.2.1 = some ty ∧ narrow ty (tv G v) = tv G v ∧ fits ty (tv G v) = true) (ha : lay a = (ci, N)) (hn : a < μ.1) (hn' : μ'.1 = μ.1) (hv : ∀ x y, sv G μ' x y = if x = a ∧ y = f then tv G v else sv G μ x y) (k : V G y cc nL ret dep bc bs (pc + 3) ls st μ' Post) : V G y cc nL ret dep bc bs pc ls (v :: .ref a :: st) μ Post := by
  intro p e R s m args below meth c H locs cells slots Q lr X hl hR hS hd hc hend
  obtain ⟨hx, hb, hml, hown, hts, hin, hK⟩ := id X
  obtain ⟨C, T, hcl, hf, hci, hlk⟩ := lk
  obtain ⟨hin', ⟨ty0, hty0⟩, hnm⟩ := kls_ok ci C T N hcl
  obtain ⟨hfin, hdecl, ty, hpd, hnar, hfit⟩ := hty C T hcl
  have hci' : (lay a).1 < 10 := by rw [ha]; exact hci
  have hob := (hR.2 a hn).2 hci'
  rw [ha] at hob
  obtain ⟨cell, q1, q2, q3, q4⟩ := hob
  have hap := va_apart (own := y.cls) hts hin' ty0 hty0 hnm hK.1 hcl
  obtain ⟨hSl, hfc, kC, hkC, hkind⟩ := hK.1.1 ci _ hcl
  obtain ⟨cf, kf, fi, fd, hi, hsl⟩ := hSl f hf
  have hlay := hts _ (hin' _ (u_in_lay hf))
  unfold u_lay at hlay
  rw [if_pos hfin] at hlay
  have hst := (u_facts hfc hkC (u_lays hts hin' hf) hi).1
  have hcf : m.cls = cf := by
    obtain ⟨_, _, c', _, _, _, -, -, hf', -, -, -, hown2, -⟩ := Cond.laysFinal_spec hlay
    have e1 : c' = cf := by have := hi.symm.trans hf'; simp at this; exact this.1.symm
    rw [hdecl] at hown2
    rw [← e1]; exact Option.some.inj (hown.symm.trans hown2)
  have h6 := u_fits hfc hkC hkind (Or.inr hlay) hi hpd hnar hfit
  refine W.putFinK hx hb hown (hts _ hlk) hi hst hcf (by rw [hin, hy]) (by rw [q2]; exact h6) q1 q3 (by rw [hsl]; exact k2_hasslot (q4 f hf)) rfl rfl hdg fun H' e1 e2 e3 => ?_
  rw [hsl] at e1 ⊢
  refine k p e R s m args below meth c H' _ cells slots Q lr X hl (hR.obj hn hci' ?_ e2 e3 hn' hv) (hS.put e2 e3 (Nat.le_add_right _ _)) hd hc hend
  rw [ha]
  exact ⟨_, e1, q2, q3, t_set q4 hap hf (tv G v)⟩
/-- what a written field is: 0 an int, 1 a boolean, 2 a final int, 3 a final reference -/
def FtI (ci N f : Nat) : Prop := ∀ (C : String) (T : u_T), kls[ci]? = some (C, T, N) → (T f).2.2.2 = false ∧ parseFieldDescriptor (T f).2.2.1 = some .int
def FtZ (ci N f : Nat) : Prop := ∀ (C : String) (T : u_T), kls[ci]? = some (C, T, N) → (T f).2.2.2 = false ∧ parseFieldDescriptor (T f).2.2.1 = some .boolean
def FtF (own : String) (ci N f : Nat) : Prop := ∀ (C : String) (T : u_T), kls[ci]? = some (C, T, N) → (T f).2.2.2 = true ∧ (T f).1 = own ∧ parseFieldDescriptor (T f).2.2.1 = some .int
def FtP (own : String) (ci N f : Nat) : Prop := ∀ (C : String) (T : u_T), kls[ci]? = some (C, T, N) → (T f).2.2.2 = true ∧ (T f).1 = own ∧ ((∃ c, parseFieldDescriptor (T f).2.2.1 = some (.object c)) ∨ ∃ t, parseFieldDescriptor (T f).2.2.1 = some (.array t))
theorem v_putI {idx ci N f a : Nat} {x : Int32} (hdg : decode cc pc = .ok (.putfield idx, 3)) (lk : LkF y.cls idx ci N f) (hty : FtI ci N f) (ha : lay a = (ci, N)) (hk : kdT ci f = 0) (hn : a < n) (k : V G y cc nL ret dep bc bs (pc + 3) ls st (n, u2 I a f x, L, P) Post) : V G y cc nL ret dep bc bs pc ls (.int x :: .ref a :: st) (n, I, L, P) Post :=
  V.put (μ' := (n, u2 I a f x, L, P)) hdg lk (fun C T h => ⟨(hty C T h).1, .int, (hty C T h).2, rfl, rfl⟩) ha hn rfl (sv_uI (by rw [kd, ha]; exact hk)) k
theorem v_putZ {idx ci N f a : Nat} {x : Int32} (hdg : decode cc pc = .ok (.putfield idx, 3)) (lk : LkF y.cls idx ci N f) (hty : FtZ ci N f) (ha : lay a = (ci, N)) (hk : kdT ci f = 0) (hn : a < n) (hx : x = 0 ∨ x = 1) (k : V G y cc nL ret dep bc bs (pc + 3) ls st (n, u2 I a f x, L, P) Post) : V G y cc nL ret dep bc bs pc ls (.int x :: .ref a :: st) (n, I, L, P) Post :=
  V.put (μ' := (n, u2 I a f x, L, P)) hdg lk (fun C T h => ⟨(hty C T h).1, .boolean, (hty C T h).2, show narrow .boolean (.int x) = .int x by rcases hx with rfl | rfl <;> decide, show fits .boolean (.int x) = true by rcases hx with rfl | rfl <;> decide⟩) ha hn rfl (sv_uI (by rw [kd, ha]; exact hk)) k
theorem v_putF {idx ci N f a : Nat} {x : Int32} (hdg : decode cc pc = .ok (.putfield idx, 3)) (lk : LkF y.cls idx ci N f) (hy : y.name = "<init>") (hty : FtF y.cls ci N f) (ha : lay a = (ci, N)) (hk : kdT ci f = 0) (hn : a < n) (k : V G y cc nL ret dep bc bs (pc + 3) ls st (n, u2 I a f x, L, P) Post) : V G y cc nL ret dep bc bs pc ls (.int x :: .ref a :: st) (n, I, L, P) Post :=
  V.putF (μ' := (n, u2 I a f x, L, P)) hdg lk hy (fun C T h => ⟨(hty C T h).1, (hty C T h).2.1, .int, (hty C T h).2.2, rfl, rfl⟩) ha hn rfl (sv_uI (by rw [kd, ha]; exact hk)) k
theorem v_putP {idx ci N f a q : Nat} (hdg : decode cc pc = .ok (.putfield idx, 3)) (lk : LkF y.cls idx ci N f) (hy : y.name = "<init>") (hty : FtP y.cls ci N f) (ha : lay a = (ci, N)) (hk : kdT ci f = 2) (hn : a < n) (k : V G y cc nL ret dep bc bs (pc + 3) ls st (n, I, L, u2 P a f (some q)) Post) : V G y cc nL ret dep bc bs pc ls (.ref q :: .ref a :: st) (n, I, L, P) Post :=
  V.putF (μ' := (n, I, L, u2 P a f (some q))) hdg lk hy (fun C T h => ⟨(hty C T h).1, (hty C T h).2.1, by
    rcases (hty C T h).2.2 with ⟨c, hc⟩ | ⟨t, ht⟩
    · exact ⟨_, hc, rfl, rfl⟩
    · exact ⟨_, ht, rfl, rfl⟩⟩) ha hn rfl (sv_uP (v := some q) (by rw [kd, ha]; exact hk)) k
/-! arrays -/
/-- an index: the int, the length, the place -/
def ix (i : Int32) (N j : Nat) : Prop := i = nI j ∧ j < N ∧ N < 2 ^ 31
theorem ix_in {i : Int32} {N j : Nat} (h : ix i N j) : ¬ (i < 0 ∨ N ≤ i.toNatClampNeg) ∧ i.toNatClampNeg = j := by
  obtain ⟨rfl, h1, h2⟩ := h
  exact ⟨nI_in h1 h2, nI_clamp (by omega)⟩
theorem ix_arr {i : Int32} {N j : Nat} {cA : ClassId} {f : Nat → Value} (h : ix i N j) : ¬ (i < 0 ∨ (arrV cA N f).slots.size ≤ i.toNatClampNeg) ∧ (arrV cA N f).slots[i.toNatClampNeg]? = some (f j) := by
  obtain ⟨h1, h2⟩ := ix_in h
  refine ⟨by rw [arrV_size]; exact h1, ?_⟩
  rw [h2, arrV_read _ _ h.2.1]
theorem v_iald {i : Int32} {a N j : Nat} (hdg : decode cc pc = .ok (.iaload, 1)) (ha : lay a = (10, N)) (hn : a < n) (hi : ix i N j) (k : V G y cc nL ret dep bc bs (pc + 1) ls (.int (I a j) :: st) (n, I, L, P) Post) : V G y cc nL ret dep bc bs pc ls (.int i :: .ref a :: st) (n, I, L, P) Post := by
  intro p e R s m args below meth c H locs cells slots Q lr X hl hR hS hd hc hend
  have hob := (hR.2 a hn).1 (by rw [ha]; exact Nat.le_of_ble_eq_true rfl)
  rw [ha] at hob
  obtain ⟨h1, h2⟩ := ix_arr (cA := gA G 10) (f := sv G (n, I, L, P) a) hi
  rw [sv_I (by rw [kd, ha]; rfl)] at h2
  exact W.iald X.1 X.2.1 hob ((X.2.2.2.2.2.2.1.2 0 _ rfl).1 _ _) (fun q => by cases q) h1 h2 rfl rfl hdg (k p e R s m args below meth c H locs cells slots Q lr X hl hR hS hd hc hend)
theorem v_zald {i : Int32} {a N j : Nat} (hdg : decode cc pc = .ok (.baload, 1)) (ha : lay a = (12, N)) (hn : a < n) (hi : ix i N j) (k : V G y cc nL ret dep bc bs (pc + 1) ls (.int (I a j) :: st) (n, I, L, P) Post) : V G y cc nL ret dep bc bs pc ls (.int i :: .ref a :: st) (n, I, L, P) Post := by
  intro p e R s m args below meth c H locs cells slots Q lr X hl hR hS hd hc hend
  have hob := (hR.2 a hn).1 (by rw [ha]; exact Nat.le_of_ble_eq_true rfl)
  rw [ha] at hob
  obtain ⟨h1, h2⟩ := ix_arr (cA := gA G 12) (f := sv G (n, I, L, P) a) hi
  rw [sv_I (by rw [kd, ha]; rfl)] at h2
  exact W.zald X.1 X.2.1 hob ((X.2.2.2.2.2.2.1.2 2 _ rfl).1 _ _) (fun q => by cases q) h1 h2 rfl rfl hdg (k p e R s m args below meth c H locs cells slots Q lr X hl hR hS hd hc hend)
theorem v_lald {i : Int32} {a N j : Nat} (hdg : decode cc pc = .ok (.laload, 1)) (ha : lay a = (11, N)) (hn : a < n) (hi : ix i N j) (k : V G y cc nL ret dep bc bs (pc + 1) ls (.long (L a j) :: st) (n, I, L, P) Post) : V G y cc nL ret dep bc bs pc ls (.int i :: .ref a :: st) (n, I, L, P) Post := by
  intro p e R s m args below meth c H locs cells slots Q lr X hl hR hS hd hc hend
  have hob := (hR.2 a hn).1 (by rw [ha]; exact Nat.le_of_ble_eq_true rfl)
  rw [ha] at hob
  obtain ⟨h1, h2⟩ := ix_arr (cA := gA G 11) (f := sv G (n, I, L, P) a) hi
  rw [sv_L (by rw [kd, ha]; rfl)] at h2
  exact W.lald X.1 X.2.1 hob ((X.2.2.2.2.2.2.1.2 1 _ rfl).1 _ _) (fun q => by cases q) h1 h2 rfl rfl hdg (k p e R s m args below meth c H locs cells slots Q lr X hl hR hS hd hc hend)
/-- Door[] (13), Shelf[] (14) -/
theorem V.aald {μ : Mem} {i : Int32} {a N j t : Nat} {v : Value} (ht : t = 13 ∨ t = 14) (hdg : decode cc pc = .ok (.aaload, 1)) (ha : lay a = (t, N)) (hn : a < μ.1) (hi : ix i N j) (hv : sv G μ a j = tv G v) (k : V G y cc nL ret dep bc bs (pc + 1) ls (v :: st) μ Post) : V G y cc nL ret dep bc bs pc ls (.int i :: .ref a :: st) μ Post := by
  intro p e R s m args below meth c H locs cells slots Q lr X hl hR hS hd hc hend
  have hob := (hR.2 a hn).1 (by rw [ha]; rcases ht with rfl | rfl <;> exact Nat.le_of_ble_eq_true rfl)
  rw [ha] at hob
  obtain ⟨h1, h2⟩ := ix_arr (cA := gA G t) (f := sv G μ a) hi
  rw [hv] at h2
  rcases ht with rfl | rfl
  · exact W.aald X.1 X.2.1 hob ((X.2.2.2.2.2.2.1.2 3 _ rfl).1 _ _) rfl (fun q => by cases q) h1 h2 rfl rfl hdg (k p e R s m args below meth c H locs cells slots Q lr X hl hR hS hd hc hend)
  · exact W.aald X.1 X.2.1 hob ((X.2.2.2.2.2.2.1.2 4 _ rfl).1 _ _) rfl (fun q => by cases q) h1 h2 rfl rfl hdg (k p e R s m args below meth c H locs cells slots Q lr X hl hR hS hd hc hend)
theorem v_aald13 {i : Int32} {a N j q : Nat} (hdg : decode cc pc = .ok (.aaload, 1)) (ha : lay a = (13, N)) (hn : a < n) (hi : ix i N j) (hp : P a j = some q) (k : V G y cc nL ret dep bc bs (pc + 1) ls (.ref q :: st) (n, I, L, P) Post) : V G y cc nL ret dep bc bs pc ls (.int i :: .ref a :: st) (n, I, L, P) Post :=
  V.aald (Or.inl rfl) hdg ha hn hi (sv_P (by rw [kd, ha]; rfl) hp) k
theorem v_aald14 {i : Int32} {a N j q : Nat} (hdg : decode cc pc = .ok (.aaload, 1)) (ha : lay a = (14, N)) (hn : a < n) (hi : ix i N j) (hp : P a j = some q) (k : V G y cc nL ret dep bc bs (pc + 1) ls (.ref q :: st) (n, I, L, P) Post) : V G y cc nL ret dep bc bs pc ls (.int i :: .ref a :: st) (n, I, L, P) Post :=
  V.aald (Or.inr rfl) hdg ha hn hi (sv_P (by rw [kd, ha]; rfl) hp) k
theorem v_iast {i x : Int32} {a N j : Nat} (hdg : decode cc pc = .ok (.iastore, 1)) (ha : lay a = (10, N)) (hn : a < n) (hi : ix i N j) (k : V G y cc nL ret dep bc bs (pc + 1) ls st (n, u2 I a j x, L, P) Post) : V G y cc nL ret dep bc bs pc ls (.int x :: .int i :: .ref a :: st) (n, I, L, P) Post := by
  intro p e R s m args below meth c H locs cells slots Q lr X hl hR hS hd hc hend
  have ht : 10 ≤ (lay a).1 := by rw [ha]; exact Nat.le_of_ble_eq_true rfl
  have hob := (hR.2 a hn).1 ht
  have hob' := hob
  rw [ha] at hob'
  obtain ⟨h1, -⟩ := ix_arr (cA := gA G 10) (f := sv G (n, I, L, P) a) hi
  refine W.iast X.1 X.2.1 hob' ((X.2.2.2.2.2.2.1.2 0 _ rfl).1 _ _) (fun q => by cases q) h1 rfl rfl hdg fun H' e1 e2 e3 => ?_
  rw [(ix_in hi).2] at e1 ⊢
  exact k p e R s m args below meth c H' _ cells slots Q lr X hl (hR.arr hn ht (by rw [ha]; exact e1) e2 e3 rfl (sv_uI (by rw [kd, ha]; rfl))) (hS.put e2 e3 (Nat.le_add_right _ _)) hd hc hend
theorem v_zast {i x : Int32} {a N j : Nat} (hdg : decode cc pc = .ok (.bastore, 1)) (ha : lay a = (12, N)) (hn : a < n) (hi : ix i N j) (hx : x = 0 ∨ x = 1) (k : V G y cc nL ret dep bc bs (pc + 1) ls st (n, u2 I a j x, L, P) Post) : V G y cc nL ret dep bc bs pc ls (.int x :: .int i :: .ref a :: st) (n, I, L, P) Post := by
  intro p e R s m args below meth c H locs cells slots Q lr X hl hR hS hd hc hend
  have ht : 10 ≤ (lay a).1 := by rw [ha]; exact Nat.le_of_ble_eq_true rfl
  have hob := (hR.2 a hn).1 ht
  have hob' := hob
  rw [ha] at hob'
  obtain ⟨h1, -⟩ := ix_arr (cA := gA G 12) (f := sv G (n, I, L, P) a) hi
  refine W.zast X.1 X.2.1 hob' ((X.2.2.2.2.2.2.1.2 2 _ rfl).1 _ _) (fun q => by cases q) h1 rfl rfl hdg fun H' e1 e2 e3 => ?_
  rw [(ix_in hi).2, show narrow .boolean (.int x) = .int x by rcases hx with rfl | rfl <;> decide] at e1
  rw [(ix_in hi).2]
  exact k p e R s m args below meth c H' _ cells slots Q lr X hl (hR.arr hn ht (by rw [ha]; exact e1) e2 e3 rfl (sv_uI (by rw [kd, ha]; rfl))) (hS.put e2 e3 (Nat.le_add_right _ _)) hd hc hend
theorem v_last {i : Int32} {x : Int64} {a N j : Nat} (hdg : decode cc pc = .ok (.lastore, 1)) (ha : lay a = (11, N)) (hn : a < n) (hi : ix i N j) (k : V G y cc nL ret dep bc bs (pc + 1) ls st (n, I, u2 L a j x, P) Post) : V G y cc nL ret dep bc bs pc ls (.long x :: .int i :: .ref a :: st) (n, I, L, P) Post := by
  intro p e R s m args below meth c H locs cells slots Q lr X hl hR hS hd hc hend
  have ht : 10 ≤ (lay a).1 := by rw [ha]; exact Nat.le_of_ble_eq_true rfl
  have hob := (hR.2 a hn).1 ht
  have hob' := hob
  rw [ha] at hob'
  obtain ⟨h1, -⟩ := ix_arr (cA := gA G 11) (f := sv G (n, I, L, P) a) hi
  refine W.last X.1 X.2.1 hob' ((X.2.2.2.2.2.2.1.2 1 _ rfl).1 _ _) (fun q => by cases q) h1 rfl rfl hdg fun H' e1 e2 e3 => ?_
  rw [(ix_in hi).2] at e1 ⊢
  exact k p e R s m args below meth c H' _ cells slots Q lr X hl (hR.arr hn ht (by rw [ha]; exact e1) e2 e3 rfl (sv_uL (by rw [kd, ha]; rfl))) (hS.put e2 e3 (Nat.le_add_right _ _)) hd hc hend
/-- an object into Door[] (t 13, class 1), Shelf[] (t 14, class 4) -/
theorem V.aast {i : Int32} {a N j t q ci nf t0 : Nat} {C : String} {T : u_T} (hd0 : (tyl G)[t0]? = some (gA G t, .object C)) (hcl : kls[ci]? = some (C, T, nf)) (hci : ci < 10) (ht10 : 10 ≤ t) (hkd : kdT t j = 2) (hdg : decode cc pc = .ok (.aastore, 1)) (ha : lay a = (t, N)) (hn : a < n) (hq : lay q = (ci, nf)) (hqn : q < n) (hi : ix i N j) (k : V G y cc nL ret dep bc bs (pc + 1) ls st (n, I, L, u2 P a j (some q)) Post) : V G y cc nL ret dep bc bs pc ls (.ref q :: .int i :: .ref a :: st) (n, I, L, P) Post := by
  intro p e R s m args below meth c H locs cells slots Q lr X hl hR hS hd hc hend
  have ht : 10 ≤ (lay a).1 := by rw [ha]; exact ht10
  have hob := (hR.2 a hn).1 ht
  have hob' := hob
  rw [ha] at hob'
  have hoq := (hR.2 q hqn).2 (by rw [hq]; exact hci)
  rw [hq] at hoq
  obtain ⟨cell, g1, g2, g3, g4⟩ := hoq
  have hK := X.2.2.2.2.2.2.1
  have hcls := (hK.1 ci _ hcl).2
  obtain ⟨kA, comp, k1, k2, k3, -⟩ := (hK.2 t0 _ hd0).2
  have hcomp : comp = (gD G).1 ci := Option.some.inj (k3.symm.trans hcls.1)
  subst hcomp
  obtain ⟨kC, hkC, -⟩ := hcls.2
  obtain ⟨h1, h2⟩ := ix_in hi
  have h0 : ¬ i < 0 := fun z => h1 (Or.inl z)
  have hlt : i.toNatClampNeg < N := Nat.not_le.mp fun z => h1 (Or.inr z)
  refine W.aast X.1 X.2.1 hob' (fun q h => by cases h) (fun h => by cases h) k1 k2 rfl hkC ⟨h0, by rw [arrV_size]; exact hlt⟩ g1 (fun q h => by rw [g3] at h; cases h) (by rw [g2]; exact hkC) (by rw [g2]; exact va_assign hcls) rfl rfl hdg fun H' e1 e2 e3 => ?_
  rw [h2] at e1 ⊢
  exact k p e R s m args below meth c H' _ cells slots Q lr X hl (hR.arr hn ht (by rw [ha]; exact e1) e2 e3 rfl (sv_uP (v := some q) (by rw [kd, ha]; exact hkd))) (hS.put e2 e3 (Nat.le_add_right _ _)) hd hc hend
theorem v_alen {a N t : Nat} {v : Int32} {μ : Mem} (ht : t = 10 ∨ t = 11) (hdg : decode cc pc = .ok (.arraylength, 1)) (ha : lay a = (t, N)) (hn : a < μ.1) (hv : nI N = v) (k : V G y cc nL ret dep bc bs (pc + 1) ls (.int v :: st) μ Post) : V G y cc nL ret dep bc bs pc ls (.ref a :: st) μ Post := by
  intro p e R s m args below meth c H locs cells slots Q lr X hl hR hS hd hc hend
  have hob := (hR.2 a hn).1 (by rw [ha]; rcases ht with rfl | rfl <;> exact Nat.le_of_ble_eq_true rfl)
  rw [ha] at hob
  rcases ht with rfl | rfl
  · exact W.alen X.1 X.2.1 hob ((X.2.2.2.2.2.2.1.2 0 _ rfl).1 _ _) (by rw [arrV_size]; exact hv) rfl rfl hdg (k p e R s m args below meth c H locs cells slots Q lr X hl hR hS hd hc hend)
  · exact W.alen X.1 X.2.1 hob ((X.2.2.2.2.2.2.1.2 1 _ rfl).1 _ _) (by rw [arrV_size]; exact hv) rfl rfl hdg (k p e R s m args below meth c H locs cells slots Q lr X hl hR hS hd hc hend)
end VM
