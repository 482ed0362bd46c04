/-! ===== the text "kpc", which lies outside; String.charAt ===== -/
section STR
variable {G : GG} {y : MethodName} {cc : ByteArray} {nL : Nat} {ret : Option FieldType} {dep bc bs pc : Nat} {ls st : List Value} {μ : Mem} {Post : Option Value → Mem → Prop}
theorem KK.ss {G : GG} {U : State} (h : KK G U) : SS G U := h.2.2.2.2
theorem v_i2c {a v : Int32} (hdg : decode cc pc = .ok (.i2c, 1)) (hv : a.toUInt32.toUInt16.toUInt32.toInt32 = v) (k : V G y cc nL ret dep bc bs (pc + 1) ls (.int v :: st) μ Post) : V G y cc nL ret dep bc bs pc ls (.int a :: st) μ Post := V.go (fun _ _ _ _ _ _ _ _ _ _ _ _ _ _ _ X hl kk => by
  refine lv_i2c X.1 X.2.1 hdg ?_ kk
  rw [← hv]
  first | rfl | exact lg_i2c_nf a) k
theorem v_ald0x {w : UInt32} {t : List Value} (hw : w = 2 ∨ w = 3) (hdg : decode cc pc = .ok (.aload_n 0, 1)) (k : V G y cc nL ret dep bc bs (pc + 1) (.float w :: t) (.float w :: st) μ Post) : V G y cc nL ret dep bc bs pc (.float w :: t) st μ Post := V.go (fun p e R s m args below meth c H locs cells slots Q lr X hl kk => by
  have hss := X.2.2.2.2.2.2.ss
  have hr : ∃ a, gx G w = .ref a := by
    rcases hw with rfl | rfl
    · exact ⟨_, hss.2.2.2.2.1⟩
    · exact ⟨_, hss.2.2.2.2.2⟩
  obtain ⟨a, ha⟩ := hr
  have h := hl.at (i := 0) (v := .float w) rfl (by rcases hw with rfl | rfl <;> rfl)
  have e1 : tv G (.float w) = .ref a := ha
  rw [e1] at h
  rw [List.map_cons, e1] at kk
  exact lv_aload_n X.1 X.2.1 hdg rfl h kk) k
theorem V.full {pc' : Nat} {st' : List Value} (h : ∀ (p : Program) (e : Env) (R : Room) (s : State) (m : MethodId) (args : Array Value) (below : List Frame) (meth : Method) (c : Code) (H : Heap) (locs : List Loc) (cells slots : Nat) (Q : State → Prop) (lr : Array Slot),
    Cx G y cc nL p s m args meth c → va_S (AA G) s.heap H locs → W p (gl G) e R s m args below meth c H locs cells slots Q (F0 m pc' lr (st'.map (tv G))) → W p (gl G) e R s m args below meth c H locs cells slots Q (F0 m pc lr (st.map (tv G))))
    (k : V G y cc nL ret dep bc bs pc' ls st' μ Post) : V G y cc nL ret dep bc bs pc ls st μ Post := by
  intro p e R s m args below meth c H locs cells slots Q lr X hl hR hS hd hc hend
  exact h p e R s m args below meth c H locs cells slots Q lr X hS (k p e R s m args below meth c H locs cells slots Q lr X hl hR hS hd hc hend)
theorem v_ldcK {idx : Nat} (hy : y.cls = "CensusNight$Law") (hi : idx = 41) (hdg : decode cc pc = .ok (.ldc idx, 2)) (k : V G y cc nL ret dep bc bs (pc + 2) ls (.float 2 :: st) μ Post) : V G y cc nL ret dep bc bs pc ls st μ Post := V.full (fun p e R s m args below meth c H locs cells slots Q lr X hS kk => by
  have hss := X.2.2.2.2.2.2.ss
  have e1 : tv G (.float 2) = .ref (gs G) := hss.2.2.2.2.1
  rw [List.map_cons, e1] at kk
  subst hi
  exact va_ldcS X.1 X.2.1 (by have := X.2.2.2.1; rw [hy] at this; exact this) hss.2.1 hdg kk) k
theorem v_gsC (hl : Cond.fieldLink y.cls 38 "java/lang/String" "COMPACT_STRINGS" "Z" ∈ lw0) (hdg : decode cc pc = .ok (.getstatic 38, 3)) (k : V G y cc nL ret dep bc bs (pc + 3) ls (.int 1 :: st) μ Post) : V G y cc nL ret dep bc bs pc ls st μ Post := V.full (fun p e R s m args below meth c H locs cells slots Q lr X hS kk =>
  va_gets X.1 X.2.1 X.2.2.2.2.2.2.ss.2.2.1 hS X.2.2.2.1 (X.2.2.2.2.1 _ hl) (fun _ h => h) hdg kk) k
theorem v_gsF (hl : Cond.fieldLink y.cls 1053 "jdk/internal/util/Preconditions" "SIOOBE_FORMATTER" "Ljava/util/function/BiFunction;" ∈ lw0) (hdg : decode cc pc = .ok (.getstatic 1053, 3)) (k : V G y cc nL ret dep bc bs (pc + 3) ls (.float 4 :: st) μ Post) : V G y cc nL ret dep bc bs pc ls st μ Post := V.full (fun p e R s m args below meth c H locs cells slots Q lr X hS kk =>
  va_gets X.1 X.2.1 X.2.2.2.2.2.2.ss.2.2.2.1 hS X.2.2.2.1 (X.2.2.2.2.1 _ hl) (fun _ h => h) hdg kk) k
theorem v_gfC (hl : Cond.fieldLink y.cls 15 "java/lang/String" "coder" "B" ∈ lw0) (hdg : decode cc pc = .ok (.getfield 15, 3)) (k : V G y cc nL ret dep bc bs (pc + 3) ls (.int 0 :: st) μ Post) : V G y cc nL ret dep bc bs pc ls (.float 2 :: st) μ Post := V.full (fun p e R s m args below meth c H locs cells slots Q lr X hS kk => by
  have hss := X.2.2.2.2.2.2.ss
  have e1 : tv G (.float 2) = .ref (gs G) := hss.2.2.2.2.1
  rw [List.map_cons, e1]
  exact vk_getf X.1 X.2.1 (hss.1.1 0 (by decide)).2.1 hS X.2.2.2.1 (X.2.2.2.2.1 _ hl) (fun _ h => h) hdg kk) k
theorem v_gfV (hl : Cond.fieldLink y.cls 9 "java/lang/String" "value" "[B" ∈ lw0) (hdg : decode cc pc = .ok (.getfield 9, 3)) (k : V G y cc nL ret dep bc bs (pc + 3) ls (.float 3 :: st) μ Post) : V G y cc nL ret dep bc bs pc ls (.float 2 :: st) μ Post := V.full (fun p e R s m args below meth c H locs cells slots Q lr X hS kk => by
  have hss := X.2.2.2.2.2.2.ss
  have e1 : tv G (.float 2) = .ref (gs G) := hss.2.2.2.2.1
  have e2 : tv G (.float 3) = .ref (gv G) := hss.2.2.2.2.2
  rw [List.map_cons, e2] at kk
  rw [List.map_cons, e1]
  exact vk_getf X.1 X.2.1 (hss.1.1 0 (by decide)).2.2.1 hS X.2.2.2.1 (X.2.2.2.2.1 _ hl) (fun _ h => h) hdg kk) k
theorem v_blen (hdg : decode cc pc = .ok (.arraylength, 1)) (k : V G y cc nL ret dep bc bs (pc + 1) ls (.int (nI 3) :: st) μ Post) : V G y cc nL ret dep bc bs pc ls (.float 3 :: st) μ Post := V.full (fun p e R s m args below meth c H locs cells slots Q lr X hS kk => by
  have hss := X.2.2.2.2.2.2.ss
  have e2 : tv G (.float 3) = .ref (gv G) := hss.2.2.2.2.2
  rw [List.map_cons, e2]
  exact va_tlen X.1 X.2.1 (hss.1.1 0 (by decide)).2.2.2 hS rfl hdg kk) k
def kpc (i : Nat) : Int32 := ([107, 112, 99] : List Int32).getD i 0
theorem v_bald {i : Nat} (hi : i < 3) (hdg : decode cc pc = .ok (.baload, 1)) (k : V G y cc nL ret dep bc bs (pc + 1) ls (.int (kpc i) :: st) μ Post) : V G y cc nL ret dep bc bs pc ls (.int (nI i) :: .float 3 :: st) μ Post := V.full (fun p e R s m args below meth c H locs cells slots Q lr X hS kk => by
  have hss := X.2.2.2.2.2.2.ss
  have e2 : tv G (.float 3) = .ref (gv G) := hss.2.2.2.2.2
  have e3 : tv G (.int (nI i)) = .int (nI i) := rfl
  rw [List.map_cons, List.map_cons, e2, e3]
  exact va_tb X.1 X.2.1 (hss.1.1 0 (by decide)).2.2.2 hS (vp_in_nI hi (by decide)) (by rw [nI_clamp (by omega)]; rfl) hdg kk) k
/-- a call on the text -/
theorem V.invX {y' : MethodName} {cc' : ByteArray} {nL' dep' idx : Nat} {ret' : Option FieldType} {Post' : Option Value → Mem → Prop} {av stk : List Value} (hC : Cn G y' cc' nL' ret' dep' 0 0 (.float 2 :: av) μ Post') (lk : MthN y' cc' nL' ret' av.length ∧ Cond.methodLink y.cls idx y' ∈ lw0 ∧ Cond.instanceMethod y' ∈ lw0 ∧ Cond.selects y'.cls y' y' ∈ lw0) (hcl : y'.cls = "java/lang/String") (hdg : decode cc pc = .ok (.invokevirtual idx, 3)) (hd1 : dep' + 1 ≤ dep) (hst : csum st ≤ 8) (hs : stk = av.reverse ++ .float 2 :: st)
    (k : ∀ r μ', Post' r μ' → V G y cc nL ret dep bc bs (pc + 3) ls (r.toList ++ st) μ' Post) : V G y cc nL ret dep bc bs pc ls stk μ Post := by
  intro p e R s m args below meth c H locs cells slots Q lr X hl hR hS hd hc hend
  obtain ⟨hx, hb, hml, hown, hts, hin, hK⟩ := id X
  subst hs
  have hss := hK.ss
  have e1 : tv G (.float 2) = .ref (gs G) := hss.2.2.2.2.1
  have hroom := csum_le hK st
  obtain ⟨lk1, lk2, lk3, lk4⟩ := lk
  obtain ⟨cell, q1, q2, q3⟩ := vk_recv (i := 0) hss.1 (by decide) hS
  have run := va_runV (l := gl G) (e := e) (below := below) (meth := meth) (locs := locs) (cells := cells) (slots := slots) (g := F0 m pc lr ((av.reverse ++ .float 2 :: st).map (tv G))) (As := av.map (tv G)) (rest := st.map (tv G)) (b := gs G) (C := y'.cls) (H := H) ⟨hx, hb, hml, hown, hts⟩ hC ⟨callBN (R := R) hts lk1 lk2 hd1 hd, hts _ lk3, hts _ lk4⟩ ⟨blindN, ⟨cell, q1, q2, by rw [hcl]; exact q3⟩, fun U hU hW => ⟨by rw [List.map_cons, e1], by rw [hU]; exact hR, hK.moved hS hU hW⟩⟩ rfl (by simp) hl.2.1 (by simp [e1]) (lv_room (by omega)) hdg ⟨by omega, by omega⟩
  exact V.after (bc := bc) (bs := bs) run k X hl hS hd hc hend
end STR
theorem fj_38 : Cond.fieldLink RJ0 38 "java/lang/String" "COMPACT_STRINGS" "Z" ∈ lw0 := lw0_in (n := 486) (by decide +kernel) rfl
theorem fj_1053 : Cond.fieldLink RJ0 1053 "jdk/internal/util/Preconditions" "SIOOBE_FORMATTER" "Ljava/util/function/BiFunction;" ∈ lw0 := lw0_in (n := 494) (by decide +kernel) rfl
theorem fj_15 : Cond.fieldLink RJ0 15 "java/lang/String" "coder" "B" ∈ lw0 := lw0_in (n := 1292) (by decide +kernel) rfl
theorem fj_9 : Cond.fieldLink RJ0 9 "java/lang/String" "value" "[B" ∈ lw0 := lw0_in (n := 1293) (by decide +kernel) rfl
theorem lx_isLatin1 : MthN yJ0_isLatin1_aae02 cJ0_isLatin1_aae02 1 (some .boolean) 0 ∧ Cond.methodLink RJ0 492 yJ0_isLatin1_aae02 ∈ lw0 ∧ Cond.instanceMethod yJ0_isLatin1_aae02 ∈ lw0 ∧ Cond.selects RJ0 yJ0_isLatin1_aae02 yJ0_isLatin1_aae02 ∈ lw0 := ⟨mt_J0_isLatin1_aae02, lw0_in (n := 482) (by decide +kernel) rfl, lw0_in (n := 483) (by decide +kernel) rfl, lw0_in (n := 484) (by decide +kernel) rfl⟩
theorem lx_charAt : MthN yJ0_charAt_5068e cJ0_charAt_5068e 2 (some .char) 1 ∧ Cond.methodLink RX3 43 yJ0_charAt_5068e ∈ lw0 ∧ Cond.instanceMethod yJ0_charAt_5068e ∈ lw0 ∧ Cond.selects RJ0 yJ0_charAt_5068e yJ0_charAt_5068e ∈ lw0 := ⟨mt_J0_charAt_5068e, lw0_in (n := 478) (by decide +kernel) rfl, lw0_in (n := 479) (by decide +kernel) rfl, lw0_in (n := 480) (by decide +kernel) rfl⟩
theorem c_J0_isLatin1 {G : GG} {μ : Mem} : Cn G yJ0_isLatin1_aae02 cJ0_isLatin1_aae02 1 (some .boolean) 0 0 0 [.float 2] μ (Is (some (.int (nI 1))) μ) := by
  refine Cn.of' (by decide) (Nat.le_of_ble_eq_true rfl) rfl ?_
  refine v_gsC fj_38 dJ0_isLatin1_aae02_0 ?_
  refine v_if_eq (tgt := 17) dJ0_isLatin1_aae02_3 (by decide) (fun h => absurd h (by decide)) (fun _ => ?_)
  refine v_ald0x (Or.inl rfl) dJ0_isLatin1_aae02_6 ?_
  refine v_gfC fj_15 dJ0_isLatin1_aae02_7 ?_
  refine v_if_ne (tgt := 17) dJ0_isLatin1_aae02_10 (by decide) (fun h => absurd rfl h) (fun _ => ?_)
  refine v_icN (n := 1) dJ0_isLatin1_aae02_13 (by decide) ?_
  refine v_goto (tgt := 18) dJ0_isLatin1_aae02_14 (by decide) ?_
  exact v_retI dJ0_isLatin1_aae02_18 (Or.inr rfl) ⟨rfl, rfl⟩
theorem c_J3_checkIndex {G : GG} {μ : Mem} {i : Nat} (hi : i < 3) : Cn G yJ3_checkIndex_8e157 cJ3_checkIndex_8e157 3 (some .int) 0 0 0 [.int (nI i), .int (nI 3), .float 4] μ (Is (some (.int (nI i))) μ) := by
  refine Cn.of' (by decide) (Nat.le_of_ble_eq_true rfl) rfl ?_
  refine v_ild0 dJ3_checkIndex_8e157_0 ?_
  refine v_if_lt (tgt := 9) dJ3_checkIndex_8e157_1 (by decide) (fun h => absurd h (nI_pos (by omega))) (fun _ => ?_)
  refine v_ild0 dJ3_checkIndex_8e157_4 ?_
  refine v_ild1 dJ3_checkIndex_8e157_5 ?_
  refine v_icmp_lt (tgt := 16) dJ3_checkIndex_8e157_6 (by decide) (fun _ => ?_) (fun h => absurd (nI_lt hi (by decide)) h)
  refine v_ild0 dJ3_checkIndex_8e157_16 ?_
  exact v_retI dJ3_checkIndex_8e157_17 trivial ⟨rfl, rfl⟩
theorem c_J0_checkIndex {G : GG} {μ : Mem} {i : Nat} (hi : i < 3) : Cn G yJ0_checkIndex_df160 cJ0_checkIndex_df160 2 none 1 0 0 [.int (nI i), .int (nI 3)] μ (Is none μ) := by
  refine Cn.of' (by decide) (Nat.le_of_ble_eq_true rfl) rfl ?_
  refine v_ild0 dJ0_checkIndex_df160_0 ?_
  refine v_ild1 dJ0_checkIndex_df160_1 ?_
  refine v_gsF fj_1053 dJ0_checkIndex_df160_2 ?_
  refine v_S3 (c_J3_checkIndex hi) lk_J0_1059 dJ0_checkIndex_df160_5 (by decide) (Nat.le_of_ble_eq_true rfl) ?_
  refine v_popI dJ0_checkIndex_df160_8 ?_
  exact v_retV dJ0_checkIndex_df160_9 trivial ⟨rfl, rfl⟩
theorem kpc_c : ∀ i, i < 3 → (kpc i &&& nI 255).toUInt32.toUInt16.toUInt32.toInt32 = kpc i ∧ narrow .char (.int (kpc i)) = .int (kpc i) := by decide
theorem c_J1_charAt {G : GG} {μ : Mem} {i : Nat} (hi : i < 3) : Cn G yJ1_charAt_3b067 cJ1_charAt_3b067 2 (some .char) 2 0 0 [.float 3, .int (nI i)] μ (Is (some (.int (kpc i))) μ) := by
  refine Cn.of' (by decide) (Nat.le_of_ble_eq_true rfl) rfl ?_
  refine v_ild1 dJ1_charAt_3b067_0 ?_
  refine v_ald0x (Or.inr rfl) dJ1_charAt_3b067_1 ?_
  refine v_blen dJ1_charAt_3b067_2 ?_
  refine v_S2n (c_J0_checkIndex hi) lk_J1_9 dJ1_charAt_3b067_3 (by decide) (Nat.le_of_ble_eq_true rfl) ?_
  refine v_ald0x (Or.inr rfl) dJ1_charAt_3b067_6 ?_
  refine v_ild1 dJ1_charAt_3b067_7 ?_
  refine v_bald hi dJ1_charAt_3b067_8 ?_
  refine v_sipush (v := nI 255) dJ1_charAt_3b067_9 (by decide) ?_
  refine v_iand dJ1_charAt_3b067_12 ?_
  refine v_i2c dJ1_charAt_3b067_13 (kpc_c i hi).1 ?_
  exact v_retI dJ1_charAt_3b067_14 (kpc_c i hi).2 ⟨rfl, rfl⟩
theorem c_J0_charAt {G : GG} {μ : Mem} {i : Nat} (hi : i < 3) : Cn G yJ0_charAt_5068e cJ0_charAt_5068e 2 (some .char) 3 0 0 [.float 2, .int (nI i)] μ (Is (some (.int (kpc i))) μ) := by
  refine Cn.of' (by decide) (Nat.le_of_ble_eq_true rfl) rfl ?_
  refine v_ald0x (Or.inl rfl) dJ0_charAt_5068e_0 ?_
  refine V.invX (av := []) c_J0_isLatin1 lx_isLatin1 rfl dJ0_charAt_5068e_1 (by decide) (Nat.le_of_ble_eq_true rfl) rfl (fun r μ₁ h => ?_)
  obtain ⟨rfl, rfl⟩ := h
  refine v_if_eq (tgt := 16) dJ0_charAt_5068e_4 (by decide) (fun h => absurd h (by decide)) (fun _ => ?_)
  refine v_ald0x (Or.inl rfl) dJ0_charAt_5068e_7 ?_
  refine v_gfV fj_9 dJ0_charAt_5068e_8 ?_
  refine v_ild1 dJ0_charAt_5068e_11 ?_
  refine v_S2 (c_J1_charAt hi) lk_J0_495 dJ0_charAt_5068e_12 (by decide) (Nat.le_of_ble_eq_true rfl) ?_
  exact v_retI dJ0_charAt_5068e_15 (kpc_c i hi).2 ⟨rfl, rfl⟩
