/-- an answer and the memory behind it -/
def Is (r : Option Value) (μ : Mem) : Option Value → Mem → Prop := fun r' μ' => r' = r ∧ μ' = μ
def bI (c : Prop) [Decidable c] : Int32 := if c then nI 1 else nI 0
theorem bI_t {c : Prop} [Decidable c] (h : c) : bI c = nI 1 := if_pos h
theorem bI_f {c : Prop} [Decidable c] (h : ¬ c) : bI c = nI 0 := if_neg h
theorem bI_01 {c : Prop} [Decidable c] : bI c = 0 ∨ bI c = 1 := by
  by_cases h : c
  · exact Or.inr (bI_t h)
  · exact Or.inl (bI_f h)
section FA
variable {G : GG} {y : MethodName} {cc : ByteArray} {nL : Nat} {ret : Option FieldType} {dep bc bs pc : Nat} {ls st : List Value} {Post : Option Value → Mem → Prop} {μ μ' : Mem}
variable {y' : MethodName} {cc' : ByteArray} {nL' dep' idx : Nat} {ret' : Option FieldType}
theorem Cn.of' {av ls : List Value} (hy : plainName y.cls = true) (hln : (entL av).length ≤ nL) (hls : ent nL av = ls) (hV : V G y cc nL ret dep bc bs 0 ls [] μ Post) : Cn G y cc nL ret dep bc bs av μ Post := Cn.of hy hln hls hV
theorem Cn.mono {av : List Value} {Post' : Option Value → Mem → Prop} (h : Cn G y cc nL ret dep bc bs av μ Post) (hq : ∀ r μ', Post r μ' → Post' r μ') : Cn G y cc nL ret dep bc bs av μ Post' := by
  intro p e ha hc hk s m args below hf happ hpre hK
  obtain ⟨k, oo, h1, h2, h3, ⟨⟨r, μ', e1, hp, hR⟩, hF⟩, hL⟩ := h p e ha hc hk s m args below hf happ hpre hK
  exact ⟨k, oo, h1, h2, h3, ⟨⟨r, μ', e1, hq r μ' hp, hR⟩, hF⟩, hL⟩
theorem v_retI {x : Int32} (hdg : decode cc pc = .ok (.ireturn, 1)) (hr : RetOK ret (some (.int x))) (hp : Post (some (.int x)) μ) : V G y cc nL ret dep bc bs pc ls [.int x] μ Post := V.fin (r := some (.int x)) hp hr hdg
theorem v_retL {x : Int64} (hdg : decode cc pc = .ok (.lreturn, 1)) (hr : RetOK ret (some (.long x))) (hp : Post (some (.long x)) μ) : V G y cc nL ret dep bc bs pc ls [.long x] μ Post := V.fin (r := some (.long x)) hp hr hdg
theorem v_retA {x : Nat} (hdg : decode cc pc = .ok (.areturn, 1)) (hr : RetOK ret (some (.ref x))) (hp : Post (some (.ref x)) μ) : V G y cc nL ret dep bc bs pc ls [.ref x] μ Post := V.fin (r := some (.ref x)) hp hr hdg
theorem v_retN (hdg : decode cc pc = .ok (.areturn, 1)) (hr : RetOK ret (some .null)) (hp : Post (some .null) μ) : V G y cc nL ret dep bc bs pc ls [.null] μ Post := V.fin (r := some .null) hp hr hdg
theorem v_retV (hdg : decode cc pc = .ok (.return_, 1)) (hr : RetOK ret none) (hp : Post none μ) : V G y cc nL ret dep bc bs pc ls [] μ Post := V.fin (r := none) hp hr hdg
/-- branches over a boolean -/
theorem v_ifeq_b {c : Prop} [Decidable c] {off : Int} {tgt : Nat} (hdg : decode cc pc = .ok (.ifCond .eq off, 3)) (ht : (pc : Int) + off = (tgt : Int)) (k1 : ¬ c → V G y cc nL ret dep bc bs tgt ls st μ Post) (k2 : c → V G y cc nL ret dep bc bs (pc + 3) ls st μ Post) : V G y cc nL ret dep bc bs pc ls (.int (bI c) :: st) μ Post := by
  refine v_if_eq hdg ht (fun h => k1 fun q => ?_) (fun h => k2 (Classical.byContradiction fun q => h (bI_f q)))
  rw [bI_t q] at h
  exact absurd h (by decide)
theorem v_ifne_b {c : Prop} [Decidable c] {off : Int} {tgt : Nat} (hdg : decode cc pc = .ok (.ifCond .ne off, 3)) (ht : (pc : Int) + off = (tgt : Int)) (k1 : c → V G y cc nL ret dep bc bs tgt ls st μ Post) (k2 : ¬ c → V G y cc nL ret dep bc bs (pc + 3) ls st μ Post) : V G y cc nL ret dep bc bs pc ls (.int (bI c) :: st) μ Post := by
  refine v_if_ne hdg ht (fun h => k1 (Classical.byContradiction fun q => h (bI_f q))) (fun h => k2 fun q => ?_)
  rw [bI_t q] at h
  exact absurd h (by decide)
theorem v_S0 {v : Value} (hC : Cn G y' cc' nL' ret' dep' 0 0 [] μ (Is (some v) μ')) (lk : LkS y.cls idx y' cc' nL' ret' 0) (hdg : decode cc pc = .ok (.invokestatic idx, 3)) (hd1 : dep' + 1 ≤ dep) (hst : csum st ≤ 8) (k : V G y cc nL ret dep bc bs (pc + 3) ls (v :: st) μ' Post) : V G y cc nL ret dep bc bs pc ls (st) μ Post := V.invS (bc := bc) (bs := bs) (bc' := 0) (bs' := 0) hC lk hdg hd1 hst rfl (fun r μ₁ h => by obtain ⟨rfl, rfl⟩ := h; exact k)
theorem v_V0 {v : Value} {o ci N : Nat} (hC : Cn G y' cc' nL' ret' dep' 0 0 (.ref o :: []) μ (Is (some v) μ')) (lk : LkV y.cls idx y' cc' nL' ret' 0 ci) (hdg : decode cc pc = .ok (.invokevirtual idx, 3)) (hd1 : dep' + 1 ≤ dep) (hst : csum st ≤ 8) (ho : lay o = (ci, N)) (hn : o < μ.1) (k : V G y cc nL ret dep bc bs (pc + 3) ls (v :: st) μ' Post) : V G y cc nL ret dep bc bs pc ls (.ref o :: st) μ Post := V.invV (bc := bc) (bs := bs) (bc' := 0) (bs' := 0) hC lk hdg hd1 hst rfl ho hn (fun r μ₁ h => by obtain ⟨rfl, rfl⟩ := h; exact k)
theorem v_S0p {Post' : Option Value → Mem → Prop} (hC : Cn G y' cc' nL' ret' dep' 0 0 [] μ Post') (lk : LkS y.cls idx y' cc' nL' ret' 0) (hdg : decode cc pc = .ok (.invokestatic idx, 3)) (hd1 : dep' + 1 ≤ dep) (hst : csum st ≤ 8) (k : ∀ r μ₁, Post' r μ₁ → V G y cc nL ret dep bc bs (pc + 3) ls (r.toList ++ st) μ₁ Post) : V G y cc nL ret dep bc bs pc ls (st) μ Post := V.invS (bc := bc) (bs := bs) (bc' := 0) (bs' := 0) hC lk hdg hd1 hst rfl k
theorem v_V0p {Post' : Option Value → Mem → Prop} {o ci N : Nat} (hC : Cn G y' cc' nL' ret' dep' 0 0 (.ref o :: []) μ Post') (lk : LkV y.cls idx y' cc' nL' ret' 0 ci) (hdg : decode cc pc = .ok (.invokevirtual idx, 3)) (hd1 : dep' + 1 ≤ dep) (hst : csum st ≤ 8) (ho : lay o = (ci, N)) (hn : o < μ.1) (k : ∀ r μ₁, Post' r μ₁ → V G y cc nL ret dep bc bs (pc + 3) ls (r.toList ++ st) μ₁ Post) : V G y cc nL ret dep bc bs pc ls (.ref o :: st) μ Post := V.invV (bc := bc) (bs := bs) (bc' := 0) (bs' := 0) hC lk hdg hd1 hst rfl ho hn k
theorem v_S0n (hC : Cn G y' cc' nL' ret' dep' 0 0 [] μ (Is none μ')) (lk : LkS y.cls idx y' cc' nL' ret' 0) (hdg : decode cc pc = .ok (.invokestatic idx, 3)) (hd1 : dep' + 1 ≤ dep) (hst : csum st ≤ 8) (k : V G y cc nL ret dep bc bs (pc + 3) ls st μ' Post) : V G y cc nL ret dep bc bs pc ls (st) μ Post := V.invS (bc := bc) (bs := bs) (bc' := 0) (bs' := 0) hC lk hdg hd1 hst rfl (fun r μ₁ h => by obtain ⟨rfl, rfl⟩ := h; exact k)
theorem v_V0n {o ci N : Nat} (hC : Cn G y' cc' nL' ret' dep' 0 0 (.ref o :: []) μ (Is none μ')) (lk : LkV y.cls idx y' cc' nL' ret' 0 ci) (hdg : decode cc pc = .ok (.invokevirtual idx, 3)) (hd1 : dep' + 1 ≤ dep) (hst : csum st ≤ 8) (ho : lay o = (ci, N)) (hn : o < μ.1) (k : V G y cc nL ret dep bc bs (pc + 3) ls st μ' Post) : V G y cc nL ret dep bc bs pc ls (.ref o :: st) μ Post := V.invV (bc := bc) (bs := bs) (bc' := 0) (bs' := 0) hC lk hdg hd1 hst rfl ho hn (fun r μ₁ h => by obtain ⟨rfl, rfl⟩ := h; exact k)
theorem v_S1 {v0 : Value} {v : Value} (hC : Cn G y' cc' nL' ret' dep' 0 0 [v0] μ (Is (some v) μ')) (lk : LkS y.cls idx y' cc' nL' ret' 1) (hdg : decode cc pc = .ok (.invokestatic idx, 3)) (hd1 : dep' + 1 ≤ dep) (hst : csum st ≤ 8) (k : V G y cc nL ret dep bc bs (pc + 3) ls (v :: st) μ' Post) : V G y cc nL ret dep bc bs pc ls (v0 :: st) μ Post := V.invS (bc := bc) (bs := bs) (bc' := 0) (bs' := 0) hC lk hdg hd1 hst rfl (fun r μ₁ h => by obtain ⟨rfl, rfl⟩ := h; exact k)
theorem v_V1 {v0 : Value} {v : Value} {o ci N : Nat} (hC : Cn G y' cc' nL' ret' dep' 0 0 (.ref o :: [v0]) μ (Is (some v) μ')) (lk : LkV y.cls idx y' cc' nL' ret' 1 ci) (hdg : decode cc pc = .ok (.invokevirtual idx, 3)) (hd1 : dep' + 1 ≤ dep) (hst : csum st ≤ 8) (ho : lay o = (ci, N)) (hn : o < μ.1) (k : V G y cc nL ret dep bc bs (pc + 3) ls (v :: st) μ' Post) : V G y cc nL ret dep bc bs pc ls (v0 :: .ref o :: st) μ Post := V.invV (bc := bc) (bs := bs) (bc' := 0) (bs' := 0) hC lk hdg hd1 hst rfl ho hn (fun r μ₁ h => by obtain ⟨rfl, rfl⟩ := h; exact k)
theorem v_S1p {v0 : Value} {Post' : Option Value → Mem → Prop} (hC : Cn G y' cc' nL' ret' dep' 0 0 [v0] μ Post') (lk : LkS y.cls idx y' cc' nL' ret' 1) (hdg : decode cc pc = .ok (.invokestatic idx, 3)) (hd1 : dep' + 1 ≤ dep) (hst : csum st ≤ 8) (k : ∀ r μ₁, Post' r μ₁ → V G y cc nL ret dep bc bs (pc + 3) ls (r.toList ++ st) μ₁ Post) : V G y cc nL ret dep bc bs pc ls (v0 :: st) μ Post := V.invS (bc := bc) (bs := bs) (bc' := 0) (bs' := 0) hC lk hdg hd1 hst rfl k
theorem v_V1p {v0 : Value} {Post' : Option Value → Mem → Prop} {o ci N : Nat} (hC : Cn G y' cc' nL' ret' dep' 0 0 (.ref o :: [v0]) μ Post') (lk : LkV y.cls idx y' cc' nL' ret' 1 ci) (hdg : decode cc pc = .ok (.invokevirtual idx, 3)) (hd1 : dep' + 1 ≤ dep) (hst : csum st ≤ 8) (ho : lay o = (ci, N)) (hn : o < μ.1) (k : ∀ r μ₁, Post' r μ₁ → V G y cc nL ret dep bc bs (pc + 3) ls (r.toList ++ st) μ₁ Post) : V G y cc nL ret dep bc bs pc ls (v0 :: .ref o :: st) μ Post := V.invV (bc := bc) (bs := bs) (bc' := 0) (bs' := 0) hC lk hdg hd1 hst rfl ho hn k
theorem v_S1n {v0 : Value} (hC : Cn G y' cc' nL' ret' dep' 0 0 [v0] μ (Is none μ')) (lk : LkS y.cls idx y' cc' nL' ret' 1) (hdg : decode cc pc = .ok (.invokestatic idx, 3)) (hd1 : dep' + 1 ≤ dep) (hst : csum st ≤ 8) (k : V G y cc nL ret dep bc bs (pc + 3) ls st μ' Post) : V G y cc nL ret dep bc bs pc ls (v0 :: st) μ Post := V.invS (bc := bc) (bs := bs) (bc' := 0) (bs' := 0) hC lk hdg hd1 hst rfl (fun r μ₁ h => by obtain ⟨rfl, rfl⟩ := h; exact k)
theorem v_V1n {v0 : Value} {o ci N : Nat} (hC : Cn G y' cc' nL' ret' dep' 0 0 (.ref o :: [v0]) μ (Is none μ')) (lk : LkV y.cls idx y' cc' nL' ret' 1 ci) (hdg : decode cc pc = .ok (.invokevirtual idx, 3)) (hd1 : dep' + 1 ≤ dep) (hst : csum st ≤ 8) (ho : lay o = (ci, N)) (hn : o < μ.1) (k : V G y cc nL ret dep bc bs (pc + 3) ls st μ' Post) : V G y cc nL ret dep bc bs pc ls (v0 :: .ref o :: st) μ Post := V.invV (bc := bc) (bs := bs) (bc' := 0) (bs' := 0) hC lk hdg hd1 hst rfl ho hn (fun r μ₁ h => by obtain ⟨rfl, rfl⟩ := h; exact k)
theorem v_S2 {v0 v1 : Value} {v : Value} (hC : Cn G y' cc' nL' ret' dep' 0 0 [v0, v1] μ (Is (some v) μ')) (lk : LkS y.cls idx y' cc' nL' ret' 2) (hdg : decode cc pc = .ok (.invokestatic idx, 3)) (hd1 : dep' + 1 ≤ dep) (hst : csum st ≤ 8) (k : V G y cc nL ret dep bc bs (pc + 3) ls (v :: st) μ' Post) : V G y cc nL ret dep bc bs pc ls (v1 :: v0 :: st) μ Post := V.invS (bc := bc) (bs := bs) (bc' := 0) (bs' := 0) hC lk hdg hd1 hst rfl (fun r μ₁ h => by obtain ⟨rfl, rfl⟩ := h; exact k)
theorem v_V2 {v0 v1 : Value} {v : Value} {o ci N : Nat} (hC : Cn G y' cc' nL' ret' dep' 0 0 (.ref o :: [v0, v1]) μ (Is (some v) μ')) (lk : LkV y.cls idx y' cc' nL' ret' 2 ci) (hdg : decode cc pc = .ok (.invokevirtual idx, 3)) (hd1 : dep' + 1 ≤ dep) (hst : csum st ≤ 8) (ho : lay o = (ci, N)) (hn : o < μ.1) (k : V G y cc nL ret dep bc bs (pc + 3) ls (v :: st) μ' Post) : V G y cc nL ret dep bc bs pc ls (v1 :: v0 :: .ref o :: st) μ Post := V.invV (bc := bc) (bs := bs) (bc' := 0) (bs' := 0) hC lk hdg hd1 hst rfl ho hn (fun r μ₁ h => by obtain ⟨rfl, rfl⟩ := h; exact k)
theorem v_S2p {v0 v1 : Value} {Post' : Option Value → Mem → Prop} (hC : Cn G y' cc' nL' ret' dep' 0 0 [v0, v1] μ Post') (lk : LkS y.cls idx y' cc' nL' ret' 2) (hdg : decode cc pc = .ok (.invokestatic idx, 3)) (hd1 : dep' + 1 ≤ dep) (hst : csum st ≤ 8) (k : ∀ r μ₁, Post' r μ₁ → V G y cc nL ret dep bc bs (pc + 3) ls (r.toList ++ st) μ₁ Post) : V G y cc nL ret dep bc bs pc ls (v1 :: v0 :: st) μ Post := V.invS (bc := bc) (bs := bs) (bc' := 0) (bs' := 0) hC lk hdg hd1 hst rfl k
theorem v_V2p {v0 v1 : Value} {Post' : Option Value → Mem → Prop} {o ci N : Nat} (hC : Cn G y' cc' nL' ret' dep' 0 0 (.ref o :: [v0, v1]) μ Post') (lk : LkV y.cls idx y' cc' nL' ret' 2 ci) (hdg : decode cc pc = .ok (.invokevirtual idx, 3)) (hd1 : dep' + 1 ≤ dep) (hst : csum st ≤ 8) (ho : lay o = (ci, N)) (hn : o < μ.1) (k : ∀ r μ₁, Post' r μ₁ → V G y cc nL ret dep bc bs (pc + 3) ls (r.toList ++ st) μ₁ Post) : V G y cc nL ret dep bc bs pc ls (v1 :: v0 :: .ref o :: st) μ Post := V.invV (bc := bc) (bs := bs) (bc' := 0) (bs' := 0) hC lk hdg hd1 hst rfl ho hn k
theorem v_S2n {v0 v1 : Value} (hC : Cn G y' cc' nL' ret' dep' 0 0 [v0, v1] μ (Is none μ')) (lk : LkS y.cls idx y' cc' nL' ret' 2) (hdg : decode cc pc = .ok (.invokestatic idx, 3)) (hd1 : dep' + 1 ≤ dep) (hst : csum st ≤ 8) (k : V G y cc nL ret dep bc bs (pc + 3) ls st μ' Post) : V G y cc nL ret dep bc bs pc ls (v1 :: v0 :: st) μ Post := V.invS (bc := bc) (bs := bs) (bc' := 0) (bs' := 0) hC lk hdg hd1 hst rfl (fun r μ₁ h => by obtain ⟨rfl, rfl⟩ := h; exact k)
theorem v_V2n {v0 v1 : Value} {o ci N : Nat} (hC : Cn G y' cc' nL' ret' dep' 0 0 (.ref o :: [v0, v1]) μ (Is none μ')) (lk : LkV y.cls idx y' cc' nL' ret' 2 ci) (hdg : decode cc pc = .ok (.invokevirtual idx, 3)) (hd1 : dep' + 1 ≤ dep) (hst : csum st ≤ 8) (ho : lay o = (ci, N)) (hn : o < μ.1) (k : V G y cc nL ret dep bc bs (pc + 3) ls st μ' Post) : V G y cc nL ret dep bc bs pc ls (v1 :: v0 :: .ref o :: st) μ Post := V.invV (bc := bc) (bs := bs) (bc' := 0) (bs' := 0) hC lk hdg hd1 hst rfl ho hn (fun r μ₁ h => by obtain ⟨rfl, rfl⟩ := h; exact k)
theorem v_S3 {v0 v1 v2 : Value} {v : Value} (hC : Cn G y' cc' nL' ret' dep' 0 0 [v0, v1, v2] μ (Is (some v) μ')) (lk : LkS y.cls idx y' cc' nL' ret' 3) (hdg : decode cc pc = .ok (.invokestatic idx, 3)) (hd1 : dep' + 1 ≤ dep) (hst : csum st ≤ 8) (k : V G y cc nL ret dep bc bs (pc + 3) ls (v :: st) μ' Post) : V G y cc nL ret dep bc bs pc ls (v2 :: v1 :: v0 :: st) μ Post := V.invS (bc := bc) (bs := bs) (bc' := 0) (bs' := 0) hC lk hdg hd1 hst rfl (fun r μ₁ h => by obtain ⟨rfl, rfl⟩ := h; exact k)
theorem v_V3 {v0 v1 v2 : Value} {v : Value} {o ci N : Nat} (hC : Cn G y' cc' nL' ret' dep' 0 0 (.ref o :: [v0, v1, v2]) μ (Is (some v) μ')) (lk : LkV y.cls idx y' cc' nL' ret' 3 ci) (hdg : decode cc pc = .ok (.invokevirtual idx, 3)) (hd1 : dep' + 1 ≤ dep) (hst : csum st ≤ 8) (ho : lay o = (ci, N)) (hn : o < μ.1) (k : V G y cc nL ret dep bc bs (pc + 3) ls (v :: st) μ' Post) : V G y cc nL ret dep bc bs pc ls (v2 :: v1 :: v0 :: .ref o :: st) μ Post := V.invV (bc := bc) (bs := bs) (bc' := 0) (bs' := 0) hC lk hdg hd1 hst rfl ho hn (fun r μ₁ h => by obtain ⟨rfl, rfl⟩ := h; exact k)
theorem v_S3p {v0 v1 v2 : Value} {Post' : Option Value → Mem → Prop} (hC : Cn G y' cc' nL' ret' dep' 0 0 [v0, v1, v2] μ Post') (lk : LkS y.cls idx y' cc' nL' ret' 3) (hdg : decode cc pc = .ok (.invokestatic idx, 3)) (hd1 : dep' + 1 ≤ dep) (hst : csum st ≤ 8) (k : ∀ r μ₁, Post' r μ₁ → V G y cc nL ret dep bc bs (pc + 3) ls (r.toList ++ st) μ₁ Post) : V G y cc nL ret dep bc bs pc ls (v2 :: v1 :: v0 :: st) μ Post := V.invS (bc := bc) (bs := bs) (bc' := 0) (bs' := 0) hC lk hdg hd1 hst rfl k
theorem v_V3p {v0 v1 v2 : Value} {Post' : Option Value → Mem → Prop} {o ci N : Nat} (hC : Cn G y' cc' nL' ret' dep' 0 0 (.ref o :: [v0, v1, v2]) μ Post') (lk : LkV y.cls idx y' cc' nL' ret' 3 ci) (hdg : decode cc pc = .ok (.invokevirtual idx, 3)) (hd1 : dep' + 1 ≤ dep) (hst : csum st ≤ 8) (ho : lay o = (ci, N)) (hn : o < μ.1) (k : ∀ r μ₁, Post' r μ₁ → V G y cc nL ret dep bc bs (pc + 3) ls (r.toList ++ st) μ₁ Post) : V G y cc nL ret dep bc bs pc ls (v2 :: v1 :: v0 :: .ref o :: st) μ Post := V.invV (bc := bc) (bs := bs) (bc' := 0) (bs' := 0) hC lk hdg hd1 hst rfl ho hn k
theorem v_S3n {v0 v1 v2 : Value} (hC : Cn G y' cc' nL' ret' dep' 0 0 [v0, v1, v2] μ (Is none μ')) (lk : LkS y.cls idx y' cc' nL' ret' 3) (hdg : decode cc pc = .ok (.invokestatic idx, 3)) (hd1 : dep' + 1 ≤ dep) (hst : csum st ≤ 8) (k : V G y cc nL ret dep bc bs (pc + 3) ls st μ' Post) : V G y cc nL ret dep bc bs pc ls (v2 :: v1 :: v0 :: st) μ Post := V.invS (bc := bc) (bs := bs) (bc' := 0) (bs' := 0) hC lk hdg hd1 hst rfl (fun r μ₁ h => by obtain ⟨rfl, rfl⟩ := h; exact k)
theorem v_V3n {v0 v1 v2 : Value} {o ci N : Nat} (hC : Cn G y' cc' nL' ret' dep' 0 0 (.ref o :: [v0, v1, v2]) μ (Is none μ')) (lk : LkV y.cls idx y' cc' nL' ret' 3 ci) (hdg : decode cc pc = .ok (.invokevirtual idx, 3)) (hd1 : dep' + 1 ≤ dep) (hst : csum st ≤ 8) (ho : lay o = (ci, N)) (hn : o < μ.1) (k : V G y cc nL ret dep bc bs (pc + 3) ls st μ' Post) : V G y cc nL ret dep bc bs pc ls (v2 :: v1 :: v0 :: .ref o :: st) μ Post := V.invV (bc := bc) (bs := bs) (bc' := 0) (bs' := 0) hC lk hdg hd1 hst rfl ho hn (fun r μ₁ h => by obtain ⟨rfl, rfl⟩ := h; exact k)
theorem v_S4 {v0 v1 v2 v3 : Value} {v : Value} (hC : Cn G y' cc' nL' ret' dep' 0 0 [v0, v1, v2, v3] μ (Is (some v) μ')) (lk : LkS y.cls idx y' cc' nL' ret' 4) (hdg : decode cc pc = .ok (.invokestatic idx, 3)) (hd1 : dep' + 1 ≤ dep) (hst : csum st ≤ 8) (k : V G y cc nL ret dep bc bs (pc + 3) ls (v :: st) μ' Post) : V G y cc nL ret dep bc bs pc ls (v3 :: v2 :: v1 :: v0 :: st) μ Post := V.invS (bc := bc) (bs := bs) (bc' := 0) (bs' := 0) hC lk hdg hd1 hst rfl (fun r μ₁ h => by obtain ⟨rfl, rfl⟩ := h; exact k)
theorem v_V4 {v0 v1 v2 v3 : Value} {v : Value} {o ci N : Nat} (hC : Cn G y' cc' nL' ret' dep' 0 0 (.ref o :: [v0, v1, v2, v3]) μ (Is (some v) μ')) (lk : LkV y.cls idx y' cc' nL' ret' 4 ci) (hdg : decode cc pc = .ok (.invokevirtual idx, 3)) (hd1 : dep' + 1 ≤ dep) (hst : csum st ≤ 8) (ho : lay o = (ci, N)) (hn : o < μ.1) (k : V G y cc nL ret dep bc bs (pc + 3) ls (v :: st) μ' Post) : V G y cc nL ret dep bc bs pc ls (v3 :: v2 :: v1 :: v0 :: .ref o :: st) μ Post := V.invV (bc := bc) (bs := bs) (bc' := 0) (bs' := 0) hC lk hdg hd1 hst rfl ho hn (fun r μ₁ h => by obtain ⟨rfl, rfl⟩ := h; exact k)
theorem v_S4p {v0 v1 v2 v3 : Value} {Post' : Option Value → Mem → Prop} (hC : Cn G y' cc' nL' ret' dep' 0 0 [v0, v1, v2, v3] μ Post') (lk : LkS y.cls idx y' cc' nL' ret' 4) (hdg : decode cc pc = .ok (.invokestatic idx, 3)) (hd1 : dep' + 1 ≤ dep) (hst : csum st ≤ 8) (k : ∀ r μ₁, Post' r μ₁ → V G y cc nL ret dep bc bs (pc + 3) ls (r.toList ++ st) μ₁ Post) : V G y cc nL ret dep bc bs pc ls (v3 :: v2 :: v1 :: v0 :: st) μ Post := V.invS (bc := bc) (bs := bs) (bc' := 0) (bs' := 0) hC lk hdg hd1 hst rfl k
theorem v_V4p {v0 v1 v2 v3 : Value} {Post' : Option Value → Mem → Prop} {o ci N : Nat} (hC : Cn G y' cc' nL' ret' dep' 0 0 (.ref o :: [v0, v1, v2, v3]) μ Post') (lk : LkV y.cls idx y' cc' nL' ret' 4 ci) (hdg : decode cc pc = .ok (.invokevirtual idx, 3)) (hd1 : dep' + 1 ≤ dep) (hst : csum st ≤ 8) (ho : lay o = (ci, N)) (hn : o < μ.1) (k : ∀ r μ₁, Post' r μ₁ → V G y cc nL ret dep bc bs (pc + 3) ls (r.toList ++ st) μ₁ Post) : V G y cc nL ret dep bc bs pc ls (v3 :: v2 :: v1 :: v0 :: .ref o :: st) μ Post := V.invV (bc := bc) (bs := bs) (bc' := 0) (bs' := 0) hC lk hdg hd1 hst rfl ho hn k
theorem v_S4n {v0 v1 v2 v3 : Value} (hC : Cn G y' cc' nL' ret' dep' 0 0 [v0, v1, v2, v3] μ (Is none μ')) (lk : LkS y.cls idx y' cc' nL' ret' 4) (hdg : decode cc pc = .ok (.invokestatic idx, 3)) (hd1 : dep' + 1 ≤ dep) (hst : csum st ≤ 8) (k : V G y cc nL ret dep bc bs (pc + 3) ls st μ' Post) : V G y cc nL ret dep bc bs pc ls (v3 :: v2 :: v1 :: v0 :: st) μ Post := V.invS (bc := bc) (bs := bs) (bc' := 0) (bs' := 0) hC lk hdg hd1 hst rfl (fun r μ₁ h => by obtain ⟨rfl, rfl⟩ := h; exact k)
theorem v_V4n {v0 v1 v2 v3 : Value} {o ci N : Nat} (hC : Cn G y' cc' nL' ret' dep' 0 0 (.ref o :: [v0, v1, v2, v3]) μ (Is none μ')) (lk : LkV y.cls idx y' cc' nL' ret' 4 ci) (hdg : decode cc pc = .ok (.invokevirtual idx, 3)) (hd1 : dep' + 1 ≤ dep) (hst : csum st ≤ 8) (ho : lay o = (ci, N)) (hn : o < μ.1) (k : V G y cc nL ret dep bc bs (pc + 3) ls st μ' Post) : V G y cc nL ret dep bc bs pc ls (v3 :: v2 :: v1 :: v0 :: .ref o :: st) μ Post := V.invV (bc := bc) (bs := bs) (bc' := 0) (bs' := 0) hC lk hdg hd1 hst rfl ho hn (fun r μ₁ h => by obtain ⟨rfl, rfl⟩ := h; exact k)
theorem v_S5 {v0 v1 v2 v3 v4 : Value} {v : Value} (hC : Cn G y' cc' nL' ret' dep' 0 0 [v0, v1, v2, v3, v4] μ (Is (some v) μ')) (lk : LkS y.cls idx y' cc' nL' ret' 5) (hdg : decode cc pc = .ok (.invokestatic idx, 3)) (hd1 : dep' + 1 ≤ dep) (hst : csum st ≤ 8) (k : V G y cc nL ret dep bc bs (pc + 3) ls (v :: st) μ' Post) : V G y cc nL ret dep bc bs pc ls (v4 :: v3 :: v2 :: v1 :: v0 :: st) μ Post := V.invS (bc := bc) (bs := bs) (bc' := 0) (bs' := 0) hC lk hdg hd1 hst rfl (fun r μ₁ h => by obtain ⟨rfl, rfl⟩ := h; exact k)
theorem v_V5 {v0 v1 v2 v3 v4 : Value} {v : Value} {o ci N : Nat} (hC : Cn G y' cc' nL' ret' dep' 0 0 (.ref o :: [v0, v1, v2, v3, v4]) μ (Is (some v) μ')) (lk : LkV y.cls idx y' cc' nL' ret' 5 ci) (hdg : decode cc pc = .ok (.invokevirtual idx, 3)) (hd1 : dep' + 1 ≤ dep) (hst : csum st ≤ 8) (ho : lay o = (ci, N)) (hn : o < μ.1) (k : V G y cc nL ret dep bc bs (pc + 3) ls (v :: st) μ' Post) : V G y cc nL ret dep bc bs pc ls (v4 :: v3 :: v2 :: v1 :: v0 :: .ref o :: st) μ Post := V.invV (bc := bc) (bs := bs) (bc' := 0) (bs' := 0) hC lk hdg hd1 hst rfl ho hn (fun r μ₁ h => by obtain ⟨rfl, rfl⟩ := h; exact k)
theorem v_S5p {v0 v1 v2 v3 v4 : Value} {Post' : Option Value → Mem → Prop} (hC : Cn G y' cc' nL' ret' dep' 0 0 [v0, v1, v2, v3, v4] μ Post') (lk : LkS y.cls idx y' cc' nL' ret' 5) (hdg : decode cc pc = .ok (.invokestatic idx, 3)) (hd1 : dep' + 1 ≤ dep) (hst : csum st ≤ 8) (k : ∀ r μ₁, Post' r μ₁ → V G y cc nL ret dep bc bs (pc + 3) ls (r.toList ++ st) μ₁ Post) : V G y cc nL ret dep bc bs pc ls (v4 :: v3 :: v2 :: v1 :: v0 :: st) μ Post := V.invS (bc := bc) (bs := bs) (bc' := 0) (bs' := 0) hC lk hdg hd1 hst rfl k
theorem v_V5p {v0 v1 v2 v3 v4 : Value} {Post' : Option Value → Mem → Prop} {o ci N : Nat} (hC : Cn G y' cc' nL' ret' dep' 0 0 (.ref o :: [v0, v1, v2, v3, v4]) μ Post') (lk : LkV y.cls idx y' cc' nL' ret' 5 ci) (hdg : decode cc pc = .ok (.invokevirtual idx, 3)) (hd1 : dep' + 1 ≤ dep) (hst : csum st ≤ 8) (ho : lay o = (ci, N)) (hn : o < μ.1) (k : ∀ r μ₁, Post' r μ₁ → V G y cc nL ret dep bc bs (pc + 3) ls (r.toList ++ st) μ₁ Post) : V G y cc nL ret dep bc bs pc ls (v4 :: v3 :: v2 :: v1 :: v0 :: .ref o :: st) μ Post := V.invV (bc := bc) (bs := bs) (bc' := 0) (bs' := 0) hC lk hdg hd1 hst rfl ho hn k
theorem v_S5n {v0 v1 v2 v3 v4 : Value} (hC : Cn G y' cc' nL' ret' dep' 0 0 [v0, v1, v2, v3, v4] μ (Is none μ')) (lk : LkS y.cls idx y' cc' nL' ret' 5) (hdg : decode cc pc = .ok (.invokestatic idx, 3)) (hd1 : dep' + 1 ≤ dep) (hst : csum st ≤ 8) (k : V G y cc nL ret dep bc bs (pc + 3) ls st μ' Post) : V G y cc nL ret dep bc bs pc ls (v4 :: v3 :: v2 :: v1 :: v0 :: st) μ Post := V.invS (bc := bc) (bs := bs) (bc' := 0) (bs' := 0) hC lk hdg hd1 hst rfl (fun r μ₁ h => by obtain ⟨rfl, rfl⟩ := h; exact k)
theorem v_V5n {v0 v1 v2 v3 v4 : Value} {o ci N : Nat} (hC : Cn G y' cc' nL' ret' dep' 0 0 (.ref o :: [v0, v1, v2, v3, v4]) μ (Is none μ')) (lk : LkV y.cls idx y' cc' nL' ret' 5 ci) (hdg : decode cc pc = .ok (.invokevirtual idx, 3)) (hd1 : dep' + 1 ≤ dep) (hst : csum st ≤ 8) (ho : lay o = (ci, N)) (hn : o < μ.1) (k : V G y cc nL ret dep bc bs (pc + 3) ls st μ' Post) : V G y cc nL ret dep bc bs pc ls (v4 :: v3 :: v2 :: v1 :: v0 :: .ref o :: st) μ Post := V.invV (bc := bc) (bs := bs) (bc' := 0) (bs' := 0) hC lk hdg hd1 hst rfl ho hn (fun r μ₁ h => by obtain ⟨rfl, rfl⟩ := h; exact k)
theorem v_mmax {x z : Int32} (hdg : decode cc pc = .ok (.invokestatic idx, 3)) (lk : Cond.methodLink y.cls idx Lib.Math.max.name ∈ lw0) (hd1 : 1 ≤ dep) (hst : csum st ≤ 40) (k : V G y cc nL ret dep bc bs (pc + 3) ls (.int (if x < z then z else x) :: st) μ Post) : V G y cc nL ret dep bc bs pc ls (.int z :: .int x :: st) μ Post := by
  intro p e R s m args below meth c H locs cells slots Q lr X hl hR hS hd hc hend
  have hroom := csum_le X.2.2.2.2.2.2 st
  exact va_mmax X.1 X.2.1 (by rw [X.2.2.1]; exact hl.2.1.symm) X.2.2.2.1 (X.2.2.2.2.1 _ lk) (X.2.2.2.2.1 _ ms_max) (X.2.2.2.2.1 _ mi_math) (X.2.2.2.2.1 _ mc_max) (by omega) (by omega) (by omega) (by omega) hdg (k p e R s m args below meth c H locs cells slots Q lr X hl hR hS hd hc hend)
theorem v_mmin {x z : Int32} (hdg : decode cc pc = .ok (.invokestatic idx, 3)) (lk : Cond.methodLink y.cls idx Lib.Math.min.name ∈ lw0) (hd1 : 1 ≤ dep) (hst : csum st ≤ 40) (k : V G y cc nL ret dep bc bs (pc + 3) ls (.int (if z < x then z else x) :: st) μ Post) : V G y cc nL ret dep bc bs pc ls (.int z :: .int x :: st) μ Post := by
  intro p e R s m args below meth c H locs cells slots Q lr X hl hR hS hd hc hend
  have hroom := csum_le X.2.2.2.2.2.2 st
  exact va_mmin X.1 X.2.1 (by rw [X.2.2.1]; exact hl.2.1.symm) X.2.2.2.1 (X.2.2.2.2.1 _ lk) (X.2.2.2.2.1 _ ms_min) (X.2.2.2.2.1 _ mi_math) (X.2.2.2.2.1 _ mc_min) (by omega) (by omega) (by omega) (by omega) hdg (k p e R s m args below meth c H locs cells slots Q lr X hl hR hS hd hc hend)
theorem v_mabs {x : Int32} (hdg : decode cc pc = .ok (.invokestatic idx, 3)) (lk : Cond.methodLink y.cls idx Lib.Math.abs.name ∈ lw0) (hd1 : 1 ≤ dep) (hst : csum st ≤ 40) (k : V G y cc nL ret dep bc bs (pc + 3) ls (.int (if 0 ≤ x then x else 0 - x) :: st) μ Post) : V G y cc nL ret dep bc bs pc ls (.int x :: st) μ Post := by
  intro p e R s m args below meth c H locs cells slots Q lr X hl hR hS hd hc hend
  have hroom := csum_le X.2.2.2.2.2.2 st
  exact va_mabs X.1 X.2.1 (by rw [X.2.2.1]; exact hl.2.1.symm) X.2.2.2.1 (X.2.2.2.2.1 _ lk) (X.2.2.2.2.1 _ ms_abs) (X.2.2.2.2.1 _ mi_math) (X.2.2.2.2.1 _ mc_abs) (by omega) (by omega) (by omega) (by omega) hdg (k p e R s m args below meth c H locs cells slots Q lr X hl hR hS hd hc hend)
end FA
/-- k places from i of row a0 come to the places from j of row a -/
def cp2 {α : Type} (f : Nat → Nat → α) (a0 a i j k : Nat) : Nat → Nat → α := fun x q => if x = a ∧ j ≤ q ∧ q < j + k then f a0 (i + (q - j)) else f x q
/-- a whole array is another one -/
theorem Rep.arr2 {G : GG} {μ μ' : Mem} {H H' : Heap} {k : Nat} (h : Rep G μ H) (hk : k < μ.1) (ht : 10 ≤ (lay k).1) (e : H'[gB G + k]? = some (arrV (gA G (lay k).1) (lay k).2 (sv G μ' k))) (z : H'.size = H.size) (oq : ∀ q, q ≠ gB G + k → H'[q]? = H[q]?) (hn : μ'.1 = μ.1) (hv : ∀ x y, x ≠ k → sv G μ' x y = sv G μ x y) : Rep G μ' H' := by
  refine ⟨by rw [z, h.1, hn], fun x hx => ?_⟩
  rw [hn] at hx
  by_cases hxk : x = k
  · subst hxk
    exact ⟨fun _ => e, fun h1 => by omega⟩
  · have e1 : sv G μ' x = sv G μ x := by
      funext y
      exact hv x y hxk
    have e2 : H'[gB G + x]? = H[gB G + x]? := oq _ (by omega)
    rw [e1]
    exact ⟨fun q => by rw [e2]; exact (h.2 x hx).1 q, fun q => ((h.2 x hx).2 q).kept e2⟩
section CP
variable {G : GG} {y : MethodName} {cc : ByteArray} {nL : Nat} {ret : Option FieldType} {dep bc bs pc : Nat} {ls st : List Value} {Post : Option Value → Mem → Prop}
variable {n : Nat} {I : Nat → Nat → Int32} {L : Nat → Nat → Int64} {P : Nat → Nat → Option Nat}
theorem v_copyI {idx a0 a N0 N1 i j k0 : Nat} {sp dp m0 : Int32} (hdg : decode cc pc = .ok (.invokestatic idx, 3)) (lk : Cond.methodLink y.cls idx arraycopyName ∈ lw0) (hd1 : 1 ≤ dep) (hst : csum st ≤ 8) (ha0 : lay a0 = (10, N0)) (ha : lay a = (10, N1)) (hn0 : a0 < n) (hn : a < n) (hsp : sp = nI i) (hdp : dp = nI j) (hm0 : m0 = nI k0) (h1 : i + k0 ≤ N0) (h2 : j + k0 ≤ N1) (hN0 : N0 < 2 ^ 31) (hN1 : N1 < 2 ^ 31) (k : V G y cc nL ret dep bc bs (pc + 3) ls st (n, cp2 I a0 a i j k0, L, P) Post) : V G y cc nL ret dep bc bs pc ls (.int m0 :: .int dp :: .ref a :: .int sp :: .ref a0 :: st) (n, I, L, P) Post := by
  intro p e R s m args below meth c H locs cells slots Q lr X hl hR hS hd hc hend
  obtain ⟨hx, hb, hml, hown, hts, hin, hK⟩ := id X
  have hroom := csum_le X.2.2.2.2.2.2 st
  have hsv : ∀ (x N : Nat), lay x = (10, N) → sv G (n, I, L, P) x = fun q => .int (I x q) := fun x N hx => by
    funext q
    exact sv_I (by rw [kd, hx]; rfl)
  have hc0 := (hR.2 a0 hn0).1 (by rw [ha0]; exact Nat.le_of_ble_eq_true rfl)
  have hc1 := (hR.2 a hn).1 (by rw [ha]; exact Nat.le_of_ble_eq_true rfl)
  rw [hsv a0 N0 ha0, ha0] at hc0
  rw [hsv a N1 ha, ha] at hc1
  have ei : sp.toNatClampNeg = i := by rw [hsp]; exact nI_clamp (by omega)
  have ej : dp.toNatClampNeg = j := by rw [hdp]; exact nI_clamp (by omega)
  have ek : m0.toNatClampNeg = k0 := by rw [hm0]; exact nI_clamp (by omega)
  have ti : sp.toInt = (i : Int) := by rw [hsp]; exact nI_toInt (by omega)
  have tj : dp.toInt = (j : Int) := by rw [hdp]; exact nI_toInt (by omega)
  have tk : m0.toInt = (k0 : Int) := by rw [hm0]; exact nI_toInt (by omega)
  have hAr := (hK.1.2 0 _ rfl).1
  intro T hT X'
  obtain ⟨-, kA, hkA, cm0, hkk0⟩ := hAr N0 (fun q => .int (I a0 q))
  obtain ⟨-, kA1, hkA1, cm1, hkk1⟩ := hAr N1 (fun q => .int (I a q))
  obtain ⟨vm', X'', step⟩ := X'.arraycopy hx hown (hts _ lk) (hts _ nat_copy) (hts _ ms_copy) (hts _ mi_sys) (src := gB G + a0) (dst := gB G + a) (cs := arrV (gA G 10) N0 (fun q => .int (I a0 q))) (cd := arrV (gA G 10) N1 (fun q => .int (I a q))) (srcPos := sp) (destPos := dp) (n := m0) (by rw [hT]; exact hc0) (by rw [hT]; exact hc1)
    (fun _ h => by cases h) (fun _ h => by cases h) (fun h => by cases h) (fun h => by cases h) hkA hkA1 hkk0 hkk1 (by rfl) (by rw [hsp]; exact nI_pos (by omega)) (by rw [hdp]; exact nI_pos (by omega)) (by rw [hm0]; exact nI_pos (by omega))
    (by rw [ti, tk, arrV_size]; omega) (by rw [tj, tk, arrV_size]; omega)
    (fun vm₁ _ z hz => by
      rw [ek] at hz
      have e9 : (arrV (gA G 10) N0 (fun q => .int (I a0 q))).slots.getD (sp.toNatClampNeg + z) .null = .int (I a0 (i + z)) := by
        rw [ei, Array.getD_eq_getD_getElem?, arrV_read _ _ (by omega)]
        rfl
      refine ⟨?_, ?_⟩
      · rw [e9]; rfl
      · rw [e9]; exact trivial)
    (g := F0 m pc lr ((Value.int m0 :: .int dp :: .ref a :: .int sp :: .ref a0 :: st).map (tv G))) rfl (by rw [hml]; exact hl.2.1) (rest := st.map (tv G)) rfl (by rw [hb]; exact hdg) (by omega) (by
      have hw : nativeFrameWords "java/lang/System" "arraycopy" 5 ≤ 40 := by decide +kernel
      show 2 * 0 + _ + _ ≤ _; omega)
  have e1 : copied (arrV (gA G 10) N0 (fun q => .int (I a0 q))) (arrV (gA G 10) N1 (fun q => .int (I a q))) sp dp m0 = arrV (gA G 10) N1 (fun q => .int (va_cpy (I a0) (I a) sp.toNatClampNeg dp.toNatClampNeg m0.toNatClampNeg q)) := va_copied (fun z => .int z) (gA G 10) (gA G 10) (I a0) (I a) (by rw [ei, ek]; exact h1)
  rw [e1, ei, ej, ek] at X'' step
  have hlt : gB G + a < H.size := (Array.getElem?_eq_some_iff.mp hc1).1
  obtain ⟨H1, hH1⟩ : ∃ H1 : Heap, H1 = H.setIfInBounds (gB G + a) (arrV (gA G 10) N1 (fun q => .int (va_cpy (I a0) (I a) i j k0 q))) := ⟨_, rfl⟩
  have hheap : ((T.setVm vm').setCell (gB G + a) (arrV (gA G 10) N1 (fun q => .int (va_cpy (I a0) (I a) i j k0 q)))).heap = H1 := by rw [hH1, ← hT]; rfl
  have oq : ∀ q : Nat, q ≠ gB G + a → H1[q]? = H[q]? := fun q hq => by rw [hH1]; simp [Array.getElem?_setIfInBounds, Ne.symm hq]
  have hz : H1.size = H.size := by rw [hH1]; simp
  have hR' : Rep G (n, cp2 I a0 a i j k0, L, P) H1 := by
    refine hR.arr2 hn (by rw [ha]; exact Nat.le_of_ble_eq_true rfl) ?_ hz oq rfl (fun x q hx => ?_)
    · rw [ha, hH1, Array.getElem?_setIfInBounds, if_pos rfl, if_pos hlt]
      congr 2
      funext q
      rw [sv_I (by rw [kd, ha]; rfl)]
      simp only [va_cpy, cp2]
      by_cases hq : j ≤ q ∧ q < j + k0
      · simp [hq]
      · rw [if_neg hq, if_neg (fun z => hq z.2)]
    · have e7 : cp2 I a0 a i j k0 x q = I x q := by
        simp only [cp2]
        rw [if_neg (fun z => hx z.1)]
      simp only [sv, e7]
  obtain ⟨t, a1, b1⟩ := k p e R s m args below meth c H1 _ cells slots Q lr X hl hR' ⟨by rw [hz]; exact hS.1, fun q g1 g2 => by
      rw [oq q (fun e => g2 (by rw [e]; exact Nat.le_add_right _ _))]
      exact hS.2.1 q g1 g2, fun q hq => by
      rcases List.mem_append.mp hq with h | h
      · exact hS.2.2 q h
      · obtain ⟨z, -, hz⟩ := List.mem_map.mp h
        rw [← hz]
        exact Nat.le_add_right _ _⟩ hd hc hend _ hheap X''
  exact ⟨t, step t a1, b1⟩
theorem v_copyL {idx a0 a N0 N1 i j k0 : Nat} {sp dp m0 : Int32} (hdg : decode cc pc = .ok (.invokestatic idx, 3)) (lk : Cond.methodLink y.cls idx arraycopyName ∈ lw0) (hd1 : 1 ≤ dep) (hst : csum st ≤ 8) (ha0 : lay a0 = (11, N0)) (ha : lay a = (11, N1)) (hn0 : a0 < n) (hn : a < n) (hsp : sp = nI i) (hdp : dp = nI j) (hm0 : m0 = nI k0) (h1 : i + k0 ≤ N0) (h2 : j + k0 ≤ N1) (hN0 : N0 < 2 ^ 31) (hN1 : N1 < 2 ^ 31) (k : V G y cc nL ret dep bc bs (pc + 3) ls st (n, I, cp2 L a0 a i j k0, P) Post) : V G y cc nL ret dep bc bs pc ls (.int m0 :: .int dp :: .ref a :: .int sp :: .ref a0 :: st) (n, I, L, P) Post := by
  intro p e R s m args below meth c H locs cells slots Q lr X hl hR hS hd hc hend
  obtain ⟨hx, hb, hml, hown, hts, hin, hK⟩ := id X
  have hroom := csum_le X.2.2.2.2.2.2 st
  have hsv : ∀ (x N : Nat), lay x = (11, N) → sv G (n, I, L, P) x = fun q => .long (L x q) := fun x N hx => by
    funext q
    exact sv_L (by rw [kd, hx]; rfl)
  have hc0 := (hR.2 a0 hn0).1 (by rw [ha0]; exact Nat.le_of_ble_eq_true rfl)
  have hc1 := (hR.2 a hn).1 (by rw [ha]; exact Nat.le_of_ble_eq_true rfl)
  rw [hsv a0 N0 ha0, ha0] at hc0
  rw [hsv a N1 ha, ha] at hc1
  have ei : sp.toNatClampNeg = i := by rw [hsp]; exact nI_clamp (by omega)
  have ej : dp.toNatClampNeg = j := by rw [hdp]; exact nI_clamp (by omega)
  have ek : m0.toNatClampNeg = k0 := by rw [hm0]; exact nI_clamp (by omega)
  have ti : sp.toInt = (i : Int) := by rw [hsp]; exact nI_toInt (by omega)
  have tj : dp.toInt = (j : Int) := by rw [hdp]; exact nI_toInt (by omega)
  have tk : m0.toInt = (k0 : Int) := by rw [hm0]; exact nI_toInt (by omega)
  have hAr := (hK.1.2 1 _ rfl).1
  intro T hT X'
  obtain ⟨-, kA, hkA, cm0, hkk0⟩ := hAr N0 (fun q => .long (L a0 q))
  obtain ⟨-, kA1, hkA1, cm1, hkk1⟩ := hAr N1 (fun q => .long (L a q))
  obtain ⟨vm', X'', step⟩ := X'.arraycopy hx hown (hts _ lk) (hts _ nat_copy) (hts _ ms_copy) (hts _ mi_sys) (src := gB G + a0) (dst := gB G + a) (cs := arrV (gA G 11) N0 (fun q => .long (L a0 q))) (cd := arrV (gA G 11) N1 (fun q => .long (L a q))) (srcPos := sp) (destPos := dp) (n := m0) (by rw [hT]; exact hc0) (by rw [hT]; exact hc1)
    (fun _ h => by cases h) (fun _ h => by cases h) (fun h => by cases h) (fun h => by cases h) hkA hkA1 hkk0 hkk1 (by rfl) (by rw [hsp]; exact nI_pos (by omega)) (by rw [hdp]; exact nI_pos (by omega)) (by rw [hm0]; exact nI_pos (by omega))
    (by rw [ti, tk, arrV_size]; omega) (by rw [tj, tk, arrV_size]; omega)
    (fun vm₁ _ z hz => by
      rw [ek] at hz
      have e9 : (arrV (gA G 11) N0 (fun q => .long (L a0 q))).slots.getD (sp.toNatClampNeg + z) .null = .long (L a0 (i + z)) := by
        rw [ei, Array.getD_eq_getD_getElem?, arrV_read _ _ (by omega)]
        rfl
      refine ⟨?_, ?_⟩
      · rw [e9]; rfl
      · rw [e9]; exact trivial)
    (g := F0 m pc lr ((Value.int m0 :: .int dp :: .ref a :: .int sp :: .ref a0 :: st).map (tv G))) rfl (by rw [hml]; exact hl.2.1) (rest := st.map (tv G)) rfl (by rw [hb]; exact hdg) (by omega) (by
      have hw : nativeFrameWords "java/lang/System" "arraycopy" 5 ≤ 40 := by decide +kernel
      show 2 * 0 + _ + _ ≤ _; omega)
  have e1 : copied (arrV (gA G 11) N0 (fun q => .long (L a0 q))) (arrV (gA G 11) N1 (fun q => .long (L a q))) sp dp m0 = arrV (gA G 11) N1 (fun q => .long (va_cpy (L a0) (L a) sp.toNatClampNeg dp.toNatClampNeg m0.toNatClampNeg q)) := va_copied (fun z => .long z) (gA G 11) (gA G 11) (L a0) (L a) (by rw [ei, ek]; exact h1)
  rw [e1, ei, ej, ek] at X'' step
  have hlt : gB G + a < H.size := (Array.getElem?_eq_some_iff.mp hc1).1
  obtain ⟨H1, hH1⟩ : ∃ H1 : Heap, H1 = H.setIfInBounds (gB G + a) (arrV (gA G 11) N1 (fun q => .long (va_cpy (L a0) (L a) i j k0 q))) := ⟨_, rfl⟩
  have hheap : ((T.setVm vm').setCell (gB G + a) (arrV (gA G 11) N1 (fun q => .long (va_cpy (L a0) (L a) i j k0 q)))).heap = H1 := by rw [hH1, ← hT]; rfl
  have oq : ∀ q : Nat, q ≠ gB G + a → H1[q]? = H[q]? := fun q hq => by rw [hH1]; simp [Array.getElem?_setIfInBounds, Ne.symm hq]
  have hz : H1.size = H.size := by rw [hH1]; simp
  have hR' : Rep G (n, I, cp2 L a0 a i j k0, P) H1 := by
    refine hR.arr2 hn (by rw [ha]; exact Nat.le_of_ble_eq_true rfl) ?_ hz oq rfl (fun x q hx => ?_)
    · rw [ha, hH1, Array.getElem?_setIfInBounds, if_pos rfl, if_pos hlt]
      congr 2
      funext q
      rw [sv_L (by rw [kd, ha]; rfl)]
      simp only [va_cpy, cp2]
      by_cases hq : j ≤ q ∧ q < j + k0
      · simp [hq]
      · rw [if_neg hq, if_neg (fun z => hq z.2)]
    · have e7 : cp2 L a0 a i j k0 x q = L x q := by
        simp only [cp2]
        rw [if_neg (fun z => hx z.1)]
      simp only [sv, e7]
  obtain ⟨t, a1, b1⟩ := k p e R s m args below meth c H1 _ cells slots Q lr X hl hR' ⟨by rw [hz]; exact hS.1, fun q g1 g2 => by
      rw [oq q (fun e => g2 (by rw [e]; exact Nat.le_add_right _ _))]
      exact hS.2.1 q g1 g2, fun q hq => by
      rcases List.mem_append.mp hq with h | h
      · exact hS.2.2 q h
      · obtain ⟨z, -, hz⟩ := List.mem_map.mp h
        rw [← hz]
        exact Nat.le_add_right _ _⟩ hd hc hend _ hheap X''
  exact ⟨t, step t a1, b1⟩
end CP
