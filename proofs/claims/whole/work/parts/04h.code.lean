/-! X6_readsSea readsSea -/
def rmX6_readsSea : Room := { frames := 5, cells := 0, slots := 0, locals := 111 }
abbrev GX6_readsSea (S : Shp) (r r' : Rf) (out : Option Int32 × Hp) (pc : Nat) (L : List (Nat × Value)) (st : List Value) (h : Hp) : Prop := G RX6 cX6_readsSea 2 (some .boolean) wsX6_readsSea rmX6_readsSea S r r' out pc L st h
theorem nX6_readsSea_X6 : ∀ w ∈ wsX60, w ∈ wsX6_readsSea := by decide +kernel
theorem mX6_readsSea_112 : Cond.fieldLink RX6 112 "LinkedIslesModel" "readLinks" "I" ∈ wsX6_readsSea := by decide +kernel
theorem mX6_readsSea_115 : Cond.fieldLink RX6 115 "LinkedIslesModel" "readIslands" "I" ∈ wsX6_readsSea := by decide +kernel
theorem mX6_readsSea_125 : Cond.fieldLink RX6 125 "LinkedIslesModel" "readWinds" "I" ∈ wsX6_readsSea := by decide +kernel
theorem mX6_readsSea_91 : Cond.fieldLink RX6 91 "LinkedIslesModel" "readAt" "I" ∈ wsX6_readsSea := by decide +kernel
theorem hdX6_readsSea : yX6_readsSea.cls ≠ "java/lang/invoke/MethodHandle" ∧ yX6_readsSea.cls ≠ "java/lang/invoke/VarHandle" ∧ (parseMethodDescriptor yX6_readsSea.desc).map (fun d => d.parameters.length) = some 0 := by decide +kernel
def bX6_readsSea_22 (n : Nat) (r : Rf) (v0 : Nat) (v1 : Int32) (h : Hp) : Option ((Int32 × Hp) ⊕ (Int32 × Hp)) :=
  if v1 = 0 then (some (.inr (v1, h))) else (bd2 (fX6_nextLetter n r v0 h) (fun (x7 : Int32) (h8 : Hp) => if x7 = (-1) then (some (.inr (v1, h8))) else (bd2 (fX6_readsClause n r v0 h8) (fun (x11 : Int32) (h12 : Hp) => some (.inl (x11, h12))))))
def lX6_readsSea_22 (n : Nat) (r : Rf) (v0 : Nat) (v1 : Int32) (h : Hp) : Option (Int32 × Hp) :=
  (it (fun (s : Int32 × Hp) => bX6_readsSea_22 n r v0 s.1 s.2) n (v1, h)).bind (fun z => cb (z.1) (some ((z.1), (z.2))))
def fX6_readsSea (n : Nat) (r : Rf) (v0 : Nat) (h : Hp) : Option (Int32 × Hp) :=
  lE (pI h v0 2 0) (fun (h1 : Hp) => lE (pI h1 v0 6 0) (fun (h2 : Hp) => lE (pI h2 v0 7 0) (fun (h3 : Hp) => lE (pI h3 v0 8 0) (fun (h4 : Hp) => lX6_readsSea_22 n r v0 1 h4))))
set_option maxHeartbeats 4000000 in
set_option maxRecDepth 100000 in
theorem ubX6_readsSea_22 {S : Shp} {n : Nat} {r : Rf} {out : Option Int32 × Hp} {r' : Rf} {v0 : Nat} {v1 : Int32}  {h : Hp} {w : (Int32 × Hp) ⊕ (Int32 × Hp)} (hW : WF S r) (hv0 : S[v0]? = some (6, 38)) (hf : bX6_readsSea_22 n r v0 v1 h = some w) (hk : ∀ y, w = .inl y → GX6_readsSea S r r' out 22 [(0, .ref v0), (1, .int (y.1))] [] (y.2)) (he : ∀ z, w = .inr z → GX6_readsSea S r r' out 42 [(0, .ref v0), (1, .int (z.1))] [] (z.2)) : GX6_readsSea S r r' out 22 [(0, .ref v0), (1, .int v1)] [] h := by
  unfold bX6_readsSea_22 at hf
  refine g_iload_n (ps := 1) dX6_readsSea_22 rfl rfl ?_
  refine g_if_eq (tgt := 42) dX6_readsSea_23 (by decide) (fun c5 => ?_) (fun c5 => ?_)
  · have hf := if_t hf c5
    exact g_pick [0, 1] rfl (he _ (Option.some.inj hf).symm)
  · have hf := if_f hf c5
    refine g_aload_n (ps := 0) dX6_readsSea_26 rfl rfl ?_
    obtain ⟨x7, h8, e6, hf⟩ := bd2_s hf
    refine g_callVi (As := []) (n := 0) (kX6_nextLetter hW hv0 e6) gX6_readsSea_X6_nextLetter rfl ⟨rfl, rfl⟩ ⟨rfl, hdX6_nextLetter⟩ ⟨Nat.le_of_ble_eq_true rfl, Nat.le_of_ble_eq_true rfl⟩ cf6 hv0 rfl rfl (Nat.le_of_ble_eq_true rfl) dX6_readsSea_27 ?_
    refine g_iconst (v := (-1)) dX6_readsSea_30 (by decide +kernel) ?_
    refine g_icmp_eq (tgt := 42) dX6_readsSea_31 (by decide) (fun c9 => ?_) (fun c9 => ?_)
    · have hf := if_t hf c9
      exact g_pick [0, 1] rfl (he _ (Option.some.inj hf).symm)
    · have hf := if_f hf c9
      refine g_aload_n (ps := 0) dX6_readsSea_34 rfl rfl ?_
      obtain ⟨x11, h12, e10, hf⟩ := bd2_s hf
      refine g_callVi (As := []) (n := 0) (kX6_readsClause hW hv0 e10) gX6_readsSea_X6_readsClause rfl ⟨rfl, rfl⟩ ⟨rfl, hdX6_readsClause⟩ ⟨Nat.le_of_ble_eq_true rfl, Nat.le_of_ble_eq_true rfl⟩ cf6 hv0 rfl rfl (Nat.le_of_ble_eq_true rfl) dX6_readsSea_35 ?_
      refine g_istore_n (L' := [(1, .int x11), (0, .ref v0)]) dX6_readsSea_38 rfl (by decide) rfl ?_
      refine g_goto (tgt := 22) dX6_readsSea_39 (by decide) ?_
      exact g_pick [1, 0] rfl (hk _ (Option.some.inj hf).symm)
set_option maxHeartbeats 4000000 in
set_option maxRecDepth 100000 in
theorem ulX6_readsSea_22 {S : Shp} {n : Nat} {r : Rf} {v0 : Nat} {v1 : Int32}  {h : Hp} {o : (Int32 × Hp)} (hW : WF S r) (hv0 : S[v0]? = some (6, 38)) (hf : lX6_readsSea_22 n r v0 v1 h = some o)  : GX6_readsSea S r r (some o.1, o.2) 22 [(0, .ref v0), (1, .int v1)] [] h := by
  unfold lX6_readsSea_22 at hf
  obtain ⟨z0, ei, hf⟩ := bd_s hf
  refine it_ind (P := fun (s : Int32 × Hp) => GX6_readsSea S r r (some o.1, o.2) 22 [(0, .ref v0), (1, .int (s.1))] [] (s.2)) (fun s w hb hk2 he2 => ?_) n _ ei
  refine ubX6_readsSea_22 (out := (some o.1, o.2)) (r' := r) hW hv0 hb hk2 (fun z hz => ?_)
  have hz := he2 z hz
  subst hz
  refine g_iload_n (ps := 1) dX6_readsSea_42 rfl rfl ?_
  obtain ⟨z13, hf⟩ := cb_s hf
  have hf := Option.some.inj hf
  subst hf
  exact g_zret z13 dX6_readsSea_43
set_option maxHeartbeats 4000000 in
set_option maxRecDepth 100000 in
theorem uX6_readsSea {S : Shp} {n : Nat} {r : Rf} {v0 : Nat} {h : Hp} {o : (Int32 × Hp)} (hW : WF S r) (hv0 : S[v0]? = some (6, 38)) (hf : fX6_readsSea n r v0 h = some o) : GX6_readsSea S r r (some o.1, o.2) 0 [(0, .ref v0)] [] h := by
  unfold fX6_readsSea at hf
  refine g_aload_n (ps := 0) dX6_readsSea_0 rfl rfl ?_
  refine g_iconst (v := 0) dX6_readsSea_1 (by decide +kernel) ?_
  refine g_putI cf6 hv0 nX6_readsSea_X6 (j := 2) (by decide) rfl mX6_readsSea_91 rfl dX6_readsSea_2 ?_
  refine g_topH (fun h1 eh1 => ?_)
  have hf := lE_s hf eh1
  refine g_aload_n (ps := 0) dX6_readsSea_5 rfl rfl ?_
  refine g_iconst (v := 0) dX6_readsSea_6 (by decide +kernel) ?_
  refine g_putI cf6 hv0 nX6_readsSea_X6 (j := 6) (by decide) rfl mX6_readsSea_115 rfl dX6_readsSea_7 ?_
  refine g_topH (fun h2 eh2 => ?_)
  have hf := lE_s hf eh2
  refine g_aload_n (ps := 0) dX6_readsSea_10 rfl rfl ?_
  refine g_iconst (v := 0) dX6_readsSea_11 (by decide +kernel) ?_
  refine g_putI cf6 hv0 nX6_readsSea_X6 (j := 7) (by decide) rfl mX6_readsSea_112 rfl dX6_readsSea_12 ?_
  refine g_topH (fun h3 eh3 => ?_)
  have hf := lE_s hf eh3
  refine g_aload_n (ps := 0) dX6_readsSea_15 rfl rfl ?_
  refine g_iconst (v := 0) dX6_readsSea_16 (by decide +kernel) ?_
  refine g_putI cf6 hv0 nX6_readsSea_X6 (j := 8) (by decide) rfl mX6_readsSea_125 rfl dX6_readsSea_17 ?_
  refine g_topH (fun h4 eh4 => ?_)
  have hf := lE_s hf eh4
  refine g_iconst (v := 1) dX6_readsSea_20 (by decide +kernel) ?_
  refine g_istore_n (L' := [(1, .int 1), (0, .ref v0)]) dX6_readsSea_21 rfl (by decide) rfl ?_
  exact g_pick [1, 0] rfl (ulX6_readsSea_22 hW hv0 hf)
theorem kX6_readsSea {S : Shp} {n : Nat} {r : Rf} {v0 : Nat} {h : Hp} {o : (Int32 × Hp)} (hW : WF S r) (hv0 : S[v0]? = some (6, 38)) (hf : fX6_readsSea n r v0 h = some o) : CTi yX6_readsSea wsX6_readsSea rmX6_readsSea S r [.ref v0] h r o.1 o.2 :=
  cti_of rfl (by decide +kernel) rfl (Nat.le_of_ble_eq_true rfl) rfl (uX6_readsSea hW hv0 hf)
/-! X6_sea sea -/
def rmX6_sea : Room := { frames := 6, cells := 0, slots := 0, locals := 132 }
abbrev GX6_sea (S : Shp) (r r' : Rf) (out : Option Int32 × Hp) (pc : Nat) (L : List (Nat × Value)) (st : List Value) (h : Hp) : Prop := G RX6 cX6_sea 3 (some .int) wsX6_sea rmX6_sea S r r' out pc L st h
theorem nX6_sea_X6 : ∀ w ∈ wsX60, w ∈ wsX6_sea := by decide +kernel
theorem mX6_sea_112 : Cond.fieldLink RX6 112 "LinkedIslesModel" "readLinks" "I" ∈ wsX6_sea := by decide +kernel
theorem mX6_sea_115 : Cond.fieldLink RX6 115 "LinkedIslesModel" "readIslands" "I" ∈ wsX6_sea := by decide +kernel
theorem mX6_sea_125 : Cond.fieldLink RX6 125 "LinkedIslesModel" "readWinds" "I" ∈ wsX6_sea := by decide +kernel
theorem mX6_sea_13 : Cond.fieldLink RX6 13 "LinkedIslesModel" "faultAt" "I" ∈ wsX6_sea := by decide +kernel
theorem mX6_sea_141 : Cond.fieldLink RX6 141 "LinkedIslesModel" "n" "I" ∈ wsX6_sea := by decide +kernel
theorem mX6_sea_144 : Cond.fieldLink RX6 144 "LinkedIslesModel" "m" "I" ∈ wsX6_sea := by decide +kernel
theorem mX6_sea_147 : Cond.fieldLink RX6 147 "LinkedIslesModel" "windMany" "I" ∈ wsX6_sea := by decide +kernel
theorem mX6_sea_150 : Cond.fieldLink RX6 150 "LinkedIslesModel" "undoMany" "I" ∈ wsX6_sea := by decide +kernel
theorem mX6_sea_153 : Cond.fieldLink RX6 153 "LinkedIslesModel" "heardMany" "I" ∈ wsX6_sea := by decide +kernel
theorem mX6_sea_156 : Cond.fieldLink RX6 156 "LinkedIslesModel" "bookMany" "I" ∈ wsX6_sea := by decide +kernel
theorem mX6_sea_17 : Cond.fieldLink RX6 17 "LinkedIslesModel" "readEnds" "[I" ∈ wsX6_sea := by decide +kernel
theorem mX6_sea_20 : Cond.fieldLink RX6 20 "LinkedIslesModel" "readKind" "[I" ∈ wsX6_sea := by decide +kernel
theorem mX6_sea_23 : Cond.fieldLink RX6 23 "LinkedIslesModel" "readStrength" "[I" ∈ wsX6_sea := by decide +kernel
theorem mX6_sea_26 : Cond.fieldLink RX6 26 "LinkedIslesModel" "readSides" "[I" ∈ wsX6_sea := by decide +kernel
theorem mX6_sea_29 : Cond.fieldLink RX6 29 "LinkedIslesModel" "readWind" "[I" ∈ wsX6_sea := by decide +kernel
theorem mX6_sea_32 : Cond.fieldLink RX6 32 "LinkedIslesModel" "ends" "[I" ∈ wsX6_sea := by decide +kernel
theorem mX6_sea_35 : Cond.fieldLink RX6 35 "LinkedIslesModel" "kinds" "[I" ∈ wsX6_sea := by decide +kernel
theorem mX6_sea_38 : Cond.fieldLink RX6 38 "LinkedIslesModel" "strengths" "[I" ∈ wsX6_sea := by decide +kernel
theorem mX6_sea_41 : Cond.fieldLink RX6 41 "LinkedIslesModel" "sides" "[I" ∈ wsX6_sea := by decide +kernel
theorem mX6_sea_44 : Cond.fieldLink RX6 44 "LinkedIslesModel" "winds" "[I" ∈ wsX6_sea := by decide +kernel
theorem mX6_sea_47 : Cond.fieldLink RX6 47 "LinkedIslesModel" "now" "[I" ∈ wsX6_sea := by decide +kernel
theorem mX6_sea_72 : Cond.fieldLink RX6 72 "LinkedIslesModel" "isKept" "[Z" ∈ wsX6_sea := by decide +kernel
theorem mX6_sea_87 : Cond.fieldLink RX6 87 "LinkedIslesModel" "letterMany" "I" ∈ wsX6_sea := by decide +kernel
theorem mX6_sea_91 : Cond.fieldLink RX6 91 "LinkedIslesModel" "readAt" "I" ∈ wsX6_sea := by decide +kernel
theorem mX6_sea_98 : Cond.fieldLink RX6 98 "LinkedIslesModel" "readFault" "I" ∈ wsX6_sea := by decide +kernel
theorem hdX6_sea : yX6_sea.cls ≠ "java/lang/invoke/MethodHandle" ∧ yX6_sea.cls ≠ "java/lang/invoke/VarHandle" ∧ (parseMethodDescriptor yX6_sea.desc).map (fun d => d.parameters.length) = some 0 := by decide +kernel
def bX6_sea_64 (n : Nat) (r : Rf) (v0 : Nat) (v2 : Int32) (h : Hp) : Option ((Int32 × Hp) ⊕ (Hp)) :=
  if (2 * (h.1 v0 15)) ≤ v2 then (some (.inr h)) else (ck v2 20 (ck v2 20 (lE (pI h (r v0 17) (Int32.toNatClampNeg v2) (h.1 (r v0 9) (Int32.toNatClampNeg v2))) (fun (h14 : Hp) => ck v2 20 (ck v2 20 (lE (pI h14 (r v0 20) (Int32.toNatClampNeg v2) (h14.1 (r v0 12) (Int32.toNatClampNeg v2))) (fun (h17 : Hp) => lE (v2 + 1) (fun (x18 : Int32) => some (.inl (x18, h17))))))))))
def bX6_sea_106 (n : Nat) (r : Rf) (v0 : Nat) (v2 : Int32) (h : Hp) : Option ((Int32 × Hp) ⊕ (Hp)) :=
  if (h.1 v0 15) ≤ v2 then (some (.inr h)) else (ck v2 10 (ck v2 10 (lE (pI h (r v0 18) (Int32.toNatClampNeg v2) (h.1 (r v0 10) (Int32.toNatClampNeg v2))) (fun (h22 : Hp) => ck v2 10 (ck v2 10 (lE (pI h22 (r v0 19) (Int32.toNatClampNeg v2) (h22.1 (r v0 11) (Int32.toNatClampNeg v2))) (fun (h25 : Hp) => lE (v2 + 1) (fun (x26 : Int32) => some (.inl (x26, h25))))))))))
def bX6_sea_146 (n : Nat) (r : Rf) (v0 : Nat) (v2 : Int32) (h : Hp) : Option ((Int32 × Hp) ⊕ (Hp)) :=
  if (h.1 v0 16) ≤ v2 then (some (.inr h)) else (ck v2 12 (ck v2 12 (lE (pI h (r v0 21) (Int32.toNatClampNeg v2) (h.1 (r v0 13) (Int32.toNatClampNeg v2))) (fun (h30 : Hp) => lE (v2 + 1) (fun (x31 : Int32) => some (.inl (x31, h30)))))))
def bX6_sea_174 (n : Nat) (r : Rf) (v0 : Nat) (v2 : Int32) (h : Hp) : Option ((Int32 × Hp) ⊕ (Hp)) :=
  if 16 ≤ v2 then (some (.inr h)) else (ck v2 16 (lE (pI h (r v0 22) (Int32.toNatClampNeg v2) 0) (fun (h34 : Hp) => lE (v2 + 1) (fun (x35 : Int32) => some (.inl (x35, h34))))))
def jX6_sea_224 (n : Nat) (r : Rf) (v0 : Nat) (s0 : Int32) (s1 : Int32) (h : Hp) : Option (Int32 × Hp) :=
  ck s1 16 (lE (pI h (r v0 22) (Int32.toNatClampNeg s1) s0) (fun (h40 : Hp) => lE (pI h40 v0 24 0) (fun (h41 : Hp) => lE (pI h41 v0 28 0) (fun (h42 : Hp) => lE (pI h42 v0 32 0) (fun (h43 : Hp) => ck 0 2 (lE (pI h43 (r v0 35) (Int32.toNatClampNeg 0) (vp_nar .boolean 0)) (fun (h45 : Hp) => ck 1 2 (lE (pI h45 (r v0 35) (Int32.toNatClampNeg 1) (vp_nar .boolean 0)) (fun (h47 : Hp) => some ((h47.1 v0 15), h47))))))))))
def lX6_sea_174 (n : Nat) (r : Rf) (v0 : Nat) (v2 : Int32) (h : Hp) : Option (Int32 × Hp) :=
  (it (fun (s : Int32 × Hp) => bX6_sea_174 n r v0 s.1 s.2) n (v2, h)).bind (fun z => ck 0 16 (lE (pI z (r v0 22) (Int32.toNatClampNeg 0) ((1 <<< ((z.1 v0 15) &&& 31)) - 1)) (fun (h37 : Hp) => if (h37.1 v0 14) = 0 then (jX6_sea_224 n r v0 0 4 h37) else (jX6_sea_224 n r v0 3 4 h37))))
def lX6_sea_146 (n : Nat) (r : Rf) (v0 : Nat) (v2 : Int32) (h : Hp) : Option (Int32 × Hp) :=
  (it (fun (s : Int32 × Hp) => bX6_sea_146 n r v0 s.1 s.2) n (v2, h)).bind (fun z => lX6_sea_174 n r v0 0 z)
def lX6_sea_106 (n : Nat) (r : Rf) (v0 : Nat) (v2 : Int32) (h : Hp) : Option (Int32 × Hp) :=
  (it (fun (s : Int32 × Hp) => bX6_sea_106 n r v0 s.1 s.2) n (v2, h)).bind (fun z => lX6_sea_146 n r v0 0 z)
def lX6_sea_64 (n : Nat) (r : Rf) (v0 : Nat) (v2 : Int32) (h : Hp) : Option (Int32 × Hp) :=
  (it (fun (s : Int32 × Hp) => bX6_sea_64 n r v0 s.1 s.2) n (v2, h)).bind (fun z => lX6_sea_106 n r v0 0 z)
def jX6_sea_23 (n : Nat) (r : Rf) (v0 : Nat) (v1 : Int32) (s0 : Int32) (h : Hp) : Option (Int32 × Hp) :=
  lE (pI h v0 5 s0) (fun (h6 : Hp) => if v1 = 0 then (some (((-10) - (h6.1 v0 4)), h6)) else (lE (pI h6 v0 14 (h6.1 v0 6)) (fun (h8 : Hp) => lE (pI h8 v0 15 (h8.1 v0 7)) (fun (h9 : Hp) => lE (pI h9 v0 16 (h9.1 v0 8)) (fun (h10 : Hp) => lX6_sea_64 n r v0 0 h10)))))
def fX6_sea (n : Nat) (r : Rf) (v0 : Nat) (h : Hp) : Option (Int32 × Hp) :=
  bd2 (fX6_readsSea n r v0 h) (fun (x2 : Int32) (h3 : Hp) => lE (pI h3 v0 0 0) (fun (h4 : Hp) => if x2 = 0 then (jX6_sea_23 n r v0 x2 (h4.1 v0 2) h4) else (jX6_sea_23 n r v0 x2 (-1) h4)))
set_option maxHeartbeats 4000000 in
set_option maxRecDepth 100000 in
theorem ubX6_sea_64 {S : Shp} {n : Nat} {r : Rf} {out : Option Int32 × Hp} {r' : Rf} {v0 : Nat} {v2 : Int32}  {h : Hp} {w : (Int32 × Hp) ⊕ (Hp)} (hW : WF S r) (hv0 : S[v0]? = some (6, 38)) (hf : bX6_sea_64 n r v0 v2 h = some w) (hk : ∀ y, w = .inl y → GX6_sea S r r' out 64 [(0, .ref v0), (2, .int (y.1))] [] (y.2)) (he : ∀ z, w = .inr z → GX6_sea S r r' out 104 [(0, .ref v0)] [] (z)) : GX6_sea S r r' out 64 [(0, .ref v0), (2, .int v2)] [] h := by
  unfold bX6_sea_64 at hf
  refine g_iload_n (ps := 1) dX6_sea_64 rfl rfl ?_
  refine g_iconst (v := 2) dX6_sea_65 (by decide +kernel) ?_
  refine g_aload_n (ps := 0) dX6_sea_66 rfl rfl ?_
  refine g_getI cf6 hv0 nX6_sea_X6 (j := 15) (by decide) rfl mX6_sea_144 dX6_sea_67 ?_
  refine g_imul dX6_sea_70 ?_
  refine g_icmp_ge (tgt := 104) dX6_sea_71 (by decide) (fun c11 => ?_) (fun c11 => ?_)
  · have hf := if_t hf c11
    exact g_pick [0] rfl (he _ (Option.some.inj hf).symm)
  · have hf := if_f hf c11
    refine g_aload_n (ps := 0) dX6_sea_74 rfl rfl ?_
    refine g_getR cf6 hv0 nX6_sea_X6 (j := 17) (by decide) rfl mX6_sea_32 dX6_sea_75 ?_
    refine g_iload_n (ps := 1) dX6_sea_78 rfl rfl ?_
    refine g_aload_n (ps := 0) dX6_sea_79 rfl rfl ?_
    refine g_getR cf6 hv0 nX6_sea_X6 (j := 9) (by decide) rfl mX6_sea_17 dX6_sea_80 ?_
    refine g_iload_n (ps := 1) dX6_sea_83 rfl rfl ?_
    obtain ⟨z12, hf⟩ := ck_s hf
    refine g_iald (hW _ _ _ hv0 9 _ rfl) z12 dX6_sea_84 ?_
    obtain ⟨z13, hf⟩ := ck_s hf
    refine g_iast (hW _ _ _ hv0 17 _ rfl) z13 dX6_sea_85 ?_
    refine g_topH (fun h14 eh14 => ?_)
    have hf := lE_s hf eh14
    refine g_aload_n (ps := 0) dX6_sea_86 rfl rfl ?_
    refine g_getR cf6 hv0 nX6_sea_X6 (j := 20) (by decide) rfl mX6_sea_41 dX6_sea_87 ?_
    refine g_iload_n (ps := 1) dX6_sea_90 rfl rfl ?_
    refine g_aload_n (ps := 0) dX6_sea_91 rfl rfl ?_
    refine g_getR cf6 hv0 nX6_sea_X6 (j := 12) (by decide) rfl mX6_sea_26 dX6_sea_92 ?_
    refine g_iload_n (ps := 1) dX6_sea_95 rfl rfl ?_
    obtain ⟨z15, hf⟩ := ck_s hf
    refine g_iald (hW _ _ _ hv0 12 _ rfl) z15 dX6_sea_96 ?_
    obtain ⟨z16, hf⟩ := ck_s hf
    refine g_iast (hW _ _ _ hv0 20 _ rfl) z16 dX6_sea_97 ?_
    refine g_topH (fun h17 eh17 => ?_)
    have hf := lE_s hf eh17
    obtain ⟨x18, ex18⟩ : ∃ y : Int32, y = v2 + 1 := ⟨_, rfl⟩
    have hf := lE_s hf ex18
    refine g_iinc (ps := 1) (v := x18) (L' := [(2, .int x18), (0, .ref v0)]) dX6_sea_98 rfl (by rw [ex18]; rfl) (by decide) rfl ?_
    refine g_goto (tgt := 64) dX6_sea_101 (by decide) ?_
    exact g_pick [1, 0] rfl (hk _ (Option.some.inj hf).symm)
set_option maxHeartbeats 4000000 in
set_option maxRecDepth 100000 in
theorem ubX6_sea_106 {S : Shp} {n : Nat} {r : Rf} {out : Option Int32 × Hp} {r' : Rf} {v0 : Nat} {v2 : Int32}  {h : Hp} {w : (Int32 × Hp) ⊕ (Hp)} (hW : WF S r) (hv0 : S[v0]? = some (6, 38)) (hf : bX6_sea_106 n r v0 v2 h = some w) (hk : ∀ y, w = .inl y → GX6_sea S r r' out 106 [(0, .ref v0), (2, .int (y.1))] [] (y.2)) (he : ∀ z, w = .inr z → GX6_sea S r r' out 144 [(0, .ref v0)] [] (z)) : GX6_sea S r r' out 106 [(0, .ref v0), (2, .int v2)] [] h := by
  unfold bX6_sea_106 at hf
  refine g_iload_n (ps := 1) dX6_sea_106 rfl rfl ?_
  refine g_aload_n (ps := 0) dX6_sea_107 rfl rfl ?_
  refine g_getI cf6 hv0 nX6_sea_X6 (j := 15) (by decide) rfl mX6_sea_144 dX6_sea_108 ?_
  refine g_icmp_ge (tgt := 144) dX6_sea_111 (by decide) (fun c19 => ?_) (fun c19 => ?_)
  · have hf := if_t hf c19
    exact g_pick [0] rfl (he _ (Option.some.inj hf).symm)
  · have hf := if_f hf c19
    refine g_aload_n (ps := 0) dX6_sea_114 rfl rfl ?_
    refine g_getR cf6 hv0 nX6_sea_X6 (j := 18) (by decide) rfl mX6_sea_35 dX6_sea_115 ?_
    refine g_iload_n (ps := 1) dX6_sea_118 rfl rfl ?_
    refine g_aload_n (ps := 0) dX6_sea_119 rfl rfl ?_
    refine g_getR cf6 hv0 nX6_sea_X6 (j := 10) (by decide) rfl mX6_sea_20 dX6_sea_120 ?_
    refine g_iload_n (ps := 1) dX6_sea_123 rfl rfl ?_
    obtain ⟨z20, hf⟩ := ck_s hf
    refine g_iald (hW _ _ _ hv0 10 _ rfl) z20 dX6_sea_124 ?_
    obtain ⟨z21, hf⟩ := ck_s hf
    refine g_iast (hW _ _ _ hv0 18 _ rfl) z21 dX6_sea_125 ?_
    refine g_topH (fun h22 eh22 => ?_)
    have hf := lE_s hf eh22
    refine g_aload_n (ps := 0) dX6_sea_126 rfl rfl ?_
    refine g_getR cf6 hv0 nX6_sea_X6 (j := 19) (by decide) rfl mX6_sea_38 dX6_sea_127 ?_
    refine g_iload_n (ps := 1) dX6_sea_130 rfl rfl ?_
    refine g_aload_n (ps := 0) dX6_sea_131 rfl rfl ?_
    refine g_getR cf6 hv0 nX6_sea_X6 (j := 11) (by decide) rfl mX6_sea_23 dX6_sea_132 ?_
    refine g_iload_n (ps := 1) dX6_sea_135 rfl rfl ?_
    obtain ⟨z23, hf⟩ := ck_s hf
    refine g_iald (hW _ _ _ hv0 11 _ rfl) z23 dX6_sea_136 ?_
    obtain ⟨z24, hf⟩ := ck_s hf
    refine g_iast (hW _ _ _ hv0 19 _ rfl) z24 dX6_sea_137 ?_
    refine g_topH (fun h25 eh25 => ?_)
    have hf := lE_s hf eh25
    obtain ⟨x26, ex26⟩ : ∃ y : Int32, y = v2 + 1 := ⟨_, rfl⟩
    have hf := lE_s hf ex26
    refine g_iinc (ps := 1) (v := x26) (L' := [(2, .int x26), (0, .ref v0)]) dX6_sea_138 rfl (by rw [ex26]; rfl) (by decide) rfl ?_
    refine g_goto (tgt := 106) dX6_sea_141 (by decide) ?_
    exact g_pick [1, 0] rfl (hk _ (Option.some.inj hf).symm)
set_option maxHeartbeats 4000000 in
set_option maxRecDepth 100000 in
theorem ubX6_sea_146 {S : Shp} {n : Nat} {r : Rf} {out : Option Int32 × Hp} {r' : Rf} {v0 : Nat} {v2 : Int32}  {h : Hp} {w : (Int32 × Hp) ⊕ (Hp)} (hW : WF S r) (hv0 : S[v0]? = some (6, 38)) (hf : bX6_sea_146 n r v0 v2 h = some w) (hk : ∀ y, w = .inl y → GX6_sea S r r' out 146 [(0, .ref v0), (2, .int (y.1))] [] (y.2)) (he : ∀ z, w = .inr z → GX6_sea S r r' out 172 [(0, .ref v0)] [] (z)) : GX6_sea S r r' out 146 [(0, .ref v0), (2, .int v2)] [] h := by
  unfold bX6_sea_146 at hf
  refine g_iload_n (ps := 1) dX6_sea_146 rfl rfl ?_
  refine g_aload_n (ps := 0) dX6_sea_147 rfl rfl ?_
  refine g_getI cf6 hv0 nX6_sea_X6 (j := 16) (by decide) rfl mX6_sea_147 dX6_sea_148 ?_
  refine g_icmp_ge (tgt := 172) dX6_sea_151 (by decide) (fun c27 => ?_) (fun c27 => ?_)
  · have hf := if_t hf c27
    exact g_pick [0] rfl (he _ (Option.some.inj hf).symm)
  · have hf := if_f hf c27
    refine g_aload_n (ps := 0) dX6_sea_154 rfl rfl ?_
    refine g_getR cf6 hv0 nX6_sea_X6 (j := 21) (by decide) rfl mX6_sea_44 dX6_sea_155 ?_
    refine g_iload_n (ps := 1) dX6_sea_158 rfl rfl ?_
    refine g_aload_n (ps := 0) dX6_sea_159 rfl rfl ?_
    refine g_getR cf6 hv0 nX6_sea_X6 (j := 13) (by decide) rfl mX6_sea_29 dX6_sea_160 ?_
    refine g_iload_n (ps := 1) dX6_sea_163 rfl rfl ?_
    obtain ⟨z28, hf⟩ := ck_s hf
    refine g_iald (hW _ _ _ hv0 13 _ rfl) z28 dX6_sea_164 ?_
    obtain ⟨z29, hf⟩ := ck_s hf
    refine g_iast (hW _ _ _ hv0 21 _ rfl) z29 dX6_sea_165 ?_
    refine g_topH (fun h30 eh30 => ?_)
    have hf := lE_s hf eh30
    obtain ⟨x31, ex31⟩ : ∃ y : Int32, y = v2 + 1 := ⟨_, rfl⟩
    have hf := lE_s hf ex31
    refine g_iinc (ps := 1) (v := x31) (L' := [(2, .int x31), (0, .ref v0)]) dX6_sea_166 rfl (by rw [ex31]; rfl) (by decide) rfl ?_
    refine g_goto (tgt := 146) dX6_sea_169 (by decide) ?_
    exact g_pick [1, 0] rfl (hk _ (Option.some.inj hf).symm)
set_option maxHeartbeats 4000000 in
set_option maxRecDepth 100000 in
theorem ubX6_sea_174 {S : Shp} {n : Nat} {r : Rf} {out : Option Int32 × Hp} {r' : Rf} {v0 : Nat} {v2 : Int32}  {h : Hp} {w : (Int32 × Hp) ⊕ (Hp)} (hW : WF S r) (hv0 : S[v0]? = some (6, 38)) (hf : bX6_sea_174 n r v0 v2 h = some w) (hk : ∀ y, w = .inl y → GX6_sea S r r' out 174 [(0, .ref v0), (2, .int (y.1))] [] (y.2)) (he : ∀ z, w = .inr z → GX6_sea S r r' out 193 [(0, .ref v0)] [] (z)) : GX6_sea S r r' out 174 [(0, .ref v0), (2, .int v2)] [] h := by
  unfold bX6_sea_174 at hf
  refine g_iload_n (ps := 1) dX6_sea_174 rfl rfl ?_
  refine g_bipush (v := 16) dX6_sea_175 (by decide +kernel) ?_
  refine g_icmp_ge (tgt := 193) dX6_sea_177 (by decide) (fun c32 => ?_) (fun c32 => ?_)
  · have hf := if_t hf c32
    exact g_pick [0] rfl (he _ (Option.some.inj hf).symm)
  · have hf := if_f hf c32
    refine g_aload_n (ps := 0) dX6_sea_180 rfl rfl ?_
    refine g_getR cf6 hv0 nX6_sea_X6 (j := 22) (by decide) rfl mX6_sea_47 dX6_sea_181 ?_
    refine g_iload_n (ps := 1) dX6_sea_184 rfl rfl ?_
    refine g_iconst (v := 0) dX6_sea_185 (by decide +kernel) ?_
    obtain ⟨z33, hf⟩ := ck_s hf
    refine g_iast (hW _ _ _ hv0 22 _ rfl) z33 dX6_sea_186 ?_
    refine g_topH (fun h34 eh34 => ?_)
    have hf := lE_s hf eh34
    obtain ⟨x35, ex35⟩ : ∃ y : Int32, y = v2 + 1 := ⟨_, rfl⟩
    have hf := lE_s hf ex35
    refine g_iinc (ps := 1) (v := x35) (L' := [(2, .int x35), (0, .ref v0)]) dX6_sea_187 rfl (by rw [ex35]; rfl) (by decide) rfl ?_
    refine g_goto (tgt := 174) dX6_sea_190 (by decide) ?_
    exact g_pick [1, 0] rfl (hk _ (Option.some.inj hf).symm)
set_option maxHeartbeats 4000000 in
set_option maxRecDepth 100000 in
theorem ujX6_sea_224 {S : Shp} {n : Nat} {r : Rf} {v0 : Nat} {s0 : Int32} {s1 : Int32} {h : Hp} {o : (Int32 × Hp)} (hW : WF S r) (hv0 : S[v0]? = some (6, 38)) (hf : jX6_sea_224 n r v0 s0 s1 h = some o)  : GX6_sea S r r (some o.1, o.2) 224 [(0, .ref v0)] [.int s0, .int s1, .ref (r v0 22)] h := by
  unfold jX6_sea_224 at hf
  obtain ⟨z39, hf⟩ := ck_s hf
  refine g_iast (hW _ _ _ hv0 22 _ rfl) z39 dX6_sea_224 ?_
  refine g_topH (fun h40 eh40 => ?_)
  have hf := lE_s hf eh40
  refine g_aload_n (ps := 0) dX6_sea_225 rfl rfl ?_
  refine g_iconst (v := 0) dX6_sea_226 (by decide +kernel) ?_
  refine g_putI cf6 hv0 nX6_sea_X6 (j := 24) (by decide) rfl mX6_sea_150 rfl dX6_sea_227 ?_
  refine g_topH (fun h41 eh41 => ?_)
  have hf := lE_s hf eh41
  refine g_aload_n (ps := 0) dX6_sea_230 rfl rfl ?_
  refine g_iconst (v := 0) dX6_sea_231 (by decide +kernel) ?_
  refine g_putI cf6 hv0 nX6_sea_X6 (j := 28) (by decide) rfl mX6_sea_153 rfl dX6_sea_232 ?_
  refine g_topH (fun h42 eh42 => ?_)
  have hf := lE_s hf eh42
  refine g_aload_n (ps := 0) dX6_sea_235 rfl rfl ?_
  refine g_iconst (v := 0) dX6_sea_236 (by decide +kernel) ?_
  refine g_putI cf6 hv0 nX6_sea_X6 (j := 32) (by decide) rfl mX6_sea_156 rfl dX6_sea_237 ?_
  refine g_topH (fun h43 eh43 => ?_)
  have hf := lE_s hf eh43
  refine g_aload_n (ps := 0) dX6_sea_240 rfl rfl ?_
  refine g_getR cf6 hv0 nX6_sea_X6 (j := 35) (by decide) rfl mX6_sea_72 dX6_sea_241 ?_
  refine g_iconst (v := 0) dX6_sea_244 (by decide +kernel) ?_
  refine g_iconst (v := 0) dX6_sea_245 (by decide +kernel) ?_
  obtain ⟨z44, hf⟩ := ck_s hf
  refine g_zast (hW _ _ _ hv0 35 _ rfl) z44 dX6_sea_246 ?_
  refine g_topH (fun h45 eh45 => ?_)
  have hf := lE_s hf eh45
  refine g_aload_n (ps := 0) dX6_sea_247 rfl rfl ?_
  refine g_getR cf6 hv0 nX6_sea_X6 (j := 35) (by decide) rfl mX6_sea_72 dX6_sea_248 ?_
  refine g_iconst (v := 1) dX6_sea_251 (by decide +kernel) ?_
  refine g_iconst (v := 0) dX6_sea_252 (by decide +kernel) ?_
  obtain ⟨z46, hf⟩ := ck_s hf
  refine g_zast (hW _ _ _ hv0 35 _ rfl) z46 dX6_sea_253 ?_
  refine g_topH (fun h47 eh47 => ?_)
  have hf := lE_s hf eh47
  refine g_aload_n (ps := 0) dX6_sea_254 rfl rfl ?_
  refine g_getI cf6 hv0 nX6_sea_X6 (j := 15) (by decide) rfl mX6_sea_144 dX6_sea_255 ?_
  have hf := Option.some.inj hf
  subst hf
  exact g_iret dX6_sea_258
set_option maxHeartbeats 4000000 in
set_option maxRecDepth 100000 in
theorem ulX6_sea_174 {S : Shp} {n : Nat} {r : Rf} {v0 : Nat} {v2 : Int32}  {h : Hp} {o : (Int32 × Hp)} (hW : WF S r) (hv0 : S[v0]? = some (6, 38)) (hf : lX6_sea_174 n r v0 v2 h = some o)  : GX6_sea S r r (some o.1, o.2) 174 [(0, .ref v0), (2, .int v2)] [] h := by
  unfold lX6_sea_174 at hf
  obtain ⟨z0, ei, hf⟩ := bd_s hf
  refine it_ind (P := fun (s : Int32 × Hp) => GX6_sea S r r (some o.1, o.2) 174 [(0, .ref v0), (2, .int (s.1))] [] (s.2)) (fun s w hb hk2 he2 => ?_) n _ ei
  refine ubX6_sea_174 (out := (some o.1, o.2)) (r' := r) hW hv0 hb hk2 (fun z hz => ?_)
  have hz := he2 z hz
  subst hz
  refine g_aload_n (ps := 0) dX6_sea_193 rfl rfl ?_
  refine g_getR cf6 hv0 nX6_sea_X6 (j := 22) (by decide) rfl mX6_sea_47 dX6_sea_194 ?_
  refine g_iconst (v := 0) dX6_sea_197 (by decide +kernel) ?_
  refine g_iconst (v := 1) dX6_sea_198 (by decide +kernel) ?_
  refine g_aload_n (ps := 0) dX6_sea_199 rfl rfl ?_
  refine g_getI cf6 hv0 nX6_sea_X6 (j := 15) (by decide) rfl mX6_sea_144 dX6_sea_200 ?_
  refine g_ishl dX6_sea_203 ?_
  refine g_iconst (v := 1) dX6_sea_204 (by decide +kernel) ?_
  refine g_isub dX6_sea_205 ?_
  obtain ⟨z36, hf⟩ := ck_s hf
  refine g_iast (hW _ _ _ hv0 22 _ rfl) z36 dX6_sea_206 ?_
  refine g_topH (fun h37 eh37 => ?_)
  have hf := lE_s hf eh37
  refine g_aload_n (ps := 0) dX6_sea_207 rfl rfl ?_
  refine g_getR cf6 hv0 nX6_sea_X6 (j := 22) (by decide) rfl mX6_sea_47 dX6_sea_208 ?_
  refine g_iconst (v := 4) dX6_sea_211 (by decide +kernel) ?_
  refine g_aload_n (ps := 0) dX6_sea_212 rfl rfl ?_
  refine g_getI cf6 hv0 nX6_sea_X6 (j := 14) (by decide) rfl mX6_sea_141 dX6_sea_213 ?_
  refine g_if_ne (tgt := 223) dX6_sea_216 (by decide) (fun c38 => ?_) (fun c38 => ?_)
  · have hf := if_f hf c38
    refine g_iconst (v := 3) dX6_sea_223 (by decide +kernel) ?_
    exact g_pick [0] rfl (ujX6_sea_224 hW hv0 hf)
  · have hf := if_t hf c38
    refine g_iconst (v := 0) dX6_sea_219 (by decide +kernel) ?_
    refine g_goto (tgt := 224) dX6_sea_220 (by decide) ?_
    exact g_pick [0] rfl (ujX6_sea_224 hW hv0 hf)
set_option maxHeartbeats 4000000 in
set_option maxRecDepth 100000 in
theorem ulX6_sea_146 {S : Shp} {n : Nat} {r : Rf} {v0 : Nat} {v2 : Int32}  {h : Hp} {o : (Int32 × Hp)} (hW : WF S r) (hv0 : S[v0]? = some (6, 38)) (hf : lX6_sea_146 n r v0 v2 h = some o)  : GX6_sea S r r (some o.1, o.2) 146 [(0, .ref v0), (2, .int v2)] [] h := by
  unfold lX6_sea_146 at hf
  obtain ⟨z0, ei, hf⟩ := bd_s hf
  refine it_ind (P := fun (s : Int32 × Hp) => GX6_sea S r r (some o.1, o.2) 146 [(0, .ref v0), (2, .int (s.1))] [] (s.2)) (fun s w hb hk2 he2 => ?_) n _ ei
  refine ubX6_sea_146 (out := (some o.1, o.2)) (r' := r) hW hv0 hb hk2 (fun z hz => ?_)
  have hz := he2 z hz
  subst hz
  refine g_iconst (v := 0) dX6_sea_172 (by decide +kernel) ?_
  refine g_istore_n (L' := [(2, .int 0), (0, .ref v0)]) dX6_sea_173 rfl (by decide) rfl ?_
  exact g_pick [1, 0] rfl (ulX6_sea_174 hW hv0 hf)
set_option maxHeartbeats 4000000 in
set_option maxRecDepth 100000 in
theorem ulX6_sea_106 {S : Shp} {n : Nat} {r : Rf} {v0 : Nat} {v2 : Int32}  {h : Hp} {o : (Int32 × Hp)} (hW : WF S r) (hv0 : S[v0]? = some (6, 38)) (hf : lX6_sea_106 n r v0 v2 h = some o)  : GX6_sea S r r (some o.1, o.2) 106 [(0, .ref v0), (2, .int v2)] [] h := by
  unfold lX6_sea_106 at hf
  obtain ⟨z0, ei, hf⟩ := bd_s hf
  refine it_ind (P := fun (s : Int32 × Hp) => GX6_sea S r r (some o.1, o.2) 106 [(0, .ref v0), (2, .int (s.1))] [] (s.2)) (fun s w hb hk2 he2 => ?_) n _ ei
  refine ubX6_sea_106 (out := (some o.1, o.2)) (r' := r) hW hv0 hb hk2 (fun z hz => ?_)
  have hz := he2 z hz
  subst hz
  refine g_iconst (v := 0) dX6_sea_144 (by decide +kernel) ?_
  refine g_istore_n (L' := [(2, .int 0), (0, .ref v0)]) dX6_sea_145 rfl (by decide) rfl ?_
  exact g_pick [1, 0] rfl (ulX6_sea_146 hW hv0 hf)
set_option maxHeartbeats 4000000 in
set_option maxRecDepth 100000 in
theorem ulX6_sea_64 {S : Shp} {n : Nat} {r : Rf} {v0 : Nat} {v2 : Int32}  {h : Hp} {o : (Int32 × Hp)} (hW : WF S r) (hv0 : S[v0]? = some (6, 38)) (hf : lX6_sea_64 n r v0 v2 h = some o)  : GX6_sea S r r (some o.1, o.2) 64 [(0, .ref v0), (2, .int v2)] [] h := by
  unfold lX6_sea_64 at hf
  obtain ⟨z0, ei, hf⟩ := bd_s hf
  refine it_ind (P := fun (s : Int32 × Hp) => GX6_sea S r r (some o.1, o.2) 64 [(0, .ref v0), (2, .int (s.1))] [] (s.2)) (fun s w hb hk2 he2 => ?_) n _ ei
  refine ubX6_sea_64 (out := (some o.1, o.2)) (r' := r) hW hv0 hb hk2 (fun z hz => ?_)
  have hz := he2 z hz
  subst hz
  refine g_iconst (v := 0) dX6_sea_104 (by decide +kernel) ?_
  refine g_istore_n (L' := [(2, .int 0), (0, .ref v0)]) dX6_sea_105 rfl (by decide) rfl ?_
  exact g_pick [1, 0] rfl (ulX6_sea_106 hW hv0 hf)
set_option maxHeartbeats 4000000 in
set_option maxRecDepth 100000 in
theorem ujX6_sea_23 {S : Shp} {n : Nat} {r : Rf} {v0 : Nat} {v1 : Int32} {s0 : Int32} {h : Hp} {o : (Int32 × Hp)} (hW : WF S r) (hv0 : S[v0]? = some (6, 38)) (hf : jX6_sea_23 n r v0 v1 s0 h = some o)  : GX6_sea S r r (some o.1, o.2) 23 [(0, .ref v0), (1, .int v1)] [.int s0, .ref v0] h := by
  unfold jX6_sea_23 at hf
  refine g_putI cf6 hv0 nX6_sea_X6 (j := 5) (by decide) rfl mX6_sea_13 rfl dX6_sea_23 ?_
  refine g_topH (fun h6 eh6 => ?_)
  have hf := lE_s hf eh6
  refine g_iload_n (ps := 1) dX6_sea_26 rfl rfl ?_
  refine g_if_ne (tgt := 38) dX6_sea_27 (by decide) (fun c7 => ?_) (fun c7 => ?_)
  · have hf := if_f hf c7
    refine g_aload_n (ps := 0) dX6_sea_38 rfl rfl ?_
    refine g_aload_n (ps := 0) dX6_sea_39 rfl rfl ?_
    refine g_getI cf6 hv0 nX6_sea_X6 (j := 6) (by decide) rfl mX6_sea_115 dX6_sea_40 ?_
    refine g_putI cf6 hv0 nX6_sea_X6 (j := 14) (by decide) rfl mX6_sea_141 rfl dX6_sea_43 ?_
    refine g_topH (fun h8 eh8 => ?_)
    have hf := lE_s hf eh8
    refine g_aload_n (ps := 0) dX6_sea_46 rfl rfl ?_
    refine g_aload_n (ps := 0) dX6_sea_47 rfl rfl ?_
    refine g_getI cf6 hv0 nX6_sea_X6 (j := 7) (by decide) rfl mX6_sea_112 dX6_sea_48 ?_
    refine g_putI cf6 hv0 nX6_sea_X6 (j := 15) (by decide) rfl mX6_sea_144 rfl dX6_sea_51 ?_
    refine g_topH (fun h9 eh9 => ?_)
    have hf := lE_s hf eh9
    refine g_aload_n (ps := 0) dX6_sea_54 rfl rfl ?_
    refine g_aload_n (ps := 0) dX6_sea_55 rfl rfl ?_
    refine g_getI cf6 hv0 nX6_sea_X6 (j := 8) (by decide) rfl mX6_sea_125 dX6_sea_56 ?_
    refine g_putI cf6 hv0 nX6_sea_X6 (j := 16) (by decide) rfl mX6_sea_147 rfl dX6_sea_59 ?_
    refine g_topH (fun h10 eh10 => ?_)
    have hf := lE_s hf eh10
    refine g_iconst (v := 0) dX6_sea_62 (by decide +kernel) ?_
    refine g_istore_n (L' := [(2, .int 0), (0, .ref v0), (1, .int v1)]) dX6_sea_63 rfl (by decide) rfl ?_
    exact g_pick [1, 0] rfl (ulX6_sea_64 hW hv0 hf)
  · have hf := if_t hf c7
    refine g_bipush (v := (-10)) dX6_sea_30 (by decide +kernel) ?_
    refine g_aload_n (ps := 0) dX6_sea_32 rfl rfl ?_
    refine g_getI cf6 hv0 nX6_sea_X6 (j := 4) (by decide) rfl mX6_sea_98 dX6_sea_33 ?_
    refine g_isub dX6_sea_36 ?_
    have hf := Option.some.inj hf
    subst hf
    exact g_iret dX6_sea_37
set_option maxHeartbeats 4000000 in
set_option maxRecDepth 100000 in
theorem uX6_sea {S : Shp} {n : Nat} {r : Rf} {v0 : Nat} {h : Hp} {o : (Int32 × Hp)} (hW : WF S r) (hv0 : S[v0]? = some (6, 38)) (hf : fX6_sea n r v0 h = some o) : GX6_sea S r r (some o.1, o.2) 0 [(0, .ref v0)] [] h := by
  unfold fX6_sea at hf
  refine g_aload_n (ps := 0) dX6_sea_0 rfl rfl ?_
  obtain ⟨x2, h3, e1, hf⟩ := bd2_s hf
  refine g_callVi (As := []) (n := 0) (kX6_readsSea hW hv0 e1) gX6_sea_X6_readsSea rfl ⟨rfl, rfl⟩ ⟨rfl, hdX6_readsSea⟩ ⟨Nat.le_of_ble_eq_true rfl, Nat.le_of_ble_eq_true rfl⟩ cf6 hv0 rfl rfl (Nat.le_of_ble_eq_true rfl) dX6_sea_1 ?_
  refine g_istore_n (L' := [(1, .int x2), (0, .ref v0)]) dX6_sea_4 rfl (by decide) rfl ?_
  refine g_aload_n (ps := 1) dX6_sea_5 rfl rfl ?_
  refine g_iconst (v := 0) dX6_sea_6 (by decide +kernel) ?_
  refine g_putI cf6 hv0 nX6_sea_X6 (j := 0) (by decide) rfl mX6_sea_87 rfl dX6_sea_7 ?_
  refine g_topH (fun h4 eh4 => ?_)
  have hf := lE_s hf eh4
  refine g_aload_n (ps := 1) dX6_sea_10 rfl rfl ?_
  refine g_iload_n (ps := 0) dX6_sea_11 rfl rfl ?_
  refine g_if_eq (tgt := 19) dX6_sea_12 (by decide) (fun c5 => ?_) (fun c5 => ?_)
  · have hf := if_t hf c5
    refine g_aload_n (ps := 1) dX6_sea_19 rfl rfl ?_
    refine g_getI cf6 hv0 nX6_sea_X6 (j := 2) (by decide) rfl mX6_sea_91 dX6_sea_20 ?_
    exact g_pick [1, 0] rfl (ujX6_sea_23 hW hv0 hf)
  · have hf := if_f hf c5
    refine g_iconst (v := (-1)) dX6_sea_15 (by decide +kernel) ?_
    refine g_goto (tgt := 23) dX6_sea_16 (by decide) ?_
    exact g_pick [1, 0] rfl (ujX6_sea_23 hW hv0 hf)
theorem kX6_sea {S : Shp} {n : Nat} {r : Rf} {v0 : Nat} {h : Hp} {o : (Int32 × Hp)} (hW : WF S r) (hv0 : S[v0]? = some (6, 38)) (hf : fX6_sea n r v0 h = some o) : CTi yX6_sea wsX6_sea rmX6_sea S r [.ref v0] h r o.1 o.2 :=
  cti_of rfl (by decide +kernel) rfl (Nat.le_of_ble_eq_true rfl) rfl (uX6_sea hW hv0 hf)
/-! X6_fault fault -/
def rmX6_fault : Room := { frames := 0, cells := 0, slots := 0, locals := 0 }
abbrev GX6_fault (S : Shp) (r r' : Rf) (out : Option Int32 × Hp) (pc : Nat) (L : List (Nat × Value)) (st : List Value) (h : Hp) : Prop := G RX6 cX6_fault 1 (some .int) wsX6_fault rmX6_fault S r r' out pc L st h
theorem nX6_fault_X6 : ∀ w ∈ wsX60, w ∈ wsX6_fault := by decide +kernel
theorem mX6_fault_13 : Cond.fieldLink RX6 13 "LinkedIslesModel" "faultAt" "I" ∈ wsX6_fault := by decide +kernel
theorem hdX6_fault : yX6_fault.cls ≠ "java/lang/invoke/MethodHandle" ∧ yX6_fault.cls ≠ "java/lang/invoke/VarHandle" ∧ (parseMethodDescriptor yX6_fault.desc).map (fun d => d.parameters.length) = some 0 := by decide +kernel
def fX6_fault (n : Nat) (r : Rf) (v0 : Nat) (h : Hp) : Option Int32 :=
  some (h.1 v0 5)
set_option maxHeartbeats 4000000 in
set_option maxRecDepth 100000 in
theorem uX6_fault {S : Shp} {n : Nat} {r : Rf} {v0 : Nat} {h : Hp} {o : Int32} (hW : WF S r) (hv0 : S[v0]? = some (6, 38)) (hf : fX6_fault n r v0 h = some o) : GX6_fault S r r (some o, h) 0 [(0, .ref v0)] [] h := by
  unfold fX6_fault at hf
  refine g_aload_n (ps := 0) dX6_fault_0 rfl rfl ?_
  refine g_getI cf6 hv0 nX6_fault_X6 (j := 5) (by decide) rfl mX6_fault_13 dX6_fault_1 ?_
  have hf := Option.some.inj hf
  subst hf
  exact g_iret dX6_fault_4
theorem kX6_fault {S : Shp} {n : Nat} {r : Rf} {v0 : Nat} {h : Hp} {o : Int32} (hW : WF S r) (hv0 : S[v0]? = some (6, 38)) (hf : fX6_fault n r v0 h = some o) : CTi yX6_fault wsX6_fault rmX6_fault S r [.ref v0] h r o h :=
  cti_of rfl (by decide +kernel) rfl (Nat.le_of_ble_eq_true rfl) rfl (uX6_fault hW hv0 hf)
/-! X6_isIsland isIsland -/
def rmX6_isIsland : Room := { frames := 1, cells := 0, slots := 0, locals := 22 }
abbrev GX6_isIsland (S : Shp) (r r' : Rf) (out : Option Int32 × Hp) (pc : Nat) (L : List (Nat × Value)) (st : List Value) (h : Hp) : Prop := G RX6 cX6_isIsland 2 (some .boolean) wsX6_isIsland rmX6_isIsland S r r' out pc L st h
theorem nX6_isIsland_X6 : ∀ w ∈ wsX60, w ∈ wsX6_isIsland := by decide +kernel
theorem mX6_isIsland_141 : Cond.fieldLink RX6 141 "LinkedIslesModel" "n" "I" ∈ wsX6_isIsland := by decide +kernel
theorem hdX6_isIsland : yX6_isIsland.cls ≠ "java/lang/invoke/MethodHandle" ∧ yX6_isIsland.cls ≠ "java/lang/invoke/VarHandle" ∧ (parseMethodDescriptor yX6_isIsland.desc).map (fun d => d.parameters.length) = some 1 := by decide +kernel
def fX6_isIsland (n : Nat) (r : Rf) (v0 : Nat) (v1 : Int32) (h : Hp) : Option Int32 :=
  (fX6_in n r v1 0 ((h.1 v0 14) - 1) h).bind (fun (x2 : Int32) => cb x2 (some x2))
set_option maxHeartbeats 4000000 in
set_option maxRecDepth 100000 in
theorem uX6_isIsland {S : Shp} {n : Nat} {r : Rf} {v0 : Nat} {v1 : Int32} {h : Hp} {o : Int32} (hW : WF S r) (hv0 : S[v0]? = some (6, 38)) (hf : fX6_isIsland n r v0 v1 h = some o) : GX6_isIsland S r r (some o, h) 0 [(0, .ref v0), (1, .int v1)] [] h := by
  unfold fX6_isIsland at hf
  refine g_iload_n (ps := 1) dX6_isIsland_0 rfl rfl ?_
  refine g_iconst (v := 0) dX6_isIsland_1 (by decide +kernel) ?_
  refine g_aload_n (ps := 0) dX6_isIsland_2 rfl rfl ?_
  refine g_getI cf6 hv0 nX6_isIsland_X6 (j := 14) (by decide) rfl mX6_isIsland_141 dX6_isIsland_3 ?_
  refine g_iconst (v := 1) dX6_isIsland_6 (by decide +kernel) ?_
  refine g_isub dX6_isIsland_7 ?_
  obtain ⟨x2, e1, hf⟩ := bd_s hf
  refine g_callSi (As := [.int v1, .int 0, .int ((h.1 v0 14) - 1)]) (n := 3) (kX6_in hW  e1) gX6_isIsland_X6_in rfl ⟨rfl, rfl⟩ hdX6_in ⟨Nat.le_of_ble_eq_true rfl, Nat.le_of_ble_eq_true rfl⟩ rfl rfl (Nat.le_of_ble_eq_true rfl) dX6_isIsland_8 ?_
  obtain ⟨z3, hf⟩ := cb_s hf
  have hf := Option.some.inj hf
  subst hf
  exact g_zret z3 dX6_isIsland_11
theorem kX6_isIsland {S : Shp} {n : Nat} {r : Rf} {v0 : Nat} {v1 : Int32} {h : Hp} {o : Int32} (hW : WF S r) (hv0 : S[v0]? = some (6, 38)) (hf : fX6_isIsland n r v0 v1 h = some o) : CTi yX6_isIsland wsX6_isIsland rmX6_isIsland S r [.ref v0, .int v1] h r o h :=
  cti_of rfl (by decide +kernel) rfl (Nat.le_of_ble_eq_true rfl) rfl (uX6_isIsland hW hv0 hf)
/-! X6_isLink isLink -/
def rmX6_isLink : Room := { frames := 1, cells := 0, slots := 0, locals := 22 }
abbrev GX6_isLink (S : Shp) (r r' : Rf) (out : Option Int32 × Hp) (pc : Nat) (L : List (Nat × Value)) (st : List Value) (h : Hp) : Prop := G RX6 cX6_isLink 2 (some .boolean) wsX6_isLink rmX6_isLink S r r' out pc L st h
theorem nX6_isLink_X6 : ∀ w ∈ wsX60, w ∈ wsX6_isLink := by decide +kernel
theorem mX6_isLink_144 : Cond.fieldLink RX6 144 "LinkedIslesModel" "m" "I" ∈ wsX6_isLink := by decide +kernel
theorem hdX6_isLink : yX6_isLink.cls ≠ "java/lang/invoke/MethodHandle" ∧ yX6_isLink.cls ≠ "java/lang/invoke/VarHandle" ∧ (parseMethodDescriptor yX6_isLink.desc).map (fun d => d.parameters.length) = some 1 := by decide +kernel
def fX6_isLink (n : Nat) (r : Rf) (v0 : Nat) (v1 : Int32) (h : Hp) : Option Int32 :=
  (fX6_in n r v1 0 ((h.1 v0 15) - 1) h).bind (fun (x2 : Int32) => cb x2 (some x2))
set_option maxHeartbeats 4000000 in
set_option maxRecDepth 100000 in
theorem uX6_isLink {S : Shp} {n : Nat} {r : Rf} {v0 : Nat} {v1 : Int32} {h : Hp} {o : Int32} (hW : WF S r) (hv0 : S[v0]? = some (6, 38)) (hf : fX6_isLink n r v0 v1 h = some o) : GX6_isLink S r r (some o, h) 0 [(0, .ref v0), (1, .int v1)] [] h := by
  unfold fX6_isLink at hf
  refine g_iload_n (ps := 1) dX6_isLink_0 rfl rfl ?_
  refine g_iconst (v := 0) dX6_isLink_1 (by decide +kernel) ?_
  refine g_aload_n (ps := 0) dX6_isLink_2 rfl rfl ?_
  refine g_getI cf6 hv0 nX6_isLink_X6 (j := 15) (by decide) rfl mX6_isLink_144 dX6_isLink_3 ?_
  refine g_iconst (v := 1) dX6_isLink_6 (by decide +kernel) ?_
  refine g_isub dX6_isLink_7 ?_
  obtain ⟨x2, e1, hf⟩ := bd_s hf
  refine g_callSi (As := [.int v1, .int 0, .int ((h.1 v0 15) - 1)]) (n := 3) (kX6_in hW  e1) gX6_isLink_X6_in rfl ⟨rfl, rfl⟩ hdX6_in ⟨Nat.le_of_ble_eq_true rfl, Nat.le_of_ble_eq_true rfl⟩ rfl rfl (Nat.le_of_ble_eq_true rfl) dX6_isLink_8 ?_
  obtain ⟨z3, hf⟩ := cb_s hf
  have hf := Option.some.inj hf
  subst hf
  exact g_zret z3 dX6_isLink_11
theorem kX6_isLink {S : Shp} {n : Nat} {r : Rf} {v0 : Nat} {v1 : Int32} {h : Hp} {o : Int32} (hW : WF S r) (hv0 : S[v0]? = some (6, 38)) (hf : fX6_isLink n r v0 v1 h = some o) : CTi yX6_isLink wsX6_isLink rmX6_isLink S r [.ref v0, .int v1] h r o h :=
  cti_of rfl (by decide +kernel) rfl (Nat.le_of_ble_eq_true rfl) rfl (uX6_isLink hW hv0 hf)
/-! X6_areTwo areTwo -/
def rmX6_areTwo : Room := { frames := 2, cells := 0, slots := 0, locals := 43 }
abbrev GX6_areTwo (S : Shp) (r r' : Rf) (out : Option Int32 × Hp) (pc : Nat) (L : List (Nat × Value)) (st : List Value) (h : Hp) : Prop := G RX6 cX6_areTwo 3 (some .boolean) wsX6_areTwo rmX6_areTwo S r r' out pc L st h
theorem hdX6_areTwo : yX6_areTwo.cls ≠ "java/lang/invoke/MethodHandle" ∧ yX6_areTwo.cls ≠ "java/lang/invoke/VarHandle" ∧ (parseMethodDescriptor yX6_areTwo.desc).map (fun d => d.parameters.length) = some 2 := by decide +kernel
def fX6_areTwo (n : Nat) (r : Rf) (v0 : Nat) (v1 : Int32) (v2 : Int32) (h : Hp) : Option Int32 :=
  (fX6_isIsland n r v0 v1 h).bind (fun (x2 : Int32) => if x2 = 0 then (some 0) else ((fX6_isIsland n r v0 v2 h).bind (fun (x5 : Int32) => if x5 = 0 then (some 0) else (if v1 = v2 then (some 0) else (some 1)))))
set_option maxHeartbeats 4000000 in
set_option maxRecDepth 100000 in
theorem uX6_areTwo {S : Shp} {n : Nat} {r : Rf} {v0 : Nat} {v1 : Int32} {v2 : Int32} {h : Hp} {o : Int32} (hW : WF S r) (hv0 : S[v0]? = some (6, 38)) (hf : fX6_areTwo n r v0 v1 v2 h = some o) : GX6_areTwo S r r (some o, h) 0 [(0, .ref v0), (1, .int v1), (2, .int v2)] [] h := by
  unfold fX6_areTwo at hf
  refine g_aload_n (ps := 0) dX6_areTwo_0 rfl rfl ?_
  refine g_iload_n (ps := 1) dX6_areTwo_1 rfl rfl ?_
  obtain ⟨x2, e1, hf⟩ := bd_s hf
  refine g_callVi (As := [.int v1]) (n := 1) (kX6_isIsland hW hv0 e1) gX6_areTwo_X6_isIsland rfl ⟨rfl, rfl⟩ ⟨rfl, hdX6_isIsland⟩ ⟨Nat.le_of_ble_eq_true rfl, Nat.le_of_ble_eq_true rfl⟩ cf6 hv0 rfl rfl (Nat.le_of_ble_eq_true rfl) dX6_areTwo_2 ?_
  refine g_if_eq (tgt := 25) dX6_areTwo_5 (by decide) (fun c3 => ?_) (fun c3 => ?_)
  · have hf := if_t hf c3
    refine g_iconst (v := 0) dX6_areTwo_25 (by decide +kernel) ?_
    have hf := Option.some.inj hf
    subst hf
    exact g_zret (Or.inl rfl) dX6_areTwo_26
  · have hf := if_f hf c3
    refine g_aload_n (ps := 0) dX6_areTwo_8 rfl rfl ?_
    refine g_iload_n (ps := 2) dX6_areTwo_9 rfl rfl ?_
    obtain ⟨x5, e4, hf⟩ := bd_s hf
    refine g_callVi (As := [.int v2]) (n := 1) (kX6_isIsland hW hv0 e4) gX6_areTwo_X6_isIsland rfl ⟨rfl, rfl⟩ ⟨rfl, hdX6_isIsland⟩ ⟨Nat.le_of_ble_eq_true rfl, Nat.le_of_ble_eq_true rfl⟩ cf6 hv0 rfl rfl (Nat.le_of_ble_eq_true rfl) dX6_areTwo_10 ?_
    refine g_if_eq (tgt := 25) dX6_areTwo_13 (by decide) (fun c6 => ?_) (fun c6 => ?_)
    · have hf := if_t hf c6
      refine g_iconst (v := 0) dX6_areTwo_25 (by decide +kernel) ?_
      have hf := Option.some.inj hf
      subst hf
      exact g_zret (Or.inl rfl) dX6_areTwo_26
    · have hf := if_f hf c6
      refine g_iload_n (ps := 1) dX6_areTwo_16 rfl rfl ?_
      refine g_iload_n (ps := 2) dX6_areTwo_17 rfl rfl ?_
      refine g_icmp_eq (tgt := 25) dX6_areTwo_18 (by decide) (fun c7 => ?_) (fun c7 => ?_)
      · have hf := if_t hf c7
        refine g_iconst (v := 0) dX6_areTwo_25 (by decide +kernel) ?_
        have hf := Option.some.inj hf
        subst hf
        exact g_zret (Or.inl rfl) dX6_areTwo_26
      · have hf := if_f hf c7
        refine g_iconst (v := 1) dX6_areTwo_21 (by decide +kernel) ?_
        refine g_goto (tgt := 26) dX6_areTwo_22 (by decide) ?_
        have hf := Option.some.inj hf
        subst hf
        exact g_zret (Or.inr rfl) dX6_areTwo_26
theorem kX6_areTwo {S : Shp} {n : Nat} {r : Rf} {v0 : Nat} {v1 : Int32} {v2 : Int32} {h : Hp} {o : Int32} (hW : WF S r) (hv0 : S[v0]? = some (6, 38)) (hf : fX6_areTwo n r v0 v1 v2 h = some o) : CTi yX6_areTwo wsX6_areTwo rmX6_areTwo S r [.ref v0, .int v1, .int v2] h r o h :=
  cti_of rfl (by decide +kernel) rfl (Nat.le_of_ble_eq_true rfl) rfl (uX6_areTwo hW hv0 hf)
/-! X6_windOf windOf -/
def rmX6_windOf : Room := { frames := 0, cells := 0, slots := 0, locals := 0 }
abbrev GX6_windOf (S : Shp) (r r' : Rf) (out : Option Int32 × Hp) (pc : Nat) (L : List (Nat × Value)) (st : List Value) (h : Hp) : Prop := G RX6 cX6_windOf 2 (some .int) wsX6_windOf rmX6_windOf S r r' out pc L st h
theorem nX6_windOf_X6 : ∀ w ∈ wsX60, w ∈ wsX6_windOf := by decide +kernel
theorem mX6_windOf_147 : Cond.fieldLink RX6 147 "LinkedIslesModel" "windMany" "I" ∈ wsX6_windOf := by decide +kernel
theorem mX6_windOf_44 : Cond.fieldLink RX6 44 "LinkedIslesModel" "winds" "[I" ∈ wsX6_windOf := by decide +kernel
theorem hdX6_windOf : yX6_windOf.cls ≠ "java/lang/invoke/MethodHandle" ∧ yX6_windOf.cls ≠ "java/lang/invoke/VarHandle" ∧ (parseMethodDescriptor yX6_windOf.desc).map (fun d => d.parameters.length) = some 1 := by decide +kernel
def fX6_windOf (n : Nat) (r : Rf) (v0 : Nat) (v1 : Int32) (h : Hp) : Option Int32 :=
  if (h.1 v0 16) = 0 then (some 0) else (cz (h.1 v0 16) (ck (v1 - v1 / (h.1 v0 16) * (h.1 v0 16)) 12 (some (h.1 (r v0 21) (Int32.toNatClampNeg (v1 - v1 / (h.1 v0 16) * (h.1 v0 16)))))))
set_option maxHeartbeats 4000000 in
set_option maxRecDepth 100000 in
theorem uX6_windOf {S : Shp} {n : Nat} {r : Rf} {v0 : Nat} {v1 : Int32} {h : Hp} {o : Int32} (hW : WF S r) (hv0 : S[v0]? = some (6, 38)) (hf : fX6_windOf n r v0 v1 h = some o) : GX6_windOf S r r (some o, h) 0 [(0, .ref v0), (1, .int v1)] [] h := by
  unfold fX6_windOf at hf
  refine g_aload_n (ps := 0) dX6_windOf_0 rfl rfl ?_
  refine g_getI cf6 hv0 nX6_windOf_X6 (j := 16) (by decide) rfl mX6_windOf_147 dX6_windOf_1 ?_
  refine g_if_ne (tgt := 11) dX6_windOf_4 (by decide) (fun c1 => ?_) (fun c1 => ?_)
  · have hf := if_f hf c1
    refine g_aload_n (ps := 0) dX6_windOf_11 rfl rfl ?_
    refine g_getR cf6 hv0 nX6_windOf_X6 (j := 21) (by decide) rfl mX6_windOf_44 dX6_windOf_12 ?_
    refine g_iload_n (ps := 1) dX6_windOf_15 rfl rfl ?_
    refine g_aload_n (ps := 0) dX6_windOf_16 rfl rfl ?_
    refine g_getI cf6 hv0 nX6_windOf_X6 (j := 16) (by decide) rfl mX6_windOf_147 dX6_windOf_17 ?_
    obtain ⟨z2, hf⟩ := cz_s hf
    refine g_irem dX6_windOf_20 z2 ?_
    obtain ⟨z3, hf⟩ := ck_s hf
    refine g_iald (hW _ _ _ hv0 21 _ rfl) z3 dX6_windOf_21 ?_
    have hf := Option.some.inj hf
    subst hf
    exact g_iret dX6_windOf_22
  · have hf := if_t hf c1
    refine g_iconst (v := 0) dX6_windOf_7 (by decide +kernel) ?_
    refine g_goto (tgt := 22) dX6_windOf_8 (by decide) ?_
    have hf := Option.some.inj hf
    subst hf
    exact g_iret dX6_windOf_22
theorem kX6_windOf {S : Shp} {n : Nat} {r : Rf} {v0 : Nat} {v1 : Int32} {h : Hp} {o : Int32} (hW : WF S r) (hv0 : S[v0]? = some (6, 38)) (hf : fX6_windOf n r v0 v1 h = some o) : CTi yX6_windOf wsX6_windOf rmX6_windOf S r [.ref v0, .int v1] h r o h :=
  cti_of rfl (by decide +kernel) rfl (Nat.le_of_ble_eq_true rfl) rfl (uX6_windOf hW hv0 hf)
/-! X6_strains strains -/
def rmX6_strains : Room := { frames := 1, cells := 0, slots := 0, locals := 21 }
abbrev GX6_strains (S : Shp) (r r' : Rf) (out : Option Int32 × Hp) (pc : Nat) (L : List (Nat × Value)) (st : List Value) (h : Hp) : Prop := G RX6 cX6_strains 4 (some .int) wsX6_strains rmX6_strains S r r' out pc L st h
theorem nX6_strains_X6 : ∀ w ∈ wsX60, w ∈ wsX6_strains := by decide +kernel
theorem mX6_strains_35 : Cond.fieldLink RX6 35 "LinkedIslesModel" "kinds" "[I" ∈ wsX6_strains := by decide +kernel
theorem hdX6_strains : yX6_strains.cls ≠ "java/lang/invoke/MethodHandle" ∧ yX6_strains.cls ≠ "java/lang/invoke/VarHandle" ∧ (parseMethodDescriptor yX6_strains.desc).map (fun d => d.parameters.length) = some 3 := by decide +kernel
def fX6_strains (n : Nat) (r : Rf) (v0 : Nat) (v1 v1n : Nat) (v2 : Int32) (v3 : Int32) (h : Hp) : Option Int32 :=
  ck v2 10 (lE ((h.1 (r v0 18) (Int32.toNatClampNeg v2))) (fun (x2 : Int32) => if x2 = 0 then (some v3) else (if x2 = 1 then (if 6 ≤ v3 then (some (2 * v3)) else (some 0)) else (if x2 = 2 then (some (v3 / 2)) else (ck 2 v1n ((fX6_has n r (h.1 v1 (Int32.toNatClampNeg 2)) v2 h).bind (fun (x9 : Int32) => if x9 = 0 then (some v3) else (if v3 ≤ 3 then (some 0) else (some (v3 - 3))))))))))
set_option maxHeartbeats 4000000 in
set_option maxRecDepth 100000 in
theorem uX6_strains {S : Shp} {n : Nat} {r : Rf} {v0 : Nat} {v1 v1n : Nat} {v2 : Int32} {v3 : Int32} {h : Hp} {o : Int32} (hW : WF S r) (hv0 : S[v0]? = some (6, 38)) (hv1 : S[v1]? = some (100, v1n)) (hf : fX6_strains n r v0 v1 v1n v2 v3 h = some o) : GX6_strains S r r (some o, h) 0 [(0, .ref v0), (1, .ref v1), (2, .int v2), (3, .int v3)] [] h := by
  unfold fX6_strains at hf
  refine g_aload_n (ps := 0) dX6_strains_0 rfl rfl ?_
  refine g_getR cf6 hv0 nX6_strains_X6 (j := 18) (by decide) rfl mX6_strains_35 dX6_strains_1 ?_
  refine g_iload_n (ps := 2) dX6_strains_4 rfl rfl ?_
  obtain ⟨z1, hf⟩ := ck_s hf
  refine g_iald (hW _ _ _ hv0 18 _ rfl) z1 dX6_strains_5 ?_
  refine g_topi (fun x2 ex2 => ?_)
  have hf := lE_s hf ex2
  by_cases c3 : x2 = 0
  · have hf := if_t hf c3
    refine g_tableIn (off := 26) (tgt := 32) dX6_strains_6 (by rw [c3]; decide +kernel) (by rw [c3]; decide +kernel) (by rw [c3]; decide +kernel) (by decide) ?_
    refine g_iload_n (ps := 3) dX6_strains_32 rfl rfl ?_
    have hf := Option.some.inj hf
    subst hf
    exact g_iret dX6_strains_33
  have hf := if_f hf c3
  by_cases c4 : x2 = 1
  · have hf := if_t hf c4
    refine g_tableIn (off := 28) (tgt := 34) dX6_strains_6 (by rw [c4]; decide +kernel) (by rw [c4]; decide +kernel) (by rw [c4]; decide +kernel) (by decide) ?_
    refine g_iload_n (ps := 3) dX6_strains_34 rfl rfl ?_
    refine g_bipush (v := 6) dX6_strains_35 (by decide +kernel) ?_
    refine g_icmp_ge (tgt := 44) dX6_strains_37 (by decide) (fun c5 => ?_) (fun c5 => ?_)
    · have hf := if_t hf c5
      refine g_iconst (v := 2) dX6_strains_44 (by decide +kernel) ?_
      refine g_iload_n (ps := 3) dX6_strains_45 rfl rfl ?_
      refine g_imul dX6_strains_46 ?_
      have hf := Option.some.inj hf
      subst hf
      exact g_iret dX6_strains_47
    · have hf := if_f hf c5
      refine g_iconst (v := 0) dX6_strains_40 (by decide +kernel) ?_
      refine g_goto (tgt := 47) dX6_strains_41 (by decide) ?_
      have hf := Option.some.inj hf
      subst hf
      exact g_iret dX6_strains_47
  have hf := if_f hf c4
  by_cases c6 : x2 = 2
  · have hf := if_t hf c6
    refine g_tableIn (off := 42) (tgt := 48) dX6_strains_6 (by rw [c6]; decide +kernel) (by rw [c6]; decide +kernel) (by rw [c6]; decide +kernel) (by decide) ?_
    refine g_iload_n (ps := 3) dX6_strains_48 rfl rfl ?_
    refine g_iconst (v := 2) dX6_strains_49 (by decide +kernel) ?_
    refine g_idiv dX6_strains_50 (by decide +kernel) ?_
    have hf := Option.some.inj hf
    subst hf
    exact g_iret dX6_strains_51
  have hf := if_f hf c6
  refine g_tableOut (tgt := 52) dX6_strains_6 (by have q0 := lv_neT c3 (a := 0) (by decide +kernel); have q1 := lv_neT c4 (a := 1) (by decide +kernel); have q2 := lv_neT c6 (a := 2) (by decide +kernel); omega) (by decide) ?_
  refine g_aload_n (ps := 1) dX6_strains_52 rfl rfl ?_
  refine g_iconst (v := 2) dX6_strains_53 (by decide +kernel) ?_
  obtain ⟨z7, hf⟩ := ck_s hf
  refine g_iald hv1 z7 dX6_strains_54 ?_
  refine g_iload_n (ps := 2) dX6_strains_55 rfl rfl ?_
  obtain ⟨x9, e8, hf⟩ := bd_s hf
  refine g_callSi (As := [.int (h.1 v1 (Int32.toNatClampNeg 2)), .int v2]) (n := 2) (kX6_has hW  e8) gX6_strains_X6_has rfl ⟨rfl, rfl⟩ hdX6_has ⟨Nat.le_of_ble_eq_true rfl, Nat.le_of_ble_eq_true rfl⟩ rfl rfl (Nat.le_of_ble_eq_true rfl) dX6_strains_56 ?_
  refine g_if_ne (tgt := 66) dX6_strains_59 (by decide) (fun c10 => ?_) (fun c10 => ?_)
  · have hf := if_f hf c10
    refine g_iload_n (ps := 3) dX6_strains_66 rfl rfl ?_
    refine g_iconst (v := 3) dX6_strains_67 (by decide +kernel) ?_
    refine g_icmp_le (tgt := 77) dX6_strains_68 (by decide) (fun c11 => ?_) (fun c11 => ?_)
    · have hf := if_t hf c11
      refine g_iconst (v := 0) dX6_strains_77 (by decide +kernel) ?_
      have hf := Option.some.inj hf
      subst hf
      exact g_iret dX6_strains_78
    · have hf := if_f hf c11
      refine g_iload_n (ps := 3) dX6_strains_71 rfl rfl ?_
      refine g_iconst (v := 3) dX6_strains_72 (by decide +kernel) ?_
      refine g_isub dX6_strains_73 ?_
      refine g_goto (tgt := 78) dX6_strains_74 (by decide) ?_
      have hf := Option.some.inj hf
      subst hf
      exact g_iret dX6_strains_78
  · have hf := if_t hf c10
    refine g_iload_n (ps := 3) dX6_strains_62 rfl rfl ?_
    refine g_goto (tgt := 78) dX6_strains_63 (by decide) ?_
    have hf := Option.some.inj hf
    subst hf
    exact g_iret dX6_strains_78
theorem kX6_strains {S : Shp} {n : Nat} {r : Rf} {v0 : Nat} {v1 v1n : Nat} {v2 : Int32} {v3 : Int32} {h : Hp} {o : Int32} (hW : WF S r) (hv0 : S[v0]? = some (6, 38)) (hv1 : S[v1]? = some (100, v1n)) (hf : fX6_strains n r v0 v1 v1n v2 v3 h = some o) : CTi yX6_strains wsX6_strains rmX6_strains S r [.ref v0, .ref v1, .int v2, .int v3] h r o h :=
  cti_of rfl (by decide +kernel) rfl (Nat.le_of_ble_eq_true rfl) rfl (uX6_strains hW hv0 hv1 hf)
/-! X6_passes passes -/
def rmX6_passes : Room := { frames := 2, cells := 0, slots := 0, locals := 44 }
abbrev GX6_passes (S : Shp) (r r' : Rf) (out : Option Int32 × Hp) (pc : Nat) (L : List (Nat × Value)) (st : List Value) (h : Hp) : Prop := G RX6 cX6_passes 6 (some .int) wsX6_passes rmX6_passes S r r' out pc L st h
theorem nX6_passes_X6 : ∀ w ∈ wsX60, w ∈ wsX6_passes := by decide +kernel
theorem mX6_passes_144 : Cond.fieldLink RX6 144 "LinkedIslesModel" "m" "I" ∈ wsX6_passes := by decide +kernel
theorem mX6_passes_38 : Cond.fieldLink RX6 38 "LinkedIslesModel" "strengths" "[I" ∈ wsX6_passes := by decide +kernel
theorem hdX6_passes : yX6_passes.cls ≠ "java/lang/invoke/MethodHandle" ∧ yX6_passes.cls ≠ "java/lang/invoke/VarHandle" ∧ (parseMethodDescriptor yX6_passes.desc).map (fun d => d.parameters.length) = some 1 := by decide +kernel
def jX6_passes_74 (n : Nat) (r : Rf) (v0 : Nat) (v1 v1n : Nat) (v2 : Int32) (v3 : Int32) (v4 : Int32) (s0 : Int32) (s1 : Int32) (h : Hp) : Option ((Int32 × Int32 × Hp) ⊕ (Int32 × Hp)) :=
  ck s1 v1n (lE (pI h v1 (Int32.toNatClampNeg s1) s0) (fun (h17 : Hp) => ck (6 + v4) v1n (ck v4 10 (if (h17.1 v1 (Int32.toNatClampNeg (6 + v4))) < (h17.1 (r v0 19) (Int32.toNatClampNeg v4)) then (lE (v4 + (-1)) (fun (x21 : Int32) => some (.inl (v3, x21, h17)))) else (ck 0 v1n (ck 0 v1n (lE (pI h17 v1 (Int32.toNatClampNeg 0) ((h17.1 v1 (Int32.toNatClampNeg 0)) &&& ((1 <<< (v4 &&& 31)) ^^^ (-1)))) (fun (h24 : Hp) => ck 5 v1n (ck 5 v1n (lE (pI h24 v1 (Int32.toNatClampNeg 5) ((h24.1 v1 (Int32.toNatClampNeg 5)) + 1)) (fun (h27 : Hp) => lE (v4 + (-1)) (fun (x28 : Int32) => some (.inl (v4, x28, h27))))))))))))))
def bX6_passes_18 (n : Nat) (r : Rf) (v0 : Nat) (v1 v1n : Nat) (v2 : Int32) (v3 : Int32) (v4 : Int32) (h : Hp) : Option ((Int32 × Int32 × Hp) ⊕ (Int32 × Hp)) :=
  if v4 < 0 then (some (.inr (v3, h))) else (ck 0 v1n ((fX6_has n r (h.1 v1 (Int32.toNatClampNeg 0)) v4 h).bind (fun (x8 : Int32) => if x8 = 0 then (lE (v4 + (-1)) (fun (x10 : Int32) => some (.inl (v3, x10, h)))) else (ck (6 + v4) v1n ((fX6_strains n r v0 v1 v1n v4 v2 h).bind (fun (x13 : Int32) => lE (((h.1 v1 (Int32.toNatClampNeg (6 + v4))) + x13)) (fun (x14 : Int32) => if x14 ≤ 999 then (jX6_passes_74 n r v0 v1 v1n v2 v3 v4 x14 (6 + v4) h) else (jX6_passes_74 n r v0 v1 v1n v2 v3 v4 999 (6 + v4) h))))))))
def lX6_passes_18 (n : Nat) (r : Rf) (v0 : Nat) (v1 v1n : Nat) (v2 : Int32) (v3 : Int32) (v4 : Int32) (h : Hp) : Option (Int32 × Hp) :=
  (it (fun (s : Int32 × Int32 × Hp) => bX6_passes_18 n r v0 v1 v1n v2 s.1 s.2.1 s.2.2) n (v3, v4, h)).bind (fun z => ck 3 v1n (ck 3 v1n (lE (pI (z.2) v1 (Int32.toNatClampNeg 3) (((z.2).1 v1 (Int32.toNatClampNeg 3)) + 1)) (fun (h31 : Hp) => some ((z.1), h31)))))
def fX6_passes (n : Nat) (r : Rf) (v0 : Nat) (v1 v1n : Nat) (h : Hp) : Option (Int32 × Hp) :=
  ck 3 v1n ((fX6_windOf n r v0 (h.1 v1 (Int32.toNatClampNeg 3)) h).bind (fun (x3 : Int32) => lE (((h.1 v0 15) - 1)) (fun (x4 : Int32) => lX6_passes_18 n r v0 v1 v1n x3 (-1) x4 h)))
set_option maxHeartbeats 4000000 in
set_option maxRecDepth 100000 in
theorem ujX6_passes_74 {S : Shp} {n : Nat} {r : Rf} {out : Option Int32 × Hp} {r' : Rf} {v0 : Nat} {v1 v1n : Nat} {v2 : Int32} {v3 : Int32} {v4 : Int32} {s0 : Int32} {s1 : Int32} {h : Hp} {w : (Int32 × Int32 × Hp) ⊕ (Int32 × Hp)} (hW : WF S r) (hv0 : S[v0]? = some (6, 38)) (hv1 : S[v1]? = some (100, v1n)) (hf : jX6_passes_74 n r v0 v1 v1n v2 v3 v4 s0 s1 h = some w) (hk : ∀ y, w = .inl y → GX6_passes S r r' out 18 [(0, .ref v0), (1, .ref v1), (2, .int v2), (3, .int (y.1)), (4, .int (y.2.1))] [] (y.2.2)) (he : ∀ z, w = .inr z → GX6_passes S r r' out 120 [(0, .ref v0), (1, .ref v1), (3, .int (z.1))] [] (z.2)) : GX6_passes S r r' out 74 [(0, .ref v0), (1, .ref v1), (2, .int v2), (3, .int v3), (4, .int v4)] [.int s0, .int s1, .ref v1] h := by
  unfold jX6_passes_74 at hf
  obtain ⟨z16, hf⟩ := ck_s hf
  refine g_iast hv1 z16 dX6_passes_74 ?_
  refine g_topH (fun h17 eh17 => ?_)
  have hf := lE_s hf eh17
  refine g_aload_n (ps := 1) dX6_passes_75 rfl rfl ?_
  refine g_bipush (v := 6) dX6_passes_76 (by decide +kernel) ?_
  refine g_iload (ps := 4) dX6_passes_78 rfl ?_
  refine g_iadd dX6_passes_80 ?_
  obtain ⟨z18, hf⟩ := ck_s hf
  refine g_iald hv1 z18 dX6_passes_81 ?_
  refine g_aload_n (ps := 0) dX6_passes_82 rfl rfl ?_
  refine g_getR cf6 hv0 nX6_passes_X6 (j := 19) (by decide) rfl mX6_passes_38 dX6_passes_83 ?_
  refine g_iload (ps := 4) dX6_passes_86 rfl ?_
  obtain ⟨z19, hf⟩ := ck_s hf
  refine g_iald (hW _ _ _ hv0 19 _ rfl) z19 dX6_passes_88 ?_
  refine g_icmp_lt (tgt := 114) dX6_passes_89 (by decide) (fun c20 => ?_) (fun c20 => ?_)
  · have hf := if_t hf c20
    obtain ⟨x21, ex21⟩ : ∃ y : Int32, y = v4 + (-1) := ⟨_, rfl⟩
    have hf := lE_s hf ex21
    refine g_iinc (ps := 4) (v := x21) (L' := [(4, .int x21), (0, .ref v0), (1, .ref v1), (2, .int v2), (3, .int v3)]) dX6_passes_114 rfl (by rw [ex21]; rfl) (by decide) rfl ?_
    refine g_goto (tgt := 18) dX6_passes_117 (by decide) ?_
    exact g_pick [1, 2, 3, 4, 0] rfl (hk _ (Option.some.inj hf).symm)
  · have hf := if_f hf c20
    refine g_aload_n (ps := 1) dX6_passes_92 rfl rfl ?_
    refine g_iconst (v := 0) dX6_passes_93 (by decide +kernel) ?_
    refine g_dup2 dX6_passes_94 rfl rfl ?_
    obtain ⟨z22, hf⟩ := ck_s hf
    refine g_iald hv1 z22 dX6_passes_95 ?_
    refine g_iconst (v := 1) dX6_passes_96 (by decide +kernel) ?_
    refine g_iload (ps := 4) dX6_passes_97 rfl ?_
    refine g_ishl dX6_passes_99 ?_
    refine g_iconst (v := (-1)) dX6_passes_100 (by decide +kernel) ?_
    refine g_ixor dX6_passes_101 ?_
    refine g_iand dX6_passes_102 ?_
    obtain ⟨z23, hf⟩ := ck_s hf
    refine g_iast hv1 z23 dX6_passes_103 ?_
    refine g_topH (fun h24 eh24 => ?_)
    have hf := lE_s hf eh24
    refine g_aload_n (ps := 1) dX6_passes_104 rfl rfl ?_
    refine g_iconst (v := 5) dX6_passes_105 (by decide +kernel) ?_
    refine g_dup2 dX6_passes_106 rfl rfl ?_
    obtain ⟨z25, hf⟩ := ck_s hf
    refine g_iald hv1 z25 dX6_passes_107 ?_
    refine g_iconst (v := 1) dX6_passes_108 (by decide +kernel) ?_
    refine g_iadd dX6_passes_109 ?_
    obtain ⟨z26, hf⟩ := ck_s hf
    refine g_iast hv1 z26 dX6_passes_110 ?_
    refine g_topH (fun h27 eh27 => ?_)
    have hf := lE_s hf eh27
    refine g_iload (ps := 4) dX6_passes_111 rfl ?_
    refine g_istore_n (L' := [(3, .int v4), (0, .ref v0), (1, .ref v1), (2, .int v2), (4, .int v4)]) dX6_passes_113 rfl (by decide) rfl ?_
    obtain ⟨x28, ex28⟩ : ∃ y : Int32, y = v4 + (-1) := ⟨_, rfl⟩
    have hf := lE_s hf ex28
    refine g_iinc (ps := 4) (v := x28) (L' := [(4, .int x28), (3, .int v4), (0, .ref v0), (1, .ref v1), (2, .int v2)]) dX6_passes_114 rfl (by rw [ex28]; rfl) (by decide) rfl ?_
    refine g_goto (tgt := 18) dX6_passes_117 (by decide) ?_
    exact g_pick [2, 3, 4, 1, 0] rfl (hk _ (Option.some.inj hf).symm)
set_option maxHeartbeats 4000000 in
set_option maxRecDepth 100000 in
theorem ubX6_passes_18 {S : Shp} {n : Nat} {r : Rf} {out : Option Int32 × Hp} {r' : Rf} {v0 : Nat} {v1 v1n : Nat} {v2 : Int32} {v3 : Int32} {v4 : Int32}  {h : Hp} {w : (Int32 × Int32 × Hp) ⊕ (Int32 × Hp)} (hW : WF S r) (hv0 : S[v0]? = some (6, 38)) (hv1 : S[v1]? = some (100, v1n)) (hf : bX6_passes_18 n r v0 v1 v1n v2 v3 v4 h = some w) (hk : ∀ y, w = .inl y → GX6_passes S r r' out 18 [(0, .ref v0), (1, .ref v1), (2, .int v2), (3, .int (y.1)), (4, .int (y.2.1))] [] (y.2.2)) (he : ∀ z, w = .inr z → GX6_passes S r r' out 120 [(0, .ref v0), (1, .ref v1), (3, .int (z.1))] [] (z.2)) : GX6_passes S r r' out 18 [(0, .ref v0), (1, .ref v1), (2, .int v2), (3, .int v3), (4, .int v4)] [] h := by
  unfold bX6_passes_18 at hf
  refine g_iload (ps := 4) dX6_passes_18 rfl ?_
  refine g_if_lt (tgt := 120) dX6_passes_20 (by decide) (fun c5 => ?_) (fun c5 => ?_)
  · have hf := if_t hf c5
    exact g_pick [0, 1, 3] rfl (he _ (Option.some.inj hf).symm)
  · have hf := if_f hf c5
    refine g_aload_n (ps := 1) dX6_passes_23 rfl rfl ?_
    refine g_iconst (v := 0) dX6_passes_24 (by decide +kernel) ?_
    obtain ⟨z6, hf⟩ := ck_s hf
    refine g_iald hv1 z6 dX6_passes_25 ?_
    refine g_iload (ps := 4) dX6_passes_26 rfl ?_
    obtain ⟨x8, e7, hf⟩ := bd_s hf
    refine g_callSi (As := [.int (h.1 v1 (Int32.toNatClampNeg 0)), .int v4]) (n := 2) (kX6_has hW  e7) gX6_passes_X6_has rfl ⟨rfl, rfl⟩ hdX6_has ⟨Nat.le_of_ble_eq_true rfl, Nat.le_of_ble_eq_true rfl⟩ rfl rfl (Nat.le_of_ble_eq_true rfl) dX6_passes_28 ?_
    refine g_if_eq (tgt := 114) dX6_passes_31 (by decide) (fun c9 => ?_) (fun c9 => ?_)
    · have hf := if_t hf c9
      obtain ⟨x10, ex10⟩ : ∃ y : Int32, y = v4 + (-1) := ⟨_, rfl⟩
      have hf := lE_s hf ex10
      refine g_iinc (ps := 4) (v := x10) (L' := [(4, .int x10), (0, .ref v0), (1, .ref v1), (2, .int v2), (3, .int v3)]) dX6_passes_114 rfl (by rw [ex10]; rfl) (by decide) rfl ?_
      refine g_goto (tgt := 18) dX6_passes_117 (by decide) ?_
      exact g_pick [1, 2, 3, 4, 0] rfl (hk _ (Option.some.inj hf).symm)
    · have hf := if_f hf c9
      refine g_aload_n (ps := 1) dX6_passes_34 rfl rfl ?_
      refine g_bipush (v := 6) dX6_passes_35 (by decide +kernel) ?_
      refine g_iload (ps := 4) dX6_passes_37 rfl ?_
      refine g_iadd dX6_passes_39 ?_
      obtain ⟨z11, hf⟩ := ck_s hf
      refine g_iald hv1 z11 dX6_passes_40 ?_
      refine g_aload_n (ps := 0) dX6_passes_41 rfl rfl ?_
      refine g_aload_n (ps := 1) dX6_passes_42 rfl rfl ?_
      refine g_iload (ps := 4) dX6_passes_43 rfl ?_
      refine g_iload_n (ps := 2) dX6_passes_45 rfl rfl ?_
      obtain ⟨x13, e12, hf⟩ := bd_s hf
      refine g_callVi (As := [.ref v1, .int v4, .int v2]) (n := 3) (kX6_strains hW hv0 hv1 e12) gX6_passes_X6_strains rfl ⟨rfl, rfl⟩ ⟨rfl, hdX6_strains⟩ ⟨Nat.le_of_ble_eq_true rfl, Nat.le_of_ble_eq_true rfl⟩ cf6 hv0 rfl rfl (Nat.le_of_ble_eq_true rfl) dX6_passes_46 ?_
      refine g_iadd dX6_passes_49 ?_
      refine g_topi (fun x14 ex14 => ?_)
      have hf := lE_s hf ex14
      refine g_istore (L' := [(5, .int x14), (0, .ref v0), (1, .ref v1), (2, .int v2), (3, .int v3), (4, .int v4)]) dX6_passes_50 (by decide) rfl ?_
      refine g_aload_n (ps := 2) dX6_passes_52 rfl rfl ?_
      refine g_bipush (v := 6) dX6_passes_53 (by decide +kernel) ?_
      refine g_iload (ps := 5) dX6_passes_55 rfl ?_
      refine g_iadd dX6_passes_57 ?_
      refine g_iload (ps := 0) dX6_passes_58 rfl ?_
      refine g_sipush (v := 999) dX6_passes_60 (by decide +kernel) ?_
      refine g_icmp_le (tgt := 72) dX6_passes_63 (by decide) (fun c15 => ?_) (fun c15 => ?_)
      · have hf := if_t hf c15
        refine g_iload (ps := 0) dX6_passes_72 rfl ?_
        exact g_pick [1, 2, 3, 4, 5] rfl (ujX6_passes_74 hW hv0 hv1 hf hk he)
      · have hf := if_f hf c15
        refine g_sipush (v := 999) dX6_passes_66 (by decide +kernel) ?_
        refine g_goto (tgt := 74) dX6_passes_69 (by decide) ?_
        exact g_pick [1, 2, 3, 4, 5] rfl (ujX6_passes_74 hW hv0 hv1 hf hk he)
set_option maxHeartbeats 4000000 in
set_option maxRecDepth 100000 in
theorem ulX6_passes_18 {S : Shp} {n : Nat} {r : Rf} {v0 : Nat} {v1 v1n : Nat} {v2 : Int32} {v3 : Int32} {v4 : Int32}  {h : Hp} {o : (Int32 × Hp)} (hW : WF S r) (hv0 : S[v0]? = some (6, 38)) (hv1 : S[v1]? = some (100, v1n)) (hf : lX6_passes_18 n r v0 v1 v1n v2 v3 v4 h = some o)  : GX6_passes S r r (some o.1, o.2) 18 [(0, .ref v0), (1, .ref v1), (2, .int v2), (3, .int v3), (4, .int v4)] [] h := by
  unfold lX6_passes_18 at hf
  obtain ⟨z0, ei, hf⟩ := bd_s hf
  refine it_ind (P := fun (s : Int32 × Int32 × Hp) => GX6_passes S r r (some o.1, o.2) 18 [(0, .ref v0), (1, .ref v1), (2, .int v2), (3, .int (s.1)), (4, .int (s.2.1))] [] (s.2.2)) (fun s w hb hk2 he2 => ?_) n _ ei
  refine ubX6_passes_18 (out := (some o.1, o.2)) (r' := r) hW hv0 hv1 hb hk2 (fun z hz => ?_)
  have hz := he2 z hz
  subst hz
  refine g_aload_n (ps := 1) dX6_passes_120 rfl rfl ?_
  refine g_iconst (v := 3) dX6_passes_121 (by decide +kernel) ?_
  refine g_dup2 dX6_passes_122 rfl rfl ?_
  obtain ⟨z29, hf⟩ := ck_s hf
  refine g_iald hv1 z29 dX6_passes_123 ?_
  refine g_iconst (v := 1) dX6_passes_124 (by decide +kernel) ?_
  refine g_iadd dX6_passes_125 ?_
  obtain ⟨z30, hf⟩ := ck_s hf
  refine g_iast hv1 z30 dX6_passes_126 ?_
  refine g_topH (fun h31 eh31 => ?_)
  have hf := lE_s hf eh31
  refine g_iload_n (ps := 2) dX6_passes_127 rfl rfl ?_
  have hf := Option.some.inj hf
  subst hf
  exact g_iret dX6_passes_128
set_option maxHeartbeats 4000000 in
set_option maxRecDepth 100000 in
theorem uX6_passes {S : Shp} {n : Nat} {r : Rf} {v0 : Nat} {v1 v1n : Nat} {h : Hp} {o : (Int32 × Hp)} (hW : WF S r) (hv0 : S[v0]? = some (6, 38)) (hv1 : S[v1]? = some (100, v1n)) (hf : fX6_passes n r v0 v1 v1n h = some o) : GX6_passes S r r (some o.1, o.2) 0 [(0, .ref v0), (1, .ref v1)] [] h := by
  unfold fX6_passes at hf
  refine g_aload_n (ps := 0) dX6_passes_0 rfl rfl ?_
  refine g_aload_n (ps := 1) dX6_passes_1 rfl rfl ?_
  refine g_iconst (v := 3) dX6_passes_2 (by decide +kernel) ?_
  obtain ⟨z1, hf⟩ := ck_s hf
  refine g_iald hv1 z1 dX6_passes_3 ?_
  obtain ⟨x3, e2, hf⟩ := bd_s hf
  refine g_callVi (As := [.int (h.1 v1 (Int32.toNatClampNeg 3))]) (n := 1) (kX6_windOf hW hv0 e2) gX6_passes_X6_windOf rfl ⟨rfl, rfl⟩ ⟨rfl, hdX6_windOf⟩ ⟨Nat.le_of_ble_eq_true rfl, Nat.le_of_ble_eq_true rfl⟩ cf6 hv0 rfl rfl (Nat.le_of_ble_eq_true rfl) dX6_passes_4 ?_
  refine g_istore_n (L' := [(2, .int x3), (0, .ref v0), (1, .ref v1)]) dX6_passes_7 rfl (by decide) rfl ?_
  refine g_iconst (v := (-1)) dX6_passes_8 (by decide +kernel) ?_
  refine g_istore_n (L' := [(3, .int (-1)), (2, .int x3), (0, .ref v0), (1, .ref v1)]) dX6_passes_9 rfl (by decide) rfl ?_
  refine g_aload_n (ps := 2) dX6_passes_10 rfl rfl ?_
  refine g_getI cf6 hv0 nX6_passes_X6 (j := 15) (by decide) rfl mX6_passes_144 dX6_passes_11 ?_
  refine g_iconst (v := 1) dX6_passes_14 (by decide +kernel) ?_
  refine g_isub dX6_passes_15 ?_
  refine g_topi (fun x4 ex4 => ?_)
  have hf := lE_s hf ex4
  refine g_istore (L' := [(4, .int x4), (3, .int (-1)), (2, .int x3), (0, .ref v0), (1, .ref v1)]) dX6_passes_16 (by decide) rfl ?_
  exact g_pick [3, 4, 2, 1, 0] rfl (ulX6_passes_18 hW hv0 hv1 hf)
theorem kX6_passes {S : Shp} {n : Nat} {r : Rf} {v0 : Nat} {v1 v1n : Nat} {h : Hp} {o : (Int32 × Hp)} (hW : WF S r) (hv0 : S[v0]? = some (6, 38)) (hv1 : S[v1]? = some (100, v1n)) (hf : fX6_passes n r v0 v1 v1n h = some o) : CTi yX6_passes wsX6_passes rmX6_passes S r [.ref v0, .ref v1] h r o.1 o.2 :=
  cti_of rfl (by decide +kernel) rfl (Nat.le_of_ble_eq_true rfl) rfl (uX6_passes hW hv0 hv1 hf)
/-! X6_link link -/
def rmX6_link : Room := { frames := 2, cells := 0, slots := 0, locals := 43 }
abbrev GX6_link (S : Shp) (r r' : Rf) (out : Option Int32 × Hp) (pc : Nat) (L : List (Nat × Value)) (st : List Value) (h : Hp) : Prop := G RX6 cX6_link 3 (some .int) wsX6_link rmX6_link S r r' out pc L st h
theorem nX6_link_X6 : ∀ w ∈ wsX60, w ∈ wsX6_link := by decide +kernel
theorem mX6_link_176 : Cond.constant RX6 176 (-1000000001) ∈ wsX6_link := by decide +kernel
theorem mX6_link_86 : Cond.constant RX6 86 (-1000000002) ∈ wsX6_link := by decide +kernel
theorem mX6_link_32 : Cond.fieldLink RX6 32 "LinkedIslesModel" "ends" "[I" ∈ wsX6_link := by decide +kernel
theorem mX6_link_35 : Cond.fieldLink RX6 35 "LinkedIslesModel" "kinds" "[I" ∈ wsX6_link := by decide +kernel
theorem mX6_link_38 : Cond.fieldLink RX6 38 "LinkedIslesModel" "strengths" "[I" ∈ wsX6_link := by decide +kernel
theorem mX6_link_41 : Cond.fieldLink RX6 41 "LinkedIslesModel" "sides" "[I" ∈ wsX6_link := by decide +kernel
theorem mX6_link_47 : Cond.fieldLink RX6 47 "LinkedIslesModel" "now" "[I" ∈ wsX6_link := by decide +kernel
theorem hdX6_link : yX6_link.cls ≠ "java/lang/invoke/MethodHandle" ∧ yX6_link.cls ≠ "java/lang/invoke/VarHandle" ∧ (parseMethodDescriptor yX6_link.desc).map (fun d => d.parameters.length) = some 2 := by decide +kernel
def fX6_link (n : Nat) (r : Rf) (v0 : Nat) (v1 : Int32) (v2 : Int32) (h : Hp) : Option Int32 :=
  (fX6_isLink n r v0 v1 h).bind (fun (x2 : Int32) => if x2 = 0 then (some (-1000000001)) else (lE (v2) (fun (x4 : Int32) => if x4 = 0 then (ck (2 * v1) 20 (some (h.1 (r v0 17) (Int32.toNatClampNeg (2 * v1))))) else (if x4 = 1 then (ck ((2 * v1) + 1) 20 (some (h.1 (r v0 17) (Int32.toNatClampNeg ((2 * v1) + 1))))) else (if x4 = 2 then (ck v1 10 (some (h.1 (r v0 18) (Int32.toNatClampNeg v1)))) else (if x4 = 3 then (ck v1 10 (some (h.1 (r v0 19) (Int32.toNatClampNeg v1)))) else (if x4 = 4 then (ck (6 + v1) 16 (some (h.1 (r v0 22) (Int32.toNatClampNeg (6 + v1))))) else (if x4 = 5 then (ck 0 16 (some (((h.1 (r v0 22) (Int32.toNatClampNeg 0)) >>> (v1 &&& 31)) &&& 1))) else (if x4 = 6 then (ck 1 16 (some (((h.1 (r v0 22) (Int32.toNatClampNeg 1)) >>> (v1 &&& 31)) &&& 1))) else (if x4 = 7 then (ck 2 16 (some (((h.1 (r v0 22) (Int32.toNatClampNeg 2)) >>> (v1 &&& 31)) &&& 1))) else (if x4 = 8 then (ck (2 * v1) 20 (some (h.1 (r v0 20) (Int32.toNatClampNeg (2 * v1))))) else (if x4 = 9 then (ck ((2 * v1) + 1) 20 (some (h.1 (r v0 20) (Int32.toNatClampNeg ((2 * v1) + 1))))) else (some (-1000000002))))))))))))))
set_option maxHeartbeats 4000000 in
set_option maxRecDepth 100000 in
theorem uX6_link {S : Shp} {n : Nat} {r : Rf} {v0 : Nat} {v1 : Int32} {v2 : Int32} {h : Hp} {o : Int32} (hW : WF S r) (hv0 : S[v0]? = some (6, 38)) (hf : fX6_link n r v0 v1 v2 h = some o) : GX6_link S r r (some o, h) 0 [(0, .ref v0), (1, .int v1), (2, .int v2)] [] h := by
  unfold fX6_link at hf
  refine g_aload_n (ps := 0) dX6_link_0 rfl rfl ?_
  refine g_iload_n (ps := 1) dX6_link_1 rfl rfl ?_
  obtain ⟨x2, e1, hf⟩ := bd_s hf
  refine g_callVi (As := [.int v1]) (n := 1) (kX6_isLink hW hv0 e1) gX6_link_X6_isLink rfl ⟨rfl, rfl⟩ ⟨rfl, hdX6_isLink⟩ ⟨Nat.le_of_ble_eq_true rfl, Nat.le_of_ble_eq_true rfl⟩ cf6 hv0 rfl rfl (Nat.le_of_ble_eq_true rfl) dX6_link_2 ?_
  refine g_if_ne (tgt := 11) dX6_link_5 (by decide) (fun c3 => ?_) (fun c3 => ?_)
  · have hf := if_f hf c3
    refine g_iload_n (ps := 2) dX6_link_11 rfl rfl ?_
    refine g_topi (fun x4 ex4 => ?_)
    have hf := lE_s hf ex4
    by_cases c5 : x4 = 0
    · have hf := if_t hf c5
      refine g_tableIn (off := 56) (tgt := 68) dX6_link_12 (by rw [c5]; decide +kernel) (by rw [c5]; decide +kernel) (by rw [c5]; decide +kernel) (by decide) ?_
      refine g_aload_n (ps := 0) dX6_link_68 rfl rfl ?_
      refine g_getR cf6 hv0 nX6_link_X6 (j := 17) (by decide) rfl mX6_link_32 dX6_link_69 ?_
      refine g_iconst (v := 2) dX6_link_72 (by decide +kernel) ?_
      refine g_iload_n (ps := 1) dX6_link_73 rfl rfl ?_
      refine g_imul dX6_link_74 ?_
      obtain ⟨z6, hf⟩ := ck_s hf
      refine g_iald (hW _ _ _ hv0 17 _ rfl) z6 dX6_link_75 ?_
      have hf := Option.some.inj hf
      subst hf
      exact g_iret dX6_link_76
    have hf := if_f hf c5
    by_cases c7 : x4 = 1
    · have hf := if_t hf c7
      refine g_tableIn (off := 65) (tgt := 77) dX6_link_12 (by rw [c7]; decide +kernel) (by rw [c7]; decide +kernel) (by rw [c7]; decide +kernel) (by decide) ?_
      refine g_aload_n (ps := 0) dX6_link_77 rfl rfl ?_
      refine g_getR cf6 hv0 nX6_link_X6 (j := 17) (by decide) rfl mX6_link_32 dX6_link_78 ?_
      refine g_iconst (v := 2) dX6_link_81 (by decide +kernel) ?_
      refine g_iload_n (ps := 1) dX6_link_82 rfl rfl ?_
      refine g_imul dX6_link_83 ?_
      refine g_iconst (v := 1) dX6_link_84 (by decide +kernel) ?_
      refine g_iadd dX6_link_85 ?_
      obtain ⟨z8, hf⟩ := ck_s hf
      refine g_iald (hW _ _ _ hv0 17 _ rfl) z8 dX6_link_86 ?_
      have hf := Option.some.inj hf
      subst hf
      exact g_iret dX6_link_87
    have hf := if_f hf c7
    by_cases c9 : x4 = 2
    · have hf := if_t hf c9
      refine g_tableIn (off := 76) (tgt := 88) dX6_link_12 (by rw [c9]; decide +kernel) (by rw [c9]; decide +kernel) (by rw [c9]; decide +kernel) (by decide) ?_
      refine g_aload_n (ps := 0) dX6_link_88 rfl rfl ?_
      refine g_getR cf6 hv0 nX6_link_X6 (j := 18) (by decide) rfl mX6_link_35 dX6_link_89 ?_
      refine g_iload_n (ps := 1) dX6_link_92 rfl rfl ?_
      obtain ⟨z10, hf⟩ := ck_s hf
      refine g_iald (hW _ _ _ hv0 18 _ rfl) z10 dX6_link_93 ?_
      have hf := Option.some.inj hf
      subst hf
      exact g_iret dX6_link_94
    have hf := if_f hf c9
    by_cases c11 : x4 = 3
    · have hf := if_t hf c11
      refine g_tableIn (off := 83) (tgt := 95) dX6_link_12 (by rw [c11]; decide +kernel) (by rw [c11]; decide +kernel) (by rw [c11]; decide +kernel) (by decide) ?_
      refine g_aload_n (ps := 0) dX6_link_95 rfl rfl ?_
      refine g_getR cf6 hv0 nX6_link_X6 (j := 19) (by decide) rfl mX6_link_38 dX6_link_96 ?_
      refine g_iload_n (ps := 1) dX6_link_99 rfl rfl ?_
      obtain ⟨z12, hf⟩ := ck_s hf
      refine g_iald (hW _ _ _ hv0 19 _ rfl) z12 dX6_link_100 ?_
      have hf := Option.some.inj hf
      subst hf
      exact g_iret dX6_link_101
    have hf := if_f hf c11
    by_cases c13 : x4 = 4
    · have hf := if_t hf c13
      refine g_tableIn (off := 90) (tgt := 102) dX6_link_12 (by rw [c13]; decide +kernel) (by rw [c13]; decide +kernel) (by rw [c13]; decide +kernel) (by decide) ?_
      refine g_aload_n (ps := 0) dX6_link_102 rfl rfl ?_
      refine g_getR cf6 hv0 nX6_link_X6 (j := 22) (by decide) rfl mX6_link_47 dX6_link_103 ?_
      refine g_bipush (v := 6) dX6_link_106 (by decide +kernel) ?_
      refine g_iload_n (ps := 1) dX6_link_108 rfl rfl ?_
      refine g_iadd dX6_link_109 ?_
      obtain ⟨z14, hf⟩ := ck_s hf
      refine g_iald (hW _ _ _ hv0 22 _ rfl) z14 dX6_link_110 ?_
      have hf := Option.some.inj hf
      subst hf
      exact g_iret dX6_link_111
    have hf := if_f hf c13
    by_cases c15 : x4 = 5
    · have hf := if_t hf c15
      refine g_tableIn (off := 100) (tgt := 112) dX6_link_12 (by rw [c15]; decide +kernel) (by rw [c15]; decide +kernel) (by rw [c15]; decide +kernel) (by decide) ?_
      refine g_aload_n (ps := 0) dX6_link_112 rfl rfl ?_
      refine g_getR cf6 hv0 nX6_link_X6 (j := 22) (by decide) rfl mX6_link_47 dX6_link_113 ?_
      refine g_iconst (v := 0) dX6_link_116 (by decide +kernel) ?_
      obtain ⟨z16, hf⟩ := ck_s hf
      refine g_iald (hW _ _ _ hv0 22 _ rfl) z16 dX6_link_117 ?_
      refine g_iload_n (ps := 1) dX6_link_118 rfl rfl ?_
      refine g_ishr dX6_link_119 ?_
      refine g_iconst (v := 1) dX6_link_120 (by decide +kernel) ?_
      refine g_iand dX6_link_121 ?_
      have hf := Option.some.inj hf
      subst hf
      exact g_iret dX6_link_122
    have hf := if_f hf c15
    by_cases c17 : x4 = 6
    · have hf := if_t hf c17
      refine g_tableIn (off := 111) (tgt := 123) dX6_link_12 (by rw [c17]; decide +kernel) (by rw [c17]; decide +kernel) (by rw [c17]; decide +kernel) (by decide) ?_
      refine g_aload_n (ps := 0) dX6_link_123 rfl rfl ?_
      refine g_getR cf6 hv0 nX6_link_X6 (j := 22) (by decide) rfl mX6_link_47 dX6_link_124 ?_
      refine g_iconst (v := 1) dX6_link_127 (by decide +kernel) ?_
      obtain ⟨z18, hf⟩ := ck_s hf
      refine g_iald (hW _ _ _ hv0 22 _ rfl) z18 dX6_link_128 ?_
      refine g_iload_n (ps := 1) dX6_link_129 rfl rfl ?_
      refine g_ishr dX6_link_130 ?_
      refine g_iconst (v := 1) dX6_link_131 (by decide +kernel) ?_
      refine g_iand dX6_link_132 ?_
      have hf := Option.some.inj hf
      subst hf
      exact g_iret dX6_link_133
    have hf := if_f hf c17
    by_cases c19 : x4 = 7
    · have hf := if_t hf c19
      refine g_tableIn (off := 122) (tgt := 134) dX6_link_12 (by rw [c19]; decide +kernel) (by rw [c19]; decide +kernel) (by rw [c19]; decide +kernel) (by decide) ?_
      refine g_aload_n (ps := 0) dX6_link_134 rfl rfl ?_
      refine g_getR cf6 hv0 nX6_link_X6 (j := 22) (by decide) rfl mX6_link_47 dX6_link_135 ?_
      refine g_iconst (v := 2) dX6_link_138 (by decide +kernel) ?_
      obtain ⟨z20, hf⟩ := ck_s hf
      refine g_iald (hW _ _ _ hv0 22 _ rfl) z20 dX6_link_139 ?_
      refine g_iload_n (ps := 1) dX6_link_140 rfl rfl ?_
      refine g_ishr dX6_link_141 ?_
      refine g_iconst (v := 1) dX6_link_142 (by decide +kernel) ?_
      refine g_iand dX6_link_143 ?_
      have hf := Option.some.inj hf
      subst hf
      exact g_iret dX6_link_144
    have hf := if_f hf c19
    by_cases c21 : x4 = 8
    · have hf := if_t hf c21
      refine g_tableIn (off := 133) (tgt := 145) dX6_link_12 (by rw [c21]; decide +kernel) (by rw [c21]; decide +kernel) (by rw [c21]; decide +kernel) (by decide) ?_
      refine g_aload_n (ps := 0) dX6_link_145 rfl rfl ?_
      refine g_getR cf6 hv0 nX6_link_X6 (j := 20) (by decide) rfl mX6_link_41 dX6_link_146 ?_
      refine g_iconst (v := 2) dX6_link_149 (by decide +kernel) ?_
      refine g_iload_n (ps := 1) dX6_link_150 rfl rfl ?_
      refine g_imul dX6_link_151 ?_
      obtain ⟨z22, hf⟩ := ck_s hf
      refine g_iald (hW _ _ _ hv0 20 _ rfl) z22 dX6_link_152 ?_
      have hf := Option.some.inj hf
      subst hf
      exact g_iret dX6_link_153
    have hf := if_f hf c21
    by_cases c23 : x4 = 9
    · have hf := if_t hf c23
      refine g_tableIn (off := 142) (tgt := 154) dX6_link_12 (by rw [c23]; decide +kernel) (by rw [c23]; decide +kernel) (by rw [c23]; decide +kernel) (by decide) ?_
      refine g_aload_n (ps := 0) dX6_link_154 rfl rfl ?_
      refine g_getR cf6 hv0 nX6_link_X6 (j := 20) (by decide) rfl mX6_link_41 dX6_link_155 ?_
      refine g_iconst (v := 2) dX6_link_158 (by decide +kernel) ?_
      refine g_iload_n (ps := 1) dX6_link_159 rfl rfl ?_
      refine g_imul dX6_link_160 ?_
      refine g_iconst (v := 1) dX6_link_161 (by decide +kernel) ?_
      refine g_iadd dX6_link_162 ?_
      obtain ⟨z24, hf⟩ := ck_s hf
      refine g_iald (hW _ _ _ hv0 20 _ rfl) z24 dX6_link_163 ?_
      have hf := Option.some.inj hf
      subst hf
      exact g_iret dX6_link_164
    have hf := if_f hf c23
    refine g_tableOut (tgt := 165) dX6_link_12 (by have q0 := lv_neT c5 (a := 0) (by decide +kernel); have q1 := lv_neT c7 (a := 1) (by decide +kernel); have q2 := lv_neT c9 (a := 2) (by decide +kernel); have q3 := lv_neT c11 (a := 3) (by decide +kernel); have q4 := lv_neT c13 (a := 4) (by decide +kernel); have q5 := lv_neT c15 (a := 5) (by decide +kernel); have q6 := lv_neT c17 (a := 6) (by decide +kernel); have q7 := lv_neT c19 (a := 7) (by decide +kernel); have q8 := lv_neT c21 (a := 8) (by decide +kernel); have q9 := lv_neT c23 (a := 9) (by decide +kernel); omega) (by decide) ?_
    refine g_ldc (v := (-1000000002)) mX6_link_86 dX6_link_165 ?_
    have hf := Option.some.inj hf
    subst hf
    exact g_iret dX6_link_167
  · have hf := if_t hf c3
    refine g_ldc (v := (-1000000001)) mX6_link_176 dX6_link_8 ?_
    have hf := Option.some.inj hf
    subst hf
    exact g_iret dX6_link_10
theorem kX6_link {S : Shp} {n : Nat} {r : Rf} {v0 : Nat} {v1 : Int32} {v2 : Int32} {h : Hp} {o : Int32} (hW : WF S r) (hv0 : S[v0]? = some (6, 38)) (hf : fX6_link n r v0 v1 v2 h = some o) : CTi yX6_link wsX6_link rmX6_link S r [.ref v0, .int v1, .int v2] h r o h :=
  cti_of rfl (by decide +kernel) rfl (Nat.le_of_ble_eq_true rfl) rfl (uX6_link hW hv0 hf)
/-! X6_readBy readBy -/
def rmX6_readBy : Room := { frames := 1, cells := 0, slots := 0, locals := 21 }
abbrev GX6_readBy (S : Shp) (r r' : Rf) (out : Option Int32 × Hp) (pc : Nat) (L : List (Nat × Value)) (st : List Value) (h : Hp) : Prop := G RX6 cX6_readBy 6 (some .int) wsX6_readBy rmX6_readBy S r r' out pc L st h
theorem nX6_readBy_X6 : ∀ w ∈ wsX60, w ∈ wsX6_readBy := by decide +kernel
theorem mX6_readBy_32 : Cond.fieldLink RX6 32 "LinkedIslesModel" "ends" "[I" ∈ wsX6_readBy := by decide +kernel
theorem mX6_readBy_41 : Cond.fieldLink RX6 41 "LinkedIslesModel" "sides" "[I" ∈ wsX6_readBy := by decide +kernel
theorem hdX6_readBy : yX6_readBy.cls ≠ "java/lang/invoke/MethodHandle" ∧ yX6_readBy.cls ≠ "java/lang/invoke/VarHandle" ∧ (parseMethodDescriptor yX6_readBy.desc).map (fun d => d.parameters.length) = some 4 := by decide +kernel
def jX6_readBy_48 (n : Nat) (r : Rf) (v0 : Nat) (v2 : Int32) (v4 : Int32) (v5 : Int32)  (h : Hp) : Option Int32 :=
  (fX6_has n r v4 v2 h).bind (fun (x8 : Int32) => if v5 = x8 then (ck ((2 * v2) + 1) 20 (some (h.1 (r v0 20) (Int32.toNatClampNeg ((2 * v2) + 1))))) else (ck (2 * v2) 20 (some (h.1 (r v0 20) (Int32.toNatClampNeg (2 * v2))))))
def jX6_readBy_17 (n : Nat) (r : Rf) (v0 : Nat) (v1 : Int32) (v2 : Int32) (v3 : Int32) (v4 : Int32) (s0 : Int32) (h : Hp) : Option Int32 :=
  (fX6_has n r v3 v2 h).bind (fun (x4 : Int32) => if x4 = 0 then (some (-1)) else (if s0 = 0 then (ck ((2 * v2) + 1) 20 (if (h.1 (r v0 17) (Int32.toNatClampNeg ((2 * v2) + 1))) = v1 then (jX6_readBy_48 n r v0 v2 v4 s0  h) else (some (-1)))) else (jX6_readBy_48 n r v0 v2 v4 s0  h)))
def fX6_readBy (n : Nat) (r : Rf) (v0 : Nat) (v1 : Int32) (v2 : Int32) (v3 : Int32) (v4 : Int32) (h : Hp) : Option Int32 :=
  ck (2 * v2) 20 (if (h.1 (r v0 17) (Int32.toNatClampNeg (2 * v2))) = v1 then (jX6_readBy_17 n r v0 v1 v2 v3 v4 1 h) else (jX6_readBy_17 n r v0 v1 v2 v3 v4 0 h))
set_option maxHeartbeats 4000000 in
set_option maxRecDepth 100000 in
theorem ujX6_readBy_48 {S : Shp} {n : Nat} {r : Rf} {v0 : Nat} {v2 : Int32} {v4 : Int32} {v5 : Int32}  {h : Hp} {o : Int32} (hW : WF S r) (hv0 : S[v0]? = some (6, 38)) (hf : jX6_readBy_48 n r v0 v2 v4 v5  h = some o)  : GX6_readBy S r r (some o, h) 48 [(0, .ref v0), (2, .int v2), (4, .int v4), (5, .int v5)] [] h := by
  unfold jX6_readBy_48 at hf
  refine g_iload (ps := 3) dX6_readBy_48 rfl ?_
  refine g_iload (ps := 2) dX6_readBy_50 rfl ?_
  refine g_iload_n (ps := 1) dX6_readBy_52 rfl rfl ?_
  obtain ⟨x8, e7, hf⟩ := bd_s hf
  refine g_callSi (As := [.int v4, .int v2]) (n := 2) (kX6_has hW  e7) gX6_readBy_X6_has rfl ⟨rfl, rfl⟩ hdX6_has ⟨Nat.le_of_ble_eq_true rfl, Nat.le_of_ble_eq_true rfl⟩ rfl rfl (Nat.le_of_ble_eq_true rfl) dX6_readBy_53 ?_
  refine g_icmp_ne (tgt := 72) dX6_readBy_56 (by decide) (fun c9 => ?_) (fun c9 => ?_)
  · have hf := if_f hf c9
    refine g_aload_n (ps := 0) dX6_readBy_72 rfl rfl ?_
    refine g_getR cf6 hv0 nX6_readBy_X6 (j := 20) (by decide) rfl mX6_readBy_41 dX6_readBy_73 ?_
    refine g_iconst (v := 2) dX6_readBy_76 (by decide +kernel) ?_
    refine g_iload_n (ps := 1) dX6_readBy_77 rfl rfl ?_
    refine g_imul dX6_readBy_78 ?_
    obtain ⟨z10, hf⟩ := ck_s hf
    refine g_iald (hW _ _ _ hv0 20 _ rfl) z10 dX6_readBy_79 ?_
    have hf := Option.some.inj hf
    subst hf
    exact g_iret dX6_readBy_80
  · have hf := if_t hf c9
    refine g_aload_n (ps := 0) dX6_readBy_59 rfl rfl ?_
    refine g_getR cf6 hv0 nX6_readBy_X6 (j := 20) (by decide) rfl mX6_readBy_41 dX6_readBy_60 ?_
    refine g_iconst (v := 2) dX6_readBy_63 (by decide +kernel) ?_
    refine g_iload_n (ps := 1) dX6_readBy_64 rfl rfl ?_
    refine g_imul dX6_readBy_65 ?_
    refine g_iconst (v := 1) dX6_readBy_66 (by decide +kernel) ?_
    refine g_iadd dX6_readBy_67 ?_
    obtain ⟨z11, hf⟩ := ck_s hf
    refine g_iald (hW _ _ _ hv0 20 _ rfl) z11 dX6_readBy_68 ?_
    refine g_goto (tgt := 80) dX6_readBy_69 (by decide) ?_
    have hf := Option.some.inj hf
    subst hf
    exact g_iret dX6_readBy_80
set_option maxHeartbeats 4000000 in
set_option maxRecDepth 100000 in
theorem ujX6_readBy_17 {S : Shp} {n : Nat} {r : Rf} {v0 : Nat} {v1 : Int32} {v2 : Int32} {v3 : Int32} {v4 : Int32} {s0 : Int32} {h : Hp} {o : Int32} (hW : WF S r) (hv0 : S[v0]? = some (6, 38)) (hf : jX6_readBy_17 n r v0 v1 v2 v3 v4 s0 h = some o)  : GX6_readBy S r r (some o, h) 17 [(0, .ref v0), (1, .int v1), (2, .int v2), (3, .int v3), (4, .int v4)] [.int s0] h := by
  unfold jX6_readBy_17 at hf
  refine g_istore (L' := [(5, .int s0), (0, .ref v0), (1, .int v1), (2, .int v2), (3, .int v3), (4, .int v4)]) dX6_readBy_17 (by decide) rfl ?_
  refine g_iload_n (ps := 4) dX6_readBy_19 rfl rfl ?_
  refine g_iload_n (ps := 3) dX6_readBy_20 rfl rfl ?_
  obtain ⟨x4, e3, hf⟩ := bd_s hf
  refine g_callSi (As := [.int v3, .int v2]) (n := 2) (kX6_has hW  e3) gX6_readBy_X6_has rfl ⟨rfl, rfl⟩ hdX6_has ⟨Nat.le_of_ble_eq_true rfl, Nat.le_of_ble_eq_true rfl⟩ rfl rfl (Nat.le_of_ble_eq_true rfl) dX6_readBy_21 ?_
  refine g_if_eq (tgt := 46) dX6_readBy_24 (by decide) (fun c5 => ?_) (fun c5 => ?_)
  · have hf := if_t hf c5
    refine g_iconst (v := (-1)) dX6_readBy_46 (by decide +kernel) ?_
    have hf := Option.some.inj hf
    subst hf
    exact g_iret dX6_readBy_47
  · have hf := if_f hf c5
    refine g_iload (ps := 0) dX6_readBy_27 rfl ?_
    refine g_if_ne (tgt := 48) dX6_readBy_29 (by decide) (fun c6 => ?_) (fun c6 => ?_)
    · have hf := if_f hf c6
      exact g_pick [1, 3, 5, 0] rfl (ujX6_readBy_48 hW hv0 hf)
    · have hf := if_t hf c6
      refine g_aload_n (ps := 1) dX6_readBy_32 rfl rfl ?_
      refine g_getR cf6 hv0 nX6_readBy_X6 (j := 17) (by decide) rfl mX6_readBy_32 dX6_readBy_33 ?_
      refine g_iconst (v := 2) dX6_readBy_36 (by decide +kernel) ?_
      refine g_iload_n (ps := 3) dX6_readBy_37 rfl rfl ?_
      refine g_imul dX6_readBy_38 ?_
      refine g_iconst (v := 1) dX6_readBy_39 (by decide +kernel) ?_
      refine g_iadd dX6_readBy_40 ?_
      obtain ⟨z12, hf⟩ := ck_s hf
      refine g_iald (hW _ _ _ hv0 17 _ rfl) z12 dX6_readBy_41 ?_
      refine g_iload_n (ps := 2) dX6_readBy_42 rfl rfl ?_
      refine g_icmp_eq (tgt := 48) dX6_readBy_43 (by decide) (fun c13 => ?_) (fun c13 => ?_)
      · have hf := if_t hf c13
        exact g_pick [1, 3, 5, 0] rfl (ujX6_readBy_48 hW hv0 hf)
      · have hf := if_f hf c13
        refine g_iconst (v := (-1)) dX6_readBy_46 (by decide +kernel) ?_
        have hf := Option.some.inj hf
        subst hf
        exact g_iret dX6_readBy_47
set_option maxHeartbeats 4000000 in
set_option maxRecDepth 100000 in
theorem uX6_readBy {S : Shp} {n : Nat} {r : Rf} {v0 : Nat} {v1 : Int32} {v2 : Int32} {v3 : Int32} {v4 : Int32} {h : Hp} {o : Int32} (hW : WF S r) (hv0 : S[v0]? = some (6, 38)) (hf : fX6_readBy n r v0 v1 v2 v3 v4 h = some o) : GX6_readBy S r r (some o, h) 0 [(0, .ref v0), (1, .int v1), (2, .int v2), (3, .int v3), (4, .int v4)] [] h := by
  unfold fX6_readBy at hf
  refine g_aload_n (ps := 0) dX6_readBy_0 rfl rfl ?_
  refine g_getR cf6 hv0 nX6_readBy_X6 (j := 17) (by decide) rfl mX6_readBy_32 dX6_readBy_1 ?_
  refine g_iconst (v := 2) dX6_readBy_4 (by decide +kernel) ?_
  refine g_iload_n (ps := 2) dX6_readBy_5 rfl rfl ?_
  refine g_imul dX6_readBy_6 ?_
  obtain ⟨z1, hf⟩ := ck_s hf
  refine g_iald (hW _ _ _ hv0 17 _ rfl) z1 dX6_readBy_7 ?_
  refine g_iload_n (ps := 1) dX6_readBy_8 rfl rfl ?_
  refine g_icmp_ne (tgt := 16) dX6_readBy_9 (by decide) (fun c2 => ?_) (fun c2 => ?_)
  · have hf := if_f hf c2
    refine g_iconst (v := 0) dX6_readBy_16 (by decide +kernel) ?_
    exact g_pick [0, 1, 2, 3, 4] rfl (ujX6_readBy_17 hW hv0 hf)
  · have hf := if_t hf c2
    refine g_iconst (v := 1) dX6_readBy_12 (by decide +kernel) ?_
    refine g_goto (tgt := 17) dX6_readBy_13 (by decide) ?_
    exact g_pick [0, 1, 2, 3, 4] rfl (ujX6_readBy_17 hW hv0 hf)
theorem kX6_readBy {S : Shp} {n : Nat} {r : Rf} {v0 : Nat} {v1 : Int32} {v2 : Int32} {v3 : Int32} {v4 : Int32} {h : Hp} {o : Int32} (hW : WF S r) (hv0 : S[v0]? = some (6, 38)) (hf : fX6_readBy n r v0 v1 v2 v3 v4 h = some o) : CTi yX6_readBy wsX6_readBy rmX6_readBy S r [.ref v0, .int v1, .int v2, .int v3, .int v4] h r o h :=
  cti_of rfl (by decide +kernel) rfl (Nat.le_of_ble_eq_true rfl) rfl (uX6_readBy hW hv0 hf)
/-! X6_reads reads -/
def rmX6_reads : Room := { frames := 2, cells := 0, slots := 0, locals := 46 }
abbrev GX6_reads (S : Shp) (r r' : Rf) (out : Option Int32 × Hp) (pc : Nat) (L : List (Nat × Value)) (st : List Value) (h : Hp) : Prop := G RX6 cX6_reads 3 (some .int) wsX6_reads rmX6_reads S r r' out pc L st h
theorem nX6_reads_X6 : ∀ w ∈ wsX60, w ∈ wsX6_reads := by decide +kernel
theorem mX6_reads_176 : Cond.constant RX6 176 (-1000000001) ∈ wsX6_reads := by decide +kernel
theorem mX6_reads_47 : Cond.fieldLink RX6 47 "LinkedIslesModel" "now" "[I" ∈ wsX6_reads := by decide +kernel
theorem hdX6_reads : yX6_reads.cls ≠ "java/lang/invoke/MethodHandle" ∧ yX6_reads.cls ≠ "java/lang/invoke/VarHandle" ∧ (parseMethodDescriptor yX6_reads.desc).map (fun d => d.parameters.length) = some 2 := by decide +kernel
def fX6_reads (n : Nat) (r : Rf) (v0 : Nat) (v1 : Int32) (v2 : Int32) (h : Hp) : Option Int32 :=
  (fX6_isIsland n r v0 v1 h).bind (fun (x2 : Int32) => if x2 = 0 then (some (-1000000001)) else ((fX6_isLink n r v0 v2 h).bind (fun (x5 : Int32) => if x5 = 0 then (some (-1000000001)) else (ck 0 16 (ck 1 16 ((fX6_readBy n r v0 v1 v2 (h.1 (r v0 22) (Int32.toNatClampNeg 0)) (h.1 (r v0 22) (Int32.toNatClampNeg 1)) h).bind (fun (x10 : Int32) => some x10)))))))
set_option maxHeartbeats 4000000 in
set_option maxRecDepth 100000 in
theorem uX6_reads {S : Shp} {n : Nat} {r : Rf} {v0 : Nat} {v1 : Int32} {v2 : Int32} {h : Hp} {o : Int32} (hW : WF S r) (hv0 : S[v0]? = some (6, 38)) (hf : fX6_reads n r v0 v1 v2 h = some o) : GX6_reads S r r (some o, h) 0 [(0, .ref v0), (1, .int v1), (2, .int v2)] [] h := by
  unfold fX6_reads at hf
  refine g_aload_n (ps := 0) dX6_reads_0 rfl rfl ?_
  refine g_iload_n (ps := 1) dX6_reads_1 rfl rfl ?_
  obtain ⟨x2, e1, hf⟩ := bd_s hf
  refine g_callVi (As := [.int v1]) (n := 1) (kX6_isIsland hW hv0 e1) gX6_reads_X6_isIsland rfl ⟨rfl, rfl⟩ ⟨rfl, hdX6_isIsland⟩ ⟨Nat.le_of_ble_eq_true rfl, Nat.le_of_ble_eq_true rfl⟩ cf6 hv0 rfl rfl (Nat.le_of_ble_eq_true rfl) dX6_reads_2 ?_
  refine g_if_eq (tgt := 37) dX6_reads_5 (by decide) (fun c3 => ?_) (fun c3 => ?_)
  · have hf := if_t hf c3
    refine g_ldc (v := (-1000000001)) mX6_reads_176 dX6_reads_37 ?_
    have hf := Option.some.inj hf
    subst hf
    exact g_iret dX6_reads_39
  · have hf := if_f hf c3
    refine g_aload_n (ps := 0) dX6_reads_8 rfl rfl ?_
    refine g_iload_n (ps := 2) dX6_reads_9 rfl rfl ?_
    obtain ⟨x5, e4, hf⟩ := bd_s hf
    refine g_callVi (As := [.int v2]) (n := 1) (kX6_isLink hW hv0 e4) gX6_reads_X6_isLink rfl ⟨rfl, rfl⟩ ⟨rfl, hdX6_isLink⟩ ⟨Nat.le_of_ble_eq_true rfl, Nat.le_of_ble_eq_true rfl⟩ cf6 hv0 rfl rfl (Nat.le_of_ble_eq_true rfl) dX6_reads_10 ?_
    refine g_if_eq (tgt := 37) dX6_reads_13 (by decide) (fun c6 => ?_) (fun c6 => ?_)
    · have hf := if_t hf c6
      refine g_ldc (v := (-1000000001)) mX6_reads_176 dX6_reads_37 ?_
      have hf := Option.some.inj hf
      subst hf
      exact g_iret dX6_reads_39
    · have hf := if_f hf c6
      refine g_aload_n (ps := 0) dX6_reads_16 rfl rfl ?_
      refine g_iload_n (ps := 1) dX6_reads_17 rfl rfl ?_
      refine g_iload_n (ps := 2) dX6_reads_18 rfl rfl ?_
      refine g_aload_n (ps := 0) dX6_reads_19 rfl rfl ?_
      refine g_getR cf6 hv0 nX6_reads_X6 (j := 22) (by decide) rfl mX6_reads_47 dX6_reads_20 ?_
      refine g_iconst (v := 0) dX6_reads_23 (by decide +kernel) ?_
      obtain ⟨z7, hf⟩ := ck_s hf
      refine g_iald (hW _ _ _ hv0 22 _ rfl) z7 dX6_reads_24 ?_
      refine g_aload_n (ps := 0) dX6_reads_25 rfl rfl ?_
      refine g_getR cf6 hv0 nX6_reads_X6 (j := 22) (by decide) rfl mX6_reads_47 dX6_reads_26 ?_
      refine g_iconst (v := 1) dX6_reads_29 (by decide +kernel) ?_
      obtain ⟨z8, hf⟩ := ck_s hf
      refine g_iald (hW _ _ _ hv0 22 _ rfl) z8 dX6_reads_30 ?_
      obtain ⟨x10, e9, hf⟩ := bd_s hf
      refine g_callVi (As := [.int v1, .int v2, .int (h.1 (r v0 22) (Int32.toNatClampNeg 0)), .int (h.1 (r v0 22) (Int32.toNatClampNeg 1))]) (n := 4) (kX6_readBy hW hv0 e9) gX6_reads_X6_readBy rfl ⟨rfl, rfl⟩ ⟨rfl, hdX6_readBy⟩ ⟨Nat.le_of_ble_eq_true rfl, Nat.le_of_ble_eq_true rfl⟩ cf6 hv0 rfl rfl (Nat.le_of_ble_eq_true rfl) dX6_reads_31 ?_
      refine g_goto (tgt := 39) dX6_reads_34 (by decide) ?_
      have hf := Option.some.inj hf
      subst hf
      exact g_iret dX6_reads_39
theorem kX6_reads {S : Shp} {n : Nat} {r : Rf} {v0 : Nat} {v1 : Int32} {v2 : Int32} {h : Hp} {o : Int32} (hW : WF S r) (hv0 : S[v0]? = some (6, 38)) (hf : fX6_reads n r v0 v1 v2 h = some o) : CTi yX6_reads wsX6_reads rmX6_reads S r [.ref v0, .int v1, .int v2] h r o h :=
  cti_of rfl (by decide +kernel) rfl (Nat.le_of_ble_eq_true rfl) rfl (uX6_reads hW hv0 hf)
/-! X6_wind wind -/
def rmX6_wind : Room := { frames := 1, cells := 0, slots := 0, locals := 22 }
abbrev GX6_wind (S : Shp) (r r' : Rf) (out : Option Int32 × Hp) (pc : Nat) (L : List (Nat × Value)) (st : List Value) (h : Hp) : Prop := G RX6 cX6_wind 2 (some .int) wsX6_wind rmX6_wind S r r' out pc L st h
theorem nX6_wind_X6 : ∀ w ∈ wsX60, w ∈ wsX6_wind := by decide +kernel
theorem mX6_wind_181 : Cond.constant RX6 181 (-1000000003) ∈ wsX6_wind := by decide +kernel
theorem mX6_wind_86 : Cond.constant RX6 86 (-1000000002) ∈ wsX6_wind := by decide +kernel
theorem mX6_wind_141 : Cond.fieldLink RX6 141 "LinkedIslesModel" "n" "I" ∈ wsX6_wind := by decide +kernel
theorem mX6_wind_47 : Cond.fieldLink RX6 47 "LinkedIslesModel" "now" "[I" ∈ wsX6_wind := by decide +kernel
theorem hdX6_wind : yX6_wind.cls ≠ "java/lang/invoke/MethodHandle" ∧ yX6_wind.cls ≠ "java/lang/invoke/VarHandle" ∧ (parseMethodDescriptor yX6_wind.desc).map (fun d => d.parameters.length) = some 1 := by decide +kernel
def fX6_wind (n : Nat) (r : Rf) (v0 : Nat) (v1 : Int32) (h : Hp) : Option Int32 :=
  (fX6_in n r v1 0 60 h).bind (fun (x2 : Int32) => if x2 = 0 then (some (-1000000002)) else (if (h.1 v0 14) = 0 then (some (-1000000003)) else (ck 3 16 ((fX6_windOf n r v0 ((h.1 (r v0 22) (Int32.toNatClampNeg 3)) + v1) h).bind (fun (x7 : Int32) => some x7)))))
set_option maxHeartbeats 4000000 in
set_option maxRecDepth 100000 in
theorem uX6_wind {S : Shp} {n : Nat} {r : Rf} {v0 : Nat} {v1 : Int32} {h : Hp} {o : Int32} (hW : WF S r) (hv0 : S[v0]? = some (6, 38)) (hf : fX6_wind n r v0 v1 h = some o) : GX6_wind S r r (some o, h) 0 [(0, .ref v0), (1, .int v1)] [] h := by
  unfold fX6_wind at hf
  refine g_iload_n (ps := 1) dX6_wind_0 rfl rfl ?_
  refine g_iconst (v := 0) dX6_wind_1 (by decide +kernel) ?_
  refine g_bipush (v := 60) dX6_wind_2 (by decide +kernel) ?_
  obtain ⟨x2, e1, hf⟩ := bd_s hf
  refine g_callSi (As := [.int v1, .int 0, .int 60]) (n := 3) (kX6_in hW  e1) gX6_wind_X6_in rfl ⟨rfl, rfl⟩ hdX6_in ⟨Nat.le_of_ble_eq_true rfl, Nat.le_of_ble_eq_true rfl⟩ rfl rfl (Nat.le_of_ble_eq_true rfl) dX6_wind_4 ?_
  refine g_if_ne (tgt := 15) dX6_wind_7 (by decide) (fun c3 => ?_) (fun c3 => ?_)
  · have hf := if_f hf c3
    refine g_aload_n (ps := 0) dX6_wind_15 rfl rfl ?_
    refine g_getI cf6 hv0 nX6_wind_X6 (j := 14) (by decide) rfl mX6_wind_141 dX6_wind_16 ?_
    refine g_if_ne (tgt := 27) dX6_wind_19 (by decide) (fun c4 => ?_) (fun c4 => ?_)
    · have hf := if_f hf c4
      refine g_aload_n (ps := 0) dX6_wind_27 rfl rfl ?_
      refine g_aload_n (ps := 0) dX6_wind_28 rfl rfl ?_
      refine g_getR cf6 hv0 nX6_wind_X6 (j := 22) (by decide) rfl mX6_wind_47 dX6_wind_29 ?_
      refine g_iconst (v := 3) dX6_wind_32 (by decide +kernel) ?_
      obtain ⟨z5, hf⟩ := ck_s hf
      refine g_iald (hW _ _ _ hv0 22 _ rfl) z5 dX6_wind_33 ?_
      refine g_iload_n (ps := 1) dX6_wind_34 rfl rfl ?_
      refine g_iadd dX6_wind_35 ?_
      obtain ⟨x7, e6, hf⟩ := bd_s hf
      refine g_callVi (As := [.int ((h.1 (r v0 22) (Int32.toNatClampNeg 3)) + v1)]) (n := 1) (kX6_windOf hW hv0 e6) gX6_wind_X6_windOf rfl ⟨rfl, rfl⟩ ⟨rfl, hdX6_windOf⟩ ⟨Nat.le_of_ble_eq_true rfl, Nat.le_of_ble_eq_true rfl⟩ cf6 hv0 rfl rfl (Nat.le_of_ble_eq_true rfl) dX6_wind_36 ?_
      have hf := Option.some.inj hf
      subst hf
      exact g_iret dX6_wind_39
    · have hf := if_t hf c4
      refine g_ldc (v := (-1000000003)) mX6_wind_181 dX6_wind_22 ?_
      refine g_goto (tgt := 39) dX6_wind_24 (by decide) ?_
      have hf := Option.some.inj hf
      subst hf
      exact g_iret dX6_wind_39
  · have hf := if_t hf c3
    refine g_ldc (v := (-1000000002)) mX6_wind_86 dX6_wind_10 ?_
    refine g_goto (tgt := 39) dX6_wind_12 (by decide) ?_
    have hf := Option.some.inj hf
    subst hf
    exact g_iret dX6_wind_39
theorem kX6_wind {S : Shp} {n : Nat} {r : Rf} {v0 : Nat} {v1 : Int32} {h : Hp} {o : Int32} (hW : WF S r) (hv0 : S[v0]? = some (6, 38)) (hf : fX6_wind n r v0 v1 h = some o) : CTi yX6_wind wsX6_wind rmX6_wind S r [.ref v0, .int v1] h r o h :=
  cti_of rfl (by decide +kernel) rfl (Nat.le_of_ble_eq_true rfl) rfl (uX6_wind hW hv0 hf)
/-! X6_onward onward -/
def rmX6_onward : Room := { frames := 1, cells := 0, slots := 0, locals := 21 }
abbrev GX6_onward (S : Shp) (r r' : Rf) (out : Option Int32 × Hp) (pc : Nat) (L : List (Nat × Value)) (st : List Value) (h : Hp) : Prop := G RX6 cX6_onward 5 (some .int) wsX6_onward rmX6_onward S r r' out pc L st h
theorem nX6_onward_X6 : ∀ w ∈ wsX60, w ∈ wsX6_onward := by decide +kernel
theorem mX6_onward_144 : Cond.fieldLink RX6 144 "LinkedIslesModel" "m" "I" ∈ wsX6_onward := by decide +kernel
theorem mX6_onward_32 : Cond.fieldLink RX6 32 "LinkedIslesModel" "ends" "[I" ∈ wsX6_onward := by decide +kernel
theorem hdX6_onward : yX6_onward.cls ≠ "java/lang/invoke/MethodHandle" ∧ yX6_onward.cls ≠ "java/lang/invoke/VarHandle" ∧ (parseMethodDescriptor yX6_onward.desc).map (fun d => d.parameters.length) = some 2 := by decide +kernel
def jX6_onward_57 (n : Nat) (r : Rf) (v0 : Nat) (v1 : Int32) (v2 : Int32) (v3 : Int32) (v4 : Int32)  (h : Hp) : Option ((Int32 × Int32) ⊕ (Int32)) :=
  ck (2 * v4) 20 (ck ((2 * v4) + 1) 20 (lE ((v3 ||| ((1 <<< ((h.1 (r v0 17) (Int32.toNatClampNeg (2 * v4))) &&& 31)) ||| (1 <<< ((h.1 (r v0 17) (Int32.toNatClampNeg ((2 * v4) + 1))) &&& 31))))) (fun (x12 : Int32) => lE (v4 + 1) (fun (x13 : Int32) => some (.inl (x12, x13))))))
def bX6_onward_5 (n : Nat) (r : Rf) (v0 : Nat) (v1 : Int32) (v2 : Int32) (v3 : Int32) (v4 : Int32) (h : Hp) : Option ((Int32 × Int32) ⊕ (Int32)) :=
  if (h.1 v0 15) ≤ v4 then (some (.inr v3)) else ((fX6_has n r v2 v4 h).bind (fun (x3 : Int32) => if x3 = 0 then (lE (v4 + 1) (fun (x5 : Int32) => some (.inl (v3, x5)))) else (ck (2 * v4) 20 ((fX6_has n r v1 (h.1 (r v0 17) (Int32.toNatClampNeg (2 * v4))) h).bind (fun (x8 : Int32) => if x8 = 0 then (ck ((2 * v4) + 1) 20 ((fX6_has n r v1 (h.1 (r v0 17) (Int32.toNatClampNeg ((2 * v4) + 1))) h).bind (fun (x16 : Int32) => if x16 = 0 then (lE (v4 + 1) (fun (x18 : Int32) => some (.inl (v3, x18)))) else (jX6_onward_57 n r v0 v1 v2 v3 v4  h)))) else (jX6_onward_57 n r v0 v1 v2 v3 v4  h))))))
def lX6_onward_5 (n : Nat) (r : Rf) (v0 : Nat) (v1 : Int32) (v2 : Int32) (v3 : Int32) (v4 : Int32) (h : Hp) : Option Int32 :=
  (it (fun (s : Int32 × Int32) => bX6_onward_5 n r v0 v1 v2 s.1 s.2 h) n (v3, v4)).bind (fun z => some z)
def fX6_onward (n : Nat) (r : Rf) (v0 : Nat) (v1 : Int32) (v2 : Int32) (h : Hp) : Option Int32 :=
  lX6_onward_5 n r v0 v1 v2 v1 0 h
set_option maxHeartbeats 4000000 in
set_option maxRecDepth 100000 in
theorem ujX6_onward_57 {S : Shp} {n : Nat} {r : Rf} {out : Option Int32 × Hp} {r' : Rf} {v0 : Nat} {v1 : Int32} {v2 : Int32} {v3 : Int32} {v4 : Int32}  {h : Hp} {w : (Int32 × Int32) ⊕ (Int32)} (hW : WF S r) (hv0 : S[v0]? = some (6, 38)) (hf : jX6_onward_57 n r v0 v1 v2 v3 v4  h = some w) (hk : ∀ y, w = .inl y → GX6_onward S r r' out 5 [(0, .ref v0), (1, .int v1), (2, .int v2), (3, .int (y.1)), (4, .int (y.2))] [] h) (he : ∀ z, w = .inr z → GX6_onward S r r' out 91 [(0, .ref v0), (3, .int (z))] [] h) : GX6_onward S r r' out 57 [(0, .ref v0), (1, .int v1), (2, .int v2), (3, .int v3), (4, .int v4)] [] h := by
  unfold jX6_onward_57 at hf
  refine g_iload_n (ps := 3) dX6_onward_57 rfl rfl ?_
  refine g_iconst (v := 1) dX6_onward_58 (by decide +kernel) ?_
  refine g_aload_n (ps := 0) dX6_onward_59 rfl rfl ?_
  refine g_getR cf6 hv0 nX6_onward_X6 (j := 17) (by decide) rfl mX6_onward_32 dX6_onward_60 ?_
  refine g_iconst (v := 2) dX6_onward_63 (by decide +kernel) ?_
  refine g_iload (ps := 4) dX6_onward_64 rfl ?_
  refine g_imul dX6_onward_66 ?_
  obtain ⟨z10, hf⟩ := ck_s hf
  refine g_iald (hW _ _ _ hv0 17 _ rfl) z10 dX6_onward_67 ?_
  refine g_ishl dX6_onward_68 ?_
  refine g_iconst (v := 1) dX6_onward_69 (by decide +kernel) ?_
  refine g_aload_n (ps := 0) dX6_onward_70 rfl rfl ?_
  refine g_getR cf6 hv0 nX6_onward_X6 (j := 17) (by decide) rfl mX6_onward_32 dX6_onward_71 ?_
  refine g_iconst (v := 2) dX6_onward_74 (by decide +kernel) ?_
  refine g_iload (ps := 4) dX6_onward_75 rfl ?_
  refine g_imul dX6_onward_77 ?_
  refine g_iconst (v := 1) dX6_onward_78 (by decide +kernel) ?_
  refine g_iadd dX6_onward_79 ?_
  obtain ⟨z11, hf⟩ := ck_s hf
  refine g_iald (hW _ _ _ hv0 17 _ rfl) z11 dX6_onward_80 ?_
  refine g_ishl dX6_onward_81 ?_
  refine g_ior dX6_onward_82 ?_
  refine g_ior dX6_onward_83 ?_
  refine g_topi (fun x12 ex12 => ?_)
  have hf := lE_s hf ex12
  refine g_istore_n (L' := [(3, .int x12), (0, .ref v0), (1, .int v1), (2, .int v2), (4, .int v4)]) dX6_onward_84 rfl (by decide) rfl ?_
  obtain ⟨x13, ex13⟩ : ∃ y : Int32, y = v4 + 1 := ⟨_, rfl⟩
  have hf := lE_s hf ex13
  refine g_iinc (ps := 4) (v := x13) (L' := [(4, .int x13), (3, .int x12), (0, .ref v0), (1, .int v1), (2, .int v2)]) dX6_onward_85 rfl (by rw [ex13]; rfl) (by decide) rfl ?_
  refine g_goto (tgt := 5) dX6_onward_88 (by decide) ?_
  exact g_pick [2, 3, 4, 1, 0] rfl (hk _ (Option.some.inj hf).symm)
set_option maxHeartbeats 4000000 in
set_option maxRecDepth 100000 in
theorem ubX6_onward_5 {S : Shp} {n : Nat} {r : Rf} {out : Option Int32 × Hp} {r' : Rf} {v0 : Nat} {v1 : Int32} {v2 : Int32} {v3 : Int32} {v4 : Int32}  {h : Hp} {w : (Int32 × Int32) ⊕ (Int32)} (hW : WF S r) (hv0 : S[v0]? = some (6, 38)) (hf : bX6_onward_5 n r v0 v1 v2 v3 v4 h = some w) (hk : ∀ y, w = .inl y → GX6_onward S r r' out 5 [(0, .ref v0), (1, .int v1), (2, .int v2), (3, .int (y.1)), (4, .int (y.2))] [] h) (he : ∀ z, w = .inr z → GX6_onward S r r' out 91 [(0, .ref v0), (3, .int (z))] [] h) : GX6_onward S r r' out 5 [(0, .ref v0), (1, .int v1), (2, .int v2), (3, .int v3), (4, .int v4)] [] h := by
  unfold bX6_onward_5 at hf
  refine g_iload (ps := 4) dX6_onward_5 rfl ?_
  refine g_aload_n (ps := 0) dX6_onward_7 rfl rfl ?_
  refine g_getI cf6 hv0 nX6_onward_X6 (j := 15) (by decide) rfl mX6_onward_144 dX6_onward_8 ?_
  refine g_icmp_ge (tgt := 91) dX6_onward_11 (by decide) (fun c1 => ?_) (fun c1 => ?_)
  · have hf := if_t hf c1
    exact g_pick [0, 3] rfl (he _ (Option.some.inj hf).symm)
  · have hf := if_f hf c1
    refine g_iload_n (ps := 2) dX6_onward_14 rfl rfl ?_
    refine g_iload (ps := 4) dX6_onward_15 rfl ?_
    obtain ⟨x3, e2, hf⟩ := bd_s hf
    refine g_callSi (As := [.int v2, .int v4]) (n := 2) (kX6_has hW  e2) gX6_onward_X6_has rfl ⟨rfl, rfl⟩ hdX6_has ⟨Nat.le_of_ble_eq_true rfl, Nat.le_of_ble_eq_true rfl⟩ rfl rfl (Nat.le_of_ble_eq_true rfl) dX6_onward_17 ?_
    refine g_if_eq (tgt := 85) dX6_onward_20 (by decide) (fun c4 => ?_) (fun c4 => ?_)
    · have hf := if_t hf c4
      obtain ⟨x5, ex5⟩ : ∃ y : Int32, y = v4 + 1 := ⟨_, rfl⟩
      have hf := lE_s hf ex5
      refine g_iinc (ps := 4) (v := x5) (L' := [(4, .int x5), (0, .ref v0), (1, .int v1), (2, .int v2), (3, .int v3)]) dX6_onward_85 rfl (by rw [ex5]; rfl) (by decide) rfl ?_
      refine g_goto (tgt := 5) dX6_onward_88 (by decide) ?_
      exact g_pick [1, 2, 3, 4, 0] rfl (hk _ (Option.some.inj hf).symm)
    · have hf := if_f hf c4
      refine g_iload_n (ps := 1) dX6_onward_23 rfl rfl ?_
      refine g_aload_n (ps := 0) dX6_onward_24 rfl rfl ?_
      refine g_getR cf6 hv0 nX6_onward_X6 (j := 17) (by decide) rfl mX6_onward_32 dX6_onward_25 ?_
      refine g_iconst (v := 2) dX6_onward_28 (by decide +kernel) ?_
      refine g_iload (ps := 4) dX6_onward_29 rfl ?_
      refine g_imul dX6_onward_31 ?_
      obtain ⟨z6, hf⟩ := ck_s hf
      refine g_iald (hW _ _ _ hv0 17 _ rfl) z6 dX6_onward_32 ?_
      obtain ⟨x8, e7, hf⟩ := bd_s hf
      refine g_callSi (As := [.int v1, .int (h.1 (r v0 17) (Int32.toNatClampNeg (2 * v4)))]) (n := 2) (kX6_has hW  e7) gX6_onward_X6_has rfl ⟨rfl, rfl⟩ hdX6_has ⟨Nat.le_of_ble_eq_true rfl, Nat.le_of_ble_eq_true rfl⟩ rfl rfl (Nat.le_of_ble_eq_true rfl) dX6_onward_33 ?_
      refine g_if_ne (tgt := 57) dX6_onward_36 (by decide) (fun c9 => ?_) (fun c9 => ?_)
      · have hf := if_f hf c9
        exact g_pick [0, 1, 2, 3, 4] rfl (ujX6_onward_57 hW hv0 hf hk he)
      · have hf := if_t hf c9
        refine g_iload_n (ps := 1) dX6_onward_39 rfl rfl ?_
        refine g_aload_n (ps := 0) dX6_onward_40 rfl rfl ?_
        refine g_getR cf6 hv0 nX6_onward_X6 (j := 17) (by decide) rfl mX6_onward_32 dX6_onward_41 ?_
        refine g_iconst (v := 2) dX6_onward_44 (by decide +kernel) ?_
        refine g_iload (ps := 4) dX6_onward_45 rfl ?_
        refine g_imul dX6_onward_47 ?_
        refine g_iconst (v := 1) dX6_onward_48 (by decide +kernel) ?_
        refine g_iadd dX6_onward_49 ?_
        obtain ⟨z14, hf⟩ := ck_s hf
        refine g_iald (hW _ _ _ hv0 17 _ rfl) z14 dX6_onward_50 ?_
        obtain ⟨x16, e15, hf⟩ := bd_s hf
        refine g_callSi (As := [.int v1, .int (h.1 (r v0 17) (Int32.toNatClampNeg ((2 * v4) + 1)))]) (n := 2) (kX6_has hW  e15) gX6_onward_X6_has rfl ⟨rfl, rfl⟩ hdX6_has ⟨Nat.le_of_ble_eq_true rfl, Nat.le_of_ble_eq_true rfl⟩ rfl rfl (Nat.le_of_ble_eq_true rfl) dX6_onward_51 ?_
        refine g_if_eq (tgt := 85) dX6_onward_54 (by decide) (fun c17 => ?_) (fun c17 => ?_)
        · have hf := if_t hf c17
          obtain ⟨x18, ex18⟩ : ∃ y : Int32, y = v4 + 1 := ⟨_, rfl⟩
          have hf := lE_s hf ex18
          refine g_iinc (ps := 4) (v := x18) (L' := [(4, .int x18), (0, .ref v0), (1, .int v1), (2, .int v2), (3, .int v3)]) dX6_onward_85 rfl (by rw [ex18]; rfl) (by decide) rfl ?_
          refine g_goto (tgt := 5) dX6_onward_88 (by decide) ?_
          exact g_pick [1, 2, 3, 4, 0] rfl (hk _ (Option.some.inj hf).symm)
        · have hf := if_f hf c17
          exact g_pick [0, 1, 2, 3, 4] rfl (ujX6_onward_57 hW hv0 hf hk he)
set_option maxHeartbeats 4000000 in
set_option maxRecDepth 100000 in
theorem ulX6_onward_5 {S : Shp} {n : Nat} {r : Rf} {v0 : Nat} {v1 : Int32} {v2 : Int32} {v3 : Int32} {v4 : Int32}  {h : Hp} {o : Int32} (hW : WF S r) (hv0 : S[v0]? = some (6, 38)) (hf : lX6_onward_5 n r v0 v1 v2 v3 v4 h = some o)  : GX6_onward S r r (some o, h) 5 [(0, .ref v0), (1, .int v1), (2, .int v2), (3, .int v3), (4, .int v4)] [] h := by
  unfold lX6_onward_5 at hf
  obtain ⟨z0, ei, hf⟩ := bd_s hf
  refine it_ind (P := fun (s : Int32 × Int32) => GX6_onward S r r (some o, h) 5 [(0, .ref v0), (1, .int v1), (2, .int v2), (3, .int (s.1)), (4, .int (s.2))] [] h) (fun s w hb hk2 he2 => ?_) n _ ei
  refine ubX6_onward_5 (out := (some o, h)) (r' := r) hW hv0 hb hk2 (fun z hz => ?_)
  have hz := he2 z hz
  subst hz
  refine g_iload_n (ps := 1) dX6_onward_91 rfl rfl ?_
  have hf := Option.some.inj hf
  subst hf
  exact g_iret dX6_onward_92
set_option maxHeartbeats 4000000 in
set_option maxRecDepth 100000 in
theorem uX6_onward {S : Shp} {n : Nat} {r : Rf} {v0 : Nat} {v1 : Int32} {v2 : Int32} {h : Hp} {o : Int32} (hW : WF S r) (hv0 : S[v0]? = some (6, 38)) (hf : fX6_onward n r v0 v1 v2 h = some o) : GX6_onward S r r (some o, h) 0 [(0, .ref v0), (1, .int v1), (2, .int v2)] [] h := by
  unfold fX6_onward at hf
  refine g_iload_n (ps := 1) dX6_onward_0 rfl rfl ?_
  refine g_istore_n (L' := [(3, .int v1), (0, .ref v0), (1, .int v1), (2, .int v2)]) dX6_onward_1 rfl (by decide) rfl ?_
  refine g_iconst (v := 0) dX6_onward_2 (by decide +kernel) ?_
  refine g_istore (L' := [(4, .int 0), (3, .int v1), (0, .ref v0), (1, .int v1), (2, .int v2)]) dX6_onward_3 (by decide) rfl ?_
  exact g_pick [2, 3, 4, 1, 0] rfl (ulX6_onward_5 hW hv0 hf)
theorem kX6_onward {S : Shp} {n : Nat} {r : Rf} {v0 : Nat} {v1 : Int32} {v2 : Int32} {h : Hp} {o : Int32} (hW : WF S r) (hv0 : S[v0]? = some (6, 38)) (hf : fX6_onward n r v0 v1 v2 h = some o) : CTi yX6_onward wsX6_onward rmX6_onward S r [.ref v0, .int v1, .int v2] h r o h :=
  cti_of rfl (by decide +kernel) rfl (Nat.le_of_ble_eq_true rfl) rfl (uX6_onward hW hv0 hf)
/-! X6_reached reached -/
def rmX6_reached : Room := { frames := 2, cells := 0, slots := 0, locals := 45 }
abbrev GX6_reached (S : Shp) (r r' : Rf) (out : Option Int32 × Hp) (pc : Nat) (L : List (Nat × Value)) (st : List Value) (h : Hp) : Prop := G RX6 cX6_reached 5 (some .int) wsX6_reached rmX6_reached S r r' out pc L st h
theorem nX6_reached_X6 : ∀ w ∈ wsX60, w ∈ wsX6_reached := by decide +kernel
theorem mX6_reached_141 : Cond.fieldLink RX6 141 "LinkedIslesModel" "n" "I" ∈ wsX6_reached := by decide +kernel
theorem hdX6_reached : yX6_reached.cls ≠ "java/lang/invoke/MethodHandle" ∧ yX6_reached.cls ≠ "java/lang/invoke/VarHandle" ∧ (parseMethodDescriptor yX6_reached.desc).map (fun d => d.parameters.length) = some 2 := by decide +kernel
def bX6_reached_7 (n : Nat) (r : Rf) (v0 : Nat) (v2 : Int32) (v3 : Int32) (v4 : Int32) (h : Hp) : Option ((Int32 × Int32) ⊕ (Int32)) :=
  if (h.1 v0 14) ≤ v4 then (some (.inr v3)) else ((fX6_onward n r v0 v3 v2 h).bind (fun (x4 : Int32) => lE (v4 + 1) (fun (x5 : Int32) => some (.inl (x4, x5)))))
def lX6_reached_7 (n : Nat) (r : Rf) (v0 : Nat) (v2 : Int32) (v3 : Int32) (v4 : Int32) (h : Hp) : Option Int32 :=
  (it (fun (s : Int32 × Int32) => bX6_reached_7 n r v0 v2 s.1 s.2 h) n (v3, v4)).bind (fun z => some z)
def fX6_reached (n : Nat) (r : Rf) (v0 : Nat) (v1 : Int32) (v2 : Int32) (h : Hp) : Option Int32 :=
  lE ((1 <<< (v1 &&& 31))) (fun (x1 : Int32) => lX6_reached_7 n r v0 v2 x1 0 h)
set_option maxHeartbeats 4000000 in
set_option maxRecDepth 100000 in
theorem ubX6_reached_7 {S : Shp} {n : Nat} {r : Rf} {out : Option Int32 × Hp} {r' : Rf} {v0 : Nat} {v2 : Int32} {v3 : Int32} {v4 : Int32}  {h : Hp} {w : (Int32 × Int32) ⊕ (Int32)} (hW : WF S r) (hv0 : S[v0]? = some (6, 38)) (hf : bX6_reached_7 n r v0 v2 v3 v4 h = some w) (hk : ∀ y, w = .inl y → GX6_reached S r r' out 7 [(0, .ref v0), (2, .int v2), (3, .int (y.1)), (4, .int (y.2))] [] h) (he : ∀ z, w = .inr z → GX6_reached S r r' out 29 [(0, .ref v0), (3, .int (z))] [] h) : GX6_reached S r r' out 7 [(0, .ref v0), (2, .int v2), (3, .int v3), (4, .int v4)] [] h := by
  unfold bX6_reached_7 at hf
  refine g_iload (ps := 3) dX6_reached_7 rfl ?_
  refine g_aload_n (ps := 0) dX6_reached_9 rfl rfl ?_
  refine g_getI cf6 hv0 nX6_reached_X6 (j := 14) (by decide) rfl mX6_reached_141 dX6_reached_10 ?_
  refine g_icmp_ge (tgt := 29) dX6_reached_13 (by decide) (fun c2 => ?_) (fun c2 => ?_)
  · have hf := if_t hf c2
    exact g_pick [0, 2] rfl (he _ (Option.some.inj hf).symm)
  · have hf := if_f hf c2
    refine g_aload_n (ps := 0) dX6_reached_16 rfl rfl ?_
    refine g_iload_n (ps := 2) dX6_reached_17 rfl rfl ?_
    refine g_iload_n (ps := 1) dX6_reached_18 rfl rfl ?_
    obtain ⟨x4, e3, hf⟩ := bd_s hf
    refine g_callVi (As := [.int v3, .int v2]) (n := 2) (kX6_onward hW hv0 e3) gX6_reached_X6_onward rfl ⟨rfl, rfl⟩ ⟨rfl, hdX6_onward⟩ ⟨Nat.le_of_ble_eq_true rfl, Nat.le_of_ble_eq_true rfl⟩ cf6 hv0 rfl rfl (Nat.le_of_ble_eq_true rfl) dX6_reached_19 ?_
    refine g_istore_n (L' := [(3, .int x4), (0, .ref v0), (2, .int v2), (4, .int v4)]) dX6_reached_22 rfl (by decide) rfl ?_
    obtain ⟨x5, ex5⟩ : ∃ y : Int32, y = v4 + 1 := ⟨_, rfl⟩
    have hf := lE_s hf ex5
    refine g_iinc (ps := 3) (v := x5) (L' := [(4, .int x5), (3, .int x4), (0, .ref v0), (2, .int v2)]) dX6_reached_23 rfl (by rw [ex5]; rfl) (by decide) rfl ?_
    refine g_goto (tgt := 7) dX6_reached_26 (by decide) ?_
    exact g_pick [2, 3, 1, 0] rfl (hk _ (Option.some.inj hf).symm)
set_option maxHeartbeats 4000000 in
set_option maxRecDepth 100000 in
theorem ulX6_reached_7 {S : Shp} {n : Nat} {r : Rf} {v0 : Nat} {v2 : Int32} {v3 : Int32} {v4 : Int32}  {h : Hp} {o : Int32} (hW : WF S r) (hv0 : S[v0]? = some (6, 38)) (hf : lX6_reached_7 n r v0 v2 v3 v4 h = some o)  : GX6_reached S r r (some o, h) 7 [(0, .ref v0), (2, .int v2), (3, .int v3), (4, .int v4)] [] h := by
  unfold lX6_reached_7 at hf
  obtain ⟨z0, ei, hf⟩ := bd_s hf
  refine it_ind (P := fun (s : Int32 × Int32) => GX6_reached S r r (some o, h) 7 [(0, .ref v0), (2, .int v2), (3, .int (s.1)), (4, .int (s.2))] [] h) (fun s w hb hk2 he2 => ?_) n _ ei
  refine ubX6_reached_7 (out := (some o, h)) (r' := r) hW hv0 hb hk2 (fun z hz => ?_)
  have hz := he2 z hz
  subst hz
  refine g_iload_n (ps := 1) dX6_reached_29 rfl rfl ?_
  have hf := Option.some.inj hf
  subst hf
  exact g_iret dX6_reached_30
set_option maxHeartbeats 4000000 in
set_option maxRecDepth 100000 in
theorem uX6_reached {S : Shp} {n : Nat} {r : Rf} {v0 : Nat} {v1 : Int32} {v2 : Int32} {h : Hp} {o : Int32} (hW : WF S r) (hv0 : S[v0]? = some (6, 38)) (hf : fX6_reached n r v0 v1 v2 h = some o) : GX6_reached S r r (some o, h) 0 [(0, .ref v0), (1, .int v1), (2, .int v2)] [] h := by
  unfold fX6_reached at hf
  refine g_iconst (v := 1) dX6_reached_0 (by decide +kernel) ?_
  refine g_iload_n (ps := 1) dX6_reached_1 rfl rfl ?_
  refine g_ishl dX6_reached_2 ?_
  refine g_topi (fun x1 ex1 => ?_)
  have hf := lE_s hf ex1
  refine g_istore_n (L' := [(3, .int x1), (0, .ref v0), (1, .int v1), (2, .int v2)]) dX6_reached_3 rfl (by decide) rfl ?_
  refine g_iconst (v := 0) dX6_reached_4 (by decide +kernel) ?_
  refine g_istore (L' := [(4, .int 0), (3, .int x1), (0, .ref v0), (1, .int v1), (2, .int v2)]) dX6_reached_5 (by decide) rfl ?_
  exact g_pick [2, 4, 1, 0] rfl (ulX6_reached_7 hW hv0 hf)
theorem kX6_reached {S : Shp} {n : Nat} {r : Rf} {v0 : Nat} {v1 : Int32} {v2 : Int32} {h : Hp} {o : Int32} (hW : WF S r) (hv0 : S[v0]? = some (6, 38)) (hf : fX6_reached n r v0 v1 v2 h = some o) : CTi yX6_reached wsX6_reached rmX6_reached S r [.ref v0, .int v1, .int v2] h r o h :=
  cti_of rfl (by decide +kernel) rfl (Nat.le_of_ble_eq_true rfl) rfl (uX6_reached hW hv0 hf)
