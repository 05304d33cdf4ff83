/-! X5_together together -/
def rmX5_together : Room := { frames := 3, cells := 0, slots := 0, locals := 70 }
abbrev GX5_together (S : Shp) (r r' : Rf) (out : Option Int32 × Hp) (pc : Nat) (L : List (Nat × Value)) (st : List Value) (h : Hp) : Prop := G RX5 cX5_together 2 (some .int) wsX5_together rmX5_together S r r' out pc L st h
theorem nX5_together_X0 : ∀ w ∈ wsX00, w ∈ wsX5_together := by decide +kernel
theorem nX5_together_X5 : ∀ w ∈ wsX50, w ∈ wsX5_together := by decide +kernel
theorem mX5_together_135 : Cond.constant RX5 135 (-1000000001) ∈ wsX5_together := by decide +kernel
theorem mX5_together_110 : Cond.fieldLink RX5 110 "LinkedIsles$Bonds" "doneUp" "I" ∈ wsX5_together := by decide +kernel
theorem mX5_together_19 : Cond.fieldLink RX5 19 "LinkedIsles" "chart" "LLinkedIsles$Chart;" ∈ wsX5_together := by decide +kernel
theorem mX5_together_29 : Cond.fieldLink RX5 29 "LinkedIsles" "now" "LLinkedIsles$Bonds;" ∈ wsX5_together := by decide +kernel
theorem hdX5_together : yX5_together.cls ≠ "java/lang/invoke/MethodHandle" ∧ yX5_together.cls ≠ "java/lang/invoke/VarHandle" ∧ (parseMethodDescriptor yX5_together.desc).map (fun d => d.parameters.length) = some 1 := by decide +kernel
def fX5_together (n : Nat) (r : Rf) (v0 : Nat) (v1 : Int32) (h : Hp) : Option Int32 :=
  (fX1_hasIsland n r (r v0 1) v1 h).bind (fun (x2 : Int32) => if x2 = 0 then (some (-1000000001)) else ((fX1_reach n r (r v0 1) v1 (h.1 (r v0 3) 1) h).bind (fun (x5 : Int32) => some x5)))
set_option maxHeartbeats 4000000 in
set_option maxRecDepth 100000 in
theorem uX5_together {S : Shp} {n : Nat} {r : Rf} {v0 : Nat} {v1 : Int32} {h : Hp} {o : Int32} (hW : WF S r) (hv0 : S[v0]? = some (5, 11)) (hf : fX5_together n r v0 v1 h = some o) : GX5_together S r r (some o, h) 0 [(0, .ref v0), (1, .int v1)] [] h := by
  unfold fX5_together at hf
  refine g_aload_n (ps := 0) dX5_together_0 rfl rfl ?_
  refine g_getR cf5 hv0 nX5_together_X5 (j := 1) (by decide) rfl mX5_together_19 dX5_together_1 ?_
  refine g_iload_n (ps := 1) dX5_together_4 rfl rfl ?_
  obtain ⟨x2, e1, hf⟩ := bd_s hf
  refine g_callVi (As := [.int v1]) (n := 1) (kX1_hasIsland hW (hW _ _ _ hv0 1 _ rfl) e1) gX5_together_X1_hasIsland rfl ⟨rfl, rfl⟩ ⟨rfl, hdX1_hasIsland⟩ ⟨Nat.le_of_ble_eq_true rfl, Nat.le_of_ble_eq_true rfl⟩ cf1 (hW _ _ _ hv0 1 _ rfl) rfl rfl (Nat.le_of_ble_eq_true rfl) dX5_together_5 ?_
  refine g_if_ne (tgt := 14) dX5_together_8 (by decide) (fun c3 => ?_) (fun c3 => ?_)
  · have hf := if_f hf c3
    refine g_aload_n (ps := 0) dX5_together_14 rfl rfl ?_
    refine g_getR cf5 hv0 nX5_together_X5 (j := 1) (by decide) rfl mX5_together_19 dX5_together_15 ?_
    refine g_iload_n (ps := 1) dX5_together_18 rfl rfl ?_
    refine g_aload_n (ps := 0) dX5_together_19 rfl rfl ?_
    refine g_getR cf5 hv0 nX5_together_X5 (j := 3) (by decide) rfl mX5_together_29 dX5_together_20 ?_
    refine g_getI cf0 (hW _ _ _ hv0 3 _ rfl) nX5_together_X0 (j := 1) (by decide) rfl mX5_together_110 dX5_together_23 ?_
    obtain ⟨x5, e4, hf⟩ := bd_s hf
    refine g_callVi (As := [.int v1, .int (h.1 (r v0 3) 1)]) (n := 2) (kX1_reach hW (hW _ _ _ hv0 1 _ rfl) e4) gX5_together_X1_reach rfl ⟨rfl, rfl⟩ ⟨rfl, hdX1_reach⟩ ⟨Nat.le_of_ble_eq_true rfl, Nat.le_of_ble_eq_true rfl⟩ cf1 (hW _ _ _ hv0 1 _ rfl) rfl rfl (Nat.le_of_ble_eq_true rfl) dX5_together_26 ?_
    have hf := Option.some.inj hf
    subst hf
    exact g_iret dX5_together_29
  · have hf := if_t hf c3
    refine g_ldc (v := (-1000000001)) mX5_together_135 dX5_together_11 ?_
    have hf := Option.some.inj hf
    subst hf
    exact g_iret dX5_together_13
theorem kX5_together {S : Shp} {n : Nat} {r : Rf} {v0 : Nat} {v1 : Int32} {h : Hp} {o : Int32} (hW : WF S r) (hv0 : S[v0]? = some (5, 11)) (hf : fX5_together n r v0 v1 h = some o) : CTi yX5_together wsX5_together rmX5_together S r [.ref v0, .int v1] h r o h :=
  cti_of rfl (by decide +kernel) rfl (Nat.le_of_ble_eq_true rfl) rfl (uX5_together hW hv0 hf)
/-! X5_areTwoIslands areTwoIslands -/
def rmX5_areTwoIslands : Room := { frames := 1, cells := 0, slots := 0, locals := 21 }
abbrev GX5_areTwoIslands (S : Shp) (r r' : Rf) (out : Option Int32 × Hp) (pc : Nat) (L : List (Nat × Value)) (st : List Value) (h : Hp) : Prop := G RX5 cX5_areTwoIslands 3 (some .boolean) wsX5_areTwoIslands rmX5_areTwoIslands S r r' out pc L st h
theorem nX5_areTwoIslands_X5 : ∀ w ∈ wsX50, w ∈ wsX5_areTwoIslands := by decide +kernel
theorem mX5_areTwoIslands_19 : Cond.fieldLink RX5 19 "LinkedIsles" "chart" "LLinkedIsles$Chart;" ∈ wsX5_areTwoIslands := by decide +kernel
theorem hdX5_areTwoIslands : yX5_areTwoIslands.cls ≠ "java/lang/invoke/MethodHandle" ∧ yX5_areTwoIslands.cls ≠ "java/lang/invoke/VarHandle" ∧ (parseMethodDescriptor yX5_areTwoIslands.desc).map (fun d => d.parameters.length) = some 2 := by decide +kernel
def fX5_areTwoIslands (n : Nat) (r : Rf) (v0 : Nat) (v1 : Int32) (v2 : Int32) (h : Hp) : Option Int32 :=
  (fX1_hasIsland n r (r v0 1) v1 h).bind (fun (x2 : Int32) => if x2 = 0 then (some 0) else ((fX1_hasIsland n r (r v0 1) v2 h).bind (fun (x5 : Int32) => if x5 = 0 then (some 0) else (if v1 = v2 then (some 0) else (some 1)))))
set_option maxHeartbeats 4000000 in
set_option maxRecDepth 100000 in
theorem uX5_areTwoIslands {S : Shp} {n : Nat} {r : Rf} {v0 : Nat} {v1 : Int32} {v2 : Int32} {h : Hp} {o : Int32} (hW : WF S r) (hv0 : S[v0]? = some (5, 11)) (hf : fX5_areTwoIslands n r v0 v1 v2 h = some o) : GX5_areTwoIslands S r r (some o, h) 0 [(0, .ref v0), (1, .int v1), (2, .int v2)] [] h := by
  unfold fX5_areTwoIslands at hf
  refine g_aload_n (ps := 0) dX5_areTwoIslands_0 rfl rfl ?_
  refine g_getR cf5 hv0 nX5_areTwoIslands_X5 (j := 1) (by decide) rfl mX5_areTwoIslands_19 dX5_areTwoIslands_1 ?_
  refine g_iload_n (ps := 1) dX5_areTwoIslands_4 rfl rfl ?_
  obtain ⟨x2, e1, hf⟩ := bd_s hf
  refine g_callVi (As := [.int v1]) (n := 1) (kX1_hasIsland hW (hW _ _ _ hv0 1 _ rfl) e1) gX5_areTwoIslands_X1_hasIsland rfl ⟨rfl, rfl⟩ ⟨rfl, hdX1_hasIsland⟩ ⟨Nat.le_of_ble_eq_true rfl, Nat.le_of_ble_eq_true rfl⟩ cf1 (hW _ _ _ hv0 1 _ rfl) rfl rfl (Nat.le_of_ble_eq_true rfl) dX5_areTwoIslands_5 ?_
  refine g_if_eq (tgt := 31) dX5_areTwoIslands_8 (by decide) (fun c3 => ?_) (fun c3 => ?_)
  · have hf := if_t hf c3
    refine g_iconst (v := 0) dX5_areTwoIslands_31 (by decide +kernel) ?_
    have hf := Option.some.inj hf
    subst hf
    exact g_zret (Or.inl rfl) dX5_areTwoIslands_32
  · have hf := if_f hf c3
    refine g_aload_n (ps := 0) dX5_areTwoIslands_11 rfl rfl ?_
    refine g_getR cf5 hv0 nX5_areTwoIslands_X5 (j := 1) (by decide) rfl mX5_areTwoIslands_19 dX5_areTwoIslands_12 ?_
    refine g_iload_n (ps := 2) dX5_areTwoIslands_15 rfl rfl ?_
    obtain ⟨x5, e4, hf⟩ := bd_s hf
    refine g_callVi (As := [.int v2]) (n := 1) (kX1_hasIsland hW (hW _ _ _ hv0 1 _ rfl) e4) gX5_areTwoIslands_X1_hasIsland rfl ⟨rfl, rfl⟩ ⟨rfl, hdX1_hasIsland⟩ ⟨Nat.le_of_ble_eq_true rfl, Nat.le_of_ble_eq_true rfl⟩ cf1 (hW _ _ _ hv0 1 _ rfl) rfl rfl (Nat.le_of_ble_eq_true rfl) dX5_areTwoIslands_16 ?_
    refine g_if_eq (tgt := 31) dX5_areTwoIslands_19 (by decide) (fun c6 => ?_) (fun c6 => ?_)
    · have hf := if_t hf c6
      refine g_iconst (v := 0) dX5_areTwoIslands_31 (by decide +kernel) ?_
      have hf := Option.some.inj hf
      subst hf
      exact g_zret (Or.inl rfl) dX5_areTwoIslands_32
    · have hf := if_f hf c6
      refine g_iload_n (ps := 1) dX5_areTwoIslands_22 rfl rfl ?_
      refine g_iload_n (ps := 2) dX5_areTwoIslands_23 rfl rfl ?_
      refine g_icmp_eq (tgt := 31) dX5_areTwoIslands_24 (by decide) (fun c7 => ?_) (fun c7 => ?_)
      · have hf := if_t hf c7
        refine g_iconst (v := 0) dX5_areTwoIslands_31 (by decide +kernel) ?_
        have hf := Option.some.inj hf
        subst hf
        exact g_zret (Or.inl rfl) dX5_areTwoIslands_32
      · have hf := if_f hf c7
        refine g_iconst (v := 1) dX5_areTwoIslands_27 (by decide +kernel) ?_
        refine g_goto (tgt := 32) dX5_areTwoIslands_28 (by decide) ?_
        have hf := Option.some.inj hf
        subst hf
        exact g_zret (Or.inr rfl) dX5_areTwoIslands_32
theorem kX5_areTwoIslands {S : Shp} {n : Nat} {r : Rf} {v0 : Nat} {v1 : Int32} {v2 : Int32} {h : Hp} {o : Int32} (hW : WF S r) (hv0 : S[v0]? = some (5, 11)) (hf : fX5_areTwoIslands n r v0 v1 v2 h = some o) : CTi yX5_areTwoIslands wsX5_areTwoIslands rmX5_areTwoIslands S r [.ref v0, .int v1, .int v2] h r o h :=
  cti_of rfl (by decide +kernel) rfl (Nat.le_of_ble_eq_true rfl) rfl (uX5_areTwoIslands hW hv0 hf)
/-! X5_isChoice isChoice -/
def rmX5_isChoice : Room := { frames := 1, cells := 0, slots := 0, locals := 20 }
abbrev GX5_isChoice (S : Shp) (r r' : Rf) (out : Option Int32 × Hp) (pc : Nat) (L : List (Nat × Value)) (st : List Value) (h : Hp) : Prop := G RX5 cX5_isChoice 3 (some .boolean) wsX5_isChoice rmX5_isChoice S r r' out pc L st h
theorem nX5_isChoice_X0 : ∀ w ∈ wsX00, w ∈ wsX5_isChoice := by decide +kernel
theorem nX5_isChoice_X5 : ∀ w ∈ wsX50, w ∈ wsX5_isChoice := by decide +kernel
theorem mX5_isChoice_110 : Cond.fieldLink RX5 110 "LinkedIsles$Bonds" "doneUp" "I" ∈ wsX5_isChoice := by decide +kernel
theorem mX5_isChoice_29 : Cond.fieldLink RX5 29 "LinkedIsles" "now" "LLinkedIsles$Bonds;" ∈ wsX5_isChoice := by decide +kernel
theorem hdX5_isChoice : yX5_isChoice.cls ≠ "java/lang/invoke/MethodHandle" ∧ yX5_isChoice.cls ≠ "java/lang/invoke/VarHandle" ∧ (parseMethodDescriptor yX5_isChoice.desc).map (fun d => d.parameters.length) = some 2 := by decide +kernel
def fX5_isChoice (n : Nat) (r : Rf) (v0 : Nat) (v1 : Int32) (v2 : Int32) (h : Hp) : Option Int32 :=
  if (v1 &&& ((h.1 (r v0 3) 1) ^^^ (-1))) = 0 then ((fJ6_bitCount_0f7a4 n r v1 h).bind (fun (x3 : Int32) => if x3 = v2 then (some 1) else (some 0))) else (some 0)
set_option maxHeartbeats 4000000 in
set_option maxRecDepth 100000 in
theorem uX5_isChoice {S : Shp} {n : Nat} {r : Rf} {v0 : Nat} {v1 : Int32} {v2 : Int32} {h : Hp} {o : Int32} (hW : WF S r) (hv0 : S[v0]? = some (5, 11)) (hf : fX5_isChoice n r v0 v1 v2 h = some o) : GX5_isChoice S r r (some o, h) 0 [(0, .ref v0), (1, .int v1), (2, .int v2)] [] h := by
  unfold fX5_isChoice at hf
  refine g_iload_n (ps := 1) dX5_isChoice_0 rfl rfl ?_
  refine g_aload_n (ps := 0) dX5_isChoice_1 rfl rfl ?_
  refine g_getR cf5 hv0 nX5_isChoice_X5 (j := 3) (by decide) rfl mX5_isChoice_29 dX5_isChoice_2 ?_
  refine g_getI cf0 (hW _ _ _ hv0 3 _ rfl) nX5_isChoice_X0 (j := 1) (by decide) rfl mX5_isChoice_110 dX5_isChoice_5 ?_
  refine g_iconst (v := (-1)) dX5_isChoice_8 (by decide +kernel) ?_
  refine g_ixor dX5_isChoice_9 ?_
  refine g_iand dX5_isChoice_10 ?_
  refine g_if_ne (tgt := 26) dX5_isChoice_11 (by decide) (fun c1 => ?_) (fun c1 => ?_)
  · have hf := if_f hf c1
    refine g_iconst (v := 0) dX5_isChoice_26 (by decide +kernel) ?_
    have hf := Option.some.inj hf
    subst hf
    exact g_zret (Or.inl rfl) dX5_isChoice_27
  · have hf := if_t hf c1
    refine g_iload_n (ps := 1) dX5_isChoice_14 rfl rfl ?_
    obtain ⟨x3, e2, hf⟩ := bd_s hf
    refine g_callSi (As := [.int v1]) (n := 1) (kJ6_bitCount_0f7a4 hW  e2) gX5_isChoice_J6_bitCount_0f7a4 rfl ⟨rfl, rfl⟩ hdJ6_bitCount_0f7a4 ⟨Nat.le_of_ble_eq_true rfl, Nat.le_of_ble_eq_true rfl⟩ rfl rfl (Nat.le_of_ble_eq_true rfl) dX5_isChoice_15 ?_
    refine g_iload_n (ps := 2) dX5_isChoice_18 rfl rfl ?_
    refine g_icmp_ne (tgt := 26) dX5_isChoice_19 (by decide) (fun c4 => ?_) (fun c4 => ?_)
    · have hf := if_f hf c4
      refine g_iconst (v := 0) dX5_isChoice_26 (by decide +kernel) ?_
      have hf := Option.some.inj hf
      subst hf
      exact g_zret (Or.inl rfl) dX5_isChoice_27
    · have hf := if_t hf c4
      refine g_iconst (v := 1) dX5_isChoice_22 (by decide +kernel) ?_
      refine g_goto (tgt := 27) dX5_isChoice_23 (by decide) ?_
      have hf := Option.some.inj hf
      subst hf
      exact g_zret (Or.inr rfl) dX5_isChoice_27
theorem kX5_isChoice {S : Shp} {n : Nat} {r : Rf} {v0 : Nat} {v1 : Int32} {v2 : Int32} {h : Hp} {o : Int32} (hW : WF S r) (hv0 : S[v0]? = some (5, 11)) (hf : fX5_isChoice n r v0 v1 v2 h = some o) : CTi yX5_isChoice wsX5_isChoice rmX5_isChoice S r [.ref v0, .int v1, .int v2] h r o h :=
  cti_of rfl (by decide +kernel) rfl (Nat.le_of_ble_eq_true rfl) rfl (uX5_isChoice hW hv0 hf)
/-! X5_fewestToPart fewestToPart -/
def rmX5_fewestToPart : Room := { frames := 4, cells := 0, slots := 0, locals := 93 }
abbrev GX5_fewestToPart (S : Shp) (r r' : Rf) (out : Option Int32 × Hp) (pc : Nat) (L : List (Nat × Value)) (st : List Value) (h : Hp) : Prop := G RX5 cX5_fewestToPart 5 (some .int) wsX5_fewestToPart rmX5_fewestToPart S r r' out pc L st h
theorem nX5_fewestToPart_X0 : ∀ w ∈ wsX00, w ∈ wsX5_fewestToPart := by decide +kernel
theorem nX5_fewestToPart_X5 : ∀ w ∈ wsX50, w ∈ wsX5_fewestToPart := by decide +kernel
theorem mX5_fewestToPart_110 : Cond.fieldLink RX5 110 "LinkedIsles$Bonds" "doneUp" "I" ∈ wsX5_fewestToPart := by decide +kernel
theorem mX5_fewestToPart_19 : Cond.fieldLink RX5 19 "LinkedIsles" "chart" "LLinkedIsles$Chart;" ∈ wsX5_fewestToPart := by decide +kernel
theorem mX5_fewestToPart_29 : Cond.fieldLink RX5 29 "LinkedIsles" "now" "LLinkedIsles$Bonds;" ∈ wsX5_fewestToPart := by decide +kernel
theorem hdX5_fewestToPart : yX5_fewestToPart.cls ≠ "java/lang/invoke/MethodHandle" ∧ yX5_fewestToPart.cls ≠ "java/lang/invoke/VarHandle" ∧ (parseMethodDescriptor yX5_fewestToPart.desc).map (fun d => d.parameters.length) = some 2 := by decide +kernel
def bX5_fewestToPart_11 (n : Nat) (r : Rf) (v0 : Nat) (v1 : Int32) (v2 : Int32) (v3 : Int32) (v4 : Int32) (h : Hp) : Option ((Int32) ⊕ ((Int32) ⊕ (Unit))) :=
  if (h.1 (r v0 3) 1) < v4 then (some (.inr (.inr ()))) else ((fX5_isChoice n r v0 v4 v3 h).bind (fun (x4 : Int32) => if x4 = 0 then (lE (v4 + 1) (fun (x6 : Int32) => some (.inl x6))) else ((fX1_hang n r (r v0 1) v1 v2 ((h.1 (r v0 3) 1) &&& (v4 ^^^ (-1))) h).bind (fun (x8 : Int32) => if x8 = 0 then (some (.inr (.inl v4))) else (lE (v4 + 1) (fun (x10 : Int32) => some (.inl x10)))))))
def lX5_fewestToPart_11 (n : Nat) (r : Rf) (v0 : Nat) (v1 : Int32) (v2 : Int32) (v3 : Int32) (v4 : Int32) (h : Hp) : Option ((Int32) ⊕ ((Int32) ⊕ (Unit))) :=
  (it (fun (s : Int32) => bX5_fewestToPart_11 n r v0 v1 v2 v3 s h) n v4).bind (fun z => match z with | .inl z => some (.inr (.inl z)) | .inr z => lE (v3 + 1) (fun (x11 : Int32) => some (.inl x11)))
def bX5_fewestToPart_2 (n : Nat) (r : Rf) (v0 : Nat) (v1 : Int32) (v2 : Int32) (v3 : Int32) (h : Hp) : Option ((Int32) ⊕ ((Int32) ⊕ (Unit))) :=
  if 10 < v3 then (some (.inr (.inr ()))) else (lX5_fewestToPart_11 n r v0 v1 v2 v3 0 h)
def lX5_fewestToPart_2 (n : Nat) (r : Rf) (v0 : Nat) (v1 : Int32) (v2 : Int32) (v3 : Int32) (h : Hp) : Option Int32 :=
  (it (fun (s : Int32) => bX5_fewestToPart_2 n r v0 v1 v2 s h) n v3).bind (fun z => match z with | .inl z => some z | .inr z => some (h.1 (r v0 3) 1))
def fX5_fewestToPart (n : Nat) (r : Rf) (v0 : Nat) (v1 : Int32) (v2 : Int32) (h : Hp) : Option Int32 :=
  lX5_fewestToPart_2 n r v0 v1 v2 0 h
set_option maxHeartbeats 4000000 in
set_option maxRecDepth 100000 in
theorem ubX5_fewestToPart_11 {S : Shp} {n : Nat} {r : Rf} {out : Option Int32 × Hp} {r' : Rf} {v0 : Nat} {v1 : Int32} {v2 : Int32} {v3 : Int32} {v4 : Int32}  {h : Hp} {w : (Int32) ⊕ ((Int32) ⊕ (Unit))} (hW : WF S r) (hv0 : S[v0]? = some (5, 11)) (hf : bX5_fewestToPart_11 n r v0 v1 v2 v3 v4 h = some w) (hk : ∀ y, w = .inl y → GX5_fewestToPart S r r' out 11 [(0, .ref v0), (1, .int v1), (2, .int v2), (3, .int v3), (4, .int (y))] [] h) (he : ∀ z, w = .inr z → (match z with | .inl z => GX5_fewestToPart S r r' out 57 [(0, .ref v0), (4, .int (z))] [] h | .inr z => GX5_fewestToPart S r r' out 66 [(0, .ref v0), (1, .int v1), (2, .int v2), (3, .int v3)] [] h)) : GX5_fewestToPart S r r' out 11 [(0, .ref v0), (1, .int v1), (2, .int v2), (3, .int v3), (4, .int v4)] [] h := by
  unfold bX5_fewestToPart_11 at hf
  refine g_iload (ps := 4) dX5_fewestToPart_11 rfl ?_
  refine g_aload_n (ps := 0) dX5_fewestToPart_13 rfl rfl ?_
  refine g_getR cf5 hv0 nX5_fewestToPart_X5 (j := 3) (by decide) rfl mX5_fewestToPart_29 dX5_fewestToPart_14 ?_
  refine g_getI cf0 (hW _ _ _ hv0 3 _ rfl) nX5_fewestToPart_X0 (j := 1) (by decide) rfl mX5_fewestToPart_110 dX5_fewestToPart_17 ?_
  refine g_icmp_gt (tgt := 66) dX5_fewestToPart_20 (by decide) (fun c2 => ?_) (fun c2 => ?_)
  · have hf := if_t hf c2
    exact g_pick [0, 1, 2, 3] rfl (he _ (Option.some.inj hf).symm)
  · have hf := if_f hf c2
    refine g_aload_n (ps := 0) dX5_fewestToPart_23 rfl rfl ?_
    refine g_iload (ps := 4) dX5_fewestToPart_24 rfl ?_
    refine g_iload_n (ps := 3) dX5_fewestToPart_26 rfl rfl ?_
    obtain ⟨x4, e3, hf⟩ := bd_s hf
    refine g_callVi (As := [.int v4, .int v3]) (n := 2) (kX5_isChoice hW hv0 e3) gX5_fewestToPart_X5_isChoice rfl ⟨rfl, rfl⟩ ⟨rfl, hdX5_isChoice⟩ ⟨Nat.le_of_ble_eq_true rfl, Nat.le_of_ble_eq_true rfl⟩ cf5 hv0 rfl rfl (Nat.le_of_ble_eq_true rfl) dX5_fewestToPart_27 ?_
    refine g_if_eq (tgt := 60) dX5_fewestToPart_30 (by decide) (fun c5 => ?_) (fun c5 => ?_)
    · have hf := if_t hf c5
      obtain ⟨x6, ex6⟩ : ∃ y : Int32, y = v4 + 1 := ⟨_, rfl⟩
      have hf := lE_s hf ex6
      refine g_iinc (ps := 4) (v := x6) (L' := [(4, .int x6), (0, .ref v0), (1, .int v1), (2, .int v2), (3, .int v3)]) dX5_fewestToPart_60 rfl (by rw [ex6]; rfl) (by decide) rfl ?_
      refine g_goto (tgt := 11) dX5_fewestToPart_63 (by decide) ?_
      exact g_pick [1, 2, 3, 4, 0] rfl (hk _ (Option.some.inj hf).symm)
    · have hf := if_f hf c5
      refine g_aload_n (ps := 0) dX5_fewestToPart_33 rfl rfl ?_
      refine g_getR cf5 hv0 nX5_fewestToPart_X5 (j := 1) (by decide) rfl mX5_fewestToPart_19 dX5_fewestToPart_34 ?_
      refine g_iload_n (ps := 1) dX5_fewestToPart_37 rfl rfl ?_
      refine g_iload_n (ps := 2) dX5_fewestToPart_38 rfl rfl ?_
      refine g_aload_n (ps := 0) dX5_fewestToPart_39 rfl rfl ?_
      refine g_getR cf5 hv0 nX5_fewestToPart_X5 (j := 3) (by decide) rfl mX5_fewestToPart_29 dX5_fewestToPart_40 ?_
      refine g_getI cf0 (hW _ _ _ hv0 3 _ rfl) nX5_fewestToPart_X0 (j := 1) (by decide) rfl mX5_fewestToPart_110 dX5_fewestToPart_43 ?_
      refine g_iload (ps := 4) dX5_fewestToPart_46 rfl ?_
      refine g_iconst (v := (-1)) dX5_fewestToPart_48 (by decide +kernel) ?_
      refine g_ixor dX5_fewestToPart_49 ?_
      refine g_iand dX5_fewestToPart_50 ?_
      obtain ⟨x8, e7, hf⟩ := bd_s hf
      refine g_callVi (As := [.int v1, .int v2, .int ((h.1 (r v0 3) 1) &&& (v4 ^^^ (-1)))]) (n := 3) (kX1_hang hW (hW _ _ _ hv0 1 _ rfl) e7) gX5_fewestToPart_X1_hang rfl ⟨rfl, rfl⟩ ⟨rfl, hdX1_hang⟩ ⟨Nat.le_of_ble_eq_true rfl, Nat.le_of_ble_eq_true rfl⟩ cf1 (hW _ _ _ hv0 1 _ rfl) rfl rfl (Nat.le_of_ble_eq_true rfl) dX5_fewestToPart_51 ?_
      refine g_if_ne (tgt := 60) dX5_fewestToPart_54 (by decide) (fun c9 => ?_) (fun c9 => ?_)
      · have hf := if_f hf c9
        obtain ⟨x10, ex10⟩ : ∃ y : Int32, y = v4 + 1 := ⟨_, rfl⟩
        have hf := lE_s hf ex10
        refine g_iinc (ps := 4) (v := x10) (L' := [(4, .int x10), (0, .ref v0), (1, .int v1), (2, .int v2), (3, .int v3)]) dX5_fewestToPart_60 rfl (by rw [ex10]; rfl) (by decide) rfl ?_
        refine g_goto (tgt := 11) dX5_fewestToPart_63 (by decide) ?_
        exact g_pick [1, 2, 3, 4, 0] rfl (hk _ (Option.some.inj hf).symm)
      · have hf := if_t hf c9
        exact g_pick [0, 4] rfl (he _ (Option.some.inj hf).symm)
set_option maxHeartbeats 4000000 in
set_option maxRecDepth 100000 in
theorem ulX5_fewestToPart_11 {S : Shp} {n : Nat} {r : Rf} {out : Option Int32 × Hp} {r' : Rf} {v0 : Nat} {v1 : Int32} {v2 : Int32} {v3 : Int32} {v4 : Int32}  {h : Hp} {w : (Int32) ⊕ ((Int32) ⊕ (Unit))} (hW : WF S r) (hv0 : S[v0]? = some (5, 11)) (hf : lX5_fewestToPart_11 n r v0 v1 v2 v3 v4 h = some w) (hk : ∀ y, w = .inl y → GX5_fewestToPart S r r' out 2 [(0, .ref v0), (1, .int v1), (2, .int v2), (3, .int (y))] [] h) (he : ∀ z, w = .inr z → (match z with | .inl z => GX5_fewestToPart S r r' out 57 [(0, .ref v0), (4, .int (z))] [] h | .inr z => GX5_fewestToPart S r r' out 72 [(0, .ref v0)] [] h)) : GX5_fewestToPart S r r' out 11 [(0, .ref v0), (1, .int v1), (2, .int v2), (3, .int v3), (4, .int v4)] [] h := by
  unfold lX5_fewestToPart_11 at hf
  obtain ⟨z0, ei, hf⟩ := bd_s hf
  refine it_ind (P := fun (s : Int32) => GX5_fewestToPart S r r' out 11 [(0, .ref v0), (1, .int v1), (2, .int v2), (3, .int v3), (4, .int s)] [] h) (fun s w hb hk2 he2 => ?_) n _ ei
  refine ubX5_fewestToPart_11 (out := out) (r' := r') hW hv0 hb hk2 (fun z hz => ?_)
  have hz := he2 z hz
  subst hz
  rcases z with z | z
  · exact g_pick [0, 1] rfl (he _ (Option.some.inj hf).symm)
  · obtain ⟨x11, ex11⟩ : ∃ y : Int32, y = v3 + 1 := ⟨_, rfl⟩
    have hf := lE_s hf ex11
    refine g_iinc (ps := 3) (v := x11) (L' := [(3, .int x11), (0, .ref v0), (1, .int v1), (2, .int v2)]) dX5_fewestToPart_66 rfl (by rw [ex11]; rfl) (by decide) rfl ?_
    refine g_goto (tgt := 2) dX5_fewestToPart_69 (by decide) ?_
    exact g_pick [1, 2, 3, 0] rfl (hk _ (Option.some.inj hf).symm)
set_option maxHeartbeats 4000000 in
set_option maxRecDepth 100000 in
theorem ubX5_fewestToPart_2 {S : Shp} {n : Nat} {r : Rf} {out : Option Int32 × Hp} {r' : Rf} {v0 : Nat} {v1 : Int32} {v2 : Int32} {v3 : Int32}  {h : Hp} {w : (Int32) ⊕ ((Int32) ⊕ (Unit))} (hW : WF S r) (hv0 : S[v0]? = some (5, 11)) (hf : bX5_fewestToPart_2 n r v0 v1 v2 v3 h = some w) (hk : ∀ y, w = .inl y → GX5_fewestToPart S r r' out 2 [(0, .ref v0), (1, .int v1), (2, .int v2), (3, .int (y))] [] h) (he : ∀ z, w = .inr z → (match z with | .inl z => GX5_fewestToPart S r r' out 57 [(0, .ref v0), (4, .int (z))] [] h | .inr z => GX5_fewestToPart S r r' out 72 [(0, .ref v0)] [] h)) : GX5_fewestToPart S r r' out 2 [(0, .ref v0), (1, .int v1), (2, .int v2), (3, .int v3)] [] h := by
  unfold bX5_fewestToPart_2 at hf
  refine g_iload_n (ps := 3) dX5_fewestToPart_2 rfl rfl ?_
  refine g_bipush (v := 10) dX5_fewestToPart_3 (by decide +kernel) ?_
  refine g_icmp_gt (tgt := 72) dX5_fewestToPart_5 (by decide) (fun c1 => ?_) (fun c1 => ?_)
  · have hf := if_t hf c1
    exact g_pick [0] rfl (he _ (Option.some.inj hf).symm)
  · have hf := if_f hf c1
    refine g_iconst (v := 0) dX5_fewestToPart_8 (by decide +kernel) ?_
    refine g_istore (L' := [(4, .int 0), (0, .ref v0), (1, .int v1), (2, .int v2), (3, .int v3)]) dX5_fewestToPart_9 (by decide) rfl ?_
    exact g_pick [1, 2, 3, 4, 0] rfl (ulX5_fewestToPart_11 hW hv0 hf hk he)
set_option maxHeartbeats 4000000 in
set_option maxRecDepth 100000 in
theorem ulX5_fewestToPart_2 {S : Shp} {n : Nat} {r : Rf} {v0 : Nat} {v1 : Int32} {v2 : Int32} {v3 : Int32}  {h : Hp} {o : Int32} (hW : WF S r) (hv0 : S[v0]? = some (5, 11)) (hf : lX5_fewestToPart_2 n r v0 v1 v2 v3 h = some o)  : GX5_fewestToPart S r r (some o, h) 2 [(0, .ref v0), (1, .int v1), (2, .int v2), (3, .int v3)] [] h := by
  unfold lX5_fewestToPart_2 at hf
  obtain ⟨z0, ei, hf⟩ := bd_s hf
  refine it_ind (P := fun (s : Int32) => GX5_fewestToPart S r r (some o, h) 2 [(0, .ref v0), (1, .int v1), (2, .int v2), (3, .int s)] [] h) (fun s w hb hk2 he2 => ?_) n _ ei
  refine ubX5_fewestToPart_2 (out := (some o, h)) (r' := r) hW hv0 hb hk2 (fun z hz => ?_)
  have hz := he2 z hz
  subst hz
  rcases z with z | z
  · refine g_iload (ps := 1) dX5_fewestToPart_57 rfl ?_
    have hf := Option.some.inj hf
    subst hf
    exact g_iret dX5_fewestToPart_59
  · refine g_aload_n (ps := 0) dX5_fewestToPart_72 rfl rfl ?_
    refine g_getR cf5 hv0 nX5_fewestToPart_X5 (j := 3) (by decide) rfl mX5_fewestToPart_29 dX5_fewestToPart_73 ?_
    refine g_getI cf0 (hW _ _ _ hv0 3 _ rfl) nX5_fewestToPart_X0 (j := 1) (by decide) rfl mX5_fewestToPart_110 dX5_fewestToPart_76 ?_
    have hf := Option.some.inj hf
    subst hf
    exact g_iret dX5_fewestToPart_79
set_option maxHeartbeats 4000000 in
set_option maxRecDepth 100000 in
theorem uX5_fewestToPart {S : Shp} {n : Nat} {r : Rf} {v0 : Nat} {v1 : Int32} {v2 : Int32} {h : Hp} {o : Int32} (hW : WF S r) (hv0 : S[v0]? = some (5, 11)) (hf : fX5_fewestToPart n r v0 v1 v2 h = some o) : GX5_fewestToPart S r r (some o, h) 0 [(0, .ref v0), (1, .int v1), (2, .int v2)] [] h := by
  unfold fX5_fewestToPart at hf
  refine g_iconst (v := 0) dX5_fewestToPart_0 (by decide +kernel) ?_
  refine g_istore_n (L' := [(3, .int 0), (0, .ref v0), (1, .int v1), (2, .int v2)]) dX5_fewestToPart_1 rfl (by decide) rfl ?_
  exact g_pick [1, 2, 3, 0] rfl (ulX5_fewestToPart_2 hW hv0 hf)
theorem kX5_fewestToPart {S : Shp} {n : Nat} {r : Rf} {v0 : Nat} {v1 : Int32} {v2 : Int32} {h : Hp} {o : Int32} (hW : WF S r) (hv0 : S[v0]? = some (5, 11)) (hf : fX5_fewestToPart n r v0 v1 v2 h = some o) : CTi yX5_fewestToPart wsX5_fewestToPart rmX5_fewestToPart S r [.ref v0, .int v1, .int v2] h r o h :=
  cti_of rfl (by decide +kernel) rfl (Nat.le_of_ble_eq_true rfl) rfl (uX5_fewestToPart hW hv0 hf)
/-! X5_between between -/
def rmX5_between : Room := { frames := 5, cells := 0, slots := 0, locals := 117 }
abbrev GX5_between (S : Shp) (r r' : Rf) (out : Option Int32 × Hp) (pc : Nat) (L : List (Nat × Value)) (st : List Value) (h : Hp) : Prop := G RX5 cX5_between 5 (some .int) wsX5_between rmX5_between S r r' out pc L st h
theorem mX5_between_135 : Cond.constant RX5 135 (-1000000001) ∈ wsX5_between := by decide +kernel
theorem mX5_between_68 : Cond.constant RX5 68 (-1000000002) ∈ wsX5_between := by decide +kernel
theorem hdX5_between : yX5_between.cls ≠ "java/lang/invoke/MethodHandle" ∧ yX5_between.cls ≠ "java/lang/invoke/VarHandle" ∧ (parseMethodDescriptor yX5_between.desc).map (fun d => d.parameters.length) = some 3 := by decide +kernel
def fX5_between (n : Nat) (r : Rf) (v0 : Nat) (v1 : Int32) (v2 : Int32) (v3 : Int32) (h : Hp) : Option Int32 :=
  (fX5_areTwoIslands n r v0 v1 v2 h).bind (fun (x2 : Int32) => if x2 = 0 then (some (-1000000001)) else ((fX5_isWithin n r v3 0 1 h).bind (fun (x5 : Int32) => if x5 = 0 then (some (-1000000002)) else ((fX5_fewestToPart n r v0 v1 v2 h).bind (fun (x8 : Int32) => if v3 = 0 then ((fJ6_bitCount_0f7a4 n r x8 h).bind (fun (x11 : Int32) => some x11)) else (some x8))))))
set_option maxHeartbeats 4000000 in
set_option maxRecDepth 100000 in
theorem uX5_between {S : Shp} {n : Nat} {r : Rf} {v0 : Nat} {v1 : Int32} {v2 : Int32} {v3 : Int32} {h : Hp} {o : Int32} (hW : WF S r) (hv0 : S[v0]? = some (5, 11)) (hf : fX5_between n r v0 v1 v2 v3 h = some o) : GX5_between S r r (some o, h) 0 [(0, .ref v0), (1, .int v1), (2, .int v2), (3, .int v3)] [] h := by
  unfold fX5_between at hf
  refine g_aload_n (ps := 0) dX5_between_0 rfl rfl ?_
  refine g_iload_n (ps := 1) dX5_between_1 rfl rfl ?_
  refine g_iload_n (ps := 2) dX5_between_2 rfl rfl ?_
  obtain ⟨x2, e1, hf⟩ := bd_s hf
  refine g_callVi (As := [.int v1, .int v2]) (n := 2) (kX5_areTwoIslands hW hv0 e1) gX5_between_X5_areTwoIslands rfl ⟨rfl, rfl⟩ ⟨rfl, hdX5_areTwoIslands⟩ ⟨Nat.le_of_ble_eq_true rfl, Nat.le_of_ble_eq_true rfl⟩ cf5 hv0 rfl rfl (Nat.le_of_ble_eq_true rfl) dX5_between_3 ?_
  refine g_if_ne (tgt := 12) dX5_between_6 (by decide) (fun c3 => ?_) (fun c3 => ?_)
  · have hf := if_f hf c3
    refine g_iload_n (ps := 3) dX5_between_12 rfl rfl ?_
    refine g_iconst (v := 0) dX5_between_13 (by decide +kernel) ?_
    refine g_iconst (v := 1) dX5_between_14 (by decide +kernel) ?_
    obtain ⟨x5, e4, hf⟩ := bd_s hf
    refine g_callSi (As := [.int v3, .int 0, .int 1]) (n := 3) (kX5_isWithin hW  e4) gX5_between_X5_isWithin rfl ⟨rfl, rfl⟩ hdX5_isWithin ⟨Nat.le_of_ble_eq_true rfl, Nat.le_of_ble_eq_true rfl⟩ rfl rfl (Nat.le_of_ble_eq_true rfl) dX5_between_15 ?_
    refine g_if_ne (tgt := 24) dX5_between_18 (by decide) (fun c6 => ?_) (fun c6 => ?_)
    · have hf := if_f hf c6
      refine g_aload_n (ps := 0) dX5_between_24 rfl rfl ?_
      refine g_iload_n (ps := 1) dX5_between_25 rfl rfl ?_
      refine g_iload_n (ps := 2) dX5_between_26 rfl rfl ?_
      obtain ⟨x8, e7, hf⟩ := bd_s hf
      refine g_callVi (As := [.int v1, .int v2]) (n := 2) (kX5_fewestToPart hW hv0 e7) gX5_between_X5_fewestToPart rfl ⟨rfl, rfl⟩ ⟨rfl, hdX5_fewestToPart⟩ ⟨Nat.le_of_ble_eq_true rfl, Nat.le_of_ble_eq_true rfl⟩ cf5 hv0 rfl rfl (Nat.le_of_ble_eq_true rfl) dX5_between_27 ?_
      refine g_istore (L' := [(4, .int x8), (0, .ref v0), (1, .int v1), (2, .int v2), (3, .int v3)]) dX5_between_30 (by decide) rfl ?_
      refine g_iload_n (ps := 4) dX5_between_32 rfl rfl ?_
      refine g_if_ne (tgt := 44) dX5_between_33 (by decide) (fun c9 => ?_) (fun c9 => ?_)
      · have hf := if_f hf c9
        refine g_iload (ps := 0) dX5_between_44 rfl ?_
        have hf := Option.some.inj hf
        subst hf
        exact g_iret dX5_between_46
      · have hf := if_t hf c9
        refine g_iload (ps := 0) dX5_between_36 rfl ?_
        obtain ⟨x11, e10, hf⟩ := bd_s hf
        refine g_callSi (As := [.int x8]) (n := 1) (kJ6_bitCount_0f7a4 hW  e10) gX5_between_J6_bitCount_0f7a4 rfl ⟨rfl, rfl⟩ hdJ6_bitCount_0f7a4 ⟨Nat.le_of_ble_eq_true rfl, Nat.le_of_ble_eq_true rfl⟩ rfl rfl (Nat.le_of_ble_eq_true rfl) dX5_between_38 ?_
        refine g_goto (tgt := 46) dX5_between_41 (by decide) ?_
        have hf := Option.some.inj hf
        subst hf
        exact g_iret dX5_between_46
    · have hf := if_t hf c6
      refine g_ldc (v := (-1000000002)) mX5_between_68 dX5_between_21 ?_
      have hf := Option.some.inj hf
      subst hf
      exact g_iret dX5_between_23
  · have hf := if_t hf c3
    refine g_ldc (v := (-1000000001)) mX5_between_135 dX5_between_9 ?_
    have hf := Option.some.inj hf
    subst hf
    exact g_iret dX5_between_11
theorem kX5_between {S : Shp} {n : Nat} {r : Rf} {v0 : Nat} {v1 : Int32} {v2 : Int32} {v3 : Int32} {h : Hp} {o : Int32} (hW : WF S r) (hv0 : S[v0]? = some (5, 11)) (hf : fX5_between n r v0 v1 v2 v3 h = some o) : CTi yX5_between wsX5_between rmX5_between S r [.ref v0, .int v1, .int v2, .int v3] h r o h :=
  cti_of rfl (by decide +kernel) rfl (Nat.le_of_ble_eq_true rfl) rfl (uX5_between hW hv0 hf)
/-! X5_firstOfWay firstOfWay -/
def rmX5_firstOfWay : Room := { frames := 3, cells := 0, slots := 0, locals := 70 }
abbrev GX5_firstOfWay (S : Shp) (r r' : Rf) (out : Option Int32 × Hp) (pc : Nat) (L : List (Nat × Value)) (st : List Value) (h : Hp) : Prop := G RX5 cX5_firstOfWay 6 (some .int) wsX5_firstOfWay rmX5_firstOfWay S r r' out pc L st h
theorem nX5_firstOfWay_X0 : ∀ w ∈ wsX00, w ∈ wsX5_firstOfWay := by decide +kernel
theorem nX5_firstOfWay_X1 : ∀ w ∈ wsX10, w ∈ wsX5_firstOfWay := by decide +kernel
theorem nX5_firstOfWay_X5 : ∀ w ∈ wsX50, w ∈ wsX5_firstOfWay := by decide +kernel
theorem mX5_firstOfWay_110 : Cond.fieldLink RX5 110 "LinkedIsles$Bonds" "doneUp" "I" ∈ wsX5_firstOfWay := by decide +kernel
theorem mX5_firstOfWay_136 : Cond.fieldLink RX5 136 "LinkedIsles$Chart" "endA" "[I" ∈ wsX5_firstOfWay := by decide +kernel
theorem mX5_firstOfWay_139 : Cond.fieldLink RX5 139 "LinkedIsles$Chart" "endB" "[I" ∈ wsX5_firstOfWay := by decide +kernel
theorem mX5_firstOfWay_167 : Cond.fieldLink RX5 167 "LinkedIsles$Chart" "ends" "[I" ∈ wsX5_firstOfWay := by decide +kernel
theorem mX5_firstOfWay_19 : Cond.fieldLink RX5 19 "LinkedIsles" "chart" "LLinkedIsles$Chart;" ∈ wsX5_firstOfWay := by decide +kernel
theorem mX5_firstOfWay_29 : Cond.fieldLink RX5 29 "LinkedIsles" "now" "LLinkedIsles$Bonds;" ∈ wsX5_firstOfWay := by decide +kernel
theorem mX5_firstOfWay_89 : Cond.fieldLink RX5 89 "LinkedIsles$Chart" "links" "I" ∈ wsX5_firstOfWay := by decide +kernel
theorem hdX5_firstOfWay : yX5_firstOfWay.cls ≠ "java/lang/invoke/MethodHandle" ∧ yX5_firstOfWay.cls ≠ "java/lang/invoke/VarHandle" ∧ (parseMethodDescriptor yX5_firstOfWay.desc).map (fun d => d.parameters.length) = some 3 := by decide +kernel
def jX5_firstOfWay_84 (n : Nat) (r : Rf) (v0 : Nat) (v1 : Int32) (v2 : Int32) (v3 : Int32) (v4 : Int32) (s0 : Int32) (h : Hp) : Option ((Int32) ⊕ ((Int32) ⊕ (Unit))) :=
  (fX1_steps n r (r v0 1) s0 v2 (h.1 (r v0 3) 1) h).bind (fun (x15 : Int32) => if x15 = (v3 - 1) then (some (.inr (.inl v4))) else (lE (v4 + 1) (fun (x17 : Int32) => some (.inl x17))))
def bX5_firstOfWay_3 (n : Nat) (r : Rf) (v0 : Nat) (v1 : Int32) (v2 : Int32) (v3 : Int32) (v4 : Int32) (h : Hp) : Option ((Int32) ⊕ ((Int32) ⊕ (Unit))) :=
  if (h.1 (r v0 1) 10) ≤ v4 then (some (.inr (.inr ()))) else ((fX5_has n r (h.1 (r v0 3) 1) v4 h).bind (fun (x3 : Int32) => if x3 = 0 then (lE (v4 + 1) (fun (x5 : Int32) => some (.inl x5))) else (ck v4 10 ((fX5_has n r (h.1 (r (r v0 1) 2) (Int32.toNatClampNeg v4)) v1 h).bind (fun (x8 : Int32) => if x8 = 0 then (lE (v4 + 1) (fun (x10 : Int32) => some (.inl x10))) else (ck v4 10 (if v1 = (h.1 (r (r v0 1) 0) (Int32.toNatClampNeg v4)) then (ck v4 10 (jX5_firstOfWay_84 n r v0 v1 v2 v3 v4 (h.1 (r (r v0 1) 1) (Int32.toNatClampNeg v4)) h)) else (ck v4 10 (jX5_firstOfWay_84 n r v0 v1 v2 v3 v4 (h.1 (r (r v0 1) 0) (Int32.toNatClampNeg v4)) h)))))))))
def lX5_firstOfWay_3 (n : Nat) (r : Rf) (v0 : Nat) (v1 : Int32) (v2 : Int32) (v3 : Int32) (v4 : Int32) (h : Hp) : Option Int32 :=
  (it (fun (s : Int32) => bX5_firstOfWay_3 n r v0 v1 v2 v3 s h) n v4).bind (fun z => match z with | .inl z => some z | .inr z => some (-1))
def fX5_firstOfWay (n : Nat) (r : Rf) (v0 : Nat) (v1 : Int32) (v2 : Int32) (v3 : Int32) (h : Hp) : Option Int32 :=
  lX5_firstOfWay_3 n r v0 v1 v2 v3 0 h
set_option maxHeartbeats 4000000 in
set_option maxRecDepth 100000 in
theorem ujX5_firstOfWay_84 {S : Shp} {n : Nat} {r : Rf} {out : Option Int32 × Hp} {r' : Rf} {v0 : Nat} {v1 : Int32} {v2 : Int32} {v3 : Int32} {v4 : Int32} {s0 : Int32} {h : Hp} {w : (Int32) ⊕ ((Int32) ⊕ (Unit))} (hW : WF S r) (hv0 : S[v0]? = some (5, 11)) (hf : jX5_firstOfWay_84 n r v0 v1 v2 v3 v4 s0 h = some w) (hk : ∀ y, w = .inl y → GX5_firstOfWay S r r' out 3 [(0, .ref v0), (1, .int v1), (2, .int v2), (3, .int v3), (4, .int (y))] [] h) (he : ∀ z, w = .inr z → (match z with | .inl z => GX5_firstOfWay S r r' out 109 [(0, .ref v0), (4, .int (z))] [] h | .inr z => GX5_firstOfWay S r r' out 118 [(0, .ref v0)] [] h)) : GX5_firstOfWay S r r' out 84 [(0, .ref v0), (1, .int v1), (2, .int v2), (3, .int v3), (4, .int v4)] [.int s0] h := by
  unfold jX5_firstOfWay_84 at hf
  refine g_istore (L' := [(5, .int s0), (0, .ref v0), (1, .int v1), (2, .int v2), (3, .int v3), (4, .int v4)]) dX5_firstOfWay_84 (by decide) rfl ?_
  refine g_aload_n (ps := 1) dX5_firstOfWay_86 rfl rfl ?_
  refine g_getR cf5 hv0 nX5_firstOfWay_X5 (j := 1) (by decide) rfl mX5_firstOfWay_19 dX5_firstOfWay_87 ?_
  refine g_iload (ps := 0) dX5_firstOfWay_90 rfl ?_
  refine g_iload_n (ps := 3) dX5_firstOfWay_92 rfl rfl ?_
  refine g_aload_n (ps := 1) dX5_firstOfWay_93 rfl rfl ?_
  refine g_getR cf5 hv0 nX5_firstOfWay_X5 (j := 3) (by decide) rfl mX5_firstOfWay_29 dX5_firstOfWay_94 ?_
  refine g_getI cf0 (hW _ _ _ hv0 3 _ rfl) nX5_firstOfWay_X0 (j := 1) (by decide) rfl mX5_firstOfWay_110 dX5_firstOfWay_97 ?_
  obtain ⟨x15, e14, hf⟩ := bd_s hf
  refine g_callVi (As := [.int s0, .int v2, .int (h.1 (r v0 3) 1)]) (n := 3) (kX1_steps hW (hW _ _ _ hv0 1 _ rfl) e14) gX5_firstOfWay_X1_steps rfl ⟨rfl, rfl⟩ ⟨rfl, hdX1_steps⟩ ⟨Nat.le_of_ble_eq_true rfl, Nat.le_of_ble_eq_true rfl⟩ cf1 (hW _ _ _ hv0 1 _ rfl) rfl rfl (Nat.le_of_ble_eq_true rfl) dX5_firstOfWay_100 ?_
  refine g_iload_n (ps := 4) dX5_firstOfWay_103 rfl rfl ?_
  refine g_iconst (v := 1) dX5_firstOfWay_104 (by decide +kernel) ?_
  refine g_isub dX5_firstOfWay_105 ?_
  refine g_icmp_ne (tgt := 112) dX5_firstOfWay_106 (by decide) (fun c16 => ?_) (fun c16 => ?_)
  · have hf := if_f hf c16
    obtain ⟨x17, ex17⟩ : ∃ y : Int32, y = v4 + 1 := ⟨_, rfl⟩
    have hf := lE_s hf ex17
    refine g_iinc (ps := 5) (v := x17) (L' := [(4, .int x17), (5, .int s0), (0, .ref v0), (1, .int v1), (2, .int v2), (3, .int v3)]) dX5_firstOfWay_112 rfl (by rw [ex17]; rfl) (by decide) rfl ?_
    refine g_goto (tgt := 3) dX5_firstOfWay_115 (by decide) ?_
    exact g_pick [2, 3, 4, 5, 0] rfl (hk _ (Option.some.inj hf).symm)
  · have hf := if_t hf c16
    exact g_pick [1, 5] rfl (he _ (Option.some.inj hf).symm)
set_option maxHeartbeats 4000000 in
set_option maxRecDepth 100000 in
theorem ubX5_firstOfWay_3 {S : Shp} {n : Nat} {r : Rf} {out : Option Int32 × Hp} {r' : Rf} {v0 : Nat} {v1 : Int32} {v2 : Int32} {v3 : Int32} {v4 : Int32}  {h : Hp} {w : (Int32) ⊕ ((Int32) ⊕ (Unit))} (hW : WF S r) (hv0 : S[v0]? = some (5, 11)) (hf : bX5_firstOfWay_3 n r v0 v1 v2 v3 v4 h = some w) (hk : ∀ y, w = .inl y → GX5_firstOfWay S r r' out 3 [(0, .ref v0), (1, .int v1), (2, .int v2), (3, .int v3), (4, .int (y))] [] h) (he : ∀ z, w = .inr z → (match z with | .inl z => GX5_firstOfWay S r r' out 109 [(0, .ref v0), (4, .int (z))] [] h | .inr z => GX5_firstOfWay S r r' out 118 [(0, .ref v0)] [] h)) : GX5_firstOfWay S r r' out 3 [(0, .ref v0), (1, .int v1), (2, .int v2), (3, .int v3), (4, .int v4)] [] h := by
  unfold bX5_firstOfWay_3 at hf
  refine g_iload (ps := 4) dX5_firstOfWay_3 rfl ?_
  refine g_aload_n (ps := 0) dX5_firstOfWay_5 rfl rfl ?_
  refine g_getR cf5 hv0 nX5_firstOfWay_X5 (j := 1) (by decide) rfl mX5_firstOfWay_19 dX5_firstOfWay_6 ?_
  refine g_getI cf1 (hW _ _ _ hv0 1 _ rfl) nX5_firstOfWay_X1 (j := 10) (by decide) rfl mX5_firstOfWay_89 dX5_firstOfWay_9 ?_
  refine g_icmp_ge (tgt := 118) dX5_firstOfWay_12 (by decide) (fun c1 => ?_) (fun c1 => ?_)
  · have hf := if_t hf c1
    exact g_pick [0] rfl (he _ (Option.some.inj hf).symm)
  · have hf := if_f hf c1
    refine g_aload_n (ps := 0) dX5_firstOfWay_15 rfl rfl ?_
    refine g_getR cf5 hv0 nX5_firstOfWay_X5 (j := 3) (by decide) rfl mX5_firstOfWay_29 dX5_firstOfWay_16 ?_
    refine g_getI cf0 (hW _ _ _ hv0 3 _ rfl) nX5_firstOfWay_X0 (j := 1) (by decide) rfl mX5_firstOfWay_110 dX5_firstOfWay_19 ?_
    refine g_iload (ps := 4) dX5_firstOfWay_22 rfl ?_
    obtain ⟨x3, e2, hf⟩ := bd_s hf
    refine g_callSi (As := [.int (h.1 (r v0 3) 1), .int v4]) (n := 2) (kX5_has hW  e2) gX5_firstOfWay_X5_has rfl ⟨rfl, rfl⟩ hdX5_has ⟨Nat.le_of_ble_eq_true rfl, Nat.le_of_ble_eq_true rfl⟩ rfl rfl (Nat.le_of_ble_eq_true rfl) dX5_firstOfWay_24 ?_
    refine g_if_eq (tgt := 112) dX5_firstOfWay_27 (by decide) (fun c4 => ?_) (fun c4 => ?_)
    · have hf := if_t hf c4
      obtain ⟨x5, ex5⟩ : ∃ y : Int32, y = v4 + 1 := ⟨_, rfl⟩
      have hf := lE_s hf ex5
      refine g_iinc (ps := 4) (v := x5) (L' := [(4, .int x5), (0, .ref v0), (1, .int v1), (2, .int v2), (3, .int v3)]) dX5_firstOfWay_112 rfl (by rw [ex5]; rfl) (by decide) rfl ?_
      refine g_goto (tgt := 3) dX5_firstOfWay_115 (by decide) ?_
      exact g_pick [1, 2, 3, 4, 0] rfl (hk _ (Option.some.inj hf).symm)
    · have hf := if_f hf c4
      refine g_aload_n (ps := 0) dX5_firstOfWay_30 rfl rfl ?_
      refine g_getR cf5 hv0 nX5_firstOfWay_X5 (j := 1) (by decide) rfl mX5_firstOfWay_19 dX5_firstOfWay_31 ?_
      refine g_getR cf1 (hW _ _ _ hv0 1 _ rfl) nX5_firstOfWay_X1 (j := 2) (by decide) rfl mX5_firstOfWay_167 dX5_firstOfWay_34 ?_
      refine g_iload (ps := 4) dX5_firstOfWay_37 rfl ?_
      obtain ⟨z6, hf⟩ := ck_s hf
      refine g_iald (hW _ _ _ (hW _ _ _ hv0 1 _ rfl) 2 _ rfl) z6 dX5_firstOfWay_39 ?_
      refine g_iload_n (ps := 1) dX5_firstOfWay_40 rfl rfl ?_
      obtain ⟨x8, e7, hf⟩ := bd_s hf
      refine g_callSi (As := [.int (h.1 (r (r v0 1) 2) (Int32.toNatClampNeg v4)), .int v1]) (n := 2) (kX5_has hW  e7) gX5_firstOfWay_X5_has rfl ⟨rfl, rfl⟩ hdX5_has ⟨Nat.le_of_ble_eq_true rfl, Nat.le_of_ble_eq_true rfl⟩ rfl rfl (Nat.le_of_ble_eq_true rfl) dX5_firstOfWay_41 ?_
      refine g_if_eq (tgt := 112) dX5_firstOfWay_44 (by decide) (fun c9 => ?_) (fun c9 => ?_)
      · have hf := if_t hf c9
        obtain ⟨x10, ex10⟩ : ∃ y : Int32, y = v4 + 1 := ⟨_, rfl⟩
        have hf := lE_s hf ex10
        refine g_iinc (ps := 4) (v := x10) (L' := [(4, .int x10), (0, .ref v0), (1, .int v1), (2, .int v2), (3, .int v3)]) dX5_firstOfWay_112 rfl (by rw [ex10]; rfl) (by decide) rfl ?_
        refine g_goto (tgt := 3) dX5_firstOfWay_115 (by decide) ?_
        exact g_pick [1, 2, 3, 4, 0] rfl (hk _ (Option.some.inj hf).symm)
      · have hf := if_f hf c9
        refine g_iload_n (ps := 1) dX5_firstOfWay_47 rfl rfl ?_
        refine g_aload_n (ps := 0) dX5_firstOfWay_48 rfl rfl ?_
        refine g_getR cf5 hv0 nX5_firstOfWay_X5 (j := 1) (by decide) rfl mX5_firstOfWay_19 dX5_firstOfWay_49 ?_
        refine g_getR cf1 (hW _ _ _ hv0 1 _ rfl) nX5_firstOfWay_X1 (j := 0) (by decide) rfl mX5_firstOfWay_136 dX5_firstOfWay_52 ?_
        refine g_iload (ps := 4) dX5_firstOfWay_55 rfl ?_
        obtain ⟨z11, hf⟩ := ck_s hf
        refine g_iald (hW _ _ _ (hW _ _ _ hv0 1 _ rfl) 0 _ rfl) z11 dX5_firstOfWay_57 ?_
        refine g_icmp_ne (tgt := 74) dX5_firstOfWay_58 (by decide) (fun c12 => ?_) (fun c12 => ?_)
        · have hf := if_f hf c12
          refine g_aload_n (ps := 0) dX5_firstOfWay_74 rfl rfl ?_
          refine g_getR cf5 hv0 nX5_firstOfWay_X5 (j := 1) (by decide) rfl mX5_firstOfWay_19 dX5_firstOfWay_75 ?_
          refine g_getR cf1 (hW _ _ _ hv0 1 _ rfl) nX5_firstOfWay_X1 (j := 0) (by decide) rfl mX5_firstOfWay_136 dX5_firstOfWay_78 ?_
          refine g_iload (ps := 4) dX5_firstOfWay_81 rfl ?_
          obtain ⟨z13, hf⟩ := ck_s hf
          refine g_iald (hW _ _ _ (hW _ _ _ hv0 1 _ rfl) 0 _ rfl) z13 dX5_firstOfWay_83 ?_
          exact g_pick [0, 1, 2, 3, 4] rfl (ujX5_firstOfWay_84 hW hv0 hf hk he)
        · have hf := if_t hf c12
          refine g_aload_n (ps := 0) dX5_firstOfWay_61 rfl rfl ?_
          refine g_getR cf5 hv0 nX5_firstOfWay_X5 (j := 1) (by decide) rfl mX5_firstOfWay_19 dX5_firstOfWay_62 ?_
          refine g_getR cf1 (hW _ _ _ hv0 1 _ rfl) nX5_firstOfWay_X1 (j := 1) (by decide) rfl mX5_firstOfWay_139 dX5_firstOfWay_65 ?_
          refine g_iload (ps := 4) dX5_firstOfWay_68 rfl ?_
          obtain ⟨z18, hf⟩ := ck_s hf
          refine g_iald (hW _ _ _ (hW _ _ _ hv0 1 _ rfl) 1 _ rfl) z18 dX5_firstOfWay_70 ?_
          refine g_goto (tgt := 84) dX5_firstOfWay_71 (by decide) ?_
          exact g_pick [0, 1, 2, 3, 4] rfl (ujX5_firstOfWay_84 hW hv0 hf hk he)
set_option maxHeartbeats 4000000 in
set_option maxRecDepth 100000 in
theorem ulX5_firstOfWay_3 {S : Shp} {n : Nat} {r : Rf} {v0 : Nat} {v1 : Int32} {v2 : Int32} {v3 : Int32} {v4 : Int32}  {h : Hp} {o : Int32} (hW : WF S r) (hv0 : S[v0]? = some (5, 11)) (hf : lX5_firstOfWay_3 n r v0 v1 v2 v3 v4 h = some o)  : GX5_firstOfWay S r r (some o, h) 3 [(0, .ref v0), (1, .int v1), (2, .int v2), (3, .int v3), (4, .int v4)] [] h := by
  unfold lX5_firstOfWay_3 at hf
  obtain ⟨z0, ei, hf⟩ := bd_s hf
  refine it_ind (P := fun (s : Int32) => GX5_firstOfWay S r r (some o, h) 3 [(0, .ref v0), (1, .int v1), (2, .int v2), (3, .int v3), (4, .int s)] [] h) (fun s w hb hk2 he2 => ?_) n _ ei
  refine ubX5_firstOfWay_3 (out := (some o, h)) (r' := r) hW hv0 hb hk2 (fun z hz => ?_)
  have hz := he2 z hz
  subst hz
  rcases z with z | z
  · refine g_iload (ps := 1) dX5_firstOfWay_109 rfl ?_
    have hf := Option.some.inj hf
    subst hf
    exact g_iret dX5_firstOfWay_111
  · refine g_iconst (v := (-1)) dX5_firstOfWay_118 (by decide +kernel) ?_
    have hf := Option.some.inj hf
    subst hf
    exact g_iret dX5_firstOfWay_119
set_option maxHeartbeats 4000000 in
set_option maxRecDepth 100000 in
theorem uX5_firstOfWay {S : Shp} {n : Nat} {r : Rf} {v0 : Nat} {v1 : Int32} {v2 : Int32} {v3 : Int32} {h : Hp} {o : Int32} (hW : WF S r) (hv0 : S[v0]? = some (5, 11)) (hf : fX5_firstOfWay n r v0 v1 v2 v3 h = some o) : GX5_firstOfWay S r r (some o, h) 0 [(0, .ref v0), (1, .int v1), (2, .int v2), (3, .int v3)] [] h := by
  unfold fX5_firstOfWay at hf
  refine g_iconst (v := 0) dX5_firstOfWay_0 (by decide +kernel) ?_
  refine g_istore (L' := [(4, .int 0), (0, .ref v0), (1, .int v1), (2, .int v2), (3, .int v3)]) dX5_firstOfWay_1 (by decide) rfl ?_
  exact g_pick [1, 2, 3, 4, 0] rfl (ulX5_firstOfWay_3 hW hv0 hf)
theorem kX5_firstOfWay {S : Shp} {n : Nat} {r : Rf} {v0 : Nat} {v1 : Int32} {v2 : Int32} {v3 : Int32} {h : Hp} {o : Int32} (hW : WF S r) (hv0 : S[v0]? = some (5, 11)) (hf : fX5_firstOfWay n r v0 v1 v2 v3 h = some o) : CTi yX5_firstOfWay wsX5_firstOfWay rmX5_firstOfWay S r [.ref v0, .int v1, .int v2, .int v3] h r o h :=
  cti_of rfl (by decide +kernel) rfl (Nat.le_of_ble_eq_true rfl) rfl (uX5_firstOfWay hW hv0 hf)
/-! X5_way way -/
def rmX5_way : Room := { frames := 4, cells := 0, slots := 0, locals := 95 }
abbrev GX5_way (S : Shp) (r r' : Rf) (out : Option Int32 × Hp) (pc : Nat) (L : List (Nat × Value)) (st : List Value) (h : Hp) : Prop := G RX5 cX5_way 5 (some .int) wsX5_way rmX5_way S r r' out pc L st h
theorem nX5_way_X0 : ∀ w ∈ wsX00, w ∈ wsX5_way := by decide +kernel
theorem nX5_way_X5 : ∀ w ∈ wsX50, w ∈ wsX5_way := by decide +kernel
theorem mX5_way_135 : Cond.constant RX5 135 (-1000000001) ∈ wsX5_way := by decide +kernel
theorem mX5_way_68 : Cond.constant RX5 68 (-1000000002) ∈ wsX5_way := by decide +kernel
theorem mX5_way_110 : Cond.fieldLink RX5 110 "LinkedIsles$Bonds" "doneUp" "I" ∈ wsX5_way := by decide +kernel
theorem mX5_way_19 : Cond.fieldLink RX5 19 "LinkedIsles" "chart" "LLinkedIsles$Chart;" ∈ wsX5_way := by decide +kernel
theorem mX5_way_29 : Cond.fieldLink RX5 29 "LinkedIsles" "now" "LLinkedIsles$Bonds;" ∈ wsX5_way := by decide +kernel
theorem hdX5_way : yX5_way.cls ≠ "java/lang/invoke/MethodHandle" ∧ yX5_way.cls ≠ "java/lang/invoke/VarHandle" ∧ (parseMethodDescriptor yX5_way.desc).map (fun d => d.parameters.length) = some 3 := by decide +kernel
def fX5_way (n : Nat) (r : Rf) (v0 : Nat) (v1 : Int32) (v2 : Int32) (v3 : Int32) (h : Hp) : Option Int32 :=
  (fX5_areTwoIslands n r v0 v1 v2 h).bind (fun (x2 : Int32) => if x2 = 0 then (some (-1000000001)) else ((fX5_isWithin n r v3 0 1 h).bind (fun (x5 : Int32) => if x5 = 0 then (some (-1000000002)) else ((fX1_steps n r (r v0 1) v1 v2 (h.1 (r v0 3) 1) h).bind (fun (x8 : Int32) => if x8 = (-1) then (some x8) else (if v3 = 0 then (some x8) else ((fX5_firstOfWay n r v0 v1 v2 x8 h).bind (fun (x12 : Int32) => some x12))))))))
set_option maxHeartbeats 4000000 in
set_option maxRecDepth 100000 in
theorem uX5_way {S : Shp} {n : Nat} {r : Rf} {v0 : Nat} {v1 : Int32} {v2 : Int32} {v3 : Int32} {h : Hp} {o : Int32} (hW : WF S r) (hv0 : S[v0]? = some (5, 11)) (hf : fX5_way n r v0 v1 v2 v3 h = some o) : GX5_way S r r (some o, h) 0 [(0, .ref v0), (1, .int v1), (2, .int v2), (3, .int v3)] [] h := by
  unfold fX5_way at hf
  refine g_aload_n (ps := 0) dX5_way_0 rfl rfl ?_
  refine g_iload_n (ps := 1) dX5_way_1 rfl rfl ?_
  refine g_iload_n (ps := 2) dX5_way_2 rfl rfl ?_
  obtain ⟨x2, e1, hf⟩ := bd_s hf
  refine g_callVi (As := [.int v1, .int v2]) (n := 2) (kX5_areTwoIslands hW hv0 e1) gX5_way_X5_areTwoIslands rfl ⟨rfl, rfl⟩ ⟨rfl, hdX5_areTwoIslands⟩ ⟨Nat.le_of_ble_eq_true rfl, Nat.le_of_ble_eq_true rfl⟩ cf5 hv0 rfl rfl (Nat.le_of_ble_eq_true rfl) dX5_way_3 ?_
  refine g_if_ne (tgt := 12) dX5_way_6 (by decide) (fun c3 => ?_) (fun c3 => ?_)
  · have hf := if_f hf c3
    refine g_iload_n (ps := 3) dX5_way_12 rfl rfl ?_
    refine g_iconst (v := 0) dX5_way_13 (by decide +kernel) ?_
    refine g_iconst (v := 1) dX5_way_14 (by decide +kernel) ?_
    obtain ⟨x5, e4, hf⟩ := bd_s hf
    refine g_callSi (As := [.int v3, .int 0, .int 1]) (n := 3) (kX5_isWithin hW  e4) gX5_way_X5_isWithin rfl ⟨rfl, rfl⟩ hdX5_isWithin ⟨Nat.le_of_ble_eq_true rfl, Nat.le_of_ble_eq_true rfl⟩ rfl rfl (Nat.le_of_ble_eq_true rfl) dX5_way_15 ?_
    refine g_if_ne (tgt := 24) dX5_way_18 (by decide) (fun c6 => ?_) (fun c6 => ?_)
    · have hf := if_f hf c6
      refine g_aload_n (ps := 0) dX5_way_24 rfl rfl ?_
      refine g_getR cf5 hv0 nX5_way_X5 (j := 1) (by decide) rfl mX5_way_19 dX5_way_25 ?_
      refine g_iload_n (ps := 1) dX5_way_28 rfl rfl ?_
      refine g_iload_n (ps := 2) dX5_way_29 rfl rfl ?_
      refine g_aload_n (ps := 0) dX5_way_30 rfl rfl ?_
      refine g_getR cf5 hv0 nX5_way_X5 (j := 3) (by decide) rfl mX5_way_29 dX5_way_31 ?_
      refine g_getI cf0 (hW _ _ _ hv0 3 _ rfl) nX5_way_X0 (j := 1) (by decide) rfl mX5_way_110 dX5_way_34 ?_
      obtain ⟨x8, e7, hf⟩ := bd_s hf
      refine g_callVi (As := [.int v1, .int v2, .int (h.1 (r v0 3) 1)]) (n := 3) (kX1_steps hW (hW _ _ _ hv0 1 _ rfl) e7) gX5_way_X1_steps rfl ⟨rfl, rfl⟩ ⟨rfl, hdX1_steps⟩ ⟨Nat.le_of_ble_eq_true rfl, Nat.le_of_ble_eq_true rfl⟩ cf1 (hW _ _ _ hv0 1 _ rfl) rfl rfl (Nat.le_of_ble_eq_true rfl) dX5_way_37 ?_
      refine g_istore (L' := [(4, .int x8), (0, .ref v0), (1, .int v1), (2, .int v2), (3, .int v3)]) dX5_way_40 (by decide) rfl ?_
      refine g_iload (ps := 0) dX5_way_42 rfl ?_
      refine g_iconst (v := (-1)) dX5_way_44 (by decide +kernel) ?_
      refine g_icmp_eq (tgt := 52) dX5_way_45 (by decide) (fun c9 => ?_) (fun c9 => ?_)
      · have hf := if_t hf c9
        refine g_iload (ps := 0) dX5_way_52 rfl ?_
        refine g_goto (tgt := 65) dX5_way_54 (by decide) ?_
        have hf := Option.some.inj hf
        subst hf
        exact g_iret dX5_way_65
      · have hf := if_f hf c9
        refine g_iload_n (ps := 4) dX5_way_48 rfl rfl ?_
        refine g_if_ne (tgt := 57) dX5_way_49 (by decide) (fun c10 => ?_) (fun c10 => ?_)
        · have hf := if_f hf c10
          refine g_aload_n (ps := 1) dX5_way_57 rfl rfl ?_
          refine g_iload_n (ps := 2) dX5_way_58 rfl rfl ?_
          refine g_iload_n (ps := 3) dX5_way_59 rfl rfl ?_
          refine g_iload (ps := 0) dX5_way_60 rfl ?_
          obtain ⟨x12, e11, hf⟩ := bd_s hf
          refine g_callVi (As := [.int v1, .int v2, .int x8]) (n := 3) (kX5_firstOfWay hW hv0 e11) gX5_way_X5_firstOfWay rfl ⟨rfl, rfl⟩ ⟨rfl, hdX5_firstOfWay⟩ ⟨Nat.le_of_ble_eq_true rfl, Nat.le_of_ble_eq_true rfl⟩ cf5 hv0 rfl rfl (Nat.le_of_ble_eq_true rfl) dX5_way_62 ?_
          have hf := Option.some.inj hf
          subst hf
          exact g_iret dX5_way_65
        · have hf := if_t hf c10
          refine g_iload (ps := 0) dX5_way_52 rfl ?_
          refine g_goto (tgt := 65) dX5_way_54 (by decide) ?_
          have hf := Option.some.inj hf
          subst hf
          exact g_iret dX5_way_65
    · have hf := if_t hf c6
      refine g_ldc (v := (-1000000002)) mX5_way_68 dX5_way_21 ?_
      have hf := Option.some.inj hf
      subst hf
      exact g_iret dX5_way_23
  · have hf := if_t hf c3
    refine g_ldc (v := (-1000000001)) mX5_way_135 dX5_way_9 ?_
    have hf := Option.some.inj hf
    subst hf
    exact g_iret dX5_way_11
theorem kX5_way {S : Shp} {n : Nat} {r : Rf} {v0 : Nat} {v1 : Int32} {v2 : Int32} {v3 : Int32} {h : Hp} {o : Int32} (hW : WF S r) (hv0 : S[v0]? = some (5, 11)) (hf : fX5_way n r v0 v1 v2 v3 h = some o) : CTi yX5_way wsX5_way rmX5_way S r [.ref v0, .int v1, .int v2, .int v3] h r o h :=
  cti_of rfl (by decide +kernel) rfl (Nat.le_of_ble_eq_true rfl) rfl (uX5_way hW hv0 hf)
/-! X5_linksWithSpare linksWithSpare -/
def rmX5_linksWithSpare : Room := { frames := 1, cells := 0, slots := 0, locals := 22 }
abbrev GX5_linksWithSpare (S : Shp) (r r' : Rf) (out : Option Int32 × Hp) (pc : Nat) (L : List (Nat × Value)) (st : List Value) (h : Hp) : Prop := G RX5 cX5_linksWithSpare 4 (some .int) wsX5_linksWithSpare rmX5_linksWithSpare S r r' out pc L st h
theorem nX5_linksWithSpare_X0 : ∀ w ∈ wsX00, w ∈ wsX5_linksWithSpare := by decide +kernel
theorem nX5_linksWithSpare_X1 : ∀ w ∈ wsX10, w ∈ wsX5_linksWithSpare := by decide +kernel
theorem nX5_linksWithSpare_X5 : ∀ w ∈ wsX50, w ∈ wsX5_linksWithSpare := by decide +kernel
theorem mX5_linksWithSpare_110 : Cond.fieldLink RX5 110 "LinkedIsles$Bonds" "doneUp" "I" ∈ wsX5_linksWithSpare := by decide +kernel
theorem mX5_linksWithSpare_19 : Cond.fieldLink RX5 19 "LinkedIsles" "chart" "LLinkedIsles$Chart;" ∈ wsX5_linksWithSpare := by decide +kernel
theorem mX5_linksWithSpare_29 : Cond.fieldLink RX5 29 "LinkedIsles" "now" "LLinkedIsles$Bonds;" ∈ wsX5_linksWithSpare := by decide +kernel
theorem mX5_linksWithSpare_89 : Cond.fieldLink RX5 89 "LinkedIsles$Chart" "links" "I" ∈ wsX5_linksWithSpare := by decide +kernel
theorem hdX5_linksWithSpare : yX5_linksWithSpare.cls ≠ "java/lang/invoke/MethodHandle" ∧ yX5_linksWithSpare.cls ≠ "java/lang/invoke/VarHandle" ∧ (parseMethodDescriptor yX5_linksWithSpare.desc).map (fun d => d.parameters.length) = some 1 := by decide +kernel
def bX5_linksWithSpare_4 (n : Nat) (r : Rf) (v0 : Nat) (v1 : Int32) (v2 : Int32) (v3 : Int32) (h : Hp) : Option ((Int32 × Int32) ⊕ (Int32)) :=
  if (h.1 (r v0 1) 10) ≤ v3 then (some (.inr v2)) else ((fX5_has n r (h.1 (r v0 3) 1) v3 h).bind (fun (x3 : Int32) => if x3 = 0 then (lE (v3 + 1) (fun (x5 : Int32) => some (.inl (v2, x5)))) else ((fX0_spare n r (r v0 3) (r v0 1) v3 h).bind (fun (x7 : Int32) => if x7 < v1 then (lE (v3 + 1) (fun (x9 : Int32) => some (.inl (v2, x9)))) else (lE ((v2 ||| (1 <<< (v3 &&& 31)))) (fun (x10 : Int32) => lE (v3 + 1) (fun (x11 : Int32) => some (.inl (x10, x11)))))))))
def lX5_linksWithSpare_4 (n : Nat) (r : Rf) (v0 : Nat) (v1 : Int32) (v2 : Int32) (v3 : Int32) (h : Hp) : Option Int32 :=
  (it (fun (s : Int32 × Int32) => bX5_linksWithSpare_4 n r v0 v1 s.1 s.2 h) n (v2, v3)).bind (fun z => some z)
def fX5_linksWithSpare (n : Nat) (r : Rf) (v0 : Nat) (v1 : Int32) (h : Hp) : Option Int32 :=
  lX5_linksWithSpare_4 n r v0 v1 0 0 h
set_option maxHeartbeats 4000000 in
set_option maxRecDepth 100000 in
theorem ubX5_linksWithSpare_4 {S : Shp} {n : Nat} {r : Rf} {out : Option Int32 × Hp} {r' : Rf} {v0 : Nat} {v1 : Int32} {v2 : Int32} {v3 : Int32}  {h : Hp} {w : (Int32 × Int32) ⊕ (Int32)} (hW : WF S r) (hv0 : S[v0]? = some (5, 11)) (hf : bX5_linksWithSpare_4 n r v0 v1 v2 v3 h = some w) (hk : ∀ y, w = .inl y → GX5_linksWithSpare S r r' out 4 [(0, .ref v0), (1, .int v1), (2, .int (y.1)), (3, .int (y.2))] [] h) (he : ∀ z, w = .inr z → GX5_linksWithSpare S r r' out 57 [(0, .ref v0), (2, .int (z))] [] h) : GX5_linksWithSpare S r r' out 4 [(0, .ref v0), (1, .int v1), (2, .int v2), (3, .int v3)] [] h := by
  unfold bX5_linksWithSpare_4 at hf
  refine g_iload_n (ps := 3) dX5_linksWithSpare_4 rfl rfl ?_
  refine g_aload_n (ps := 0) dX5_linksWithSpare_5 rfl rfl ?_
  refine g_getR cf5 hv0 nX5_linksWithSpare_X5 (j := 1) (by decide) rfl mX5_linksWithSpare_19 dX5_linksWithSpare_6 ?_
  refine g_getI cf1 (hW _ _ _ hv0 1 _ rfl) nX5_linksWithSpare_X1 (j := 10) (by decide) rfl mX5_linksWithSpare_89 dX5_linksWithSpare_9 ?_
  refine g_icmp_ge (tgt := 57) dX5_linksWithSpare_12 (by decide) (fun c1 => ?_) (fun c1 => ?_)
  · have hf := if_t hf c1
    exact g_pick [0, 2] rfl (he _ (Option.some.inj hf).symm)
  · have hf := if_f hf c1
    refine g_aload_n (ps := 0) dX5_linksWithSpare_15 rfl rfl ?_
    refine g_getR cf5 hv0 nX5_linksWithSpare_X5 (j := 3) (by decide) rfl mX5_linksWithSpare_29 dX5_linksWithSpare_16 ?_
    refine g_getI cf0 (hW _ _ _ hv0 3 _ rfl) nX5_linksWithSpare_X0 (j := 1) (by decide) rfl mX5_linksWithSpare_110 dX5_linksWithSpare_19 ?_
    refine g_iload_n (ps := 3) dX5_linksWithSpare_22 rfl rfl ?_
    obtain ⟨x3, e2, hf⟩ := bd_s hf
    refine g_callSi (As := [.int (h.1 (r v0 3) 1), .int v3]) (n := 2) (kX5_has hW  e2) gX5_linksWithSpare_X5_has rfl ⟨rfl, rfl⟩ hdX5_has ⟨Nat.le_of_ble_eq_true rfl, Nat.le_of_ble_eq_true rfl⟩ rfl rfl (Nat.le_of_ble_eq_true rfl) dX5_linksWithSpare_23 ?_
    refine g_if_eq (tgt := 51) dX5_linksWithSpare_26 (by decide) (fun c4 => ?_) (fun c4 => ?_)
    · have hf := if_t hf c4
      obtain ⟨x5, ex5⟩ : ∃ y : Int32, y = v3 + 1 := ⟨_, rfl⟩
      have hf := lE_s hf ex5
      refine g_iinc (ps := 3) (v := x5) (L' := [(3, .int x5), (0, .ref v0), (1, .int v1), (2, .int v2)]) dX5_linksWithSpare_51 rfl (by rw [ex5]; rfl) (by decide) rfl ?_
      refine g_goto (tgt := 4) dX5_linksWithSpare_54 (by decide) ?_
      exact g_pick [1, 2, 3, 0] rfl (hk _ (Option.some.inj hf).symm)
    · have hf := if_f hf c4
      refine g_aload_n (ps := 0) dX5_linksWithSpare_29 rfl rfl ?_
      refine g_getR cf5 hv0 nX5_linksWithSpare_X5 (j := 3) (by decide) rfl mX5_linksWithSpare_29 dX5_linksWithSpare_30 ?_
      refine g_aload_n (ps := 0) dX5_linksWithSpare_33 rfl rfl ?_
      refine g_getR cf5 hv0 nX5_linksWithSpare_X5 (j := 1) (by decide) rfl mX5_linksWithSpare_19 dX5_linksWithSpare_34 ?_
      refine g_iload_n (ps := 3) dX5_linksWithSpare_37 rfl rfl ?_
      obtain ⟨x7, e6, hf⟩ := bd_s hf
      refine g_callVi (As := [.ref (r v0 1), .int v3]) (n := 2) (kX0_spare hW (hW _ _ _ hv0 3 _ rfl) (hW _ _ _ hv0 1 _ rfl) e6) gX5_linksWithSpare_X0_spare rfl ⟨rfl, rfl⟩ ⟨rfl, hdX0_spare⟩ ⟨Nat.le_of_ble_eq_true rfl, Nat.le_of_ble_eq_true rfl⟩ cf0 (hW _ _ _ hv0 3 _ rfl) rfl rfl (Nat.le_of_ble_eq_true rfl) dX5_linksWithSpare_38 ?_
      refine g_iload_n (ps := 1) dX5_linksWithSpare_41 rfl rfl ?_
      refine g_icmp_lt (tgt := 51) dX5_linksWithSpare_42 (by decide) (fun c8 => ?_) (fun c8 => ?_)
      · have hf := if_t hf c8
        obtain ⟨x9, ex9⟩ : ∃ y : Int32, y = v3 + 1 := ⟨_, rfl⟩
        have hf := lE_s hf ex9
        refine g_iinc (ps := 3) (v := x9) (L' := [(3, .int x9), (0, .ref v0), (1, .int v1), (2, .int v2)]) dX5_linksWithSpare_51 rfl (by rw [ex9]; rfl) (by decide) rfl ?_
        refine g_goto (tgt := 4) dX5_linksWithSpare_54 (by decide) ?_
        exact g_pick [1, 2, 3, 0] rfl (hk _ (Option.some.inj hf).symm)
      · have hf := if_f hf c8
        refine g_iload_n (ps := 2) dX5_linksWithSpare_45 rfl rfl ?_
        refine g_iconst (v := 1) dX5_linksWithSpare_46 (by decide +kernel) ?_
        refine g_iload_n (ps := 3) dX5_linksWithSpare_47 rfl rfl ?_
        refine g_ishl dX5_linksWithSpare_48 ?_
        refine g_ior dX5_linksWithSpare_49 ?_
        refine g_topi (fun x10 ex10 => ?_)
        have hf := lE_s hf ex10
        refine g_istore_n (L' := [(2, .int x10), (0, .ref v0), (1, .int v1), (3, .int v3)]) dX5_linksWithSpare_50 rfl (by decide) rfl ?_
        obtain ⟨x11, ex11⟩ : ∃ y : Int32, y = v3 + 1 := ⟨_, rfl⟩
        have hf := lE_s hf ex11
        refine g_iinc (ps := 3) (v := x11) (L' := [(3, .int x11), (2, .int x10), (0, .ref v0), (1, .int v1)]) dX5_linksWithSpare_51 rfl (by rw [ex11]; rfl) (by decide) rfl ?_
        refine g_goto (tgt := 4) dX5_linksWithSpare_54 (by decide) ?_
        exact g_pick [2, 3, 1, 0] rfl (hk _ (Option.some.inj hf).symm)
set_option maxHeartbeats 4000000 in
set_option maxRecDepth 100000 in
theorem ulX5_linksWithSpare_4 {S : Shp} {n : Nat} {r : Rf} {v0 : Nat} {v1 : Int32} {v2 : Int32} {v3 : Int32}  {h : Hp} {o : Int32} (hW : WF S r) (hv0 : S[v0]? = some (5, 11)) (hf : lX5_linksWithSpare_4 n r v0 v1 v2 v3 h = some o)  : GX5_linksWithSpare S r r (some o, h) 4 [(0, .ref v0), (1, .int v1), (2, .int v2), (3, .int v3)] [] h := by
  unfold lX5_linksWithSpare_4 at hf
  obtain ⟨z0, ei, hf⟩ := bd_s hf
  refine it_ind (P := fun (s : Int32 × Int32) => GX5_linksWithSpare S r r (some o, h) 4 [(0, .ref v0), (1, .int v1), (2, .int (s.1)), (3, .int (s.2))] [] h) (fun s w hb hk2 he2 => ?_) n _ ei
  refine ubX5_linksWithSpare_4 (out := (some o, h)) (r' := r) hW hv0 hb hk2 (fun z hz => ?_)
  have hz := he2 z hz
  subst hz
  refine g_iload_n (ps := 1) dX5_linksWithSpare_57 rfl rfl ?_
  have hf := Option.some.inj hf
  subst hf
  exact g_iret dX5_linksWithSpare_58
set_option maxHeartbeats 4000000 in
set_option maxRecDepth 100000 in
theorem uX5_linksWithSpare {S : Shp} {n : Nat} {r : Rf} {v0 : Nat} {v1 : Int32} {h : Hp} {o : Int32} (hW : WF S r) (hv0 : S[v0]? = some (5, 11)) (hf : fX5_linksWithSpare n r v0 v1 h = some o) : GX5_linksWithSpare S r r (some o, h) 0 [(0, .ref v0), (1, .int v1)] [] h := by
  unfold fX5_linksWithSpare at hf
  refine g_iconst (v := 0) dX5_linksWithSpare_0 (by decide +kernel) ?_
  refine g_istore_n (L' := [(2, .int 0), (0, .ref v0), (1, .int v1)]) dX5_linksWithSpare_1 rfl (by decide) rfl ?_
  refine g_iconst (v := 0) dX5_linksWithSpare_2 (by decide +kernel) ?_
  refine g_istore_n (L' := [(3, .int 0), (2, .int 0), (0, .ref v0), (1, .int v1)]) dX5_linksWithSpare_3 rfl (by decide) rfl ?_
  exact g_pick [2, 3, 1, 0] rfl (ulX5_linksWithSpare_4 hW hv0 hf)
theorem kX5_linksWithSpare {S : Shp} {n : Nat} {r : Rf} {v0 : Nat} {v1 : Int32} {h : Hp} {o : Int32} (hW : WF S r) (hv0 : S[v0]? = some (5, 11)) (hf : fX5_linksWithSpare n r v0 v1 h = some o) : CTi yX5_linksWithSpare wsX5_linksWithSpare rmX5_linksWithSpare S r [.ref v0, .int v1] h r o h :=
  cti_of rfl (by decide +kernel) rfl (Nat.le_of_ble_eq_true rfl) rfl (uX5_linksWithSpare hW hv0 hf)
/-! X5_widest widest -/
def rmX5_widest : Room := { frames := 4, cells := 0, slots := 0, locals := 93 }
abbrev GX5_widest (S : Shp) (r r' : Rf) (out : Option Int32 × Hp) (pc : Nat) (L : List (Nat × Value)) (st : List Value) (h : Hp) : Prop := G RX5 cX5_widest 6 (some .int) wsX5_widest rmX5_widest S r r' out pc L st h
theorem nX5_widest_X0 : ∀ w ∈ wsX00, w ∈ wsX5_widest := by decide +kernel
theorem nX5_widest_X1 : ∀ w ∈ wsX10, w ∈ wsX5_widest := by decide +kernel
theorem nX5_widest_X5 : ∀ w ∈ wsX50, w ∈ wsX5_widest := by decide +kernel
theorem mX5_widest_135 : Cond.constant RX5 135 (-1000000001) ∈ wsX5_widest := by decide +kernel
theorem mX5_widest_110 : Cond.fieldLink RX5 110 "LinkedIsles$Bonds" "doneUp" "I" ∈ wsX5_widest := by decide +kernel
theorem mX5_widest_19 : Cond.fieldLink RX5 19 "LinkedIsles" "chart" "LLinkedIsles$Chart;" ∈ wsX5_widest := by decide +kernel
theorem mX5_widest_29 : Cond.fieldLink RX5 29 "LinkedIsles" "now" "LLinkedIsles$Bonds;" ∈ wsX5_widest := by decide +kernel
theorem mX5_widest_89 : Cond.fieldLink RX5 89 "LinkedIsles$Chart" "links" "I" ∈ wsX5_widest := by decide +kernel
theorem hdX5_widest : yX5_widest.cls ≠ "java/lang/invoke/MethodHandle" ∧ yX5_widest.cls ≠ "java/lang/invoke/VarHandle" ∧ (parseMethodDescriptor yX5_widest.desc).map (fun d => d.parameters.length) = some 2 := by decide +kernel
def bX5_widest_17 (n : Nat) (r : Rf) (v0 : Nat) (v1 : Int32) (v2 : Int32) (v3 : Int32) (v4 : Int32) (h : Hp) : Option ((Int32 × Int32) ⊕ (Int32)) :=
  if (h.1 (r v0 1) 10) ≤ v4 then (some (.inr v3)) else ((fX0_spare n r (r v0 3) (r v0 1) v4 h).bind (fun (x6 : Int32) => (fX5_has n r (h.1 (r v0 3) 1) v4 h).bind (fun (x8 : Int32) => if x8 = 0 then (lE (v4 + 1) (fun (x10 : Int32) => some (.inl (v3, x10)))) else (if x6 ≤ v3 then (lE (v4 + 1) (fun (x12 : Int32) => some (.inl (v3, x12)))) else ((fX5_linksWithSpare n r v0 x6 h).bind (fun (x14 : Int32) => (fX1_hang n r (r v0 1) v1 v2 x14 h).bind (fun (x16 : Int32) => if x16 = 0 then (lE (v4 + 1) (fun (x18 : Int32) => some (.inl (v3, x18)))) else (lE (v4 + 1) (fun (x19 : Int32) => some (.inl (x6, x19)))))))))))
def lX5_widest_17 (n : Nat) (r : Rf) (v0 : Nat) (v1 : Int32) (v2 : Int32) (v3 : Int32) (v4 : Int32) (h : Hp) : Option Int32 :=
  (it (fun (s : Int32 × Int32) => bX5_widest_17 n r v0 v1 v2 s.1 s.2 h) n (v3, v4)).bind (fun z => some z)
def fX5_widest (n : Nat) (r : Rf) (v0 : Nat) (v1 : Int32) (v2 : Int32) (h : Hp) : Option Int32 :=
  (fX5_areTwoIslands n r v0 v1 v2 h).bind (fun (x2 : Int32) => if x2 = 0 then (some (-1000000001)) else (lX5_widest_17 n r v0 v1 v2 (-1) 0 h))
set_option maxHeartbeats 4000000 in
set_option maxRecDepth 100000 in
theorem ubX5_widest_17 {S : Shp} {n : Nat} {r : Rf} {out : Option Int32 × Hp} {r' : Rf} {v0 : Nat} {v1 : Int32} {v2 : Int32} {v3 : Int32} {v4 : Int32}  {h : Hp} {w : (Int32 × Int32) ⊕ (Int32)} (hW : WF S r) (hv0 : S[v0]? = some (5, 11)) (hf : bX5_widest_17 n r v0 v1 v2 v3 v4 h = some w) (hk : ∀ y, w = .inl y → GX5_widest S r r' out 17 [(0, .ref v0), (1, .int v1), (2, .int v2), (3, .int (y.1)), (4, .int (y.2))] [] h) (he : ∀ z, w = .inr z → GX5_widest S r r' out 92 [(0, .ref v0), (3, .int (z))] [] h) : GX5_widest S r r' out 17 [(0, .ref v0), (1, .int v1), (2, .int v2), (3, .int v3), (4, .int v4)] [] h := by
  unfold bX5_widest_17 at hf
  refine g_iload (ps := 4) dX5_widest_17 rfl ?_
  refine g_aload_n (ps := 0) dX5_widest_19 rfl rfl ?_
  refine g_getR cf5 hv0 nX5_widest_X5 (j := 1) (by decide) rfl mX5_widest_19 dX5_widest_20 ?_
  refine g_getI cf1 (hW _ _ _ hv0 1 _ rfl) nX5_widest_X1 (j := 10) (by decide) rfl mX5_widest_89 dX5_widest_23 ?_
  refine g_icmp_ge (tgt := 92) dX5_widest_26 (by decide) (fun c4 => ?_) (fun c4 => ?_)
  · have hf := if_t hf c4
    exact g_pick [0, 3] rfl (he _ (Option.some.inj hf).symm)
  · have hf := if_f hf c4
    refine g_aload_n (ps := 0) dX5_widest_29 rfl rfl ?_
    refine g_getR cf5 hv0 nX5_widest_X5 (j := 3) (by decide) rfl mX5_widest_29 dX5_widest_30 ?_
    refine g_aload_n (ps := 0) dX5_widest_33 rfl rfl ?_
    refine g_getR cf5 hv0 nX5_widest_X5 (j := 1) (by decide) rfl mX5_widest_19 dX5_widest_34 ?_
    refine g_iload (ps := 4) dX5_widest_37 rfl ?_
    obtain ⟨x6, e5, hf⟩ := bd_s hf
    refine g_callVi (As := [.ref (r v0 1), .int v4]) (n := 2) (kX0_spare hW (hW _ _ _ hv0 3 _ rfl) (hW _ _ _ hv0 1 _ rfl) e5) gX5_widest_X0_spare rfl ⟨rfl, rfl⟩ ⟨rfl, hdX0_spare⟩ ⟨Nat.le_of_ble_eq_true rfl, Nat.le_of_ble_eq_true rfl⟩ cf0 (hW _ _ _ hv0 3 _ rfl) rfl rfl (Nat.le_of_ble_eq_true rfl) dX5_widest_39 ?_
    refine g_istore (L' := [(5, .int x6), (0, .ref v0), (1, .int v1), (2, .int v2), (3, .int v3), (4, .int v4)]) dX5_widest_42 (by decide) rfl ?_
    refine g_aload_n (ps := 1) dX5_widest_44 rfl rfl ?_
    refine g_getR cf5 hv0 nX5_widest_X5 (j := 3) (by decide) rfl mX5_widest_29 dX5_widest_45 ?_
    refine g_getI cf0 (hW _ _ _ hv0 3 _ rfl) nX5_widest_X0 (j := 1) (by decide) rfl mX5_widest_110 dX5_widest_48 ?_
    refine g_iload (ps := 5) dX5_widest_51 rfl ?_
    obtain ⟨x8, e7, hf⟩ := bd_s hf
    refine g_callSi (As := [.int (h.1 (r v0 3) 1), .int v4]) (n := 2) (kX5_has hW  e7) gX5_widest_X5_has rfl ⟨rfl, rfl⟩ hdX5_has ⟨Nat.le_of_ble_eq_true rfl, Nat.le_of_ble_eq_true rfl⟩ rfl rfl (Nat.le_of_ble_eq_true rfl) dX5_widest_53 ?_
    refine g_if_eq (tgt := 86) dX5_widest_56 (by decide) (fun c9 => ?_) (fun c9 => ?_)
    · have hf := if_t hf c9
      obtain ⟨x10, ex10⟩ : ∃ y : Int32, y = v4 + 1 := ⟨_, rfl⟩
      have hf := lE_s hf ex10
      refine g_iinc (ps := 5) (v := x10) (L' := [(4, .int x10), (5, .int x6), (0, .ref v0), (1, .int v1), (2, .int v2), (3, .int v3)]) dX5_widest_86 rfl (by rw [ex10]; rfl) (by decide) rfl ?_
      refine g_goto (tgt := 17) dX5_widest_89 (by decide) ?_
      exact g_pick [2, 3, 4, 5, 0] rfl (hk _ (Option.some.inj hf).symm)
    · have hf := if_f hf c9
      refine g_iload (ps := 0) dX5_widest_59 rfl ?_
      refine g_iload_n (ps := 4) dX5_widest_61 rfl rfl ?_
      refine g_icmp_le (tgt := 86) dX5_widest_62 (by decide) (fun c11 => ?_) (fun c11 => ?_)
      · have hf := if_t hf c11
        obtain ⟨x12, ex12⟩ : ∃ y : Int32, y = v4 + 1 := ⟨_, rfl⟩
        have hf := lE_s hf ex12
        refine g_iinc (ps := 5) (v := x12) (L' := [(4, .int x12), (5, .int x6), (0, .ref v0), (1, .int v1), (2, .int v2), (3, .int v3)]) dX5_widest_86 rfl (by rw [ex12]; rfl) (by decide) rfl ?_
        refine g_goto (tgt := 17) dX5_widest_89 (by decide) ?_
        exact g_pick [2, 3, 4, 5, 0] rfl (hk _ (Option.some.inj hf).symm)
      · have hf := if_f hf c11
        refine g_aload_n (ps := 1) dX5_widest_65 rfl rfl ?_
        refine g_getR cf5 hv0 nX5_widest_X5 (j := 1) (by decide) rfl mX5_widest_19 dX5_widest_66 ?_
        refine g_iload_n (ps := 2) dX5_widest_69 rfl rfl ?_
        refine g_iload_n (ps := 3) dX5_widest_70 rfl rfl ?_
        refine g_aload_n (ps := 1) dX5_widest_71 rfl rfl ?_
        refine g_iload (ps := 0) dX5_widest_72 rfl ?_
        obtain ⟨x14, e13, hf⟩ := bd_s hf
        refine g_callVi (As := [.int x6]) (n := 1) (kX5_linksWithSpare hW hv0 e13) gX5_widest_X5_linksWithSpare rfl ⟨rfl, rfl⟩ ⟨rfl, hdX5_linksWithSpare⟩ ⟨Nat.le_of_ble_eq_true rfl, Nat.le_of_ble_eq_true rfl⟩ cf5 hv0 rfl rfl (Nat.le_of_ble_eq_true rfl) dX5_widest_74 ?_
        obtain ⟨x16, e15, hf⟩ := bd_s hf
        refine g_callVi (As := [.int v1, .int v2, .int x14]) (n := 3) (kX1_hang hW (hW _ _ _ hv0 1 _ rfl) e15) gX5_widest_X1_hang rfl ⟨rfl, rfl⟩ ⟨rfl, hdX1_hang⟩ ⟨Nat.le_of_ble_eq_true rfl, Nat.le_of_ble_eq_true rfl⟩ cf1 (hW _ _ _ hv0 1 _ rfl) rfl rfl (Nat.le_of_ble_eq_true rfl) dX5_widest_77 ?_
        refine g_if_eq (tgt := 86) dX5_widest_80 (by decide) (fun c17 => ?_) (fun c17 => ?_)
        · have hf := if_t hf c17
          obtain ⟨x18, ex18⟩ : ∃ y : Int32, y = v4 + 1 := ⟨_, rfl⟩
          have hf := lE_s hf ex18
          refine g_iinc (ps := 5) (v := x18) (L' := [(4, .int x18), (5, .int x6), (0, .ref v0), (1, .int v1), (2, .int v2), (3, .int v3)]) dX5_widest_86 rfl (by rw [ex18]; rfl) (by decide) rfl ?_
          refine g_goto (tgt := 17) dX5_widest_89 (by decide) ?_
          exact g_pick [2, 3, 4, 5, 0] rfl (hk _ (Option.some.inj hf).symm)
        · have hf := if_f hf c17
          refine g_iload (ps := 0) dX5_widest_83 rfl ?_
          refine g_istore_n (L' := [(3, .int x6), (5, .int x6), (0, .ref v0), (1, .int v1), (2, .int v2), (4, .int v4)]) dX5_widest_85 rfl (by decide) rfl ?_
          obtain ⟨x19, ex19⟩ : ∃ y : Int32, y = v4 + 1 := ⟨_, rfl⟩
          have hf := lE_s hf ex19
          refine g_iinc (ps := 5) (v := x19) (L' := [(4, .int x19), (3, .int x6), (5, .int x6), (0, .ref v0), (1, .int v1), (2, .int v2)]) dX5_widest_86 rfl (by rw [ex19]; rfl) (by decide) rfl ?_
          refine g_goto (tgt := 17) dX5_widest_89 (by decide) ?_
          exact g_pick [3, 4, 5, 1, 0] rfl (hk _ (Option.some.inj hf).symm)
set_option maxHeartbeats 4000000 in
set_option maxRecDepth 100000 in
theorem ulX5_widest_17 {S : Shp} {n : Nat} {r : Rf} {v0 : Nat} {v1 : Int32} {v2 : Int32} {v3 : Int32} {v4 : Int32}  {h : Hp} {o : Int32} (hW : WF S r) (hv0 : S[v0]? = some (5, 11)) (hf : lX5_widest_17 n r v0 v1 v2 v3 v4 h = some o)  : GX5_widest S r r (some o, h) 17 [(0, .ref v0), (1, .int v1), (2, .int v2), (3, .int v3), (4, .int v4)] [] h := by
  unfold lX5_widest_17 at hf
  obtain ⟨z0, ei, hf⟩ := bd_s hf
  refine it_ind (P := fun (s : Int32 × Int32) => GX5_widest S r r (some o, h) 17 [(0, .ref v0), (1, .int v1), (2, .int v2), (3, .int (s.1)), (4, .int (s.2))] [] h) (fun s w hb hk2 he2 => ?_) n _ ei
  refine ubX5_widest_17 (out := (some o, h)) (r' := r) hW hv0 hb hk2 (fun z hz => ?_)
  have hz := he2 z hz
  subst hz
  refine g_iload_n (ps := 1) dX5_widest_92 rfl rfl ?_
  have hf := Option.some.inj hf
  subst hf
  exact g_iret dX5_widest_93
set_option maxHeartbeats 4000000 in
set_option maxRecDepth 100000 in
theorem uX5_widest {S : Shp} {n : Nat} {r : Rf} {v0 : Nat} {v1 : Int32} {v2 : Int32} {h : Hp} {o : Int32} (hW : WF S r) (hv0 : S[v0]? = some (5, 11)) (hf : fX5_widest n r v0 v1 v2 h = some o) : GX5_widest S r r (some o, h) 0 [(0, .ref v0), (1, .int v1), (2, .int v2)] [] h := by
  unfold fX5_widest at hf
  refine g_aload_n (ps := 0) dX5_widest_0 rfl rfl ?_
  refine g_iload_n (ps := 1) dX5_widest_1 rfl rfl ?_
  refine g_iload_n (ps := 2) dX5_widest_2 rfl rfl ?_
  obtain ⟨x2, e1, hf⟩ := bd_s hf
  refine g_callVi (As := [.int v1, .int v2]) (n := 2) (kX5_areTwoIslands hW hv0 e1) gX5_widest_X5_areTwoIslands rfl ⟨rfl, rfl⟩ ⟨rfl, hdX5_areTwoIslands⟩ ⟨Nat.le_of_ble_eq_true rfl, Nat.le_of_ble_eq_true rfl⟩ cf5 hv0 rfl rfl (Nat.le_of_ble_eq_true rfl) dX5_widest_3 ?_
  refine g_if_ne (tgt := 12) dX5_widest_6 (by decide) (fun c3 => ?_) (fun c3 => ?_)
  · have hf := if_f hf c3
    refine g_iconst (v := (-1)) dX5_widest_12 (by decide +kernel) ?_
    refine g_istore_n (L' := [(3, .int (-1)), (0, .ref v0), (1, .int v1), (2, .int v2)]) dX5_widest_13 rfl (by decide) rfl ?_
    refine g_iconst (v := 0) dX5_widest_14 (by decide +kernel) ?_
    refine g_istore (L' := [(4, .int 0), (3, .int (-1)), (0, .ref v0), (1, .int v1), (2, .int v2)]) dX5_widest_15 (by decide) rfl ?_
    exact g_pick [2, 3, 4, 1, 0] rfl (ulX5_widest_17 hW hv0 hf)
  · have hf := if_t hf c3
    refine g_ldc (v := (-1000000001)) mX5_widest_135 dX5_widest_9 ?_
    have hf := Option.some.inj hf
    subst hf
    exact g_iret dX5_widest_11
theorem kX5_widest {S : Shp} {n : Nat} {r : Rf} {v0 : Nat} {v1 : Int32} {v2 : Int32} {h : Hp} {o : Int32} (hW : WF S r) (hv0 : S[v0]? = some (5, 11)) (hf : fX5_widest n r v0 v1 v2 h = some o) : CTi yX5_widest wsX5_widest rmX5_widest S r [.ref v0, .int v1, .int v2] h r o h :=
  cti_of rfl (by decide +kernel) rfl (Nat.le_of_ble_eq_true rfl) rfl (uX5_widest hW hv0 hf)
/-! X5_farthest farthest -/
def rmX5_farthest : Room := { frames := 3, cells := 0, slots := 0, locals := 70 }
abbrev GX5_farthest (S : Shp) (r r' : Rf) (out : Option Int32 × Hp) (pc : Nat) (L : List (Nat × Value)) (st : List Value) (h : Hp) : Prop := G RX5 cX5_farthest 7 (some .int) wsX5_farthest rmX5_farthest S r r' out pc L st h
theorem nX5_farthest_X0 : ∀ w ∈ wsX00, w ∈ wsX5_farthest := by decide +kernel
theorem nX5_farthest_X1 : ∀ w ∈ wsX10, w ∈ wsX5_farthest := by decide +kernel
theorem nX5_farthest_X5 : ∀ w ∈ wsX50, w ∈ wsX5_farthest := by decide +kernel
theorem mX5_farthest_135 : Cond.constant RX5 135 (-1000000001) ∈ wsX5_farthest := by decide +kernel
theorem mX5_farthest_68 : Cond.constant RX5 68 (-1000000002) ∈ wsX5_farthest := by decide +kernel
theorem mX5_farthest_110 : Cond.fieldLink RX5 110 "LinkedIsles$Bonds" "doneUp" "I" ∈ wsX5_farthest := by decide +kernel
theorem mX5_farthest_19 : Cond.fieldLink RX5 19 "LinkedIsles" "chart" "LLinkedIsles$Chart;" ∈ wsX5_farthest := by decide +kernel
theorem mX5_farthest_29 : Cond.fieldLink RX5 29 "LinkedIsles" "now" "LLinkedIsles$Bonds;" ∈ wsX5_farthest := by decide +kernel
theorem mX5_farthest_95 : Cond.fieldLink RX5 95 "LinkedIsles$Chart" "islands" "I" ∈ wsX5_farthest := by decide +kernel
theorem hdX5_farthest : yX5_farthest.cls ≠ "java/lang/invoke/MethodHandle" ∧ yX5_farthest.cls ≠ "java/lang/invoke/VarHandle" ∧ (parseMethodDescriptor yX5_farthest.desc).map (fun d => d.parameters.length) = some 2 := by decide +kernel
def bX5_farthest_34 (n : Nat) (r : Rf) (v0 : Nat) (v1 : Int32) (v2 : Int32) (v3 : Int32) (v4 : Int32) (v5 : Int32) (h : Hp) : Option ((Int32 × Int32 × Int32) ⊕ (Int32 × Int32)) :=
  if (h.1 (r v0 1) 9) ≤ v5 then (some (.inr (v3, v4))) else ((fX1_steps n r (r v0 1) v1 v5 (h.1 (r v0 3) 1) h).bind (fun (x9 : Int32) => if x9 ≤ v4 then (lE (v5 + 1) (fun (x11 : Int32) => some (.inl (v3, v4, x11)))) else (lE (v5 + 1) (fun (x12 : Int32) => some (.inl (v5, x9, x12))))))
def lX5_farthest_34 (n : Nat) (r : Rf) (v0 : Nat) (v1 : Int32) (v2 : Int32) (v3 : Int32) (v4 : Int32) (v5 : Int32) (h : Hp) : Option Int32 :=
  (it (fun (s : Int32 × Int32 × Int32) => bX5_farthest_34 n r v0 v1 v2 s.1 s.2.1 s.2.2 h) n (v3, v4, v5)).bind (fun z => if v2 = 0 then (some (z.1)) else (some (z.2)))
def fX5_farthest (n : Nat) (r : Rf) (v0 : Nat) (v1 : Int32) (v2 : Int32) (h : Hp) : Option Int32 :=
  (fX1_hasIsland n r (r v0 1) v1 h).bind (fun (x2 : Int32) => if x2 = 0 then (some (-1000000001)) else ((fX5_isWithin n r v2 0 1 h).bind (fun (x5 : Int32) => if x5 = 0 then (some (-1000000002)) else (lX5_farthest_34 n r v0 v1 v2 v1 0 0 h))))
set_option maxHeartbeats 4000000 in
set_option maxRecDepth 100000 in
theorem ubX5_farthest_34 {S : Shp} {n : Nat} {r : Rf} {out : Option Int32 × Hp} {r' : Rf} {v0 : Nat} {v1 : Int32} {v2 : Int32} {v3 : Int32} {v4 : Int32} {v5 : Int32}  {h : Hp} {w : (Int32 × Int32 × Int32) ⊕ (Int32 × Int32)} (hW : WF S r) (hv0 : S[v0]? = some (5, 11)) (hf : bX5_farthest_34 n r v0 v1 v2 v3 v4 v5 h = some w) (hk : ∀ y, w = .inl y → GX5_farthest S r r' out 34 [(0, .ref v0), (1, .int v1), (2, .int v2), (3, .int (y.1)), (4, .int (y.2.1)), (5, .int (y.2.2))] [] h) (he : ∀ z, w = .inr z → GX5_farthest S r r' out 85 [(0, .ref v0), (2, .int v2), (3, .int (z.1)), (4, .int (z.2))] [] h) : GX5_farthest S r r' out 34 [(0, .ref v0), (1, .int v1), (2, .int v2), (3, .int v3), (4, .int v4), (5, .int v5)] [] h := by
  unfold bX5_farthest_34 at hf
  refine g_iload (ps := 5) dX5_farthest_34 rfl ?_
  refine g_aload_n (ps := 0) dX5_farthest_36 rfl rfl ?_
  refine g_getR cf5 hv0 nX5_farthest_X5 (j := 1) (by decide) rfl mX5_farthest_19 dX5_farthest_37 ?_
  refine g_getI cf1 (hW _ _ _ hv0 1 _ rfl) nX5_farthest_X1 (j := 9) (by decide) rfl mX5_farthest_95 dX5_farthest_40 ?_
  refine g_icmp_ge (tgt := 85) dX5_farthest_43 (by decide) (fun c7 => ?_) (fun c7 => ?_)
  · have hf := if_t hf c7
    exact g_pick [0, 2, 3, 4] rfl (he _ (Option.some.inj hf).symm)
  · have hf := if_f hf c7
    refine g_aload_n (ps := 0) dX5_farthest_46 rfl rfl ?_
    refine g_getR cf5 hv0 nX5_farthest_X5 (j := 1) (by decide) rfl mX5_farthest_19 dX5_farthest_47 ?_
    refine g_iload_n (ps := 1) dX5_farthest_50 rfl rfl ?_
    refine g_iload (ps := 5) dX5_farthest_51 rfl ?_
    refine g_aload_n (ps := 0) dX5_farthest_53 rfl rfl ?_
    refine g_getR cf5 hv0 nX5_farthest_X5 (j := 3) (by decide) rfl mX5_farthest_29 dX5_farthest_54 ?_
    refine g_getI cf0 (hW _ _ _ hv0 3 _ rfl) nX5_farthest_X0 (j := 1) (by decide) rfl mX5_farthest_110 dX5_farthest_57 ?_
    obtain ⟨x9, e8, hf⟩ := bd_s hf
    refine g_callVi (As := [.int v1, .int v5, .int (h.1 (r v0 3) 1)]) (n := 3) (kX1_steps hW (hW _ _ _ hv0 1 _ rfl) e8) gX5_farthest_X1_steps rfl ⟨rfl, rfl⟩ ⟨rfl, hdX1_steps⟩ ⟨Nat.le_of_ble_eq_true rfl, Nat.le_of_ble_eq_true rfl⟩ cf1 (hW _ _ _ hv0 1 _ rfl) rfl rfl (Nat.le_of_ble_eq_true rfl) dX5_farthest_60 ?_
    refine g_istore (L' := [(6, .int x9), (0, .ref v0), (1, .int v1), (2, .int v2), (3, .int v3), (4, .int v4), (5, .int v5)]) dX5_farthest_63 (by decide) rfl ?_
    refine g_iload (ps := 0) dX5_farthest_65 rfl ?_
    refine g_iload (ps := 5) dX5_farthest_67 rfl ?_
    refine g_icmp_le (tgt := 79) dX5_farthest_69 (by decide) (fun c10 => ?_) (fun c10 => ?_)
    · have hf := if_t hf c10
      obtain ⟨x11, ex11⟩ : ∃ y : Int32, y = v5 + 1 := ⟨_, rfl⟩
      have hf := lE_s hf ex11
      refine g_iinc (ps := 6) (v := x11) (L' := [(5, .int x11), (6, .int x9), (0, .ref v0), (1, .int v1), (2, .int v2), (3, .int v3), (4, .int v4)]) dX5_farthest_79 rfl (by rw [ex11]; rfl) (by decide) rfl ?_
      refine g_goto (tgt := 34) dX5_farthest_82 (by decide) ?_
      exact g_pick [2, 3, 4, 5, 6, 0] rfl (hk _ (Option.some.inj hf).symm)
    · have hf := if_f hf c10
      refine g_iload (ps := 6) dX5_farthest_72 rfl ?_
      refine g_istore_n (L' := [(3, .int v5), (6, .int x9), (0, .ref v0), (1, .int v1), (2, .int v2), (4, .int v4), (5, .int v5)]) dX5_farthest_74 rfl (by decide) rfl ?_
      refine g_iload (ps := 1) dX5_farthest_75 rfl ?_
      refine g_istore (L' := [(4, .int x9), (3, .int v5), (6, .int x9), (0, .ref v0), (1, .int v1), (2, .int v2), (5, .int v5)]) dX5_farthest_77 (by decide) rfl ?_
      obtain ⟨x12, ex12⟩ : ∃ y : Int32, y = v5 + 1 := ⟨_, rfl⟩
      have hf := lE_s hf ex12
      refine g_iinc (ps := 6) (v := x12) (L' := [(5, .int x12), (4, .int x9), (3, .int v5), (6, .int x9), (0, .ref v0), (1, .int v1), (2, .int v2)]) dX5_farthest_79 rfl (by rw [ex12]; rfl) (by decide) rfl ?_
      refine g_goto (tgt := 34) dX5_farthest_82 (by decide) ?_
      exact g_pick [4, 5, 6, 2, 1, 0] rfl (hk _ (Option.some.inj hf).symm)
set_option maxHeartbeats 4000000 in
set_option maxRecDepth 100000 in
theorem ulX5_farthest_34 {S : Shp} {n : Nat} {r : Rf} {v0 : Nat} {v1 : Int32} {v2 : Int32} {v3 : Int32} {v4 : Int32} {v5 : Int32}  {h : Hp} {o : Int32} (hW : WF S r) (hv0 : S[v0]? = some (5, 11)) (hf : lX5_farthest_34 n r v0 v1 v2 v3 v4 v5 h = some o)  : GX5_farthest S r r (some o, h) 34 [(0, .ref v0), (1, .int v1), (2, .int v2), (3, .int v3), (4, .int v4), (5, .int v5)] [] h := by
  unfold lX5_farthest_34 at hf
  obtain ⟨z0, ei, hf⟩ := bd_s hf
  refine it_ind (P := fun (s : Int32 × Int32 × Int32) => GX5_farthest S r r (some o, h) 34 [(0, .ref v0), (1, .int v1), (2, .int v2), (3, .int (s.1)), (4, .int (s.2.1)), (5, .int (s.2.2))] [] h) (fun s w hb hk2 he2 => ?_) n _ ei
  refine ubX5_farthest_34 (out := (some o, h)) (r' := r) hW hv0 hb hk2 (fun z hz => ?_)
  have hz := he2 z hz
  subst hz
  refine g_iload_n (ps := 1) dX5_farthest_85 rfl rfl ?_
  refine g_if_ne (tgt := 93) dX5_farthest_86 (by decide) (fun c13 => ?_) (fun c13 => ?_)
  · have hf := if_f hf c13
    refine g_iload (ps := 3) dX5_farthest_93 rfl ?_
    have hf := Option.some.inj hf
    subst hf
    exact g_iret dX5_farthest_95
  · have hf := if_t hf c13
    refine g_iload_n (ps := 2) dX5_farthest_89 rfl rfl ?_
    refine g_goto (tgt := 95) dX5_farthest_90 (by decide) ?_
    have hf := Option.some.inj hf
    subst hf
    exact g_iret dX5_farthest_95
set_option maxHeartbeats 4000000 in
set_option maxRecDepth 100000 in
theorem uX5_farthest {S : Shp} {n : Nat} {r : Rf} {v0 : Nat} {v1 : Int32} {v2 : Int32} {h : Hp} {o : Int32} (hW : WF S r) (hv0 : S[v0]? = some (5, 11)) (hf : fX5_farthest n r v0 v1 v2 h = some o) : GX5_farthest S r r (some o, h) 0 [(0, .ref v0), (1, .int v1), (2, .int v2)] [] h := by
  unfold fX5_farthest at hf
  refine g_aload_n (ps := 0) dX5_farthest_0 rfl rfl ?_
  refine g_getR cf5 hv0 nX5_farthest_X5 (j := 1) (by decide) rfl mX5_farthest_19 dX5_farthest_1 ?_
  refine g_iload_n (ps := 1) dX5_farthest_4 rfl rfl ?_
  obtain ⟨x2, e1, hf⟩ := bd_s hf
  refine g_callVi (As := [.int v1]) (n := 1) (kX1_hasIsland hW (hW _ _ _ hv0 1 _ rfl) e1) gX5_farthest_X1_hasIsland rfl ⟨rfl, rfl⟩ ⟨rfl, hdX1_hasIsland⟩ ⟨Nat.le_of_ble_eq_true rfl, Nat.le_of_ble_eq_true rfl⟩ cf1 (hW _ _ _ hv0 1 _ rfl) rfl rfl (Nat.le_of_ble_eq_true rfl) dX5_farthest_5 ?_
  refine g_if_ne (tgt := 14) dX5_farthest_8 (by decide) (fun c3 => ?_) (fun c3 => ?_)
  · have hf := if_f hf c3
    refine g_iload_n (ps := 2) dX5_farthest_14 rfl rfl ?_
    refine g_iconst (v := 0) dX5_farthest_15 (by decide +kernel) ?_
    refine g_iconst (v := 1) dX5_farthest_16 (by decide +kernel) ?_
    obtain ⟨x5, e4, hf⟩ := bd_s hf
    refine g_callSi (As := [.int v2, .int 0, .int 1]) (n := 3) (kX5_isWithin hW  e4) gX5_farthest_X5_isWithin rfl ⟨rfl, rfl⟩ hdX5_isWithin ⟨Nat.le_of_ble_eq_true rfl, Nat.le_of_ble_eq_true rfl⟩ rfl rfl (Nat.le_of_ble_eq_true rfl) dX5_farthest_17 ?_
    refine g_if_ne (tgt := 26) dX5_farthest_20 (by decide) (fun c6 => ?_) (fun c6 => ?_)
    · have hf := if_f hf c6
      refine g_iload_n (ps := 1) dX5_farthest_26 rfl rfl ?_
      refine g_istore_n (L' := [(3, .int v1), (0, .ref v0), (1, .int v1), (2, .int v2)]) dX5_farthest_27 rfl (by decide) rfl ?_
      refine g_iconst (v := 0) dX5_farthest_28 (by decide +kernel) ?_
      refine g_istore (L' := [(4, .int 0), (3, .int v1), (0, .ref v0), (1, .int v1), (2, .int v2)]) dX5_farthest_29 (by decide) rfl ?_
      refine g_iconst (v := 0) dX5_farthest_31 (by decide +kernel) ?_
      refine g_istore (L' := [(5, .int 0), (4, .int 0), (3, .int v1), (0, .ref v0), (1, .int v1), (2, .int v2)]) dX5_farthest_32 (by decide) rfl ?_
      exact g_pick [3, 4, 5, 2, 1, 0] rfl (ulX5_farthest_34 hW hv0 hf)
    · have hf := if_t hf c6
      refine g_ldc (v := (-1000000002)) mX5_farthest_68 dX5_farthest_23 ?_
      have hf := Option.some.inj hf
      subst hf
      exact g_iret dX5_farthest_25
  · have hf := if_t hf c3
    refine g_ldc (v := (-1000000001)) mX5_farthest_135 dX5_farthest_11 ?_
    have hf := Option.some.inj hf
    subst hf
    exact g_iret dX5_farthest_13
theorem kX5_farthest {S : Shp} {n : Nat} {r : Rf} {v0 : Nat} {v1 : Int32} {v2 : Int32} {h : Hp} {o : Int32} (hW : WF S r) (hv0 : S[v0]? = some (5, 11)) (hf : fX5_farthest n r v0 v1 v2 h = some o) : CTi yX5_farthest wsX5_farthest rmX5_farthest S r [.ref v0, .int v1, .int v2] h r o h :=
  cti_of rfl (by decide +kernel) rfl (Nat.le_of_ble_eq_true rfl) rfl (uX5_farthest hW hv0 hf)
/-! X5_doneUpBehindIfMended doneUpBehindIfMended -/
def rmX5_doneUpBehindIfMended : Room := { frames := 4, cells := 0, slots := 0, locals := 89 }
abbrev GX5_doneUpBehindIfMended (S : Shp) (r r' : Rf) (out : Option Int32 × Hp) (pc : Nat) (L : List (Nat × Value)) (st : List Value) (h : Hp) : Prop := G RX5 cX5_doneUpBehindIfMended 3 (some .int) wsX5_doneUpBehindIfMended rmX5_doneUpBehindIfMended S r r' out pc L st h
theorem nX5_doneUpBehindIfMended_X0 : ∀ w ∈ wsX00, w ∈ wsX5_doneUpBehindIfMended := by decide +kernel
theorem nX5_doneUpBehindIfMended_X5 : ∀ w ∈ wsX50, w ∈ wsX5_doneUpBehindIfMended := by decide +kernel
theorem mX5_doneUpBehindIfMended_148 : Cond.fieldLink RX5 148 "LinkedIsles$Bonds" "strain" "[I" ∈ wsX5_doneUpBehindIfMended := by decide +kernel
theorem mX5_doneUpBehindIfMended_29 : Cond.fieldLink RX5 29 "LinkedIsles" "now" "LLinkedIsles$Bonds;" ∈ wsX5_doneUpBehindIfMended := by decide +kernel
theorem mX5_doneUpBehindIfMended_33 : Cond.fieldLink RX5 33 "LinkedIsles" "trial" "LLinkedIsles$Bonds;" ∈ wsX5_doneUpBehindIfMended := by decide +kernel
theorem hdX5_doneUpBehindIfMended : yX5_doneUpBehindIfMended.cls ≠ "java/lang/invoke/MethodHandle" ∧ yX5_doneUpBehindIfMended.cls ≠ "java/lang/invoke/VarHandle" ∧ (parseMethodDescriptor yX5_doneUpBehindIfMended.desc).map (fun d => d.parameters.length) = some 1 := by decide +kernel
def bX5_doneUpBehindIfMended_13 (n : Nat) (r : Rf) (v0 : Nat) (v1 : Int32) (v2 : Int32) (h : Hp) : Option ((Int32 × Hp) ⊕ (Hp)) :=
  if 10 ≤ v2 then (some (.inr h)) else (ck v2 10 (lE (pI h (r (r v0 4) 0) (Int32.toNatClampNeg v2) 0) (fun (h5 : Hp) => lE (v2 + 1) (fun (x6 : Int32) => some (.inl (x6, h5))))))
def lX5_doneUpBehindIfMended_13 (n : Nat) (r : Rf) (v0 : Nat) (v1 : Int32) (v2 : Int32) (h : Hp) : Option (Int32 × Hp) :=
  (it (fun (s : Int32 × Hp) => bX5_doneUpBehindIfMended_13 n r v0 v1 s.1 s.2) n (v2, h)).bind (fun z => bd2 (fX5_tryHours n r v0 v1 z) (fun (x8 : Int32) (h9 : Hp) => some (x8, h9)))
def fX5_doneUpBehindIfMended (n : Nat) (r : Rf) (v0 : Nat) (v1 : Int32) (h : Hp) : Option (Int32 × Hp) :=
  (fX0_become n r (r v0 4) (r v0 3) h).bind (fun (h2 : Hp) => lX5_doneUpBehindIfMended_13 n r v0 v1 0 h2)
set_option maxHeartbeats 4000000 in
set_option maxRecDepth 100000 in
theorem ubX5_doneUpBehindIfMended_13 {S : Shp} {n : Nat} {r : Rf} {out : Option Int32 × Hp} {r' : Rf} {v0 : Nat} {v1 : Int32} {v2 : Int32}  {h : Hp} {w : (Int32 × Hp) ⊕ (Hp)} (hW : WF S r) (hv0 : S[v0]? = some (5, 11)) (hf : bX5_doneUpBehindIfMended_13 n r v0 v1 v2 h = some w) (hk : ∀ y, w = .inl y → GX5_doneUpBehindIfMended S r r' out 13 [(0, .ref v0), (1, .int v1), (2, .int (y.1))] [] (y.2)) (he : ∀ z, w = .inr z → GX5_doneUpBehindIfMended S r r' out 35 [(0, .ref v0), (1, .int v1)] [] (z)) : GX5_doneUpBehindIfMended S r r' out 13 [(0, .ref v0), (1, .int v1), (2, .int v2)] [] h := by
  unfold bX5_doneUpBehindIfMended_13 at hf
  refine g_iload_n (ps := 2) dX5_doneUpBehindIfMended_13 rfl rfl ?_
  refine g_bipush (v := 10) dX5_doneUpBehindIfMended_14 (by decide +kernel) ?_
  refine g_icmp_ge (tgt := 35) dX5_doneUpBehindIfMended_16 (by decide) (fun c3 => ?_) (fun c3 => ?_)
  · have hf := if_t hf c3
    exact g_pick [0, 1] rfl (he _ (Option.some.inj hf).symm)
  · have hf := if_f hf c3
    refine g_aload_n (ps := 0) dX5_doneUpBehindIfMended_19 rfl rfl ?_
    refine g_getR cf5 hv0 nX5_doneUpBehindIfMended_X5 (j := 4) (by decide) rfl mX5_doneUpBehindIfMended_33 dX5_doneUpBehindIfMended_20 ?_
    refine g_getR cf0 (hW _ _ _ hv0 4 _ rfl) nX5_doneUpBehindIfMended_X0 (j := 0) (by decide) rfl mX5_doneUpBehindIfMended_148 dX5_doneUpBehindIfMended_23 ?_
    refine g_iload_n (ps := 2) dX5_doneUpBehindIfMended_26 rfl rfl ?_
    refine g_iconst (v := 0) dX5_doneUpBehindIfMended_27 (by decide +kernel) ?_
    obtain ⟨z4, hf⟩ := ck_s hf
    refine g_iast (hW _ _ _ (hW _ _ _ hv0 4 _ rfl) 0 _ rfl) z4 dX5_doneUpBehindIfMended_28 ?_
    refine g_topH (fun h5 eh5 => ?_)
    have hf := lE_s hf eh5
    obtain ⟨x6, ex6⟩ : ∃ y : Int32, y = v2 + 1 := ⟨_, rfl⟩
    have hf := lE_s hf ex6
    refine g_iinc (ps := 2) (v := x6) (L' := [(2, .int x6), (0, .ref v0), (1, .int v1)]) dX5_doneUpBehindIfMended_29 rfl (by rw [ex6]; rfl) (by decide) rfl ?_
    refine g_goto (tgt := 13) dX5_doneUpBehindIfMended_32 (by decide) ?_
    exact g_pick [1, 2, 0] rfl (hk _ (Option.some.inj hf).symm)
set_option maxHeartbeats 4000000 in
set_option maxRecDepth 100000 in
theorem ulX5_doneUpBehindIfMended_13 {S : Shp} {n : Nat} {r : Rf} {v0 : Nat} {v1 : Int32} {v2 : Int32}  {h : Hp} {o : (Int32 × Hp)} (hW : WF S r) (hv0 : S[v0]? = some (5, 11)) (hf : lX5_doneUpBehindIfMended_13 n r v0 v1 v2 h = some o)  : GX5_doneUpBehindIfMended S r r (some o.1, o.2) 13 [(0, .ref v0), (1, .int v1), (2, .int v2)] [] h := by
  unfold lX5_doneUpBehindIfMended_13 at hf
  obtain ⟨z0, ei, hf⟩ := bd_s hf
  refine it_ind (P := fun (s : Int32 × Hp) => GX5_doneUpBehindIfMended S r r (some o.1, o.2) 13 [(0, .ref v0), (1, .int v1), (2, .int (s.1))] [] (s.2)) (fun s w hb hk2 he2 => ?_) n _ ei
  refine ubX5_doneUpBehindIfMended_13 (out := (some o.1, o.2)) (r' := r) hW hv0 hb hk2 (fun z hz => ?_)
  have hz := he2 z hz
  subst hz
  refine g_aload_n (ps := 0) dX5_doneUpBehindIfMended_35 rfl rfl ?_
  refine g_iload_n (ps := 1) dX5_doneUpBehindIfMended_36 rfl rfl ?_
  obtain ⟨x8, h9, e7, hf⟩ := bd2_s hf
  refine g_callVi (As := [.int v1]) (n := 1) (kX5_tryHours hW hv0 e7) gX5_doneUpBehindIfMended_X5_tryHours rfl ⟨rfl, rfl⟩ ⟨rfl, hdX5_tryHours⟩ ⟨Nat.le_of_ble_eq_true rfl, Nat.le_of_ble_eq_true rfl⟩ cf5 hv0 rfl rfl (Nat.le_of_ble_eq_true rfl) dX5_doneUpBehindIfMended_37 ?_
  have hf := Option.some.inj hf
  subst hf
  exact g_iret dX5_doneUpBehindIfMended_40
set_option maxHeartbeats 4000000 in
set_option maxRecDepth 100000 in
theorem uX5_doneUpBehindIfMended {S : Shp} {n : Nat} {r : Rf} {v0 : Nat} {v1 : Int32} {h : Hp} {o : (Int32 × Hp)} (hW : WF S r) (hv0 : S[v0]? = some (5, 11)) (hf : fX5_doneUpBehindIfMended n r v0 v1 h = some o) : GX5_doneUpBehindIfMended S r r (some o.1, o.2) 0 [(0, .ref v0), (1, .int v1)] [] h := by
  unfold fX5_doneUpBehindIfMended at hf
  refine g_aload_n (ps := 0) dX5_doneUpBehindIfMended_0 rfl rfl ?_
  refine g_getR cf5 hv0 nX5_doneUpBehindIfMended_X5 (j := 4) (by decide) rfl mX5_doneUpBehindIfMended_33 dX5_doneUpBehindIfMended_1 ?_
  refine g_aload_n (ps := 0) dX5_doneUpBehindIfMended_4 rfl rfl ?_
  refine g_getR cf5 hv0 nX5_doneUpBehindIfMended_X5 (j := 3) (by decide) rfl mX5_doneUpBehindIfMended_29 dX5_doneUpBehindIfMended_5 ?_
  obtain ⟨h2, e1, hf⟩ := bd_s hf
  refine g_callVv (As := [.ref (r v0 3)]) (n := 1) (kX0_become hW (hW _ _ _ hv0 4 _ rfl) (hW _ _ _ hv0 3 _ rfl) e1) gX5_doneUpBehindIfMended_X0_become rfl ⟨rfl, rfl⟩ ⟨rfl, hdX0_become⟩ ⟨Nat.le_of_ble_eq_true rfl, Nat.le_of_ble_eq_true rfl⟩ cf0 (hW _ _ _ hv0 4 _ rfl) rfl rfl (Nat.le_of_ble_eq_true rfl) dX5_doneUpBehindIfMended_8 ?_
  refine g_iconst (v := 0) dX5_doneUpBehindIfMended_11 (by decide +kernel) ?_
  refine g_istore_n (L' := [(2, .int 0), (0, .ref v0), (1, .int v1)]) dX5_doneUpBehindIfMended_12 rfl (by decide) rfl ?_
  exact g_pick [1, 2, 0] rfl (ulX5_doneUpBehindIfMended_13 hW hv0 hf)
theorem kX5_doneUpBehindIfMended {S : Shp} {n : Nat} {r : Rf} {v0 : Nat} {v1 : Int32} {h : Hp} {o : (Int32 × Hp)} (hW : WF S r) (hv0 : S[v0]? = some (5, 11)) (hf : fX5_doneUpBehindIfMended n r v0 v1 h = some o) : CTi yX5_doneUpBehindIfMended wsX5_doneUpBehindIfMended rmX5_doneUpBehindIfMended S r [.ref v0, .int v1] h r o.1 o.2 :=
  cti_of rfl (by decide +kernel) rfl (Nat.le_of_ble_eq_true rfl) rfl (uX5_doneUpBehindIfMended hW hv0 hf)
/-! X5_fewestToMend fewestToMend -/
def rmX5_fewestToMend : Room := { frames := 5, cells := 0, slots := 0, locals := 111 }
abbrev GX5_fewestToMend (S : Shp) (r r' : Rf) (out : Option Int32 × Hp) (pc : Nat) (L : List (Nat × Value)) (st : List Value) (h : Hp) : Prop := G RX5 cX5_fewestToMend 7 (some .int) wsX5_fewestToMend rmX5_fewestToMend S r r' out pc L st h
theorem nX5_fewestToMend_X0 : ∀ w ∈ wsX00, w ∈ wsX5_fewestToMend := by decide +kernel
theorem nX5_fewestToMend_X5 : ∀ w ∈ wsX50, w ∈ wsX5_fewestToMend := by decide +kernel
theorem mX5_fewestToMend_110 : Cond.fieldLink RX5 110 "LinkedIsles$Bonds" "doneUp" "I" ∈ wsX5_fewestToMend := by decide +kernel
theorem mX5_fewestToMend_19 : Cond.fieldLink RX5 19 "LinkedIsles" "chart" "LLinkedIsles$Chart;" ∈ wsX5_fewestToMend := by decide +kernel
theorem mX5_fewestToMend_29 : Cond.fieldLink RX5 29 "LinkedIsles" "now" "LLinkedIsles$Bonds;" ∈ wsX5_fewestToMend := by decide +kernel
theorem hdX5_fewestToMend : yX5_fewestToMend.cls ≠ "java/lang/invoke/MethodHandle" ∧ yX5_fewestToMend.cls ≠ "java/lang/invoke/VarHandle" ∧ (parseMethodDescriptor yX5_fewestToMend.desc).map (fun d => d.parameters.length) = some 1 := by decide +kernel
def bX5_fewestToMend_41 (n : Nat) (r : Rf) (v0 : Nat) (v2 : Int32) (v3 : Int32) (v4 : Int32) (v5 : Int32) (v6 : Int32) (h : Hp) : Option ((Int32) ⊕ ((Int32) ⊕ (Unit))) :=
  if (h.1 (r v0 3) 1) < v6 then (some (.inr (.inr ()))) else ((fX5_isChoice n r v0 v6 v5 h).bind (fun (x12 : Int32) => if x12 = 0 then (lE (v6 + 1) (fun (x14 : Int32) => some (.inl x14))) else ((fX1_partsBy n r (r v0 1) ((v3 &&& (v6 ^^^ (-1))) ||| (v4 &&& v6)) h).bind (fun (x16 : Int32) => if v2 < x16 then (lE (v6 + 1) (fun (x18 : Int32) => some (.inl x18))) else (some (.inr (.inl v6)))))))
def lX5_fewestToMend_41 (n : Nat) (r : Rf) (v0 : Nat) (v2 : Int32) (v3 : Int32) (v4 : Int32) (v5 : Int32) (v6 : Int32) (h : Hp) : Option ((Int32) ⊕ ((Int32) ⊕ (Unit))) :=
  (it (fun (s : Int32) => bX5_fewestToMend_41 n r v0 v2 v3 v4 v5 s h) n v6).bind (fun z => match z with | .inl z => some (.inr (.inl z)) | .inr z => lE (v5 + 1) (fun (x19 : Int32) => some (.inl x19)))
def bX5_fewestToMend_31 (n : Nat) (r : Rf) (v0 : Nat) (v2 : Int32) (v3 : Int32) (v4 : Int32) (v5 : Int32) (h : Hp) : Option ((Int32) ⊕ ((Int32) ⊕ (Unit))) :=
  if 10 < v5 then (some (.inr (.inr ()))) else (lX5_fewestToMend_41 n r v0 v2 v3 v4 v5 0 h)
def lX5_fewestToMend_31 (n : Nat) (r : Rf) (v0 : Nat) (v2 : Int32) (v3 : Int32) (v4 : Int32) (v5 : Int32) (h : Hp) : Option (Int32 × Hp) :=
  (it (fun (s : Int32) => bX5_fewestToMend_31 n r v0 v2 v3 v4 s h) n v5).bind (fun z => match z with | .inl z => some (z, h) | .inr z => some ((-1), h))
def fX5_fewestToMend (n : Nat) (r : Rf) (v0 : Nat) (v1 : Int32) (h : Hp) : Option (Int32 × Hp) :=
  (fX1_partsBy n r (r v0 1) (h.1 (r v0 3) 1) h).bind (fun (x2 : Int32) => bd2 (fX5_doneUpBehind n r v0 v1 h) (fun (x4 : Int32) (h5 : Hp) => bd2 (fX5_doneUpBehindIfMended n r v0 v1 h5) (fun (x7 : Int32) (h8 : Hp) => lX5_fewestToMend_31 n r v0 x2 x4 x7 0 h8)))
set_option maxHeartbeats 4000000 in
set_option maxRecDepth 100000 in
theorem ubX5_fewestToMend_41 {S : Shp} {n : Nat} {r : Rf} {out : Option Int32 × Hp} {r' : Rf} {v0 : Nat} {v2 : Int32} {v3 : Int32} {v4 : Int32} {v5 : Int32} {v6 : Int32}  {h : Hp} {w : (Int32) ⊕ ((Int32) ⊕ (Unit))} (hW : WF S r) (hv0 : S[v0]? = some (5, 11)) (hf : bX5_fewestToMend_41 n r v0 v2 v3 v4 v5 v6 h = some w) (hk : ∀ y, w = .inl y → GX5_fewestToMend S r r' out 41 [(0, .ref v0), (2, .int v2), (3, .int v3), (4, .int v4), (5, .int v5), (6, .int (y))] [] h) (he : ∀ z, w = .inr z → (match z with | .inl z => GX5_fewestToMend S r r' out 87 [(0, .ref v0), (6, .int (z))] [] h | .inr z => GX5_fewestToMend S r r' out 96 [(0, .ref v0), (2, .int v2), (3, .int v3), (4, .int v4), (5, .int v5)] [] h)) : GX5_fewestToMend S r r' out 41 [(0, .ref v0), (2, .int v2), (3, .int v3), (4, .int v4), (5, .int v5), (6, .int v6)] [] h := by
  unfold bX5_fewestToMend_41 at hf
  refine g_iload (ps := 5) dX5_fewestToMend_41 rfl ?_
  refine g_aload_n (ps := 0) dX5_fewestToMend_43 rfl rfl ?_
  refine g_getR cf5 hv0 nX5_fewestToMend_X5 (j := 3) (by decide) rfl mX5_fewestToMend_29 dX5_fewestToMend_44 ?_
  refine g_getI cf0 (hW _ _ _ hv0 3 _ rfl) nX5_fewestToMend_X0 (j := 1) (by decide) rfl mX5_fewestToMend_110 dX5_fewestToMend_47 ?_
  refine g_icmp_gt (tgt := 96) dX5_fewestToMend_50 (by decide) (fun c10 => ?_) (fun c10 => ?_)
  · have hf := if_t hf c10
    exact g_pick [0, 1, 2, 3, 4] rfl (he _ (Option.some.inj hf).symm)
  · have hf := if_f hf c10
    refine g_aload_n (ps := 0) dX5_fewestToMend_53 rfl rfl ?_
    refine g_iload (ps := 5) dX5_fewestToMend_54 rfl ?_
    refine g_iload (ps := 4) dX5_fewestToMend_56 rfl ?_
    obtain ⟨x12, e11, hf⟩ := bd_s hf
    refine g_callVi (As := [.int v6, .int v5]) (n := 2) (kX5_isChoice hW hv0 e11) gX5_fewestToMend_X5_isChoice rfl ⟨rfl, rfl⟩ ⟨rfl, hdX5_isChoice⟩ ⟨Nat.le_of_ble_eq_true rfl, Nat.le_of_ble_eq_true rfl⟩ cf5 hv0 rfl rfl (Nat.le_of_ble_eq_true rfl) dX5_fewestToMend_58 ?_
    refine g_if_eq (tgt := 90) dX5_fewestToMend_61 (by decide) (fun c13 => ?_) (fun c13 => ?_)
    · have hf := if_t hf c13
      obtain ⟨x14, ex14⟩ : ∃ y : Int32, y = v6 + 1 := ⟨_, rfl⟩
      have hf := lE_s hf ex14
      refine g_iinc (ps := 5) (v := x14) (L' := [(6, .int x14), (0, .ref v0), (2, .int v2), (3, .int v3), (4, .int v4), (5, .int v5)]) dX5_fewestToMend_90 rfl (by rw [ex14]; rfl) (by decide) rfl ?_
      refine g_goto (tgt := 41) dX5_fewestToMend_93 (by decide) ?_
      exact g_pick [1, 2, 3, 4, 5, 0] rfl (hk _ (Option.some.inj hf).symm)
    · have hf := if_f hf c13
      refine g_aload_n (ps := 0) dX5_fewestToMend_64 rfl rfl ?_
      refine g_getR cf5 hv0 nX5_fewestToMend_X5 (j := 1) (by decide) rfl mX5_fewestToMend_19 dX5_fewestToMend_65 ?_
      refine g_iload_n (ps := 2) dX5_fewestToMend_68 rfl rfl ?_
      refine g_iload (ps := 5) dX5_fewestToMend_69 rfl ?_
      refine g_iconst (v := (-1)) dX5_fewestToMend_71 (by decide +kernel) ?_
      refine g_ixor dX5_fewestToMend_72 ?_
      refine g_iand dX5_fewestToMend_73 ?_
      refine g_iload (ps := 3) dX5_fewestToMend_74 rfl ?_
      refine g_iload (ps := 5) dX5_fewestToMend_76 rfl ?_
      refine g_iand dX5_fewestToMend_78 ?_
      refine g_ior dX5_fewestToMend_79 ?_
      obtain ⟨x16, e15, hf⟩ := bd_s hf
      refine g_callVi (As := [.int ((v3 &&& (v6 ^^^ (-1))) ||| (v4 &&& v6))]) (n := 1) (kX1_partsBy hW (hW _ _ _ hv0 1 _ rfl) e15) gX5_fewestToMend_X1_partsBy rfl ⟨rfl, rfl⟩ ⟨rfl, hdX1_partsBy⟩ ⟨Nat.le_of_ble_eq_true rfl, Nat.le_of_ble_eq_true rfl⟩ cf1 (hW _ _ _ hv0 1 _ rfl) rfl rfl (Nat.le_of_ble_eq_true rfl) dX5_fewestToMend_80 ?_
      refine g_iload_n (ps := 1) dX5_fewestToMend_83 rfl rfl ?_
      refine g_icmp_gt (tgt := 90) dX5_fewestToMend_84 (by decide) (fun c17 => ?_) (fun c17 => ?_)
      · have hf := if_t hf c17
        obtain ⟨x18, ex18⟩ : ∃ y : Int32, y = v6 + 1 := ⟨_, rfl⟩
        have hf := lE_s hf ex18
        refine g_iinc (ps := 5) (v := x18) (L' := [(6, .int x18), (0, .ref v0), (2, .int v2), (3, .int v3), (4, .int v4), (5, .int v5)]) dX5_fewestToMend_90 rfl (by rw [ex18]; rfl) (by decide) rfl ?_
        refine g_goto (tgt := 41) dX5_fewestToMend_93 (by decide) ?_
        exact g_pick [1, 2, 3, 4, 5, 0] rfl (hk _ (Option.some.inj hf).symm)
      · have hf := if_f hf c17
        exact g_pick [0, 5] rfl (he _ (Option.some.inj hf).symm)
set_option maxHeartbeats 4000000 in
set_option maxRecDepth 100000 in
theorem ulX5_fewestToMend_41 {S : Shp} {n : Nat} {r : Rf} {out : Option Int32 × Hp} {r' : Rf} {v0 : Nat} {v2 : Int32} {v3 : Int32} {v4 : Int32} {v5 : Int32} {v6 : Int32}  {h : Hp} {w : (Int32) ⊕ ((Int32) ⊕ (Unit))} (hW : WF S r) (hv0 : S[v0]? = some (5, 11)) (hf : lX5_fewestToMend_41 n r v0 v2 v3 v4 v5 v6 h = some w) (hk : ∀ y, w = .inl y → GX5_fewestToMend S r r' out 31 [(0, .ref v0), (2, .int v2), (3, .int v3), (4, .int v4), (5, .int (y))] [] h) (he : ∀ z, w = .inr z → (match z with | .inl z => GX5_fewestToMend S r r' out 87 [(0, .ref v0), (6, .int (z))] [] h | .inr z => GX5_fewestToMend S r r' out 102 [(0, .ref v0)] [] h)) : GX5_fewestToMend S r r' out 41 [(0, .ref v0), (2, .int v2), (3, .int v3), (4, .int v4), (5, .int v5), (6, .int v6)] [] h := by
  unfold lX5_fewestToMend_41 at hf
  obtain ⟨z0, ei, hf⟩ := bd_s hf
  refine it_ind (P := fun (s : Int32) => GX5_fewestToMend S r r' out 41 [(0, .ref v0), (2, .int v2), (3, .int v3), (4, .int v4), (5, .int v5), (6, .int s)] [] h) (fun s w hb hk2 he2 => ?_) n _ ei
  refine ubX5_fewestToMend_41 (out := out) (r' := r') hW hv0 hb hk2 (fun z hz => ?_)
  have hz := he2 z hz
  subst hz
  rcases z with z | z
  · exact g_pick [0, 1] rfl (he _ (Option.some.inj hf).symm)
  · obtain ⟨x19, ex19⟩ : ∃ y : Int32, y = v5 + 1 := ⟨_, rfl⟩
    have hf := lE_s hf ex19
    refine g_iinc (ps := 4) (v := x19) (L' := [(5, .int x19), (0, .ref v0), (2, .int v2), (3, .int v3), (4, .int v4)]) dX5_fewestToMend_96 rfl (by rw [ex19]; rfl) (by decide) rfl ?_
    refine g_goto (tgt := 31) dX5_fewestToMend_99 (by decide) ?_
    exact g_pick [1, 2, 3, 4, 0] rfl (hk _ (Option.some.inj hf).symm)
set_option maxHeartbeats 4000000 in
set_option maxRecDepth 100000 in
theorem ubX5_fewestToMend_31 {S : Shp} {n : Nat} {r : Rf} {out : Option Int32 × Hp} {r' : Rf} {v0 : Nat} {v2 : Int32} {v3 : Int32} {v4 : Int32} {v5 : Int32}  {h : Hp} {w : (Int32) ⊕ ((Int32) ⊕ (Unit))} (hW : WF S r) (hv0 : S[v0]? = some (5, 11)) (hf : bX5_fewestToMend_31 n r v0 v2 v3 v4 v5 h = some w) (hk : ∀ y, w = .inl y → GX5_fewestToMend S r r' out 31 [(0, .ref v0), (2, .int v2), (3, .int v3), (4, .int v4), (5, .int (y))] [] h) (he : ∀ z, w = .inr z → (match z with | .inl z => GX5_fewestToMend S r r' out 87 [(0, .ref v0), (6, .int (z))] [] h | .inr z => GX5_fewestToMend S r r' out 102 [(0, .ref v0)] [] h)) : GX5_fewestToMend S r r' out 31 [(0, .ref v0), (2, .int v2), (3, .int v3), (4, .int v4), (5, .int v5)] [] h := by
  unfold bX5_fewestToMend_31 at hf
  refine g_iload (ps := 4) dX5_fewestToMend_31 rfl ?_
  refine g_bipush (v := 10) dX5_fewestToMend_33 (by decide +kernel) ?_
  refine g_icmp_gt (tgt := 102) dX5_fewestToMend_35 (by decide) (fun c9 => ?_) (fun c9 => ?_)
  · have hf := if_t hf c9
    exact g_pick [0] rfl (he _ (Option.some.inj hf).symm)
  · have hf := if_f hf c9
    refine g_iconst (v := 0) dX5_fewestToMend_38 (by decide +kernel) ?_
    refine g_istore (L' := [(6, .int 0), (0, .ref v0), (2, .int v2), (3, .int v3), (4, .int v4), (5, .int v5)]) dX5_fewestToMend_39 (by decide) rfl ?_
    exact g_pick [1, 2, 3, 4, 5, 0] rfl (ulX5_fewestToMend_41 hW hv0 hf hk he)
set_option maxHeartbeats 4000000 in
set_option maxRecDepth 100000 in
theorem ulX5_fewestToMend_31 {S : Shp} {n : Nat} {r : Rf} {v0 : Nat} {v2 : Int32} {v3 : Int32} {v4 : Int32} {v5 : Int32}  {h : Hp} {o : (Int32 × Hp)} (hW : WF S r) (hv0 : S[v0]? = some (5, 11)) (hf : lX5_fewestToMend_31 n r v0 v2 v3 v4 v5 h = some o)  : GX5_fewestToMend S r r (some o.1, o.2) 31 [(0, .ref v0), (2, .int v2), (3, .int v3), (4, .int v4), (5, .int v5)] [] h := by
  unfold lX5_fewestToMend_31 at hf
  obtain ⟨z0, ei, hf⟩ := bd_s hf
  refine it_ind (P := fun (s : Int32) => GX5_fewestToMend S r r (some o.1, o.2) 31 [(0, .ref v0), (2, .int v2), (3, .int v3), (4, .int v4), (5, .int s)] [] h) (fun s w hb hk2 he2 => ?_) n _ ei
  refine ubX5_fewestToMend_31 (out := (some o.1, o.2)) (r' := r) hW hv0 hb hk2 (fun z hz => ?_)
  have hz := he2 z hz
  subst hz
  rcases z with z | z
  · refine g_iload (ps := 1) dX5_fewestToMend_87 rfl ?_
    have hf := Option.some.inj hf
    subst hf
    exact g_iret dX5_fewestToMend_89
  · refine g_iconst (v := (-1)) dX5_fewestToMend_102 (by decide +kernel) ?_
    have hf := Option.some.inj hf
    subst hf
    exact g_iret dX5_fewestToMend_103
set_option maxHeartbeats 4000000 in
set_option maxRecDepth 100000 in
theorem uX5_fewestToMend {S : Shp} {n : Nat} {r : Rf} {v0 : Nat} {v1 : Int32} {h : Hp} {o : (Int32 × Hp)} (hW : WF S r) (hv0 : S[v0]? = some (5, 11)) (hf : fX5_fewestToMend n r v0 v1 h = some o) : GX5_fewestToMend S r r (some o.1, o.2) 0 [(0, .ref v0), (1, .int v1)] [] h := by
  unfold fX5_fewestToMend at hf
  refine g_aload_n (ps := 0) dX5_fewestToMend_0 rfl rfl ?_
  refine g_getR cf5 hv0 nX5_fewestToMend_X5 (j := 1) (by decide) rfl mX5_fewestToMend_19 dX5_fewestToMend_1 ?_
  refine g_aload_n (ps := 0) dX5_fewestToMend_4 rfl rfl ?_
  refine g_getR cf5 hv0 nX5_fewestToMend_X5 (j := 3) (by decide) rfl mX5_fewestToMend_29 dX5_fewestToMend_5 ?_
  refine g_getI cf0 (hW _ _ _ hv0 3 _ rfl) nX5_fewestToMend_X0 (j := 1) (by decide) rfl mX5_fewestToMend_110 dX5_fewestToMend_8 ?_
  obtain ⟨x2, e1, hf⟩ := bd_s hf
  refine g_callVi (As := [.int (h.1 (r v0 3) 1)]) (n := 1) (kX1_partsBy hW (hW _ _ _ hv0 1 _ rfl) e1) gX5_fewestToMend_X1_partsBy rfl ⟨rfl, rfl⟩ ⟨rfl, hdX1_partsBy⟩ ⟨Nat.le_of_ble_eq_true rfl, Nat.le_of_ble_eq_true rfl⟩ cf1 (hW _ _ _ hv0 1 _ rfl) rfl rfl (Nat.le_of_ble_eq_true rfl) dX5_fewestToMend_11 ?_
  refine g_istore_n (L' := [(2, .int x2), (0, .ref v0), (1, .int v1)]) dX5_fewestToMend_14 rfl (by decide) rfl ?_
  refine g_aload_n (ps := 1) dX5_fewestToMend_15 rfl rfl ?_
  refine g_iload_n (ps := 2) dX5_fewestToMend_16 rfl rfl ?_
  obtain ⟨x4, h5, e3, hf⟩ := bd2_s hf
  refine g_callVi (As := [.int v1]) (n := 1) (kX5_doneUpBehind hW hv0 e3) gX5_fewestToMend_X5_doneUpBehind rfl ⟨rfl, rfl⟩ ⟨rfl, hdX5_doneUpBehind⟩ ⟨Nat.le_of_ble_eq_true rfl, Nat.le_of_ble_eq_true rfl⟩ cf5 hv0 rfl rfl (Nat.le_of_ble_eq_true rfl) dX5_fewestToMend_17 ?_
  refine g_istore_n (L' := [(3, .int x4), (2, .int x2), (0, .ref v0), (1, .int v1)]) dX5_fewestToMend_20 rfl (by decide) rfl ?_
  refine g_aload_n (ps := 2) dX5_fewestToMend_21 rfl rfl ?_
  refine g_iload_n (ps := 3) dX5_fewestToMend_22 rfl rfl ?_
  obtain ⟨x7, h8, e6, hf⟩ := bd2_s hf
  refine g_callVi (As := [.int v1]) (n := 1) (kX5_doneUpBehindIfMended hW hv0 e6) gX5_fewestToMend_X5_doneUpBehindIfMended rfl ⟨rfl, rfl⟩ ⟨rfl, hdX5_doneUpBehindIfMended⟩ ⟨Nat.le_of_ble_eq_true rfl, Nat.le_of_ble_eq_true rfl⟩ cf5 hv0 rfl rfl (Nat.le_of_ble_eq_true rfl) dX5_fewestToMend_23 ?_
  refine g_istore (L' := [(4, .int x7), (3, .int x4), (2, .int x2), (0, .ref v0), (1, .int v1)]) dX5_fewestToMend_26 (by decide) rfl ?_
  refine g_iconst (v := 0) dX5_fewestToMend_28 (by decide +kernel) ?_
  refine g_istore (L' := [(5, .int 0), (4, .int x7), (3, .int x4), (2, .int x2), (0, .ref v0), (1, .int v1)]) dX5_fewestToMend_29 (by decide) rfl ?_
  exact g_pick [4, 3, 2, 1, 0] rfl (ulX5_fewestToMend_31 hW hv0 hf)
theorem kX5_fewestToMend {S : Shp} {n : Nat} {r : Rf} {v0 : Nat} {v1 : Int32} {h : Hp} {o : (Int32 × Hp)} (hW : WF S r) (hv0 : S[v0]? = some (5, 11)) (hf : fX5_fewestToMend n r v0 v1 h = some o) : CTi yX5_fewestToMend wsX5_fewestToMend rmX5_fewestToMend S r [.ref v0, .int v1] h r o.1 o.2 :=
  cti_of rfl (by decide +kernel) rfl (Nat.le_of_ble_eq_true rfl) rfl (uX5_fewestToMend hW hv0 hf)
/-! X5_keepUp keepUp -/
def rmX5_keepUp : Room := { frames := 6, cells := 0, slots := 0, locals := 137 }
abbrev GX5_keepUp (S : Shp) (r r' : Rf) (out : Option Int32 × Hp) (pc : Nat) (L : List (Nat × Value)) (st : List Value) (h : Hp) : Prop := G RX5 cX5_keepUp 4 (some .int) wsX5_keepUp rmX5_keepUp S r r' out pc L st h
theorem mX5_keepUp_68 : Cond.constant RX5 68 (-1000000002) ∈ wsX5_keepUp := by decide +kernel
theorem hdX5_keepUp : yX5_keepUp.cls ≠ "java/lang/invoke/MethodHandle" ∧ yX5_keepUp.cls ≠ "java/lang/invoke/VarHandle" ∧ (parseMethodDescriptor yX5_keepUp.desc).map (fun d => d.parameters.length) = some 2 := by decide +kernel
def fX5_keepUp (n : Nat) (r : Rf) (v0 : Nat) (v1 : Int32) (v2 : Int32) (h : Hp) : Option (Int32 × Hp) :=
  (fX5_isWithin n r v1 0 60 h).bind (fun (x2 : Int32) => if x2 = 0 then (some ((-1000000002), h)) else ((fX5_isWithin n r v2 0 1 h).bind (fun (x5 : Int32) => if x5 = 0 then (some ((-1000000002), h)) else (bd2 (fX5_fewestToMend n r v0 v1 h) (fun (x8 : Int32) (h9 : Hp) => if x8 = (-1) then (some (x8, h9)) else (if v2 = 1 then (some (x8, h9)) else ((fJ6_bitCount_0f7a4 n r x8 h9).bind (fun (x13 : Int32) => some (x13, h9)))))))))
set_option maxHeartbeats 4000000 in
set_option maxRecDepth 100000 in
theorem uX5_keepUp {S : Shp} {n : Nat} {r : Rf} {v0 : Nat} {v1 : Int32} {v2 : Int32} {h : Hp} {o : (Int32 × Hp)} (hW : WF S r) (hv0 : S[v0]? = some (5, 11)) (hf : fX5_keepUp n r v0 v1 v2 h = some o) : GX5_keepUp S r r (some o.1, o.2) 0 [(0, .ref v0), (1, .int v1), (2, .int v2)] [] h := by
  unfold fX5_keepUp at hf
  refine g_iload_n (ps := 1) dX5_keepUp_0 rfl rfl ?_
  refine g_iconst (v := 0) dX5_keepUp_1 (by decide +kernel) ?_
  refine g_bipush (v := 60) dX5_keepUp_2 (by decide +kernel) ?_
  obtain ⟨x2, e1, hf⟩ := bd_s hf
  refine g_callSi (As := [.int v1, .int 0, .int 60]) (n := 3) (kX5_isWithin hW  e1) gX5_keepUp_X5_isWithin rfl ⟨rfl, rfl⟩ hdX5_isWithin ⟨Nat.le_of_ble_eq_true rfl, Nat.le_of_ble_eq_true rfl⟩ rfl rfl (Nat.le_of_ble_eq_true rfl) dX5_keepUp_4 ?_
  refine g_if_eq (tgt := 19) dX5_keepUp_7 (by decide) (fun c3 => ?_) (fun c3 => ?_)
  · have hf := if_t hf c3
    refine g_ldc (v := (-1000000002)) mX5_keepUp_68 dX5_keepUp_19 ?_
    have hf := Option.some.inj hf
    subst hf
    exact g_iret dX5_keepUp_21
  · have hf := if_f hf c3
    refine g_iload_n (ps := 2) dX5_keepUp_10 rfl rfl ?_
    refine g_iconst (v := 0) dX5_keepUp_11 (by decide +kernel) ?_
    refine g_iconst (v := 1) dX5_keepUp_12 (by decide +kernel) ?_
    obtain ⟨x5, e4, hf⟩ := bd_s hf
    refine g_callSi (As := [.int v2, .int 0, .int 1]) (n := 3) (kX5_isWithin hW  e4) gX5_keepUp_X5_isWithin rfl ⟨rfl, rfl⟩ hdX5_isWithin ⟨Nat.le_of_ble_eq_true rfl, Nat.le_of_ble_eq_true rfl⟩ rfl rfl (Nat.le_of_ble_eq_true rfl) dX5_keepUp_13 ?_
    refine g_if_ne (tgt := 22) dX5_keepUp_16 (by decide) (fun c6 => ?_) (fun c6 => ?_)
    · have hf := if_f hf c6
      refine g_aload_n (ps := 0) dX5_keepUp_22 rfl rfl ?_
      refine g_iload_n (ps := 1) dX5_keepUp_23 rfl rfl ?_
      obtain ⟨x8, h9, e7, hf⟩ := bd2_s hf
      refine g_callVi (As := [.int v1]) (n := 1) (kX5_fewestToMend hW hv0 e7) gX5_keepUp_X5_fewestToMend rfl ⟨rfl, rfl⟩ ⟨rfl, hdX5_fewestToMend⟩ ⟨Nat.le_of_ble_eq_true rfl, Nat.le_of_ble_eq_true rfl⟩ cf5 hv0 rfl rfl (Nat.le_of_ble_eq_true rfl) dX5_keepUp_24 ?_
      refine g_istore_n (L' := [(3, .int x8), (0, .ref v0), (1, .int v1), (2, .int v2)]) dX5_keepUp_27 rfl (by decide) rfl ?_
      refine g_iload_n (ps := 0) dX5_keepUp_28 rfl rfl ?_
      refine g_iconst (v := (-1)) dX5_keepUp_29 (by decide +kernel) ?_
      refine g_icmp_eq (tgt := 38) dX5_keepUp_30 (by decide) (fun c10 => ?_) (fun c10 => ?_)
      · have hf := if_t hf c10
        refine g_iload_n (ps := 0) dX5_keepUp_38 rfl rfl ?_
        refine g_goto (tgt := 46) dX5_keepUp_39 (by decide) ?_
        have hf := Option.some.inj hf
        subst hf
        exact g_iret dX5_keepUp_46
      · have hf := if_f hf c10
        refine g_iload_n (ps := 3) dX5_keepUp_33 rfl rfl ?_
        refine g_iconst (v := 1) dX5_keepUp_34 (by decide +kernel) ?_
        refine g_icmp_ne (tgt := 42) dX5_keepUp_35 (by decide) (fun c11 => ?_) (fun c11 => ?_)
        · have hf := if_f hf c11
          refine g_iload_n (ps := 0) dX5_keepUp_42 rfl rfl ?_
          obtain ⟨x13, e12, hf⟩ := bd_s hf
          refine g_callSi (As := [.int x8]) (n := 1) (kJ6_bitCount_0f7a4 hW  e12) gX5_keepUp_J6_bitCount_0f7a4 rfl ⟨rfl, rfl⟩ hdJ6_bitCount_0f7a4 ⟨Nat.le_of_ble_eq_true rfl, Nat.le_of_ble_eq_true rfl⟩ rfl rfl (Nat.le_of_ble_eq_true rfl) dX5_keepUp_43 ?_
          have hf := Option.some.inj hf
          subst hf
          exact g_iret dX5_keepUp_46
        · have hf := if_t hf c11
          refine g_iload_n (ps := 0) dX5_keepUp_38 rfl rfl ?_
          refine g_goto (tgt := 46) dX5_keepUp_39 (by decide) ?_
          have hf := Option.some.inj hf
          subst hf
          exact g_iret dX5_keepUp_46
    · have hf := if_t hf c6
      refine g_ldc (v := (-1000000002)) mX5_keepUp_68 dX5_keepUp_19 ?_
      have hf := Option.some.inj hf
      subst hf
      exact g_iret dX5_keepUp_21
theorem kX5_keepUp {S : Shp} {n : Nat} {r : Rf} {v0 : Nat} {v1 : Int32} {v2 : Int32} {h : Hp} {o : (Int32 × Hp)} (hW : WF S r) (hv0 : S[v0]? = some (5, 11)) (hf : fX5_keepUp n r v0 v1 v2 h = some o) : CTi yX5_keepUp wsX5_keepUp rmX5_keepUp S r [.ref v0, .int v1, .int v2] h r o.1 o.2 :=
  cti_of rfl (by decide +kernel) rfl (Nat.le_of_ble_eq_true rfl) rfl (uX5_keepUp hW hv0 hf)
