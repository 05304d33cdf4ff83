/-! X5_undoLink undoLink -/
def rmX5_undoLink : Room := { frames := 3, cells := 0, slots := 0, locals := 84 }
abbrev GX5_undoLink (S : Shp) (r r' : Rf) (out : Option Int32 × Hp) (pc : Nat) (L : List (Nat × Value)) (st : List Value) (h : Hp) : Prop := G RX5 cX5_undoLink 2 (some .int) wsX5_undoLink rmX5_undoLink S r r' out pc L st h
theorem nX5_undoLink_X0 : ∀ w ∈ wsX00, w ∈ wsX5_undoLink := by decide +kernel
theorem nX5_undoLink_X5 : ∀ w ∈ wsX50, w ∈ wsX5_undoLink := by decide +kernel
theorem mX5_undoLink_135 : Cond.constant RX5 135 (-1000000001) ∈ wsX5_undoLink := by decide +kernel
theorem mX5_undoLink_178 : Cond.constant RX5 178 (-1000000003) ∈ wsX5_undoLink := by decide +kernel
theorem mX5_undoLink_110 : Cond.fieldLink RX5 110 "LinkedIsles$Bonds" "doneUp" "I" ∈ wsX5_undoLink := by decide +kernel
theorem mX5_undoLink_19 : Cond.fieldLink RX5 19 "LinkedIsles" "chart" "LLinkedIsles$Chart;" ∈ wsX5_undoLink := by decide +kernel
theorem mX5_undoLink_29 : Cond.fieldLink RX5 29 "LinkedIsles" "now" "LLinkedIsles$Bonds;" ∈ wsX5_undoLink := by decide +kernel
theorem mX5_undoLink_39 : Cond.fieldLink RX5 39 "LinkedIsles" "log" "LLinkedIsles$Log;" ∈ wsX5_undoLink := by decide +kernel
theorem hdX5_undoLink : yX5_undoLink.cls ≠ "java/lang/invoke/MethodHandle" ∧ yX5_undoLink.cls ≠ "java/lang/invoke/VarHandle" ∧ (parseMethodDescriptor yX5_undoLink.desc).map (fun d => d.parameters.length) = some 1 := by decide +kernel
def fX5_undoLink (n : Nat) (r : Rf) (v0 : Nat) (v1 : Int32) (h : Hp) : Option (Int32 × Hp) :=
  (fX1_hasLink n r (r v0 1) v1 h).bind (fun (x2 : Int32) => if x2 = 0 then (some ((-1000000001), h)) else ((fX5_has n r (h.1 (r v0 3) 1) v1 h).bind (fun (x5 : Int32) => if x5 = 0 then (some ((-1000000003), h)) else ((fX2_note n r (r v0 5) (r v0 3) h).bind (fun (h8 : Hp) => lE (pI h8 (r v0 3) 1 ((h8.1 (r v0 3) 1) &&& ((1 <<< (v1 &&& 31)) ^^^ (-1)))) (fun (h9 : Hp) => (fJ6_bitCount_0f7a4 n r (h9.1 (r v0 3) 1) h9).bind (fun (x11 : Int32) => some (x11, h9))))))))
set_option maxHeartbeats 4000000 in
set_option maxRecDepth 100000 in
theorem uX5_undoLink {S : Shp} {n : Nat} {r : Rf} {v0 : Nat} {v1 : Int32} {h : Hp} {o : (Int32 × Hp)} (hW : WF S r) (hv0 : S[v0]? = some (5, 11)) (hf : fX5_undoLink n r v0 v1 h = some o) : GX5_undoLink S r r (some o.1, o.2) 0 [(0, .ref v0), (1, .int v1)] [] h := by
  unfold fX5_undoLink at hf
  refine g_aload_n (ps := 0) dX5_undoLink_0 rfl rfl ?_
  refine g_getR cf5 hv0 nX5_undoLink_X5 (j := 1) (by decide) rfl mX5_undoLink_19 dX5_undoLink_1 ?_
  refine g_iload_n (ps := 1) dX5_undoLink_4 rfl rfl ?_
  obtain ⟨x2, e1, hf⟩ := bd_s hf
  refine g_callVi (As := [.int v1]) (n := 1) (kX1_hasLink hW (hW _ _ _ hv0 1 _ rfl) e1) gX5_undoLink_X1_hasLink rfl ⟨rfl, rfl⟩ ⟨rfl, hdX1_hasLink⟩ ⟨Nat.le_of_ble_eq_true rfl, Nat.le_of_ble_eq_true rfl⟩ cf1 (hW _ _ _ hv0 1 _ rfl) rfl rfl (Nat.le_of_ble_eq_true rfl) dX5_undoLink_5 ?_
  refine g_if_ne (tgt := 14) dX5_undoLink_8 (by decide) (fun c3 => ?_) (fun c3 => ?_)
  · have hf := if_f hf c3
    refine g_aload_n (ps := 0) dX5_undoLink_14 rfl rfl ?_
    refine g_getR cf5 hv0 nX5_undoLink_X5 (j := 3) (by decide) rfl mX5_undoLink_29 dX5_undoLink_15 ?_
    refine g_getI cf0 (hW _ _ _ hv0 3 _ rfl) nX5_undoLink_X0 (j := 1) (by decide) rfl mX5_undoLink_110 dX5_undoLink_18 ?_
    refine g_iload_n (ps := 1) dX5_undoLink_21 rfl rfl ?_
    obtain ⟨x5, e4, hf⟩ := bd_s hf
    refine g_callSi (As := [.int (h.1 (r v0 3) 1), .int v1]) (n := 2) (kX5_has hW  e4) gX5_undoLink_X5_has rfl ⟨rfl, rfl⟩ hdX5_has ⟨Nat.le_of_ble_eq_true rfl, Nat.le_of_ble_eq_true rfl⟩ rfl rfl (Nat.le_of_ble_eq_true rfl) dX5_undoLink_22 ?_
    refine g_if_ne (tgt := 31) dX5_undoLink_25 (by decide) (fun c6 => ?_) (fun c6 => ?_)
    · have hf := if_f hf c6
      refine g_aload_n (ps := 0) dX5_undoLink_31 rfl rfl ?_
      refine g_getR cf5 hv0 nX5_undoLink_X5 (j := 5) (by decide) rfl mX5_undoLink_39 dX5_undoLink_32 ?_
      refine g_aload_n (ps := 0) dX5_undoLink_35 rfl rfl ?_
      refine g_getR cf5 hv0 nX5_undoLink_X5 (j := 3) (by decide) rfl mX5_undoLink_29 dX5_undoLink_36 ?_
      obtain ⟨h8, e7, hf⟩ := bd_s hf
      refine g_callVv (As := [.ref (r v0 3)]) (n := 1) (kX2_note hW (hW _ _ _ hv0 5 _ rfl) (hW _ _ _ hv0 3 _ rfl) e7) gX5_undoLink_X2_note rfl ⟨rfl, rfl⟩ ⟨rfl, hdX2_note⟩ ⟨Nat.le_of_ble_eq_true rfl, Nat.le_of_ble_eq_true rfl⟩ cf2 (hW _ _ _ hv0 5 _ rfl) rfl rfl (Nat.le_of_ble_eq_true rfl) dX5_undoLink_39 ?_
      refine g_aload_n (ps := 0) dX5_undoLink_42 rfl rfl ?_
      refine g_getR cf5 hv0 nX5_undoLink_X5 (j := 3) (by decide) rfl mX5_undoLink_29 dX5_undoLink_43 ?_
      refine g_dup dX5_undoLink_46 rfl ?_
      refine g_getI cf0 (hW _ _ _ hv0 3 _ rfl) nX5_undoLink_X0 (j := 1) (by decide) rfl mX5_undoLink_110 dX5_undoLink_47 ?_
      refine g_iconst (v := 1) dX5_undoLink_50 (by decide +kernel) ?_
      refine g_iload_n (ps := 1) dX5_undoLink_51 rfl rfl ?_
      refine g_ishl dX5_undoLink_52 ?_
      refine g_iconst (v := (-1)) dX5_undoLink_53 (by decide +kernel) ?_
      refine g_ixor dX5_undoLink_54 ?_
      refine g_iand dX5_undoLink_55 ?_
      refine g_putI cf0 (hW _ _ _ hv0 3 _ rfl) nX5_undoLink_X0 (j := 1) (by decide) rfl mX5_undoLink_110 rfl dX5_undoLink_56 ?_
      refine g_topH (fun h9 eh9 => ?_)
      have hf := lE_s hf eh9
      refine g_aload_n (ps := 0) dX5_undoLink_59 rfl rfl ?_
      refine g_getR cf5 hv0 nX5_undoLink_X5 (j := 3) (by decide) rfl mX5_undoLink_29 dX5_undoLink_60 ?_
      refine g_getI cf0 (hW _ _ _ hv0 3 _ rfl) nX5_undoLink_X0 (j := 1) (by decide) rfl mX5_undoLink_110 dX5_undoLink_63 ?_
      obtain ⟨x11, e10, hf⟩ := bd_s hf
      refine g_callSi (As := [.int (h9.1 (r v0 3) 1)]) (n := 1) (kJ6_bitCount_0f7a4 hW  e10) gX5_undoLink_J6_bitCount_0f7a4 rfl ⟨rfl, rfl⟩ hdJ6_bitCount_0f7a4 ⟨Nat.le_of_ble_eq_true rfl, Nat.le_of_ble_eq_true rfl⟩ rfl rfl (Nat.le_of_ble_eq_true rfl) dX5_undoLink_66 ?_
      have hf := Option.some.inj hf
      subst hf
      exact g_iret dX5_undoLink_69
    · have hf := if_t hf c6
      refine g_ldc (v := (-1000000003)) mX5_undoLink_178 dX5_undoLink_28 ?_
      have hf := Option.some.inj hf
      subst hf
      exact g_iret dX5_undoLink_30
  · have hf := if_t hf c3
    refine g_ldc (v := (-1000000001)) mX5_undoLink_135 dX5_undoLink_11 ?_
    have hf := Option.some.inj hf
    subst hf
    exact g_iret dX5_undoLink_13
theorem kX5_undoLink {S : Shp} {n : Nat} {r : Rf} {v0 : Nat} {v1 : Int32} {h : Hp} {o : (Int32 × Hp)} (hW : WF S r) (hv0 : S[v0]? = some (5, 11)) (hf : fX5_undoLink n r v0 v1 h = some o) : CTi yX5_undoLink wsX5_undoLink rmX5_undoLink S r [.ref v0, .int v1] h r o.1 o.2 :=
  cti_of rfl (by decide +kernel) rfl (Nat.le_of_ble_eq_true rfl) rfl (uX5_undoLink hW hv0 hf)
/-! X5_doUp doUp -/
def rmX5_doUp : Room := { frames := 3, cells := 0, slots := 0, locals := 84 }
abbrev GX5_doUp (S : Shp) (r r' : Rf) (out : Option Int32 × Hp) (pc : Nat) (L : List (Nat × Value)) (st : List Value) (h : Hp) : Prop := G RX5 cX5_doUp 2 (some .int) wsX5_doUp rmX5_doUp S r r' out pc L st h
theorem nX5_doUp_X0 : ∀ w ∈ wsX00, w ∈ wsX5_doUp := by decide +kernel
theorem nX5_doUp_X5 : ∀ w ∈ wsX50, w ∈ wsX5_doUp := by decide +kernel
theorem mX5_doUp_135 : Cond.constant RX5 135 (-1000000001) ∈ wsX5_doUp := by decide +kernel
theorem mX5_doUp_178 : Cond.constant RX5 178 (-1000000003) ∈ wsX5_doUp := by decide +kernel
theorem mX5_doUp_110 : Cond.fieldLink RX5 110 "LinkedIsles$Bonds" "doneUp" "I" ∈ wsX5_doUp := by decide +kernel
theorem mX5_doUp_19 : Cond.fieldLink RX5 19 "LinkedIsles" "chart" "LLinkedIsles$Chart;" ∈ wsX5_doUp := by decide +kernel
theorem mX5_doUp_29 : Cond.fieldLink RX5 29 "LinkedIsles" "now" "LLinkedIsles$Bonds;" ∈ wsX5_doUp := by decide +kernel
theorem mX5_doUp_39 : Cond.fieldLink RX5 39 "LinkedIsles" "log" "LLinkedIsles$Log;" ∈ wsX5_doUp := by decide +kernel
theorem hdX5_doUp : yX5_doUp.cls ≠ "java/lang/invoke/MethodHandle" ∧ yX5_doUp.cls ≠ "java/lang/invoke/VarHandle" ∧ (parseMethodDescriptor yX5_doUp.desc).map (fun d => d.parameters.length) = some 1 := by decide +kernel
def fX5_doUp (n : Nat) (r : Rf) (v0 : Nat) (v1 : Int32) (h : Hp) : Option (Int32 × Hp) :=
  (fX1_hasLink n r (r v0 1) v1 h).bind (fun (x2 : Int32) => if x2 = 0 then (some ((-1000000001), h)) else ((fX0_canBeDoneUp n r (r v0 3) (r v0 1) v1 h).bind (fun (x5 : Int32) => if x5 = 0 then (some ((-1000000003), h)) else ((fX2_note n r (r v0 5) (r v0 3) h).bind (fun (h8 : Hp) => lE (pI h8 (r v0 3) 1 ((h8.1 (r v0 3) 1) ||| (1 <<< (v1 &&& 31)))) (fun (h9 : Hp) => (fJ6_bitCount_0f7a4 n r (h9.1 (r v0 3) 1) h9).bind (fun (x11 : Int32) => some (x11, h9))))))))
set_option maxHeartbeats 4000000 in
set_option maxRecDepth 100000 in
theorem uX5_doUp {S : Shp} {n : Nat} {r : Rf} {v0 : Nat} {v1 : Int32} {h : Hp} {o : (Int32 × Hp)} (hW : WF S r) (hv0 : S[v0]? = some (5, 11)) (hf : fX5_doUp n r v0 v1 h = some o) : GX5_doUp S r r (some o.1, o.2) 0 [(0, .ref v0), (1, .int v1)] [] h := by
  unfold fX5_doUp at hf
  refine g_aload_n (ps := 0) dX5_doUp_0 rfl rfl ?_
  refine g_getR cf5 hv0 nX5_doUp_X5 (j := 1) (by decide) rfl mX5_doUp_19 dX5_doUp_1 ?_
  refine g_iload_n (ps := 1) dX5_doUp_4 rfl rfl ?_
  obtain ⟨x2, e1, hf⟩ := bd_s hf
  refine g_callVi (As := [.int v1]) (n := 1) (kX1_hasLink hW (hW _ _ _ hv0 1 _ rfl) e1) gX5_doUp_X1_hasLink rfl ⟨rfl, rfl⟩ ⟨rfl, hdX1_hasLink⟩ ⟨Nat.le_of_ble_eq_true rfl, Nat.le_of_ble_eq_true rfl⟩ cf1 (hW _ _ _ hv0 1 _ rfl) rfl rfl (Nat.le_of_ble_eq_true rfl) dX5_doUp_5 ?_
  refine g_if_ne (tgt := 14) dX5_doUp_8 (by decide) (fun c3 => ?_) (fun c3 => ?_)
  · have hf := if_f hf c3
    refine g_aload_n (ps := 0) dX5_doUp_14 rfl rfl ?_
    refine g_getR cf5 hv0 nX5_doUp_X5 (j := 3) (by decide) rfl mX5_doUp_29 dX5_doUp_15 ?_
    refine g_aload_n (ps := 0) dX5_doUp_18 rfl rfl ?_
    refine g_getR cf5 hv0 nX5_doUp_X5 (j := 1) (by decide) rfl mX5_doUp_19 dX5_doUp_19 ?_
    refine g_iload_n (ps := 1) dX5_doUp_22 rfl rfl ?_
    obtain ⟨x5, e4, hf⟩ := bd_s hf
    refine g_callVi (As := [.ref (r v0 1), .int v1]) (n := 2) (kX0_canBeDoneUp hW (hW _ _ _ hv0 3 _ rfl) (hW _ _ _ hv0 1 _ rfl) e4) gX5_doUp_X0_canBeDoneUp rfl ⟨rfl, rfl⟩ ⟨rfl, hdX0_canBeDoneUp⟩ ⟨Nat.le_of_ble_eq_true rfl, Nat.le_of_ble_eq_true rfl⟩ cf0 (hW _ _ _ hv0 3 _ rfl) rfl rfl (Nat.le_of_ble_eq_true rfl) dX5_doUp_23 ?_
    refine g_if_ne (tgt := 32) dX5_doUp_26 (by decide) (fun c6 => ?_) (fun c6 => ?_)
    · have hf := if_f hf c6
      refine g_aload_n (ps := 0) dX5_doUp_32 rfl rfl ?_
      refine g_getR cf5 hv0 nX5_doUp_X5 (j := 5) (by decide) rfl mX5_doUp_39 dX5_doUp_33 ?_
      refine g_aload_n (ps := 0) dX5_doUp_36 rfl rfl ?_
      refine g_getR cf5 hv0 nX5_doUp_X5 (j := 3) (by decide) rfl mX5_doUp_29 dX5_doUp_37 ?_
      obtain ⟨h8, e7, hf⟩ := bd_s hf
      refine g_callVv (As := [.ref (r v0 3)]) (n := 1) (kX2_note hW (hW _ _ _ hv0 5 _ rfl) (hW _ _ _ hv0 3 _ rfl) e7) gX5_doUp_X2_note rfl ⟨rfl, rfl⟩ ⟨rfl, hdX2_note⟩ ⟨Nat.le_of_ble_eq_true rfl, Nat.le_of_ble_eq_true rfl⟩ cf2 (hW _ _ _ hv0 5 _ rfl) rfl rfl (Nat.le_of_ble_eq_true rfl) dX5_doUp_40 ?_
      refine g_aload_n (ps := 0) dX5_doUp_43 rfl rfl ?_
      refine g_getR cf5 hv0 nX5_doUp_X5 (j := 3) (by decide) rfl mX5_doUp_29 dX5_doUp_44 ?_
      refine g_dup dX5_doUp_47 rfl ?_
      refine g_getI cf0 (hW _ _ _ hv0 3 _ rfl) nX5_doUp_X0 (j := 1) (by decide) rfl mX5_doUp_110 dX5_doUp_48 ?_
      refine g_iconst (v := 1) dX5_doUp_51 (by decide +kernel) ?_
      refine g_iload_n (ps := 1) dX5_doUp_52 rfl rfl ?_
      refine g_ishl dX5_doUp_53 ?_
      refine g_ior dX5_doUp_54 ?_
      refine g_putI cf0 (hW _ _ _ hv0 3 _ rfl) nX5_doUp_X0 (j := 1) (by decide) rfl mX5_doUp_110 rfl dX5_doUp_55 ?_
      refine g_topH (fun h9 eh9 => ?_)
      have hf := lE_s hf eh9
      refine g_aload_n (ps := 0) dX5_doUp_58 rfl rfl ?_
      refine g_getR cf5 hv0 nX5_doUp_X5 (j := 3) (by decide) rfl mX5_doUp_29 dX5_doUp_59 ?_
      refine g_getI cf0 (hW _ _ _ hv0 3 _ rfl) nX5_doUp_X0 (j := 1) (by decide) rfl mX5_doUp_110 dX5_doUp_62 ?_
      obtain ⟨x11, e10, hf⟩ := bd_s hf
      refine g_callSi (As := [.int (h9.1 (r v0 3) 1)]) (n := 1) (kJ6_bitCount_0f7a4 hW  e10) gX5_doUp_J6_bitCount_0f7a4 rfl ⟨rfl, rfl⟩ hdJ6_bitCount_0f7a4 ⟨Nat.le_of_ble_eq_true rfl, Nat.le_of_ble_eq_true rfl⟩ rfl rfl (Nat.le_of_ble_eq_true rfl) dX5_doUp_65 ?_
      have hf := Option.some.inj hf
      subst hf
      exact g_iret dX5_doUp_68
    · have hf := if_t hf c6
      refine g_ldc (v := (-1000000003)) mX5_doUp_178 dX5_doUp_29 ?_
      have hf := Option.some.inj hf
      subst hf
      exact g_iret dX5_doUp_31
  · have hf := if_t hf c3
    refine g_ldc (v := (-1000000001)) mX5_doUp_135 dX5_doUp_11 ?_
    have hf := Option.some.inj hf
    subst hf
    exact g_iret dX5_doUp_13
theorem kX5_doUp {S : Shp} {n : Nat} {r : Rf} {v0 : Nat} {v1 : Int32} {h : Hp} {o : (Int32 × Hp)} (hW : WF S r) (hv0 : S[v0]? = some (5, 11)) (hf : fX5_doUp n r v0 v1 h = some o) : CTi yX5_doUp wsX5_doUp rmX5_doUp S r [.ref v0, .int v1] h r o.1 o.2 :=
  cti_of rfl (by decide +kernel) rfl (Nat.le_of_ble_eq_true rfl) rfl (uX5_doUp hW hv0 hf)
/-! X5_turn turn -/
def rmX5_turn : Room := { frames := 3, cells := 0, slots := 0, locals := 84 }
abbrev GX5_turn (S : Shp) (r r' : Rf) (out : Option Int32 × Hp) (pc : Nat) (L : List (Nat × Value)) (st : List Value) (h : Hp) : Prop := G RX5 cX5_turn 2 (some .int) wsX5_turn rmX5_turn S r r' out pc L st h
theorem nX5_turn_X0 : ∀ w ∈ wsX00, w ∈ wsX5_turn := by decide +kernel
theorem nX5_turn_X5 : ∀ w ∈ wsX50, w ∈ wsX5_turn := by decide +kernel
theorem mX5_turn_135 : Cond.constant RX5 135 (-1000000001) ∈ wsX5_turn := by decide +kernel
theorem mX5_turn_117 : Cond.fieldLink RX5 117 "LinkedIsles$Bonds" "turned" "I" ∈ wsX5_turn := by decide +kernel
theorem mX5_turn_19 : Cond.fieldLink RX5 19 "LinkedIsles" "chart" "LLinkedIsles$Chart;" ∈ wsX5_turn := by decide +kernel
theorem mX5_turn_29 : Cond.fieldLink RX5 29 "LinkedIsles" "now" "LLinkedIsles$Bonds;" ∈ wsX5_turn := by decide +kernel
theorem mX5_turn_39 : Cond.fieldLink RX5 39 "LinkedIsles" "log" "LLinkedIsles$Log;" ∈ wsX5_turn := by decide +kernel
theorem hdX5_turn : yX5_turn.cls ≠ "java/lang/invoke/MethodHandle" ∧ yX5_turn.cls ≠ "java/lang/invoke/VarHandle" ∧ (parseMethodDescriptor yX5_turn.desc).map (fun d => d.parameters.length) = some 1 := by decide +kernel
def fX5_turn (n : Nat) (r : Rf) (v0 : Nat) (v1 : Int32) (h : Hp) : Option (Int32 × Hp) :=
  (fX1_hasLink n r (r v0 1) v1 h).bind (fun (x2 : Int32) => if x2 = 0 then (some ((-1000000001), h)) else ((fX2_note n r (r v0 5) (r v0 3) h).bind (fun (h5 : Hp) => lE (pI h5 (r v0 3) 2 ((h5.1 (r v0 3) 2) ^^^ (1 <<< (v1 &&& 31)))) (fun (h6 : Hp) => (fX5_has n r (h6.1 (r v0 3) 2) v1 h6).bind (fun (x8 : Int32) => if x8 = 0 then (some (0, h6)) else (some (1, h6)))))))
set_option maxHeartbeats 4000000 in
set_option maxRecDepth 100000 in
theorem uX5_turn {S : Shp} {n : Nat} {r : Rf} {v0 : Nat} {v1 : Int32} {h : Hp} {o : (Int32 × Hp)} (hW : WF S r) (hv0 : S[v0]? = some (5, 11)) (hf : fX5_turn n r v0 v1 h = some o) : GX5_turn S r r (some o.1, o.2) 0 [(0, .ref v0), (1, .int v1)] [] h := by
  unfold fX5_turn at hf
  refine g_aload_n (ps := 0) dX5_turn_0 rfl rfl ?_
  refine g_getR cf5 hv0 nX5_turn_X5 (j := 1) (by decide) rfl mX5_turn_19 dX5_turn_1 ?_
  refine g_iload_n (ps := 1) dX5_turn_4 rfl rfl ?_
  obtain ⟨x2, e1, hf⟩ := bd_s hf
  refine g_callVi (As := [.int v1]) (n := 1) (kX1_hasLink hW (hW _ _ _ hv0 1 _ rfl) e1) gX5_turn_X1_hasLink rfl ⟨rfl, rfl⟩ ⟨rfl, hdX1_hasLink⟩ ⟨Nat.le_of_ble_eq_true rfl, Nat.le_of_ble_eq_true rfl⟩ cf1 (hW _ _ _ hv0 1 _ rfl) rfl rfl (Nat.le_of_ble_eq_true rfl) dX5_turn_5 ?_
  refine g_if_ne (tgt := 14) dX5_turn_8 (by decide) (fun c3 => ?_) (fun c3 => ?_)
  · have hf := if_f hf c3
    refine g_aload_n (ps := 0) dX5_turn_14 rfl rfl ?_
    refine g_getR cf5 hv0 nX5_turn_X5 (j := 5) (by decide) rfl mX5_turn_39 dX5_turn_15 ?_
    refine g_aload_n (ps := 0) dX5_turn_18 rfl rfl ?_
    refine g_getR cf5 hv0 nX5_turn_X5 (j := 3) (by decide) rfl mX5_turn_29 dX5_turn_19 ?_
    obtain ⟨h5, e4, hf⟩ := bd_s hf
    refine g_callVv (As := [.ref (r v0 3)]) (n := 1) (kX2_note hW (hW _ _ _ hv0 5 _ rfl) (hW _ _ _ hv0 3 _ rfl) e4) gX5_turn_X2_note rfl ⟨rfl, rfl⟩ ⟨rfl, hdX2_note⟩ ⟨Nat.le_of_ble_eq_true rfl, Nat.le_of_ble_eq_true rfl⟩ cf2 (hW _ _ _ hv0 5 _ rfl) rfl rfl (Nat.le_of_ble_eq_true rfl) dX5_turn_22 ?_
    refine g_aload_n (ps := 0) dX5_turn_25 rfl rfl ?_
    refine g_getR cf5 hv0 nX5_turn_X5 (j := 3) (by decide) rfl mX5_turn_29 dX5_turn_26 ?_
    refine g_dup dX5_turn_29 rfl ?_
    refine g_getI cf0 (hW _ _ _ hv0 3 _ rfl) nX5_turn_X0 (j := 2) (by decide) rfl mX5_turn_117 dX5_turn_30 ?_
    refine g_iconst (v := 1) dX5_turn_33 (by decide +kernel) ?_
    refine g_iload_n (ps := 1) dX5_turn_34 rfl rfl ?_
    refine g_ishl dX5_turn_35 ?_
    refine g_ixor dX5_turn_36 ?_
    refine g_putI cf0 (hW _ _ _ hv0 3 _ rfl) nX5_turn_X0 (j := 2) (by decide) rfl mX5_turn_117 rfl dX5_turn_37 ?_
    refine g_topH (fun h6 eh6 => ?_)
    have hf := lE_s hf eh6
    refine g_aload_n (ps := 0) dX5_turn_40 rfl rfl ?_
    refine g_getR cf5 hv0 nX5_turn_X5 (j := 3) (by decide) rfl mX5_turn_29 dX5_turn_41 ?_
    refine g_getI cf0 (hW _ _ _ hv0 3 _ rfl) nX5_turn_X0 (j := 2) (by decide) rfl mX5_turn_117 dX5_turn_44 ?_
    refine g_iload_n (ps := 1) dX5_turn_47 rfl rfl ?_
    obtain ⟨x8, e7, hf⟩ := bd_s hf
    refine g_callSi (As := [.int (h6.1 (r v0 3) 2), .int v1]) (n := 2) (kX5_has hW  e7) gX5_turn_X5_has rfl ⟨rfl, rfl⟩ hdX5_has ⟨Nat.le_of_ble_eq_true rfl, Nat.le_of_ble_eq_true rfl⟩ rfl rfl (Nat.le_of_ble_eq_true rfl) dX5_turn_48 ?_
    refine g_if_eq (tgt := 58) dX5_turn_51 (by decide) (fun c9 => ?_) (fun c9 => ?_)
    · have hf := if_t hf c9
      refine g_iconst (v := 0) dX5_turn_58 (by decide +kernel) ?_
      have hf := Option.some.inj hf
      subst hf
      exact g_iret dX5_turn_59
    · have hf := if_f hf c9
      refine g_iconst (v := 1) dX5_turn_54 (by decide +kernel) ?_
      refine g_goto (tgt := 59) dX5_turn_55 (by decide) ?_
      have hf := Option.some.inj hf
      subst hf
      exact g_iret dX5_turn_59
  · have hf := if_t hf c3
    refine g_ldc (v := (-1000000001)) mX5_turn_135 dX5_turn_11 ?_
    have hf := Option.some.inj hf
    subst hf
    exact g_iret dX5_turn_13
theorem kX5_turn {S : Shp} {n : Nat} {r : Rf} {v0 : Nat} {v1 : Int32} {h : Hp} {o : (Int32 × Hp)} (hW : WF S r) (hv0 : S[v0]? = some (5, 11)) (hf : fX5_turn n r v0 v1 h = some o) : CTi yX5_turn wsX5_turn rmX5_turn S r [.ref v0, .int v1] h r o.1 o.2 :=
  cti_of rfl (by decide +kernel) rfl (Nat.le_of_ble_eq_true rfl) rfl (uX5_turn hW hv0 hf)
/-! X5_mend mend -/
def rmX5_mend : Room := { frames := 3, cells := 0, slots := 0, locals := 84 }
abbrev GX5_mend (S : Shp) (r r' : Rf) (out : Option Int32 × Hp) (pc : Nat) (L : List (Nat × Value)) (st : List Value) (h : Hp) : Prop := G RX5 cX5_mend 2 (some .int) wsX5_mend rmX5_mend S r r' out pc L st h
theorem nX5_mend_X0 : ∀ w ∈ wsX00, w ∈ wsX5_mend := by decide +kernel
theorem nX5_mend_X5 : ∀ w ∈ wsX50, w ∈ wsX5_mend := by decide +kernel
theorem mX5_mend_135 : Cond.constant RX5 135 (-1000000001) ∈ wsX5_mend := by decide +kernel
theorem mX5_mend_178 : Cond.constant RX5 178 (-1000000003) ∈ wsX5_mend := by decide +kernel
theorem mX5_mend_104 : Cond.fieldLink RX5 104 "LinkedIsles$Bonds" "silver" "I" ∈ wsX5_mend := by decide +kernel
theorem mX5_mend_148 : Cond.fieldLink RX5 148 "LinkedIsles$Bonds" "strain" "[I" ∈ wsX5_mend := by decide +kernel
theorem mX5_mend_19 : Cond.fieldLink RX5 19 "LinkedIsles" "chart" "LLinkedIsles$Chart;" ∈ wsX5_mend := by decide +kernel
theorem mX5_mend_29 : Cond.fieldLink RX5 29 "LinkedIsles" "now" "LLinkedIsles$Bonds;" ∈ wsX5_mend := by decide +kernel
theorem mX5_mend_39 : Cond.fieldLink RX5 39 "LinkedIsles" "log" "LLinkedIsles$Log;" ∈ wsX5_mend := by decide +kernel
theorem hdX5_mend : yX5_mend.cls ≠ "java/lang/invoke/MethodHandle" ∧ yX5_mend.cls ≠ "java/lang/invoke/VarHandle" ∧ (parseMethodDescriptor yX5_mend.desc).map (fun d => d.parameters.length) = some 1 := by decide +kernel
def fX5_mend (n : Nat) (r : Rf) (v0 : Nat) (v1 : Int32) (h : Hp) : Option (Int32 × Hp) :=
  (fX1_hasLink n r (r v0 1) v1 h).bind (fun (x2 : Int32) => if x2 = 0 then (some ((-1000000001), h)) else (if 1 ≤ (h.1 (r v0 3) 5) then ((fX2_note n r (r v0 5) (r v0 3) h).bind (fun (h6 : Hp) => ck v1 10 (lE (pI h6 (r (r v0 3) 0) (Int32.toNatClampNeg v1) 0) (fun (h8 : Hp) => lE (pI h8 (r v0 3) 5 ((h8.1 (r v0 3) 5) - 1)) (fun (h9 : Hp) => some ((h9.1 (r v0 3) 5), h9)))))) else (some ((-1000000003), h))))
set_option maxHeartbeats 4000000 in
set_option maxRecDepth 100000 in
theorem uX5_mend {S : Shp} {n : Nat} {r : Rf} {v0 : Nat} {v1 : Int32} {h : Hp} {o : (Int32 × Hp)} (hW : WF S r) (hv0 : S[v0]? = some (5, 11)) (hf : fX5_mend n r v0 v1 h = some o) : GX5_mend S r r (some o.1, o.2) 0 [(0, .ref v0), (1, .int v1)] [] h := by
  unfold fX5_mend at hf
  refine g_aload_n (ps := 0) dX5_mend_0 rfl rfl ?_
  refine g_getR cf5 hv0 nX5_mend_X5 (j := 1) (by decide) rfl mX5_mend_19 dX5_mend_1 ?_
  refine g_iload_n (ps := 1) dX5_mend_4 rfl rfl ?_
  obtain ⟨x2, e1, hf⟩ := bd_s hf
  refine g_callVi (As := [.int v1]) (n := 1) (kX1_hasLink hW (hW _ _ _ hv0 1 _ rfl) e1) gX5_mend_X1_hasLink rfl ⟨rfl, rfl⟩ ⟨rfl, hdX1_hasLink⟩ ⟨Nat.le_of_ble_eq_true rfl, Nat.le_of_ble_eq_true rfl⟩ cf1 (hW _ _ _ hv0 1 _ rfl) rfl rfl (Nat.le_of_ble_eq_true rfl) dX5_mend_5 ?_
  refine g_if_ne (tgt := 14) dX5_mend_8 (by decide) (fun c3 => ?_) (fun c3 => ?_)
  · have hf := if_f hf c3
    refine g_aload_n (ps := 0) dX5_mend_14 rfl rfl ?_
    refine g_getR cf5 hv0 nX5_mend_X5 (j := 3) (by decide) rfl mX5_mend_29 dX5_mend_15 ?_
    refine g_getI cf0 (hW _ _ _ hv0 3 _ rfl) nX5_mend_X0 (j := 5) (by decide) rfl mX5_mend_104 dX5_mend_18 ?_
    refine g_iconst (v := 1) dX5_mend_21 (by decide +kernel) ?_
    refine g_icmp_ge (tgt := 28) dX5_mend_22 (by decide) (fun c4 => ?_) (fun c4 => ?_)
    · have hf := if_t hf c4
      refine g_aload_n (ps := 0) dX5_mend_28 rfl rfl ?_
      refine g_getR cf5 hv0 nX5_mend_X5 (j := 5) (by decide) rfl mX5_mend_39 dX5_mend_29 ?_
      refine g_aload_n (ps := 0) dX5_mend_32 rfl rfl ?_
      refine g_getR cf5 hv0 nX5_mend_X5 (j := 3) (by decide) rfl mX5_mend_29 dX5_mend_33 ?_
      obtain ⟨h6, e5, hf⟩ := bd_s hf
      refine g_callVv (As := [.ref (r v0 3)]) (n := 1) (kX2_note hW (hW _ _ _ hv0 5 _ rfl) (hW _ _ _ hv0 3 _ rfl) e5) gX5_mend_X2_note rfl ⟨rfl, rfl⟩ ⟨rfl, hdX2_note⟩ ⟨Nat.le_of_ble_eq_true rfl, Nat.le_of_ble_eq_true rfl⟩ cf2 (hW _ _ _ hv0 5 _ rfl) rfl rfl (Nat.le_of_ble_eq_true rfl) dX5_mend_36 ?_
      refine g_aload_n (ps := 0) dX5_mend_39 rfl rfl ?_
      refine g_getR cf5 hv0 nX5_mend_X5 (j := 3) (by decide) rfl mX5_mend_29 dX5_mend_40 ?_
      refine g_getR cf0 (hW _ _ _ hv0 3 _ rfl) nX5_mend_X0 (j := 0) (by decide) rfl mX5_mend_148 dX5_mend_43 ?_
      refine g_iload_n (ps := 1) dX5_mend_46 rfl rfl ?_
      refine g_iconst (v := 0) dX5_mend_47 (by decide +kernel) ?_
      obtain ⟨z7, hf⟩ := ck_s hf
      refine g_iast (hW _ _ _ (hW _ _ _ hv0 3 _ rfl) 0 _ rfl) z7 dX5_mend_48 ?_
      refine g_topH (fun h8 eh8 => ?_)
      have hf := lE_s hf eh8
      refine g_aload_n (ps := 0) dX5_mend_49 rfl rfl ?_
      refine g_getR cf5 hv0 nX5_mend_X5 (j := 3) (by decide) rfl mX5_mend_29 dX5_mend_50 ?_
      refine g_dup dX5_mend_53 rfl ?_
      refine g_getI cf0 (hW _ _ _ hv0 3 _ rfl) nX5_mend_X0 (j := 5) (by decide) rfl mX5_mend_104 dX5_mend_54 ?_
      refine g_iconst (v := 1) dX5_mend_57 (by decide +kernel) ?_
      refine g_isub dX5_mend_58 ?_
      refine g_putI cf0 (hW _ _ _ hv0 3 _ rfl) nX5_mend_X0 (j := 5) (by decide) rfl mX5_mend_104 rfl dX5_mend_59 ?_
      refine g_topH (fun h9 eh9 => ?_)
      have hf := lE_s hf eh9
      refine g_aload_n (ps := 0) dX5_mend_62 rfl rfl ?_
      refine g_getR cf5 hv0 nX5_mend_X5 (j := 3) (by decide) rfl mX5_mend_29 dX5_mend_63 ?_
      refine g_getI cf0 (hW _ _ _ hv0 3 _ rfl) nX5_mend_X0 (j := 5) (by decide) rfl mX5_mend_104 dX5_mend_66 ?_
      have hf := Option.some.inj hf
      subst hf
      exact g_iret dX5_mend_69
    · have hf := if_f hf c4
      refine g_ldc (v := (-1000000003)) mX5_mend_178 dX5_mend_25 ?_
      have hf := Option.some.inj hf
      subst hf
      exact g_iret dX5_mend_27
  · have hf := if_t hf c3
    refine g_ldc (v := (-1000000001)) mX5_mend_135 dX5_mend_11 ?_
    have hf := Option.some.inj hf
    subst hf
    exact g_iret dX5_mend_13
theorem kX5_mend {S : Shp} {n : Nat} {r : Rf} {v0 : Nat} {v1 : Int32} {h : Hp} {o : (Int32 × Hp)} (hW : WF S r) (hv0 : S[v0]? = some (5, 11)) (hf : fX5_mend n r v0 v1 h = some o) : CTi yX5_mend wsX5_mend rmX5_mend S r [.ref v0, .int v1] h r o.1 o.2 :=
  cti_of rfl (by decide +kernel) rfl (Nat.le_of_ble_eq_true rfl) rfl (uX5_mend hW hv0 hf)
/-! X5_hold hold -/
def rmX5_hold : Room := { frames := 3, cells := 0, slots := 0, locals := 84 }
abbrev GX5_hold (S : Shp) (r r' : Rf) (out : Option Int32 × Hp) (pc : Nat) (L : List (Nat × Value)) (st : List Value) (h : Hp) : Prop := G RX5 cX5_hold 4 (some .int) wsX5_hold rmX5_hold S r r' out pc L st h
theorem nX5_hold_X0 : ∀ w ∈ wsX00, w ∈ wsX5_hold := by decide +kernel
theorem nX5_hold_X1 : ∀ w ∈ wsX10, w ∈ wsX5_hold := by decide +kernel
theorem nX5_hold_X5 : ∀ w ∈ wsX50, w ∈ wsX5_hold := by decide +kernel
theorem mX5_hold_135 : Cond.constant RX5 135 (-1000000001) ∈ wsX5_hold := by decide +kernel
theorem mX5_hold_178 : Cond.constant RX5 178 (-1000000003) ∈ wsX5_hold := by decide +kernel
theorem mX5_hold_142 : Cond.fieldLink RX5 142 "LinkedIsles$Chart" "kind" "[I" ∈ wsX5_hold := by decide +kernel
theorem mX5_hold_155 : Cond.fieldLink RX5 155 "LinkedIsles$Bonds" "held" "I" ∈ wsX5_hold := by decide +kernel
theorem mX5_hold_19 : Cond.fieldLink RX5 19 "LinkedIsles" "chart" "LLinkedIsles$Chart;" ∈ wsX5_hold := by decide +kernel
theorem mX5_hold_29 : Cond.fieldLink RX5 29 "LinkedIsles" "now" "LLinkedIsles$Bonds;" ∈ wsX5_hold := by decide +kernel
theorem mX5_hold_39 : Cond.fieldLink RX5 39 "LinkedIsles" "log" "LLinkedIsles$Log;" ∈ wsX5_hold := by decide +kernel
theorem hdX5_hold : yX5_hold.cls ≠ "java/lang/invoke/MethodHandle" ∧ yX5_hold.cls ≠ "java/lang/invoke/VarHandle" ∧ (parseMethodDescriptor yX5_hold.desc).map (fun d => d.parameters.length) = some 2 := by decide +kernel
def jX5_hold_96 (n : Nat) (r : Rf) (v0 : Nat) (v3 : Int32) (s0 : Int32) (h : Hp) : Option (Int32 × Hp) :=
  lE (pI h (r v0 3) 3 s0) (fun (h12 : Hp) => some (v3, h12))
def jX5_hold_49 (n : Nat) (r : Rf) (v0 : Nat) (v1 : Int32) (v2 : Int32) (s0 : Int32) (h : Hp) : Option (Int32 × Hp) :=
  (fX2_note n r (r v0 5) (r v0 3) h).bind (fun (h10 : Hp) => if v2 = 0 then (jX5_hold_96 n r v0 s0 ((h10.1 (r v0 3) 3) &&& ((1 <<< (v1 &&& 31)) ^^^ (-1))) h10) else (jX5_hold_96 n r v0 s0 ((h10.1 (r v0 3) 3) ||| (1 <<< (v1 &&& 31))) h10))
def fX5_hold (n : Nat) (r : Rf) (v0 : Nat) (v1 : Int32) (v2 : Int32) (h : Hp) : Option (Int32 × Hp) :=
  (fX1_hasLink n r (r v0 1) v1 h).bind (fun (x2 : Int32) => if x2 = 0 then (some ((-1000000001), h)) else (ck v1 10 (if (h.1 (r (r v0 1) 3) (Int32.toNatClampNeg v1)) = 3 then ((fX5_has n r (h.1 (r v0 3) 3) v1 h).bind (fun (x7 : Int32) => if x7 = 0 then (jX5_hold_49 n r v0 v1 v2 0 h) else (jX5_hold_49 n r v0 v1 v2 1 h))) else (some ((-1000000003), h)))))
set_option maxHeartbeats 4000000 in
set_option maxRecDepth 100000 in
theorem ujX5_hold_96 {S : Shp} {n : Nat} {r : Rf} {v0 : Nat} {v3 : Int32} {s0 : Int32} {h : Hp} {o : (Int32 × Hp)} (hW : WF S r) (hv0 : S[v0]? = some (5, 11)) (hf : jX5_hold_96 n r v0 v3 s0 h = some o)  : GX5_hold S r r (some o.1, o.2) 96 [(0, .ref v0), (3, .int v3)] [.int s0, .ref (r v0 3)] h := by
  unfold jX5_hold_96 at hf
  refine g_putI cf0 (hW _ _ _ hv0 3 _ rfl) nX5_hold_X0 (j := 3) (by decide) rfl mX5_hold_155 rfl dX5_hold_96 ?_
  refine g_topH (fun h12 eh12 => ?_)
  have hf := lE_s hf eh12
  refine g_iload_n (ps := 1) dX5_hold_99 rfl rfl ?_
  have hf := Option.some.inj hf
  subst hf
  exact g_iret dX5_hold_100
set_option maxHeartbeats 4000000 in
set_option maxRecDepth 100000 in
theorem ujX5_hold_49 {S : Shp} {n : Nat} {r : Rf} {v0 : Nat} {v1 : Int32} {v2 : Int32} {s0 : Int32} {h : Hp} {o : (Int32 × Hp)} (hW : WF S r) (hv0 : S[v0]? = some (5, 11)) (hf : jX5_hold_49 n r v0 v1 v2 s0 h = some o)  : GX5_hold S r r (some o.1, o.2) 49 [(0, .ref v0), (1, .int v1), (2, .int v2)] [.int s0] h := by
  unfold jX5_hold_49 at hf
  refine g_istore_n (L' := [(3, .int s0), (0, .ref v0), (1, .int v1), (2, .int v2)]) dX5_hold_49 rfl (by decide) rfl ?_
  refine g_aload_n (ps := 1) dX5_hold_50 rfl rfl ?_
  refine g_getR cf5 hv0 nX5_hold_X5 (j := 5) (by decide) rfl mX5_hold_39 dX5_hold_51 ?_
  refine g_aload_n (ps := 1) dX5_hold_54 rfl rfl ?_
  refine g_getR cf5 hv0 nX5_hold_X5 (j := 3) (by decide) rfl mX5_hold_29 dX5_hold_55 ?_
  obtain ⟨h10, e9, hf⟩ := bd_s hf
  refine g_callVv (As := [.ref (r v0 3)]) (n := 1) (kX2_note hW (hW _ _ _ hv0 5 _ rfl) (hW _ _ _ hv0 3 _ rfl) e9) gX5_hold_X2_note rfl ⟨rfl, rfl⟩ ⟨rfl, hdX2_note⟩ ⟨Nat.le_of_ble_eq_true rfl, Nat.le_of_ble_eq_true rfl⟩ cf2 (hW _ _ _ hv0 5 _ rfl) rfl rfl (Nat.le_of_ble_eq_true rfl) dX5_hold_58 ?_
  refine g_aload_n (ps := 1) dX5_hold_61 rfl rfl ?_
  refine g_getR cf5 hv0 nX5_hold_X5 (j := 3) (by decide) rfl mX5_hold_29 dX5_hold_62 ?_
  refine g_iload_n (ps := 3) dX5_hold_65 rfl rfl ?_
  refine g_if_eq (tgt := 83) dX5_hold_66 (by decide) (fun c11 => ?_) (fun c11 => ?_)
  · have hf := if_t hf c11
    refine g_aload_n (ps := 1) dX5_hold_83 rfl rfl ?_
    refine g_getR cf5 hv0 nX5_hold_X5 (j := 3) (by decide) rfl mX5_hold_29 dX5_hold_84 ?_
    refine g_getI cf0 (hW _ _ _ hv0 3 _ rfl) nX5_hold_X0 (j := 3) (by decide) rfl mX5_hold_155 dX5_hold_87 ?_
    refine g_iconst (v := 1) dX5_hold_90 (by decide +kernel) ?_
    refine g_iload_n (ps := 2) dX5_hold_91 rfl rfl ?_
    refine g_ishl dX5_hold_92 ?_
    refine g_iconst (v := (-1)) dX5_hold_93 (by decide +kernel) ?_
    refine g_ixor dX5_hold_94 ?_
    refine g_iand dX5_hold_95 ?_
    exact g_pick [1, 0] rfl (ujX5_hold_96 hW hv0 hf)
  · have hf := if_f hf c11
    refine g_aload_n (ps := 1) dX5_hold_69 rfl rfl ?_
    refine g_getR cf5 hv0 nX5_hold_X5 (j := 3) (by decide) rfl mX5_hold_29 dX5_hold_70 ?_
    refine g_getI cf0 (hW _ _ _ hv0 3 _ rfl) nX5_hold_X0 (j := 3) (by decide) rfl mX5_hold_155 dX5_hold_73 ?_
    refine g_iconst (v := 1) dX5_hold_76 (by decide +kernel) ?_
    refine g_iload_n (ps := 2) dX5_hold_77 rfl rfl ?_
    refine g_ishl dX5_hold_78 ?_
    refine g_ior dX5_hold_79 ?_
    refine g_goto (tgt := 96) dX5_hold_80 (by decide) ?_
    exact g_pick [1, 0] rfl (ujX5_hold_96 hW hv0 hf)
set_option maxHeartbeats 4000000 in
set_option maxRecDepth 100000 in
theorem uX5_hold {S : Shp} {n : Nat} {r : Rf} {v0 : Nat} {v1 : Int32} {v2 : Int32} {h : Hp} {o : (Int32 × Hp)} (hW : WF S r) (hv0 : S[v0]? = some (5, 11)) (hf : fX5_hold n r v0 v1 v2 h = some o) : GX5_hold S r r (some o.1, o.2) 0 [(0, .ref v0), (1, .int v1), (2, .int v2)] [] h := by
  unfold fX5_hold at hf
  refine g_aload_n (ps := 0) dX5_hold_0 rfl rfl ?_
  refine g_getR cf5 hv0 nX5_hold_X5 (j := 1) (by decide) rfl mX5_hold_19 dX5_hold_1 ?_
  refine g_iload_n (ps := 1) dX5_hold_4 rfl rfl ?_
  obtain ⟨x2, e1, hf⟩ := bd_s hf
  refine g_callVi (As := [.int v1]) (n := 1) (kX1_hasLink hW (hW _ _ _ hv0 1 _ rfl) e1) gX5_hold_X1_hasLink rfl ⟨rfl, rfl⟩ ⟨rfl, hdX1_hasLink⟩ ⟨Nat.le_of_ble_eq_true rfl, Nat.le_of_ble_eq_true rfl⟩ cf1 (hW _ _ _ hv0 1 _ rfl) rfl rfl (Nat.le_of_ble_eq_true rfl) dX5_hold_5 ?_
  refine g_if_ne (tgt := 14) dX5_hold_8 (by decide) (fun c3 => ?_) (fun c3 => ?_)
  · have hf := if_f hf c3
    refine g_aload_n (ps := 0) dX5_hold_14 rfl rfl ?_
    refine g_getR cf5 hv0 nX5_hold_X5 (j := 1) (by decide) rfl mX5_hold_19 dX5_hold_15 ?_
    refine g_getR cf1 (hW _ _ _ hv0 1 _ rfl) nX5_hold_X1 (j := 3) (by decide) rfl mX5_hold_142 dX5_hold_18 ?_
    refine g_iload_n (ps := 1) dX5_hold_21 rfl rfl ?_
    obtain ⟨z4, hf⟩ := ck_s hf
    refine g_iald (hW _ _ _ (hW _ _ _ hv0 1 _ rfl) 3 _ rfl) z4 dX5_hold_22 ?_
    refine g_iconst (v := 3) dX5_hold_23 (by decide +kernel) ?_
    refine g_icmp_eq (tgt := 30) dX5_hold_24 (by decide) (fun c5 => ?_) (fun c5 => ?_)
    · have hf := if_t hf c5
      refine g_aload_n (ps := 0) dX5_hold_30 rfl rfl ?_
      refine g_getR cf5 hv0 nX5_hold_X5 (j := 3) (by decide) rfl mX5_hold_29 dX5_hold_31 ?_
      refine g_getI cf0 (hW _ _ _ hv0 3 _ rfl) nX5_hold_X0 (j := 3) (by decide) rfl mX5_hold_155 dX5_hold_34 ?_
      refine g_iload_n (ps := 1) dX5_hold_37 rfl rfl ?_
      obtain ⟨x7, e6, hf⟩ := bd_s hf
      refine g_callSi (As := [.int (h.1 (r v0 3) 3), .int v1]) (n := 2) (kX5_has hW  e6) gX5_hold_X5_has rfl ⟨rfl, rfl⟩ hdX5_has ⟨Nat.le_of_ble_eq_true rfl, Nat.le_of_ble_eq_true rfl⟩ rfl rfl (Nat.le_of_ble_eq_true rfl) dX5_hold_38 ?_
      refine g_if_eq (tgt := 48) dX5_hold_41 (by decide) (fun c8 => ?_) (fun c8 => ?_)
      · have hf := if_t hf c8
        refine g_iconst (v := 0) dX5_hold_48 (by decide +kernel) ?_
        exact g_pick [0, 1, 2] rfl (ujX5_hold_49 hW hv0 hf)
      · have hf := if_f hf c8
        refine g_iconst (v := 1) dX5_hold_44 (by decide +kernel) ?_
        refine g_goto (tgt := 49) dX5_hold_45 (by decide) ?_
        exact g_pick [0, 1, 2] rfl (ujX5_hold_49 hW hv0 hf)
    · have hf := if_f hf c5
      refine g_ldc (v := (-1000000003)) mX5_hold_178 dX5_hold_27 ?_
      have hf := Option.some.inj hf
      subst hf
      exact g_iret dX5_hold_29
  · have hf := if_t hf c3
    refine g_ldc (v := (-1000000001)) mX5_hold_135 dX5_hold_11 ?_
    have hf := Option.some.inj hf
    subst hf
    exact g_iret dX5_hold_13
theorem kX5_hold {S : Shp} {n : Nat} {r : Rf} {v0 : Nat} {v1 : Int32} {v2 : Int32} {h : Hp} {o : (Int32 × Hp)} (hW : WF S r) (hv0 : S[v0]? = some (5, 11)) (hf : fX5_hold n r v0 v1 v2 h = some o) : CTi yX5_hold wsX5_hold rmX5_hold S r [.ref v0, .int v1, .int v2] h r o.1 o.2 :=
  cti_of rfl (by decide +kernel) rfl (Nat.le_of_ble_eq_true rfl) rfl (uX5_hold hW hv0 hf)
/-! X5_earn earn -/
def rmX5_earn : Room := { frames := 3, cells := 0, slots := 0, locals := 84 }
abbrev GX5_earn (S : Shp) (r r' : Rf) (out : Option Int32 × Hp) (pc : Nat) (L : List (Nat × Value)) (st : List Value) (h : Hp) : Prop := G RX5 cX5_earn 2 (some .int) wsX5_earn rmX5_earn S r r' out pc L st h
theorem nX5_earn_X0 : ∀ w ∈ wsX00, w ∈ wsX5_earn := by decide +kernel
theorem nX5_earn_X5 : ∀ w ∈ wsX50, w ∈ wsX5_earn := by decide +kernel
theorem mX5_earn_201 : Cond.methodLink RX5 201 Lib.Math.min.name ∈ wsX5_earn := by decide +kernel
theorem mX5_earn_201_s : Cond.static Lib.Math.min.name ∈ wsX5_earn := by decide +kernel
theorem mX5_earn_201_c : Cond.code Lib.Math.min.name Lib.Math.min.code 2 (some .int) ∈ wsX5_earn := by decide +kernel
theorem mX5_earn_i : Cond.initialized "java/lang/Math" ∈ wsX5_earn := by decide +kernel
theorem mX5_earn_178 : Cond.constant RX5 178 (-1000000003) ∈ wsX5_earn := by decide +kernel
theorem mX5_earn_68 : Cond.constant RX5 68 (-1000000002) ∈ wsX5_earn := by decide +kernel
theorem mX5_earn_104 : Cond.fieldLink RX5 104 "LinkedIsles$Bonds" "silver" "I" ∈ wsX5_earn := by decide +kernel
theorem mX5_earn_19 : Cond.fieldLink RX5 19 "LinkedIsles" "chart" "LLinkedIsles$Chart;" ∈ wsX5_earn := by decide +kernel
theorem mX5_earn_29 : Cond.fieldLink RX5 29 "LinkedIsles" "now" "LLinkedIsles$Bonds;" ∈ wsX5_earn := by decide +kernel
theorem mX5_earn_39 : Cond.fieldLink RX5 39 "LinkedIsles" "log" "LLinkedIsles$Log;" ∈ wsX5_earn := by decide +kernel
theorem hdX5_earn : yX5_earn.cls ≠ "java/lang/invoke/MethodHandle" ∧ yX5_earn.cls ≠ "java/lang/invoke/VarHandle" ∧ (parseMethodDescriptor yX5_earn.desc).map (fun d => d.parameters.length) = some 1 := by decide +kernel
def fX5_earn (n : Nat) (r : Rf) (v0 : Nat) (v1 : Int32) (h : Hp) : Option (Int32 × Hp) :=
  (fX5_isWithin n r v1 1 99 h).bind (fun (x2 : Int32) => if x2 = 0 then (some ((-1000000002), h)) else ((fX1_isThere n r (r v0 1) h).bind (fun (x5 : Int32) => if x5 = 0 then (some ((-1000000003), h)) else ((fX2_note n r (r v0 5) (r v0 3) h).bind (fun (h8 : Hp) => lE (pI h8 (r v0 3) 5 (if 99 < ((h8.1 (r v0 3) 5) + v1) then 99 else ((h8.1 (r v0 3) 5) + v1))) (fun (h9 : Hp) => some ((h9.1 (r v0 3) 5), h9)))))))
set_option maxHeartbeats 4000000 in
set_option maxRecDepth 100000 in
theorem uX5_earn {S : Shp} {n : Nat} {r : Rf} {v0 : Nat} {v1 : Int32} {h : Hp} {o : (Int32 × Hp)} (hW : WF S r) (hv0 : S[v0]? = some (5, 11)) (hf : fX5_earn n r v0 v1 h = some o) : GX5_earn S r r (some o.1, o.2) 0 [(0, .ref v0), (1, .int v1)] [] h := by
  unfold fX5_earn at hf
  refine g_iload_n (ps := 1) dX5_earn_0 rfl rfl ?_
  refine g_iconst (v := 1) dX5_earn_1 (by decide +kernel) ?_
  refine g_bipush (v := 99) dX5_earn_2 (by decide +kernel) ?_
  obtain ⟨x2, e1, hf⟩ := bd_s hf
  refine g_callSi (As := [.int v1, .int 1, .int 99]) (n := 3) (kX5_isWithin hW  e1) gX5_earn_X5_isWithin rfl ⟨rfl, rfl⟩ hdX5_isWithin ⟨Nat.le_of_ble_eq_true rfl, Nat.le_of_ble_eq_true rfl⟩ rfl rfl (Nat.le_of_ble_eq_true rfl) dX5_earn_4 ?_
  refine g_if_ne (tgt := 13) dX5_earn_7 (by decide) (fun c3 => ?_) (fun c3 => ?_)
  · have hf := if_f hf c3
    refine g_aload_n (ps := 0) dX5_earn_13 rfl rfl ?_
    refine g_getR cf5 hv0 nX5_earn_X5 (j := 1) (by decide) rfl mX5_earn_19 dX5_earn_14 ?_
    obtain ⟨x5, e4, hf⟩ := bd_s hf
    refine g_callVi (As := []) (n := 0) (kX1_isThere hW (hW _ _ _ hv0 1 _ rfl) e4) gX5_earn_X1_isThere rfl ⟨rfl, rfl⟩ ⟨rfl, hdX1_isThere⟩ ⟨Nat.le_of_ble_eq_true rfl, Nat.le_of_ble_eq_true rfl⟩ cf1 (hW _ _ _ hv0 1 _ rfl) rfl rfl (Nat.le_of_ble_eq_true rfl) dX5_earn_17 ?_
    refine g_if_ne (tgt := 26) dX5_earn_20 (by decide) (fun c6 => ?_) (fun c6 => ?_)
    · have hf := if_f hf c6
      refine g_aload_n (ps := 0) dX5_earn_26 rfl rfl ?_
      refine g_getR cf5 hv0 nX5_earn_X5 (j := 5) (by decide) rfl mX5_earn_39 dX5_earn_27 ?_
      refine g_aload_n (ps := 0) dX5_earn_30 rfl rfl ?_
      refine g_getR cf5 hv0 nX5_earn_X5 (j := 3) (by decide) rfl mX5_earn_29 dX5_earn_31 ?_
      obtain ⟨h8, e7, hf⟩ := bd_s hf
      refine g_callVv (As := [.ref (r v0 3)]) (n := 1) (kX2_note hW (hW _ _ _ hv0 5 _ rfl) (hW _ _ _ hv0 3 _ rfl) e7) gX5_earn_X2_note rfl ⟨rfl, rfl⟩ ⟨rfl, hdX2_note⟩ ⟨Nat.le_of_ble_eq_true rfl, Nat.le_of_ble_eq_true rfl⟩ cf2 (hW _ _ _ hv0 5 _ rfl) rfl rfl (Nat.le_of_ble_eq_true rfl) dX5_earn_34 ?_
      refine g_aload_n (ps := 0) dX5_earn_37 rfl rfl ?_
      refine g_getR cf5 hv0 nX5_earn_X5 (j := 3) (by decide) rfl mX5_earn_29 dX5_earn_38 ?_
      refine g_aload_n (ps := 0) dX5_earn_41 rfl rfl ?_
      refine g_getR cf5 hv0 nX5_earn_X5 (j := 3) (by decide) rfl mX5_earn_29 dX5_earn_42 ?_
      refine g_getI cf0 (hW _ _ _ hv0 3 _ rfl) nX5_earn_X0 (j := 5) (by decide) rfl mX5_earn_104 dX5_earn_45 ?_
      refine g_iload_n (ps := 1) dX5_earn_48 rfl rfl ?_
      refine g_iadd dX5_earn_49 ?_
      refine g_bipush (v := 99) dX5_earn_50 (by decide +kernel) ?_
      refine g_min mX5_earn_201 mX5_earn_201_s mX5_earn_i mX5_earn_201_c (by decide) (Nat.le_of_ble_eq_true rfl) dX5_earn_52 ?_
      refine g_putI cf0 (hW _ _ _ hv0 3 _ rfl) nX5_earn_X0 (j := 5) (by decide) rfl mX5_earn_104 rfl dX5_earn_55 ?_
      refine g_topH (fun h9 eh9 => ?_)
      have hf := lE_s hf eh9
      refine g_aload_n (ps := 0) dX5_earn_58 rfl rfl ?_
      refine g_getR cf5 hv0 nX5_earn_X5 (j := 3) (by decide) rfl mX5_earn_29 dX5_earn_59 ?_
      refine g_getI cf0 (hW _ _ _ hv0 3 _ rfl) nX5_earn_X0 (j := 5) (by decide) rfl mX5_earn_104 dX5_earn_62 ?_
      have hf := Option.some.inj hf
      subst hf
      exact g_iret dX5_earn_65
    · have hf := if_t hf c6
      refine g_ldc (v := (-1000000003)) mX5_earn_178 dX5_earn_23 ?_
      have hf := Option.some.inj hf
      subst hf
      exact g_iret dX5_earn_25
  · have hf := if_t hf c3
    refine g_ldc (v := (-1000000002)) mX5_earn_68 dX5_earn_10 ?_
    have hf := Option.some.inj hf
    subst hf
    exact g_iret dX5_earn_12
theorem kX5_earn {S : Shp} {n : Nat} {r : Rf} {v0 : Nat} {v1 : Int32} {h : Hp} {o : (Int32 × Hp)} (hW : WF S r) (hv0 : S[v0]? = some (5, 11)) (hf : fX5_earn n r v0 v1 h = some o) : CTi yX5_earn wsX5_earn rmX5_earn S r [.ref v0, .int v1] h r o.1 o.2 :=
  cti_of rfl (by decide +kernel) rfl (Nat.le_of_ble_eq_true rfl) rfl (uX5_earn hW hv0 hf)
/-! X5_drawOf drawOf -/
def rmX5_drawOf : Room := { frames := 0, cells := 0, slots := 0, locals := 0 }
abbrev GX5_drawOf (S : Shp) (r r' : Rf) (out : Option Int32 × Hp) (pc : Nat) (L : List (Nat × Value)) (st : List Value) (h : Hp) : Prop := G RX5 cX5_drawOf 2 (some .int) wsX5_drawOf rmX5_drawOf S r r' out pc L st h
theorem nX5_drawOf_X5 : ∀ w ∈ wsX50, w ∈ wsX5_drawOf := by decide +kernel
theorem mX5_drawOf_303 : Cond.constantLong RX5 303 (1103515245) ∈ wsX5_drawOf := by decide +kernel
theorem mX5_drawOf_305 : Cond.constantLong RX5 305 (12345) ∈ wsX5_drawOf := by decide +kernel
theorem mX5_drawOf_307 : Cond.constantLong RX5 307 (2147483647) ∈ wsX5_drawOf := by decide +kernel
theorem mX5_drawOf_309 : Cond.constant RX5 309 (65536) ∈ wsX5_drawOf := by decide +kernel
theorem mX5_drawOf_61 : Cond.fieldLink RX5 61 "LinkedIsles" "theSeed" "I" ∈ wsX5_drawOf := by decide +kernel
theorem hdX5_drawOf : yX5_drawOf.cls ≠ "java/lang/invoke/MethodHandle" ∧ yX5_drawOf.cls ≠ "java/lang/invoke/VarHandle" ∧ (parseMethodDescriptor yX5_drawOf.desc).map (fun d => d.parameters.length) = some 1 := by decide +kernel
def fX5_drawOf (n : Nat) (r : Rf) (v0 : Nat) (v1 : Int32) (h : Hp) : Option (Int32 × Hp) :=
  lE (pI h v0 10 (Int64.toInt32 ((((Int32.toInt64 (h.1 v0 10)) * 1103515245) + 12345) &&& 2147483647))) (fun (h1 : Hp) => if 1 ≤ v1 then (cz v1 (some ((((h1.1 v0 10) / 65536) - ((h1.1 v0 10) / 65536) / v1 * v1), h1))) else (some (0, h1)))
set_option maxHeartbeats 4000000 in
set_option maxRecDepth 100000 in
theorem uX5_drawOf {S : Shp} {n : Nat} {r : Rf} {v0 : Nat} {v1 : Int32} {h : Hp} {o : (Int32 × Hp)} (hW : WF S r) (hv0 : S[v0]? = some (5, 11)) (hf : fX5_drawOf n r v0 v1 h = some o) : GX5_drawOf S r r (some o.1, o.2) 0 [(0, .ref v0), (1, .int v1)] [] h := by
  unfold fX5_drawOf at hf
  refine g_aload_n (ps := 0) dX5_drawOf_0 rfl rfl ?_
  refine g_aload_n (ps := 0) dX5_drawOf_1 rfl rfl ?_
  refine g_getI cf5 hv0 nX5_drawOf_X5 (j := 10) (by decide) rfl mX5_drawOf_61 dX5_drawOf_2 ?_
  refine g_i2l dX5_drawOf_5 ?_
  refine g_ldc2 (v := 1103515245) mX5_drawOf_303 dX5_drawOf_6 ?_
  refine g_lmul dX5_drawOf_9 ?_
  refine g_ldc2 (v := 12345) mX5_drawOf_305 dX5_drawOf_10 ?_
  refine g_ladd dX5_drawOf_13 ?_
  refine g_ldc2 (v := 2147483647) mX5_drawOf_307 dX5_drawOf_14 ?_
  refine g_land dX5_drawOf_17 ?_
  refine g_l2i dX5_drawOf_18 ?_
  refine g_putI cf5 hv0 nX5_drawOf_X5 (j := 10) (by decide) rfl mX5_drawOf_61 rfl dX5_drawOf_19 ?_
  refine g_topH (fun h1 eh1 => ?_)
  have hf := lE_s hf eh1
  refine g_iload_n (ps := 1) dX5_drawOf_22 rfl rfl ?_
  refine g_iconst (v := 1) dX5_drawOf_23 (by decide +kernel) ?_
  refine g_icmp_ge (tgt := 31) dX5_drawOf_24 (by decide) (fun c2 => ?_) (fun c2 => ?_)
  · have hf := if_t hf c2
    refine g_aload_n (ps := 0) dX5_drawOf_31 rfl rfl ?_
    refine g_getI cf5 hv0 nX5_drawOf_X5 (j := 10) (by decide) rfl mX5_drawOf_61 dX5_drawOf_32 ?_
    refine g_ldcw (v := 65536) mX5_drawOf_309 dX5_drawOf_35 ?_
    refine g_idiv dX5_drawOf_38 (by decide +kernel) ?_
    refine g_iload_n (ps := 1) dX5_drawOf_39 rfl rfl ?_
    obtain ⟨z3, hf⟩ := cz_s hf
    refine g_irem dX5_drawOf_40 z3 ?_
    have hf := Option.some.inj hf
    subst hf
    exact g_iret dX5_drawOf_41
  · have hf := if_f hf c2
    refine g_iconst (v := 0) dX5_drawOf_27 (by decide +kernel) ?_
    refine g_goto (tgt := 41) dX5_drawOf_28 (by decide) ?_
    have hf := Option.some.inj hf
    subst hf
    exact g_iret dX5_drawOf_41
theorem kX5_drawOf {S : Shp} {n : Nat} {r : Rf} {v0 : Nat} {v1 : Int32} {h : Hp} {o : (Int32 × Hp)} (hW : WF S r) (hv0 : S[v0]? = some (5, 11)) (hf : fX5_drawOf n r v0 v1 h = some o) : CTi yX5_drawOf wsX5_drawOf rmX5_drawOf S r [.ref v0, .int v1] h r o.1 o.2 :=
  cti_of rfl (by decide +kernel) rfl (Nat.le_of_ble_eq_true rfl) rfl (uX5_drawOf hW hv0 hf)
/-! X5_drawDeed drawDeed -/
def rmX5_drawDeed : Room := { frames := 2, cells := 0, slots := 0, locals := 44 }
abbrev GX5_drawDeed (S : Shp) (r r' : Rf) (out : Option Int32 × Hp) (pc : Nat) (L : List (Nat × Value)) (st : List Value) (h : Hp) : Prop := G RX5 cX5_drawDeed 3 none wsX5_drawDeed rmX5_drawDeed S r r' out pc L st h
theorem nX5_drawDeed_X0 : ∀ w ∈ wsX00, w ∈ wsX5_drawDeed := by decide +kernel
theorem nX5_drawDeed_X1 : ∀ w ∈ wsX10, w ∈ wsX5_drawDeed := by decide +kernel
theorem nX5_drawDeed_X5 : ∀ w ∈ wsX50, w ∈ wsX5_drawDeed := by decide +kernel
theorem mX5_drawDeed_110 : Cond.fieldLink RX5 110 "LinkedIsles$Bonds" "doneUp" "I" ∈ wsX5_drawDeed := by decide +kernel
theorem mX5_drawDeed_117 : Cond.fieldLink RX5 117 "LinkedIsles$Bonds" "turned" "I" ∈ wsX5_drawDeed := by decide +kernel
theorem mX5_drawDeed_19 : Cond.fieldLink RX5 19 "LinkedIsles" "chart" "LLinkedIsles$Chart;" ∈ wsX5_drawDeed := by decide +kernel
theorem mX5_drawDeed_29 : Cond.fieldLink RX5 29 "LinkedIsles" "now" "LLinkedIsles$Bonds;" ∈ wsX5_drawDeed := by decide +kernel
theorem mX5_drawDeed_89 : Cond.fieldLink RX5 89 "LinkedIsles$Chart" "links" "I" ∈ wsX5_drawDeed := by decide +kernel
theorem hdX5_drawDeed : yX5_drawDeed.cls ≠ "java/lang/invoke/MethodHandle" ∧ yX5_drawDeed.cls ≠ "java/lang/invoke/VarHandle" ∧ (parseMethodDescriptor yX5_drawDeed.desc).map (fun d => d.parameters.length) = some 0 := by decide +kernel
def fX5_drawDeed (n : Nat) (r : Rf) (v0 : Nat) (h : Hp) : Option Hp :=
  bd2 (fX5_drawOf n r v0 6 h) (fun (x2 : Int32) (h3 : Hp) => if x2 ≤ 2 then (bd2 (fX5_drawOf n r v0 (h3.1 (r v0 1) 10) h3) (fun (x6 : Int32) (h7 : Hp) => if x2 = 0 then (lE (pI h7 (r v0 3) 1 ((h7.1 (r v0 3) 1) &&& ((1 <<< (x6 &&& 31)) ^^^ (-1)))) (fun (h15 : Hp) => some h15)) else (if x2 = 2 then (lE (pI h7 (r v0 3) 2 ((h7.1 (r v0 3) 2) ^^^ (1 <<< (x6 &&& 31)))) (fun (h14 : Hp) => some h14)) else ((fX0_canBeDoneUp n r (r v0 3) (r v0 1) x6 h7).bind (fun (x11 : Int32) => if x11 = 0 then (some h7) else (lE (pI h7 (r v0 3) 1 ((h7.1 (r v0 3) 1) ||| (1 <<< (x6 &&& 31)))) (fun (h13 : Hp) => some h13))))))) else (some h3))
set_option maxHeartbeats 4000000 in
set_option maxRecDepth 100000 in
theorem uX5_drawDeed {S : Shp} {n : Nat} {r : Rf} {v0 : Nat} {h : Hp} {o : Hp} (hW : WF S r) (hv0 : S[v0]? = some (5, 11)) (hf : fX5_drawDeed n r v0 h = some o) : GX5_drawDeed S r r (none, o) 0 [(0, .ref v0)] [] h := by
  unfold fX5_drawDeed at hf
  refine g_aload_n (ps := 0) dX5_drawDeed_0 rfl rfl ?_
  refine g_bipush (v := 6) dX5_drawDeed_1 (by decide +kernel) ?_
  obtain ⟨x2, h3, e1, hf⟩ := bd2_s hf
  refine g_callVi (As := [.int 6]) (n := 1) (kX5_drawOf hW hv0 e1) gX5_drawDeed_X5_drawOf rfl ⟨rfl, rfl⟩ ⟨rfl, hdX5_drawOf⟩ ⟨Nat.le_of_ble_eq_true rfl, Nat.le_of_ble_eq_true rfl⟩ cf5 hv0 rfl rfl (Nat.le_of_ble_eq_true rfl) dX5_drawDeed_3 ?_
  refine g_istore_n (L' := [(1, .int x2), (0, .ref v0)]) dX5_drawDeed_6 rfl (by decide) rfl ?_
  refine g_iload_n (ps := 0) dX5_drawDeed_7 rfl rfl ?_
  refine g_iconst (v := 2) dX5_drawDeed_8 (by decide +kernel) ?_
  refine g_icmp_le (tgt := 13) dX5_drawDeed_9 (by decide) (fun c4 => ?_) (fun c4 => ?_)
  · have hf := if_t hf c4
    refine g_aload_n (ps := 1) dX5_drawDeed_13 rfl rfl ?_
    refine g_aload_n (ps := 1) dX5_drawDeed_14 rfl rfl ?_
    refine g_getR cf5 hv0 nX5_drawDeed_X5 (j := 1) (by decide) rfl mX5_drawDeed_19 dX5_drawDeed_15 ?_
    refine g_getI cf1 (hW _ _ _ hv0 1 _ rfl) nX5_drawDeed_X1 (j := 10) (by decide) rfl mX5_drawDeed_89 dX5_drawDeed_18 ?_
    obtain ⟨x6, h7, e5, hf⟩ := bd2_s hf
    refine g_callVi (As := [.int (h3.1 (r v0 1) 10)]) (n := 1) (kX5_drawOf hW hv0 e5) gX5_drawDeed_X5_drawOf rfl ⟨rfl, rfl⟩ ⟨rfl, hdX5_drawOf⟩ ⟨Nat.le_of_ble_eq_true rfl, Nat.le_of_ble_eq_true rfl⟩ cf5 hv0 rfl rfl (Nat.le_of_ble_eq_true rfl) dX5_drawDeed_21 ?_
    refine g_istore_n (L' := [(2, .int x6), (1, .int x2), (0, .ref v0)]) dX5_drawDeed_24 rfl (by decide) rfl ?_
    refine g_iload_n (ps := 1) dX5_drawDeed_25 rfl rfl ?_
    refine g_if_ne (tgt := 49) dX5_drawDeed_26 (by decide) (fun c8 => ?_) (fun c8 => ?_)
    · have hf := if_f hf c8
      refine g_iload_n (ps := 1) dX5_drawDeed_49 rfl rfl ?_
      refine g_iconst (v := 2) dX5_drawDeed_50 (by decide +kernel) ?_
      refine g_icmp_ne (tgt := 72) dX5_drawDeed_51 (by decide) (fun c9 => ?_) (fun c9 => ?_)
      · have hf := if_f hf c9
        refine g_aload_n (ps := 2) dX5_drawDeed_72 rfl rfl ?_
        refine g_getR cf5 hv0 nX5_drawDeed_X5 (j := 3) (by decide) rfl mX5_drawDeed_29 dX5_drawDeed_73 ?_
        refine g_aload_n (ps := 2) dX5_drawDeed_76 rfl rfl ?_
        refine g_getR cf5 hv0 nX5_drawDeed_X5 (j := 1) (by decide) rfl mX5_drawDeed_19 dX5_drawDeed_77 ?_
        refine g_iload_n (ps := 0) dX5_drawDeed_80 rfl rfl ?_
        obtain ⟨x11, e10, hf⟩ := bd_s hf
        refine g_callVi (As := [.ref (r v0 1), .int x6]) (n := 2) (kX0_canBeDoneUp hW (hW _ _ _ hv0 3 _ rfl) (hW _ _ _ hv0 1 _ rfl) e10) gX5_drawDeed_X0_canBeDoneUp rfl ⟨rfl, rfl⟩ ⟨rfl, hdX0_canBeDoneUp⟩ ⟨Nat.le_of_ble_eq_true rfl, Nat.le_of_ble_eq_true rfl⟩ cf0 (hW _ _ _ hv0 3 _ rfl) rfl rfl (Nat.le_of_ble_eq_true rfl) dX5_drawDeed_81 ?_
        refine g_if_eq (tgt := 102) dX5_drawDeed_84 (by decide) (fun c12 => ?_) (fun c12 => ?_)
        · have hf := if_t hf c12
          have hf := Option.some.inj hf
          subst hf
          exact g_vret dX5_drawDeed_102
        · have hf := if_f hf c12
          refine g_aload_n (ps := 2) dX5_drawDeed_87 rfl rfl ?_
          refine g_getR cf5 hv0 nX5_drawDeed_X5 (j := 3) (by decide) rfl mX5_drawDeed_29 dX5_drawDeed_88 ?_
          refine g_dup dX5_drawDeed_91 rfl ?_
          refine g_getI cf0 (hW _ _ _ hv0 3 _ rfl) nX5_drawDeed_X0 (j := 1) (by decide) rfl mX5_drawDeed_110 dX5_drawDeed_92 ?_
          refine g_iconst (v := 1) dX5_drawDeed_95 (by decide +kernel) ?_
          refine g_iload_n (ps := 0) dX5_drawDeed_96 rfl rfl ?_
          refine g_ishl dX5_drawDeed_97 ?_
          refine g_ior dX5_drawDeed_98 ?_
          refine g_putI cf0 (hW _ _ _ hv0 3 _ rfl) nX5_drawDeed_X0 (j := 1) (by decide) rfl mX5_drawDeed_110 rfl dX5_drawDeed_99 ?_
          refine g_topH (fun h13 eh13 => ?_)
          have hf := lE_s hf eh13
          have hf := Option.some.inj hf
          subst hf
          exact g_vret dX5_drawDeed_102
      · have hf := if_t hf c9
        refine g_aload_n (ps := 2) dX5_drawDeed_54 rfl rfl ?_
        refine g_getR cf5 hv0 nX5_drawDeed_X5 (j := 3) (by decide) rfl mX5_drawDeed_29 dX5_drawDeed_55 ?_
        refine g_dup dX5_drawDeed_58 rfl ?_
        refine g_getI cf0 (hW _ _ _ hv0 3 _ rfl) nX5_drawDeed_X0 (j := 2) (by decide) rfl mX5_drawDeed_117 dX5_drawDeed_59 ?_
        refine g_iconst (v := 1) dX5_drawDeed_62 (by decide +kernel) ?_
        refine g_iload_n (ps := 0) dX5_drawDeed_63 rfl rfl ?_
        refine g_ishl dX5_drawDeed_64 ?_
        refine g_ixor dX5_drawDeed_65 ?_
        refine g_putI cf0 (hW _ _ _ hv0 3 _ rfl) nX5_drawDeed_X0 (j := 2) (by decide) rfl mX5_drawDeed_117 rfl dX5_drawDeed_66 ?_
        refine g_topH (fun h14 eh14 => ?_)
        have hf := lE_s hf eh14
        refine g_goto (tgt := 102) dX5_drawDeed_69 (by decide) ?_
        have hf := Option.some.inj hf
        subst hf
        exact g_vret dX5_drawDeed_102
    · have hf := if_t hf c8
      refine g_aload_n (ps := 2) dX5_drawDeed_29 rfl rfl ?_
      refine g_getR cf5 hv0 nX5_drawDeed_X5 (j := 3) (by decide) rfl mX5_drawDeed_29 dX5_drawDeed_30 ?_
      refine g_dup dX5_drawDeed_33 rfl ?_
      refine g_getI cf0 (hW _ _ _ hv0 3 _ rfl) nX5_drawDeed_X0 (j := 1) (by decide) rfl mX5_drawDeed_110 dX5_drawDeed_34 ?_
      refine g_iconst (v := 1) dX5_drawDeed_37 (by decide +kernel) ?_
      refine g_iload_n (ps := 0) dX5_drawDeed_38 rfl rfl ?_
      refine g_ishl dX5_drawDeed_39 ?_
      refine g_iconst (v := (-1)) dX5_drawDeed_40 (by decide +kernel) ?_
      refine g_ixor dX5_drawDeed_41 ?_
      refine g_iand dX5_drawDeed_42 ?_
      refine g_putI cf0 (hW _ _ _ hv0 3 _ rfl) nX5_drawDeed_X0 (j := 1) (by decide) rfl mX5_drawDeed_110 rfl dX5_drawDeed_43 ?_
      refine g_topH (fun h15 eh15 => ?_)
      have hf := lE_s hf eh15
      refine g_goto (tgt := 102) dX5_drawDeed_46 (by decide) ?_
      have hf := Option.some.inj hf
      subst hf
      exact g_vret dX5_drawDeed_102
  · have hf := if_f hf c4
    have hf := Option.some.inj hf
    subst hf
    exact g_vret dX5_drawDeed_12
theorem kX5_drawDeed {S : Shp} {n : Nat} {r : Rf} {v0 : Nat} {h : Hp} {o : Hp} (hW : WF S r) (hv0 : S[v0]? = some (5, 11)) (hf : fX5_drawDeed n r v0 h = some o) : CTv yX5_drawDeed wsX5_drawDeed rmX5_drawDeed S r [.ref v0] h r o :=
  ctv_of rfl (by decide +kernel) rfl (Nat.le_of_ble_eq_true rfl) rfl (uX5_drawDeed hW hv0 hf)
/-! X5_drift drift -/
def rmX5_drift : Room := { frames := 3, cells := 0, slots := 0, locals := 84 }
abbrev GX5_drift (S : Shp) (r r' : Rf) (out : Option Int32 × Hp) (pc : Nat) (L : List (Nat × Value)) (st : List Value) (h : Hp) : Prop := G RX5 cX5_drift 4 (some .int) wsX5_drift rmX5_drift S r r' out pc L st h
theorem nX5_drift_X0 : ∀ w ∈ wsX00, w ∈ wsX5_drift := by decide +kernel
theorem nX5_drift_X1 : ∀ w ∈ wsX10, w ∈ wsX5_drift := by decide +kernel
theorem nX5_drift_X5 : ∀ w ∈ wsX50, w ∈ wsX5_drift := by decide +kernel
theorem mX5_drift_110 : Cond.fieldLink RX5 110 "LinkedIsles$Bonds" "doneUp" "I" ∈ wsX5_drift := by decide +kernel
theorem mX5_drift_19 : Cond.fieldLink RX5 19 "LinkedIsles" "chart" "LLinkedIsles$Chart;" ∈ wsX5_drift := by decide +kernel
theorem mX5_drift_29 : Cond.fieldLink RX5 29 "LinkedIsles" "now" "LLinkedIsles$Bonds;" ∈ wsX5_drift := by decide +kernel
theorem mX5_drift_39 : Cond.fieldLink RX5 39 "LinkedIsles" "log" "LLinkedIsles$Log;" ∈ wsX5_drift := by decide +kernel
theorem mX5_drift_89 : Cond.fieldLink RX5 89 "LinkedIsles$Chart" "links" "I" ∈ wsX5_drift := by decide +kernel
theorem hdX5_drift : yX5_drift.cls ≠ "java/lang/invoke/MethodHandle" ∧ yX5_drift.cls ≠ "java/lang/invoke/VarHandle" ∧ (parseMethodDescriptor yX5_drift.desc).map (fun d => d.parameters.length) = some 1 := by decide +kernel
def jX5_drift_44 (n : Nat) (r : Rf) (v0 : Nat) (v1 : Int32) (v3 : Int32)  (h : Hp) : Option ((Int32 × Hp) ⊕ (Hp)) :=
  bd2 (fX0_passHour n r (r v0 3) (r v0 1) h) (fun (x9 : Int32) (h10 : Hp) => lE (v3 + 1) (fun (x11 : Int32) => some (.inl (x11, h10))))
def bX5_drift_14 (n : Nat) (r : Rf) (v0 : Nat) (v1 : Int32) (v3 : Int32) (h : Hp) : Option ((Int32 × Hp) ⊕ (Hp)) :=
  if v1 ≤ v3 then (some (.inr h)) else ((fX2_note n r (r v0 5) (r v0 3) h).bind (fun (h6 : Hp) => if (h6.1 (r v0 1) 10) ≤ 0 then (jX5_drift_44 n r v0 v1 v3  h6) else ((fX5_drawDeed n r v0 h6).bind (fun (h13 : Hp) => jX5_drift_44 n r v0 v1 v3  h13))))
def lX5_drift_14 (n : Nat) (r : Rf) (v0 : Nat) (v1 : Int32) (v3 : Int32) (h : Hp) : Option (Int32 × Hp) :=
  (it (fun (s : Int32 × Hp) => bX5_drift_14 n r v0 v1 s.1 s.2) n (v3, h)).bind (fun z => some ((z.1 (r v0 3) 1), z))
def fX5_drift (n : Nat) (r : Rf) (v0 : Nat) (v1 : Int32) (h : Hp) : Option (Int32 × Hp) :=
  (fX5_refusalOfHours n r v0 v1 h).bind (fun (x2 : Int32) => if x2 = 0 then (lX5_drift_14 n r v0 v1 0 h) else (some (x2, h)))
set_option maxHeartbeats 4000000 in
set_option maxRecDepth 100000 in
theorem ujX5_drift_44 {S : Shp} {n : Nat} {r : Rf} {out : Option Int32 × Hp} {r' : Rf} {v0 : Nat} {v1 : Int32} {v3 : Int32}  {h : Hp} {w : (Int32 × Hp) ⊕ (Hp)} (hW : WF S r) (hv0 : S[v0]? = some (5, 11)) (hf : jX5_drift_44 n r v0 v1 v3  h = some w) (hk : ∀ y, w = .inl y → GX5_drift S r r' out 14 [(0, .ref v0), (1, .int v1), (3, .int (y.1))] [] (y.2)) (he : ∀ z, w = .inr z → GX5_drift S r r' out 62 [(0, .ref v0)] [] (z)) : GX5_drift S r r' out 44 [(0, .ref v0), (1, .int v1), (3, .int v3)] [] h := by
  unfold jX5_drift_44 at hf
  refine g_aload_n (ps := 0) dX5_drift_44 rfl rfl ?_
  refine g_getR cf5 hv0 nX5_drift_X5 (j := 3) (by decide) rfl mX5_drift_29 dX5_drift_45 ?_
  refine g_aload_n (ps := 0) dX5_drift_48 rfl rfl ?_
  refine g_getR cf5 hv0 nX5_drift_X5 (j := 1) (by decide) rfl mX5_drift_19 dX5_drift_49 ?_
  obtain ⟨x9, h10, e8, hf⟩ := bd2_s hf
  refine g_callVi (As := [.ref (r v0 1)]) (n := 1) (kX0_passHour hW (hW _ _ _ hv0 3 _ rfl) (hW _ _ _ hv0 1 _ rfl) e8) gX5_drift_X0_passHour rfl ⟨rfl, rfl⟩ ⟨rfl, hdX0_passHour⟩ ⟨Nat.le_of_ble_eq_true rfl, Nat.le_of_ble_eq_true rfl⟩ cf0 (hW _ _ _ hv0 3 _ rfl) rfl rfl (Nat.le_of_ble_eq_true rfl) dX5_drift_52 ?_
  refine g_pop dX5_drift_55 rfl ?_
  obtain ⟨x11, ex11⟩ : ∃ y : Int32, y = v3 + 1 := ⟨_, rfl⟩
  have hf := lE_s hf ex11
  refine g_iinc (ps := 2) (v := x11) (L' := [(3, .int x11), (0, .ref v0), (1, .int v1)]) dX5_drift_56 rfl (by rw [ex11]; rfl) (by decide) rfl ?_
  refine g_goto (tgt := 14) dX5_drift_59 (by decide) ?_
  exact g_pick [1, 2, 0] rfl (hk _ (Option.some.inj hf).symm)
set_option maxHeartbeats 4000000 in
set_option maxRecDepth 100000 in
theorem ubX5_drift_14 {S : Shp} {n : Nat} {r : Rf} {out : Option Int32 × Hp} {r' : Rf} {v0 : Nat} {v1 : Int32} {v3 : Int32}  {h : Hp} {w : (Int32 × Hp) ⊕ (Hp)} (hW : WF S r) (hv0 : S[v0]? = some (5, 11)) (hf : bX5_drift_14 n r v0 v1 v3 h = some w) (hk : ∀ y, w = .inl y → GX5_drift S r r' out 14 [(0, .ref v0), (1, .int v1), (3, .int (y.1))] [] (y.2)) (he : ∀ z, w = .inr z → GX5_drift S r r' out 62 [(0, .ref v0)] [] (z)) : GX5_drift S r r' out 14 [(0, .ref v0), (1, .int v1), (3, .int v3)] [] h := by
  unfold bX5_drift_14 at hf
  refine g_iload_n (ps := 2) dX5_drift_14 rfl rfl ?_
  refine g_iload_n (ps := 1) dX5_drift_15 rfl rfl ?_
  refine g_icmp_ge (tgt := 62) dX5_drift_16 (by decide) (fun c4 => ?_) (fun c4 => ?_)
  · have hf := if_t hf c4
    exact g_pick [0] rfl (he _ (Option.some.inj hf).symm)
  · have hf := if_f hf c4
    refine g_aload_n (ps := 0) dX5_drift_19 rfl rfl ?_
    refine g_getR cf5 hv0 nX5_drift_X5 (j := 5) (by decide) rfl mX5_drift_39 dX5_drift_20 ?_
    refine g_aload_n (ps := 0) dX5_drift_23 rfl rfl ?_
    refine g_getR cf5 hv0 nX5_drift_X5 (j := 3) (by decide) rfl mX5_drift_29 dX5_drift_24 ?_
    obtain ⟨h6, e5, hf⟩ := bd_s hf
    refine g_callVv (As := [.ref (r v0 3)]) (n := 1) (kX2_note hW (hW _ _ _ hv0 5 _ rfl) (hW _ _ _ hv0 3 _ rfl) e5) gX5_drift_X2_note rfl ⟨rfl, rfl⟩ ⟨rfl, hdX2_note⟩ ⟨Nat.le_of_ble_eq_true rfl, Nat.le_of_ble_eq_true rfl⟩ cf2 (hW _ _ _ hv0 5 _ rfl) rfl rfl (Nat.le_of_ble_eq_true rfl) dX5_drift_27 ?_
    refine g_aload_n (ps := 0) dX5_drift_30 rfl rfl ?_
    refine g_getR cf5 hv0 nX5_drift_X5 (j := 1) (by decide) rfl mX5_drift_19 dX5_drift_31 ?_
    refine g_getI cf1 (hW _ _ _ hv0 1 _ rfl) nX5_drift_X1 (j := 10) (by decide) rfl mX5_drift_89 dX5_drift_34 ?_
    refine g_if_le (tgt := 44) dX5_drift_37 (by decide) (fun c7 => ?_) (fun c7 => ?_)
    · have hf := if_t hf c7
      exact g_pick [0, 1, 2] rfl (ujX5_drift_44 hW hv0 hf hk he)
    · have hf := if_f hf c7
      refine g_aload_n (ps := 0) dX5_drift_40 rfl rfl ?_
      obtain ⟨h13, e12, hf⟩ := bd_s hf
      refine g_callVv (As := []) (n := 0) (kX5_drawDeed hW hv0 e12) gX5_drift_X5_drawDeed rfl ⟨rfl, rfl⟩ ⟨rfl, hdX5_drawDeed⟩ ⟨Nat.le_of_ble_eq_true rfl, Nat.le_of_ble_eq_true rfl⟩ cf5 hv0 rfl rfl (Nat.le_of_ble_eq_true rfl) dX5_drift_41 ?_
      exact g_pick [0, 1, 2] rfl (ujX5_drift_44 hW hv0 hf hk he)
set_option maxHeartbeats 4000000 in
set_option maxRecDepth 100000 in
theorem ulX5_drift_14 {S : Shp} {n : Nat} {r : Rf} {v0 : Nat} {v1 : Int32} {v3 : Int32}  {h : Hp} {o : (Int32 × Hp)} (hW : WF S r) (hv0 : S[v0]? = some (5, 11)) (hf : lX5_drift_14 n r v0 v1 v3 h = some o)  : GX5_drift S r r (some o.1, o.2) 14 [(0, .ref v0), (1, .int v1), (3, .int v3)] [] h := by
  unfold lX5_drift_14 at hf
  obtain ⟨z0, ei, hf⟩ := bd_s hf
  refine it_ind (P := fun (s : Int32 × Hp) => GX5_drift S r r (some o.1, o.2) 14 [(0, .ref v0), (1, .int v1), (3, .int (s.1))] [] (s.2)) (fun s w hb hk2 he2 => ?_) n _ ei
  refine ubX5_drift_14 (out := (some o.1, o.2)) (r' := r) hW hv0 hb hk2 (fun z hz => ?_)
  have hz := he2 z hz
  subst hz
  refine g_aload_n (ps := 0) dX5_drift_62 rfl rfl ?_
  refine g_getR cf5 hv0 nX5_drift_X5 (j := 3) (by decide) rfl mX5_drift_29 dX5_drift_63 ?_
  refine g_getI cf0 (hW _ _ _ hv0 3 _ rfl) nX5_drift_X0 (j := 1) (by decide) rfl mX5_drift_110 dX5_drift_66 ?_
  have hf := Option.some.inj hf
  subst hf
  exact g_iret dX5_drift_69
set_option maxHeartbeats 4000000 in
set_option maxRecDepth 100000 in
theorem uX5_drift {S : Shp} {n : Nat} {r : Rf} {v0 : Nat} {v1 : Int32} {h : Hp} {o : (Int32 × Hp)} (hW : WF S r) (hv0 : S[v0]? = some (5, 11)) (hf : fX5_drift n r v0 v1 h = some o) : GX5_drift S r r (some o.1, o.2) 0 [(0, .ref v0), (1, .int v1)] [] h := by
  unfold fX5_drift at hf
  refine g_aload_n (ps := 0) dX5_drift_0 rfl rfl ?_
  refine g_iload_n (ps := 1) dX5_drift_1 rfl rfl ?_
  obtain ⟨x2, e1, hf⟩ := bd_s hf
  refine g_callVi (As := [.int v1]) (n := 1) (kX5_refusalOfHours hW hv0 e1) gX5_drift_X5_refusalOfHours rfl ⟨rfl, rfl⟩ ⟨rfl, hdX5_refusalOfHours⟩ ⟨Nat.le_of_ble_eq_true rfl, Nat.le_of_ble_eq_true rfl⟩ cf5 hv0 rfl rfl (Nat.le_of_ble_eq_true rfl) dX5_drift_2 ?_
  refine g_istore_n (L' := [(2, .int x2), (0, .ref v0), (1, .int v1)]) dX5_drift_5 rfl (by decide) rfl ?_
  refine g_iload_n (ps := 0) dX5_drift_6 rfl rfl ?_
  refine g_if_eq (tgt := 12) dX5_drift_7 (by decide) (fun c3 => ?_) (fun c3 => ?_)
  · have hf := if_t hf c3
    refine g_iconst (v := 0) dX5_drift_12 (by decide +kernel) ?_
    refine g_istore_n (L' := [(3, .int 0), (2, .int x2), (0, .ref v0), (1, .int v1)]) dX5_drift_13 rfl (by decide) rfl ?_
    exact g_pick [2, 3, 0] rfl (ulX5_drift_14 hW hv0 hf)
  · have hf := if_f hf c3
    refine g_iload_n (ps := 0) dX5_drift_10 rfl rfl ?_
    have hf := Option.some.inj hf
    subst hf
    exact g_iret dX5_drift_11
theorem kX5_drift {S : Shp} {n : Nat} {r : Rf} {v0 : Nat} {v1 : Int32} {h : Hp} {o : (Int32 × Hp)} (hW : WF S r) (hv0 : S[v0]? = some (5, 11)) (hf : fX5_drift n r v0 v1 h = some o) : CTi yX5_drift wsX5_drift rmX5_drift S r [.ref v0, .int v1] h r o.1 o.2 :=
  cti_of rfl (by decide +kernel) rfl (Nat.le_of_ble_eq_true rfl) rfl (uX5_drift hW hv0 hf)
/-! X5_undo undo -/
def rmX5_undo : Room := { frames := 3, cells := 0, slots := 0, locals := 85 }
abbrev GX5_undo (S : Shp) (r r' : Rf) (out : Option Int32 × Hp) (pc : Nat) (L : List (Nat × Value)) (st : List Value) (h : Hp) : Prop := G RX5 cX5_undo 2 (some .int) wsX5_undo rmX5_undo S r r' out pc L st h
theorem nX5_undo_X0 : ∀ w ∈ wsX00, w ∈ wsX5_undo := by decide +kernel
theorem nX5_undo_X2 : ∀ w ∈ wsX20, w ∈ wsX5_undo := by decide +kernel
theorem nX5_undo_X5 : ∀ w ∈ wsX50, w ∈ wsX5_undo := by decide +kernel
theorem mX5_undo_178 : Cond.constant RX5 178 (-1000000003) ∈ wsX5_undo := by decide +kernel
theorem mX5_undo_68 : Cond.constant RX5 68 (-1000000002) ∈ wsX5_undo := by decide +kernel
theorem mX5_undo_101 : Cond.fieldLink RX5 101 "LinkedIsles$Bonds" "hours" "I" ∈ wsX5_undo := by decide +kernel
theorem mX5_undo_130 : Cond.fieldLink RX5 130 "LinkedIsles$Log" "count" "I" ∈ wsX5_undo := by decide +kernel
theorem mX5_undo_29 : Cond.fieldLink RX5 29 "LinkedIsles" "now" "LLinkedIsles$Bonds;" ∈ wsX5_undo := by decide +kernel
theorem mX5_undo_39 : Cond.fieldLink RX5 39 "LinkedIsles" "log" "LLinkedIsles$Log;" ∈ wsX5_undo := by decide +kernel
theorem hdX5_undo : yX5_undo.cls ≠ "java/lang/invoke/MethodHandle" ∧ yX5_undo.cls ≠ "java/lang/invoke/VarHandle" ∧ (parseMethodDescriptor yX5_undo.desc).map (fun d => d.parameters.length) = some 1 := by decide +kernel
def fX5_undo (n : Nat) (r : Rf) (v0 : Nat) (v1 : Int32) (h : Hp) : Option (Int32 × Hp) :=
  (fX5_isWithin n r v1 1 30 h).bind (fun (x2 : Int32) => if x2 = 0 then (some ((-1000000002), h)) else (if v1 ≤ (h.1 (r v0 5) 2) then ((fX2_takeBack n r (r v0 5) v1 (r v0 3) h).bind (fun (h6 : Hp) => some ((h6.1 (r v0 3) 4), h6))) else (some ((-1000000003), h))))
set_option maxHeartbeats 4000000 in
set_option maxRecDepth 100000 in
theorem uX5_undo {S : Shp} {n : Nat} {r : Rf} {v0 : Nat} {v1 : Int32} {h : Hp} {o : (Int32 × Hp)} (hW : WF S r) (hv0 : S[v0]? = some (5, 11)) (hf : fX5_undo n r v0 v1 h = some o) : GX5_undo S r r (some o.1, o.2) 0 [(0, .ref v0), (1, .int v1)] [] h := by
  unfold fX5_undo at hf
  refine g_iload_n (ps := 1) dX5_undo_0 rfl rfl ?_
  refine g_iconst (v := 1) dX5_undo_1 (by decide +kernel) ?_
  refine g_bipush (v := 30) dX5_undo_2 (by decide +kernel) ?_
  obtain ⟨x2, e1, hf⟩ := bd_s hf
  refine g_callSi (As := [.int v1, .int 1, .int 30]) (n := 3) (kX5_isWithin hW  e1) gX5_undo_X5_isWithin rfl ⟨rfl, rfl⟩ hdX5_isWithin ⟨Nat.le_of_ble_eq_true rfl, Nat.le_of_ble_eq_true rfl⟩ rfl rfl (Nat.le_of_ble_eq_true rfl) dX5_undo_4 ?_
  refine g_if_ne (tgt := 13) dX5_undo_7 (by decide) (fun c3 => ?_) (fun c3 => ?_)
  · have hf := if_f hf c3
    refine g_iload_n (ps := 1) dX5_undo_13 rfl rfl ?_
    refine g_aload_n (ps := 0) dX5_undo_14 rfl rfl ?_
    refine g_getR cf5 hv0 nX5_undo_X5 (j := 5) (by decide) rfl mX5_undo_39 dX5_undo_15 ?_
    refine g_getI cf2 (hW _ _ _ hv0 5 _ rfl) nX5_undo_X2 (j := 2) (by decide) rfl mX5_undo_130 dX5_undo_18 ?_
    refine g_icmp_le (tgt := 27) dX5_undo_21 (by decide) (fun c4 => ?_) (fun c4 => ?_)
    · have hf := if_t hf c4
      refine g_aload_n (ps := 0) dX5_undo_27 rfl rfl ?_
      refine g_getR cf5 hv0 nX5_undo_X5 (j := 5) (by decide) rfl mX5_undo_39 dX5_undo_28 ?_
      refine g_iload_n (ps := 1) dX5_undo_31 rfl rfl ?_
      refine g_aload_n (ps := 0) dX5_undo_32 rfl rfl ?_
      refine g_getR cf5 hv0 nX5_undo_X5 (j := 3) (by decide) rfl mX5_undo_29 dX5_undo_33 ?_
      obtain ⟨h6, e5, hf⟩ := bd_s hf
      refine g_callVv (As := [.int v1, .ref (r v0 3)]) (n := 2) (kX2_takeBack hW (hW _ _ _ hv0 5 _ rfl) (hW _ _ _ hv0 3 _ rfl) e5) gX5_undo_X2_takeBack rfl ⟨rfl, rfl⟩ ⟨rfl, hdX2_takeBack⟩ ⟨Nat.le_of_ble_eq_true rfl, Nat.le_of_ble_eq_true rfl⟩ cf2 (hW _ _ _ hv0 5 _ rfl) rfl rfl (Nat.le_of_ble_eq_true rfl) dX5_undo_36 ?_
      refine g_aload_n (ps := 0) dX5_undo_39 rfl rfl ?_
      refine g_getR cf5 hv0 nX5_undo_X5 (j := 3) (by decide) rfl mX5_undo_29 dX5_undo_40 ?_
      refine g_getI cf0 (hW _ _ _ hv0 3 _ rfl) nX5_undo_X0 (j := 4) (by decide) rfl mX5_undo_101 dX5_undo_43 ?_
      have hf := Option.some.inj hf
      subst hf
      exact g_iret dX5_undo_46
    · have hf := if_f hf c4
      refine g_ldc (v := (-1000000003)) mX5_undo_178 dX5_undo_24 ?_
      have hf := Option.some.inj hf
      subst hf
      exact g_iret dX5_undo_26
  · have hf := if_t hf c3
    refine g_ldc (v := (-1000000002)) mX5_undo_68 dX5_undo_10 ?_
    have hf := Option.some.inj hf
    subst hf
    exact g_iret dX5_undo_12
theorem kX5_undo {S : Shp} {n : Nat} {r : Rf} {v0 : Nat} {v1 : Int32} {h : Hp} {o : (Int32 × Hp)} (hW : WF S r) (hv0 : S[v0]? = some (5, 11)) (hf : fX5_undo n r v0 v1 h = some o) : CTi yX5_undo wsX5_undo rmX5_undo S r [.ref v0, .int v1] h r o.1 o.2 :=
  cti_of rfl (by decide +kernel) rfl (Nat.le_of_ble_eq_true rfl) rfl (uX5_undo hW hv0 hf)
/-! X5_hoursUntilBreak hoursUntilBreak -/
def rmX5_hoursUntilBreak : Room := { frames := 3, cells := 0, slots := 0, locals := 67 }
abbrev GX5_hoursUntilBreak (S : Shp) (r r' : Rf) (out : Option Int32 × Hp) (pc : Nat) (L : List (Nat × Value)) (st : List Value) (h : Hp) : Prop := G RX5 cX5_hoursUntilBreak 3 (some .int) wsX5_hoursUntilBreak rmX5_hoursUntilBreak S r r' out pc L st h
theorem nX5_hoursUntilBreak_X5 : ∀ w ∈ wsX50, w ∈ wsX5_hoursUntilBreak := by decide +kernel
theorem mX5_hoursUntilBreak_19 : Cond.fieldLink RX5 19 "LinkedIsles" "chart" "LLinkedIsles$Chart;" ∈ wsX5_hoursUntilBreak := by decide +kernel
theorem mX5_hoursUntilBreak_29 : Cond.fieldLink RX5 29 "LinkedIsles" "now" "LLinkedIsles$Bonds;" ∈ wsX5_hoursUntilBreak := by decide +kernel
theorem mX5_hoursUntilBreak_33 : Cond.fieldLink RX5 33 "LinkedIsles" "trial" "LLinkedIsles$Bonds;" ∈ wsX5_hoursUntilBreak := by decide +kernel
theorem hdX5_hoursUntilBreak : yX5_hoursUntilBreak.cls ≠ "java/lang/invoke/MethodHandle" ∧ yX5_hoursUntilBreak.cls ≠ "java/lang/invoke/VarHandle" ∧ (parseMethodDescriptor yX5_hoursUntilBreak.desc).map (fun d => d.parameters.length) = some 1 := by decide +kernel
def bX5_hoursUntilBreak_13 (n : Nat) (r : Rf) (v0 : Nat) (v1 : Int32) (v2 : Int32) (h : Hp) : Option ((Int32 × Hp) ⊕ ((Int32 × Hp) ⊕ (Hp))) :=
  if 200 < v2 then (some (.inr (.inr (h)))) else (bd2 (fX0_passHour n r (r v0 4) (r v0 1) h) (fun (x5 : Int32) (h6 : Hp) => if (x5 &&& v1) = 0 then (lE (v2 + 1) (fun (x8 : Int32) => some (.inl (x8, h6)))) else (some (.inr (.inl (v2, h6))))))
def lX5_hoursUntilBreak_13 (n : Nat) (r : Rf) (v0 : Nat) (v1 : Int32) (v2 : Int32) (h : Hp) : Option (Int32 × Hp) :=
  (it (fun (s : Int32 × Hp) => bX5_hoursUntilBreak_13 n r v0 v1 s.1 s.2) n (v2, h)).bind (fun z => match z with | .inl z => some ((z.1), (z.2)) | .inr z => some ((-1), z))
def fX5_hoursUntilBreak (n : Nat) (r : Rf) (v0 : Nat) (v1 : Int32) (h : Hp) : Option (Int32 × Hp) :=
  (fX0_become n r (r v0 4) (r v0 3) h).bind (fun (h2 : Hp) => lX5_hoursUntilBreak_13 n r v0 v1 1 h2)
set_option maxHeartbeats 4000000 in
set_option maxRecDepth 100000 in
theorem ubX5_hoursUntilBreak_13 {S : Shp} {n : Nat} {r : Rf} {out : Option Int32 × Hp} {r' : Rf} {v0 : Nat} {v1 : Int32} {v2 : Int32}  {h : Hp} {w : (Int32 × Hp) ⊕ ((Int32 × Hp) ⊕ (Hp))} (hW : WF S r) (hv0 : S[v0]? = some (5, 11)) (hf : bX5_hoursUntilBreak_13 n r v0 v1 v2 h = some w) (hk : ∀ y, w = .inl y → GX5_hoursUntilBreak S r r' out 13 [(0, .ref v0), (1, .int v1), (2, .int (y.1))] [] (y.2)) (he : ∀ z, w = .inr z → (match z with | .inl z => GX5_hoursUntilBreak S r r' out 36 [(0, .ref v0), (2, .int (z.1))] [] (z.2) | .inr z => GX5_hoursUntilBreak S r r' out 44 [(0, .ref v0)] [] (z))) : GX5_hoursUntilBreak S r r' out 13 [(0, .ref v0), (1, .int v1), (2, .int v2)] [] h := by
  unfold bX5_hoursUntilBreak_13 at hf
  refine g_iload_n (ps := 2) dX5_hoursUntilBreak_13 rfl rfl ?_
  refine g_sipush (v := 200) dX5_hoursUntilBreak_14 (by decide +kernel) ?_
  refine g_icmp_gt (tgt := 44) dX5_hoursUntilBreak_17 (by decide) (fun c3 => ?_) (fun c3 => ?_)
  · have hf := if_t hf c3
    exact g_pick [0] rfl (he _ (Option.some.inj hf).symm)
  · have hf := if_f hf c3
    refine g_aload_n (ps := 0) dX5_hoursUntilBreak_20 rfl rfl ?_
    refine g_getR cf5 hv0 nX5_hoursUntilBreak_X5 (j := 4) (by decide) rfl mX5_hoursUntilBreak_33 dX5_hoursUntilBreak_21 ?_
    refine g_aload_n (ps := 0) dX5_hoursUntilBreak_24 rfl rfl ?_
    refine g_getR cf5 hv0 nX5_hoursUntilBreak_X5 (j := 1) (by decide) rfl mX5_hoursUntilBreak_19 dX5_hoursUntilBreak_25 ?_
    obtain ⟨x5, h6, e4, hf⟩ := bd2_s hf
    refine g_callVi (As := [.ref (r v0 1)]) (n := 1) (kX0_passHour hW (hW _ _ _ hv0 4 _ rfl) (hW _ _ _ hv0 1 _ rfl) e4) gX5_hoursUntilBreak_X0_passHour rfl ⟨rfl, rfl⟩ ⟨rfl, hdX0_passHour⟩ ⟨Nat.le_of_ble_eq_true rfl, Nat.le_of_ble_eq_true rfl⟩ cf0 (hW _ _ _ hv0 4 _ rfl) rfl rfl (Nat.le_of_ble_eq_true rfl) dX5_hoursUntilBreak_28 ?_
    refine g_iload_n (ps := 1) dX5_hoursUntilBreak_31 rfl rfl ?_
    refine g_iand dX5_hoursUntilBreak_32 ?_
    refine g_if_eq (tgt := 38) dX5_hoursUntilBreak_33 (by decide) (fun c7 => ?_) (fun c7 => ?_)
    · have hf := if_t hf c7
      obtain ⟨x8, ex8⟩ : ∃ y : Int32, y = v2 + 1 := ⟨_, rfl⟩
      have hf := lE_s hf ex8
      refine g_iinc (ps := 2) (v := x8) (L' := [(2, .int x8), (0, .ref v0), (1, .int v1)]) dX5_hoursUntilBreak_38 rfl (by rw [ex8]; rfl) (by decide) rfl ?_
      refine g_goto (tgt := 13) dX5_hoursUntilBreak_41 (by decide) ?_
      exact g_pick [1, 2, 0] rfl (hk _ (Option.some.inj hf).symm)
    · have hf := if_f hf c7
      exact g_pick [0, 2] rfl (he _ (Option.some.inj hf).symm)
set_option maxHeartbeats 4000000 in
set_option maxRecDepth 100000 in
theorem ulX5_hoursUntilBreak_13 {S : Shp} {n : Nat} {r : Rf} {v0 : Nat} {v1 : Int32} {v2 : Int32}  {h : Hp} {o : (Int32 × Hp)} (hW : WF S r) (hv0 : S[v0]? = some (5, 11)) (hf : lX5_hoursUntilBreak_13 n r v0 v1 v2 h = some o)  : GX5_hoursUntilBreak S r r (some o.1, o.2) 13 [(0, .ref v0), (1, .int v1), (2, .int v2)] [] h := by
  unfold lX5_hoursUntilBreak_13 at hf
  obtain ⟨z0, ei, hf⟩ := bd_s hf
  refine it_ind (P := fun (s : Int32 × Hp) => GX5_hoursUntilBreak S r r (some o.1, o.2) 13 [(0, .ref v0), (1, .int v1), (2, .int (s.1))] [] (s.2)) (fun s w hb hk2 he2 => ?_) n _ ei
  refine ubX5_hoursUntilBreak_13 (out := (some o.1, o.2)) (r' := r) hW hv0 hb hk2 (fun z hz => ?_)
  have hz := he2 z hz
  subst hz
  rcases z with z | z
  · refine g_iload_n (ps := 1) dX5_hoursUntilBreak_36 rfl rfl ?_
    have hf := Option.some.inj hf
    subst hf
    exact g_iret dX5_hoursUntilBreak_37
  · refine g_iconst (v := (-1)) dX5_hoursUntilBreak_44 (by decide +kernel) ?_
    have hf := Option.some.inj hf
    subst hf
    exact g_iret dX5_hoursUntilBreak_45
set_option maxHeartbeats 4000000 in
set_option maxRecDepth 100000 in
theorem uX5_hoursUntilBreak {S : Shp} {n : Nat} {r : Rf} {v0 : Nat} {v1 : Int32} {h : Hp} {o : (Int32 × Hp)} (hW : WF S r) (hv0 : S[v0]? = some (5, 11)) (hf : fX5_hoursUntilBreak n r v0 v1 h = some o) : GX5_hoursUntilBreak S r r (some o.1, o.2) 0 [(0, .ref v0), (1, .int v1)] [] h := by
  unfold fX5_hoursUntilBreak at hf
  refine g_aload_n (ps := 0) dX5_hoursUntilBreak_0 rfl rfl ?_
  refine g_getR cf5 hv0 nX5_hoursUntilBreak_X5 (j := 4) (by decide) rfl mX5_hoursUntilBreak_33 dX5_hoursUntilBreak_1 ?_
  refine g_aload_n (ps := 0) dX5_hoursUntilBreak_4 rfl rfl ?_
  refine g_getR cf5 hv0 nX5_hoursUntilBreak_X5 (j := 3) (by decide) rfl mX5_hoursUntilBreak_29 dX5_hoursUntilBreak_5 ?_
  obtain ⟨h2, e1, hf⟩ := bd_s hf
  refine g_callVv (As := [.ref (r v0 3)]) (n := 1) (kX0_become hW (hW _ _ _ hv0 4 _ rfl) (hW _ _ _ hv0 3 _ rfl) e1) gX5_hoursUntilBreak_X0_become rfl ⟨rfl, rfl⟩ ⟨rfl, hdX0_become⟩ ⟨Nat.le_of_ble_eq_true rfl, Nat.le_of_ble_eq_true rfl⟩ cf0 (hW _ _ _ hv0 4 _ rfl) rfl rfl (Nat.le_of_ble_eq_true rfl) dX5_hoursUntilBreak_8 ?_
  refine g_iconst (v := 1) dX5_hoursUntilBreak_11 (by decide +kernel) ?_
  refine g_istore_n (L' := [(2, .int 1), (0, .ref v0), (1, .int v1)]) dX5_hoursUntilBreak_12 rfl (by decide) rfl ?_
  exact g_pick [1, 2, 0] rfl (ulX5_hoursUntilBreak_13 hW hv0 hf)
theorem kX5_hoursUntilBreak {S : Shp} {n : Nat} {r : Rf} {v0 : Nat} {v1 : Int32} {h : Hp} {o : (Int32 × Hp)} (hW : WF S r) (hv0 : S[v0]? = some (5, 11)) (hf : fX5_hoursUntilBreak n r v0 v1 h = some o) : CTi yX5_hoursUntilBreak wsX5_hoursUntilBreak rmX5_hoursUntilBreak S r [.ref v0, .int v1] h r o.1 o.2 :=
  cti_of rfl (by decide +kernel) rfl (Nat.le_of_ble_eq_true rfl) rfl (uX5_hoursUntilBreak hW hv0 hf)
/-! X5_lasts lasts -/
def rmX5_lasts : Room := { frames := 4, cells := 0, slots := 0, locals := 89 }
abbrev GX5_lasts (S : Shp) (r r' : Rf) (out : Option Int32 × Hp) (pc : Nat) (L : List (Nat × Value)) (st : List Value) (h : Hp) : Prop := G RX5 cX5_lasts 2 (some .int) wsX5_lasts rmX5_lasts S r r' out pc L st h
theorem nX5_lasts_X5 : ∀ w ∈ wsX50, w ∈ wsX5_lasts := by decide +kernel
theorem mX5_lasts_135 : Cond.constant RX5 135 (-1000000001) ∈ wsX5_lasts := by decide +kernel
theorem mX5_lasts_19 : Cond.fieldLink RX5 19 "LinkedIsles" "chart" "LLinkedIsles$Chart;" ∈ wsX5_lasts := by decide +kernel
theorem hdX5_lasts : yX5_lasts.cls ≠ "java/lang/invoke/MethodHandle" ∧ yX5_lasts.cls ≠ "java/lang/invoke/VarHandle" ∧ (parseMethodDescriptor yX5_lasts.desc).map (fun d => d.parameters.length) = some 1 := by decide +kernel
def fX5_lasts (n : Nat) (r : Rf) (v0 : Nat) (v1 : Int32) (h : Hp) : Option (Int32 × Hp) :=
  (fX1_hasLink n r (r v0 1) v1 h).bind (fun (x2 : Int32) => if x2 = 0 then (some ((-1000000001), h)) else (bd2 (fX5_hoursUntilBreak n r v0 (1 <<< (v1 &&& 31)) h) (fun (x5 : Int32) (h6 : Hp) => some (x5, h6))))
set_option maxHeartbeats 4000000 in
set_option maxRecDepth 100000 in
theorem uX5_lasts {S : Shp} {n : Nat} {r : Rf} {v0 : Nat} {v1 : Int32} {h : Hp} {o : (Int32 × Hp)} (hW : WF S r) (hv0 : S[v0]? = some (5, 11)) (hf : fX5_lasts n r v0 v1 h = some o) : GX5_lasts S r r (some o.1, o.2) 0 [(0, .ref v0), (1, .int v1)] [] h := by
  unfold fX5_lasts at hf
  refine g_aload_n (ps := 0) dX5_lasts_0 rfl rfl ?_
  refine g_getR cf5 hv0 nX5_lasts_X5 (j := 1) (by decide) rfl mX5_lasts_19 dX5_lasts_1 ?_
  refine g_iload_n (ps := 1) dX5_lasts_4 rfl rfl ?_
  obtain ⟨x2, e1, hf⟩ := bd_s hf
  refine g_callVi (As := [.int v1]) (n := 1) (kX1_hasLink hW (hW _ _ _ hv0 1 _ rfl) e1) gX5_lasts_X1_hasLink rfl ⟨rfl, rfl⟩ ⟨rfl, hdX1_hasLink⟩ ⟨Nat.le_of_ble_eq_true rfl, Nat.le_of_ble_eq_true rfl⟩ cf1 (hW _ _ _ hv0 1 _ rfl) rfl rfl (Nat.le_of_ble_eq_true rfl) dX5_lasts_5 ?_
  refine g_if_ne (tgt := 14) dX5_lasts_8 (by decide) (fun c3 => ?_) (fun c3 => ?_)
  · have hf := if_f hf c3
    refine g_aload_n (ps := 0) dX5_lasts_14 rfl rfl ?_
    refine g_iconst (v := 1) dX5_lasts_15 (by decide +kernel) ?_
    refine g_iload_n (ps := 1) dX5_lasts_16 rfl rfl ?_
    refine g_ishl dX5_lasts_17 ?_
    obtain ⟨x5, h6, e4, hf⟩ := bd2_s hf
    refine g_callVi (As := [.int (1 <<< (v1 &&& 31))]) (n := 1) (kX5_hoursUntilBreak hW hv0 e4) gX5_lasts_X5_hoursUntilBreak rfl ⟨rfl, rfl⟩ ⟨rfl, hdX5_hoursUntilBreak⟩ ⟨Nat.le_of_ble_eq_true rfl, Nat.le_of_ble_eq_true rfl⟩ cf5 hv0 rfl rfl (Nat.le_of_ble_eq_true rfl) dX5_lasts_18 ?_
    have hf := Option.some.inj hf
    subst hf
    exact g_iret dX5_lasts_21
  · have hf := if_t hf c3
    refine g_ldc (v := (-1000000001)) mX5_lasts_135 dX5_lasts_11 ?_
    have hf := Option.some.inj hf
    subst hf
    exact g_iret dX5_lasts_13
theorem kX5_lasts {S : Shp} {n : Nat} {r : Rf} {v0 : Nat} {v1 : Int32} {h : Hp} {o : (Int32 × Hp)} (hW : WF S r) (hv0 : S[v0]? = some (5, 11)) (hf : fX5_lasts n r v0 v1 h = some o) : CTi yX5_lasts wsX5_lasts rmX5_lasts S r [.ref v0, .int v1] h r o.1 o.2 :=
  cti_of rfl (by decide +kernel) rfl (Nat.le_of_ble_eq_true rfl) rfl (uX5_lasts hW hv0 hf)
/-! X5_tryHours tryHours -/
def rmX5_tryHours : Room := { frames := 3, cells := 0, slots := 0, locals := 67 }
abbrev GX5_tryHours (S : Shp) (r r' : Rf) (out : Option Int32 × Hp) (pc : Nat) (L : List (Nat × Value)) (st : List Value) (h : Hp) : Prop := G RX5 cX5_tryHours 3 (some .int) wsX5_tryHours rmX5_tryHours S r r' out pc L st h
theorem nX5_tryHours_X0 : ∀ w ∈ wsX00, w ∈ wsX5_tryHours := by decide +kernel
theorem nX5_tryHours_X5 : ∀ w ∈ wsX50, w ∈ wsX5_tryHours := by decide +kernel
theorem mX5_tryHours_110 : Cond.fieldLink RX5 110 "LinkedIsles$Bonds" "doneUp" "I" ∈ wsX5_tryHours := by decide +kernel
theorem mX5_tryHours_19 : Cond.fieldLink RX5 19 "LinkedIsles" "chart" "LLinkedIsles$Chart;" ∈ wsX5_tryHours := by decide +kernel
theorem mX5_tryHours_33 : Cond.fieldLink RX5 33 "LinkedIsles" "trial" "LLinkedIsles$Bonds;" ∈ wsX5_tryHours := by decide +kernel
theorem hdX5_tryHours : yX5_tryHours.cls ≠ "java/lang/invoke/MethodHandle" ∧ yX5_tryHours.cls ≠ "java/lang/invoke/VarHandle" ∧ (parseMethodDescriptor yX5_tryHours.desc).map (fun d => d.parameters.length) = some 1 := by decide +kernel
def bX5_tryHours_2 (n : Nat) (r : Rf) (v0 : Nat) (v1 : Int32) (v2 : Int32) (h : Hp) : Option ((Int32 × Hp) ⊕ (Hp)) :=
  if v1 ≤ v2 then (some (.inr h)) else (bd2 (fX0_passHour n r (r v0 4) (r v0 1) h) (fun (x3 : Int32) (h4 : Hp) => lE (v2 + 1) (fun (x5 : Int32) => some (.inl (x5, h4)))))
def lX5_tryHours_2 (n : Nat) (r : Rf) (v0 : Nat) (v1 : Int32) (v2 : Int32) (h : Hp) : Option (Int32 × Hp) :=
  (it (fun (s : Int32 × Hp) => bX5_tryHours_2 n r v0 v1 s.1 s.2) n (v2, h)).bind (fun z => some ((z.1 (r v0 4) 1), z))
def fX5_tryHours (n : Nat) (r : Rf) (v0 : Nat) (v1 : Int32) (h : Hp) : Option (Int32 × Hp) :=
  lX5_tryHours_2 n r v0 v1 0 h
set_option maxHeartbeats 4000000 in
set_option maxRecDepth 100000 in
theorem ubX5_tryHours_2 {S : Shp} {n : Nat} {r : Rf} {out : Option Int32 × Hp} {r' : Rf} {v0 : Nat} {v1 : Int32} {v2 : Int32}  {h : Hp} {w : (Int32 × Hp) ⊕ (Hp)} (hW : WF S r) (hv0 : S[v0]? = some (5, 11)) (hf : bX5_tryHours_2 n r v0 v1 v2 h = some w) (hk : ∀ y, w = .inl y → GX5_tryHours S r r' out 2 [(0, .ref v0), (1, .int v1), (2, .int (y.1))] [] (y.2)) (he : ∀ z, w = .inr z → GX5_tryHours S r r' out 25 [(0, .ref v0)] [] (z)) : GX5_tryHours S r r' out 2 [(0, .ref v0), (1, .int v1), (2, .int v2)] [] h := by
  unfold bX5_tryHours_2 at hf
  refine g_iload_n (ps := 2) dX5_tryHours_2 rfl rfl ?_
  refine g_iload_n (ps := 1) dX5_tryHours_3 rfl rfl ?_
  refine g_icmp_ge (tgt := 25) dX5_tryHours_4 (by decide) (fun c1 => ?_) (fun c1 => ?_)
  · have hf := if_t hf c1
    exact g_pick [0] rfl (he _ (Option.some.inj hf).symm)
  · have hf := if_f hf c1
    refine g_aload_n (ps := 0) dX5_tryHours_7 rfl rfl ?_
    refine g_getR cf5 hv0 nX5_tryHours_X5 (j := 4) (by decide) rfl mX5_tryHours_33 dX5_tryHours_8 ?_
    refine g_aload_n (ps := 0) dX5_tryHours_11 rfl rfl ?_
    refine g_getR cf5 hv0 nX5_tryHours_X5 (j := 1) (by decide) rfl mX5_tryHours_19 dX5_tryHours_12 ?_
    obtain ⟨x3, h4, e2, hf⟩ := bd2_s hf
    refine g_callVi (As := [.ref (r v0 1)]) (n := 1) (kX0_passHour hW (hW _ _ _ hv0 4 _ rfl) (hW _ _ _ hv0 1 _ rfl) e2) gX5_tryHours_X0_passHour rfl ⟨rfl, rfl⟩ ⟨rfl, hdX0_passHour⟩ ⟨Nat.le_of_ble_eq_true rfl, Nat.le_of_ble_eq_true rfl⟩ cf0 (hW _ _ _ hv0 4 _ rfl) rfl rfl (Nat.le_of_ble_eq_true rfl) dX5_tryHours_15 ?_
    refine g_pop dX5_tryHours_18 rfl ?_
    obtain ⟨x5, ex5⟩ : ∃ y : Int32, y = v2 + 1 := ⟨_, rfl⟩
    have hf := lE_s hf ex5
    refine g_iinc (ps := 2) (v := x5) (L' := [(2, .int x5), (0, .ref v0), (1, .int v1)]) dX5_tryHours_19 rfl (by rw [ex5]; rfl) (by decide) rfl ?_
    refine g_goto (tgt := 2) dX5_tryHours_22 (by decide) ?_
    exact g_pick [1, 2, 0] rfl (hk _ (Option.some.inj hf).symm)
set_option maxHeartbeats 4000000 in
set_option maxRecDepth 100000 in
theorem ulX5_tryHours_2 {S : Shp} {n : Nat} {r : Rf} {v0 : Nat} {v1 : Int32} {v2 : Int32}  {h : Hp} {o : (Int32 × Hp)} (hW : WF S r) (hv0 : S[v0]? = some (5, 11)) (hf : lX5_tryHours_2 n r v0 v1 v2 h = some o)  : GX5_tryHours S r r (some o.1, o.2) 2 [(0, .ref v0), (1, .int v1), (2, .int v2)] [] h := by
  unfold lX5_tryHours_2 at hf
  obtain ⟨z0, ei, hf⟩ := bd_s hf
  refine it_ind (P := fun (s : Int32 × Hp) => GX5_tryHours S r r (some o.1, o.2) 2 [(0, .ref v0), (1, .int v1), (2, .int (s.1))] [] (s.2)) (fun s w hb hk2 he2 => ?_) n _ ei
  refine ubX5_tryHours_2 (out := (some o.1, o.2)) (r' := r) hW hv0 hb hk2 (fun z hz => ?_)
  have hz := he2 z hz
  subst hz
  refine g_aload_n (ps := 0) dX5_tryHours_25 rfl rfl ?_
  refine g_getR cf5 hv0 nX5_tryHours_X5 (j := 4) (by decide) rfl mX5_tryHours_33 dX5_tryHours_26 ?_
  refine g_getI cf0 (hW _ _ _ hv0 4 _ rfl) nX5_tryHours_X0 (j := 1) (by decide) rfl mX5_tryHours_110 dX5_tryHours_29 ?_
  have hf := Option.some.inj hf
  subst hf
  exact g_iret dX5_tryHours_32
set_option maxHeartbeats 4000000 in
set_option maxRecDepth 100000 in
theorem uX5_tryHours {S : Shp} {n : Nat} {r : Rf} {v0 : Nat} {v1 : Int32} {h : Hp} {o : (Int32 × Hp)} (hW : WF S r) (hv0 : S[v0]? = some (5, 11)) (hf : fX5_tryHours n r v0 v1 h = some o) : GX5_tryHours S r r (some o.1, o.2) 0 [(0, .ref v0), (1, .int v1)] [] h := by
  unfold fX5_tryHours at hf
  refine g_iconst (v := 0) dX5_tryHours_0 (by decide +kernel) ?_
  refine g_istore_n (L' := [(2, .int 0), (0, .ref v0), (1, .int v1)]) dX5_tryHours_1 rfl (by decide) rfl ?_
  exact g_pick [1, 2, 0] rfl (ulX5_tryHours_2 hW hv0 hf)
theorem kX5_tryHours {S : Shp} {n : Nat} {r : Rf} {v0 : Nat} {v1 : Int32} {h : Hp} {o : (Int32 × Hp)} (hW : WF S r) (hv0 : S[v0]? = some (5, 11)) (hf : fX5_tryHours n r v0 v1 h = some o) : CTi yX5_tryHours wsX5_tryHours rmX5_tryHours S r [.ref v0, .int v1] h r o.1 o.2 :=
  cti_of rfl (by decide +kernel) rfl (Nat.le_of_ble_eq_true rfl) rfl (uX5_tryHours hW hv0 hf)
/-! X5_doneUpBehind doneUpBehind -/
def rmX5_doneUpBehind : Room := { frames := 4, cells := 0, slots := 0, locals := 89 }
abbrev GX5_doneUpBehind (S : Shp) (r r' : Rf) (out : Option Int32 × Hp) (pc : Nat) (L : List (Nat × Value)) (st : List Value) (h : Hp) : Prop := G RX5 cX5_doneUpBehind 2 (some .int) wsX5_doneUpBehind rmX5_doneUpBehind S r r' out pc L st h
theorem nX5_doneUpBehind_X5 : ∀ w ∈ wsX50, w ∈ wsX5_doneUpBehind := by decide +kernel
theorem mX5_doneUpBehind_29 : Cond.fieldLink RX5 29 "LinkedIsles" "now" "LLinkedIsles$Bonds;" ∈ wsX5_doneUpBehind := by decide +kernel
theorem mX5_doneUpBehind_33 : Cond.fieldLink RX5 33 "LinkedIsles" "trial" "LLinkedIsles$Bonds;" ∈ wsX5_doneUpBehind := by decide +kernel
theorem hdX5_doneUpBehind : yX5_doneUpBehind.cls ≠ "java/lang/invoke/MethodHandle" ∧ yX5_doneUpBehind.cls ≠ "java/lang/invoke/VarHandle" ∧ (parseMethodDescriptor yX5_doneUpBehind.desc).map (fun d => d.parameters.length) = some 1 := by decide +kernel
def fX5_doneUpBehind (n : Nat) (r : Rf) (v0 : Nat) (v1 : Int32) (h : Hp) : Option (Int32 × Hp) :=
  (fX0_become n r (r v0 4) (r v0 3) h).bind (fun (h2 : Hp) => bd2 (fX5_tryHours n r v0 v1 h2) (fun (x4 : Int32) (h5 : Hp) => some (x4, h5)))
set_option maxHeartbeats 4000000 in
set_option maxRecDepth 100000 in
theorem uX5_doneUpBehind {S : Shp} {n : Nat} {r : Rf} {v0 : Nat} {v1 : Int32} {h : Hp} {o : (Int32 × Hp)} (hW : WF S r) (hv0 : S[v0]? = some (5, 11)) (hf : fX5_doneUpBehind n r v0 v1 h = some o) : GX5_doneUpBehind S r r (some o.1, o.2) 0 [(0, .ref v0), (1, .int v1)] [] h := by
  unfold fX5_doneUpBehind at hf
  refine g_aload_n (ps := 0) dX5_doneUpBehind_0 rfl rfl ?_
  refine g_getR cf5 hv0 nX5_doneUpBehind_X5 (j := 4) (by decide) rfl mX5_doneUpBehind_33 dX5_doneUpBehind_1 ?_
  refine g_aload_n (ps := 0) dX5_doneUpBehind_4 rfl rfl ?_
  refine g_getR cf5 hv0 nX5_doneUpBehind_X5 (j := 3) (by decide) rfl mX5_doneUpBehind_29 dX5_doneUpBehind_5 ?_
  obtain ⟨h2, e1, hf⟩ := bd_s hf
  refine g_callVv (As := [.ref (r v0 3)]) (n := 1) (kX0_become hW (hW _ _ _ hv0 4 _ rfl) (hW _ _ _ hv0 3 _ rfl) e1) gX5_doneUpBehind_X0_become rfl ⟨rfl, rfl⟩ ⟨rfl, hdX0_become⟩ ⟨Nat.le_of_ble_eq_true rfl, Nat.le_of_ble_eq_true rfl⟩ cf0 (hW _ _ _ hv0 4 _ rfl) rfl rfl (Nat.le_of_ble_eq_true rfl) dX5_doneUpBehind_8 ?_
  refine g_aload_n (ps := 0) dX5_doneUpBehind_11 rfl rfl ?_
  refine g_iload_n (ps := 1) dX5_doneUpBehind_12 rfl rfl ?_
  obtain ⟨x4, h5, e3, hf⟩ := bd2_s hf
  refine g_callVi (As := [.int v1]) (n := 1) (kX5_tryHours hW hv0 e3) gX5_doneUpBehind_X5_tryHours rfl ⟨rfl, rfl⟩ ⟨rfl, hdX5_tryHours⟩ ⟨Nat.le_of_ble_eq_true rfl, Nat.le_of_ble_eq_true rfl⟩ cf5 hv0 rfl rfl (Nat.le_of_ble_eq_true rfl) dX5_doneUpBehind_13 ?_
  have hf := Option.some.inj hf
  subst hf
  exact g_iret dX5_doneUpBehind_16
theorem kX5_doneUpBehind {S : Shp} {n : Nat} {r : Rf} {v0 : Nat} {v1 : Int32} {h : Hp} {o : (Int32 × Hp)} (hW : WF S r) (hv0 : S[v0]? = some (5, 11)) (hf : fX5_doneUpBehind n r v0 v1 h = some o) : CTi yX5_doneUpBehind wsX5_doneUpBehind rmX5_doneUpBehind S r [.ref v0, .int v1] h r o.1 o.2 :=
  cti_of rfl (by decide +kernel) rfl (Nat.le_of_ble_eq_true rfl) rfl (uX5_doneUpBehind hW hv0 hf)
/-! J6_numberOfTrailingZeros_0f7a4 numberOfTrailingZeros -/
def rmJ6_numberOfTrailingZeros_0f7a4 : Room := { frames := 0, cells := 0, slots := 0, locals := 0 }
abbrev GJ6_numberOfTrailingZeros_0f7a4 (S : Shp) (r r' : Rf) (out : Option Int32 × Hp) (pc : Nat) (L : List (Nat × Value)) (st : List Value) (h : Hp) : Prop := G RJ6 cJ6_numberOfTrailingZeros_0f7a4 2 (some .int) wsJ6_numberOfTrailingZeros_0f7a4 rmJ6_numberOfTrailingZeros_0f7a4 S r r' out pc L st h
theorem mJ6_numberOfTrailingZeros_0f7a4_264 : Cond.constant RJ6 264 (65536) ∈ wsJ6_numberOfTrailingZeros_0f7a4 := by decide +kernel
theorem hdJ6_numberOfTrailingZeros_0f7a4 : yJ6_numberOfTrailingZeros_0f7a4.cls ≠ "java/lang/invoke/MethodHandle" ∧ yJ6_numberOfTrailingZeros_0f7a4.cls ≠ "java/lang/invoke/VarHandle" ∧ (parseMethodDescriptor yJ6_numberOfTrailingZeros_0f7a4.desc).map (fun d => d.parameters.length) = some 1 := by decide +kernel
def jJ6_numberOfTrailingZeros_0f7a4_74 (n : Nat) (r : Rf) (v0 : Int32) (v1 : Int32)  (h : Hp) : Option Int32 :=
  some (v1 + ((v0.toUInt32 >>> ((1 : Int32).toUInt32 &&& Int32.toUInt32 31)).toInt32))
def jJ6_numberOfTrailingZeros_0f7a4_62 (n : Nat) (r : Rf) (v0 : Int32) (v1 : Int32)  (h : Hp) : Option Int32 :=
  if v0 ≤ 4 then (jJ6_numberOfTrailingZeros_0f7a4_74 n r v0 v1  h) else (lE (v1 + 2) (fun (x7 : Int32) => lE (((v0.toUInt32 >>> ((2 : Int32).toUInt32 &&& Int32.toUInt32 31)).toInt32)) (fun (x8 : Int32) => jJ6_numberOfTrailingZeros_0f7a4_74 n r x8 x7  h)))
def jJ6_numberOfTrailingZeros_0f7a4_49 (n : Nat) (r : Rf) (v0 : Int32) (v1 : Int32)  (h : Hp) : Option Int32 :=
  if v0 ≤ 16 then (jJ6_numberOfTrailingZeros_0f7a4_62 n r v0 v1  h) else (lE (v1 + 4) (fun (x9 : Int32) => lE (((v0.toUInt32 >>> ((4 : Int32).toUInt32 &&& Int32.toUInt32 31)).toInt32)) (fun (x10 : Int32) => jJ6_numberOfTrailingZeros_0f7a4_62 n r x10 x9  h)))
def jJ6_numberOfTrailingZeros_0f7a4_34 (n : Nat) (r : Rf) (v0 : Int32) (v1 : Int32)  (h : Hp) : Option Int32 :=
  if v0 ≤ 256 then (jJ6_numberOfTrailingZeros_0f7a4_49 n r v0 v1  h) else (lE (v1 + 8) (fun (x11 : Int32) => lE (((v0.toUInt32 >>> ((8 : Int32).toUInt32 &&& Int32.toUInt32 31)).toInt32)) (fun (x12 : Int32) => jJ6_numberOfTrailingZeros_0f7a4_49 n r x12 x11  h)))
def fJ6_numberOfTrailingZeros_0f7a4 (n : Nat) (r : Rf) (v0 : Int32) (h : Hp) : Option Int32 :=
  lE (((v0 ^^^ (-1)) &&& (v0 - 1))) (fun (x1 : Int32) => if 0 < x1 then (if x1 ≤ 65536 then (jJ6_numberOfTrailingZeros_0f7a4_34 n r x1 1  h) else (lE (1 + 16) (fun (x13 : Int32) => lE (((x1.toUInt32 >>> ((16 : Int32).toUInt32 &&& Int32.toUInt32 31)).toInt32)) (fun (x14 : Int32) => jJ6_numberOfTrailingZeros_0f7a4_34 n r x14 x13  h)))) else (some (x1 &&& 32)))
set_option maxHeartbeats 4000000 in
set_option maxRecDepth 100000 in
theorem ujJ6_numberOfTrailingZeros_0f7a4_74 {S : Shp} {n : Nat} {r : Rf} {v0 : Int32} {v1 : Int32}  {h : Hp} {o : Int32} (hW : WF S r)  (hf : jJ6_numberOfTrailingZeros_0f7a4_74 n r v0 v1  h = some o)  : GJ6_numberOfTrailingZeros_0f7a4 S r r (some o, h) 74 [(0, .int v0), (1, .int v1)] [] h := by
  unfold jJ6_numberOfTrailingZeros_0f7a4_74 at hf
  refine g_iload_n (ps := 1) dJ6_numberOfTrailingZeros_0f7a4_74 rfl rfl ?_
  refine g_iload_n (ps := 0) dJ6_numberOfTrailingZeros_0f7a4_75 rfl rfl ?_
  refine g_iconst (v := 1) dJ6_numberOfTrailingZeros_0f7a4_76 (by decide +kernel) ?_
  refine g_iushr dJ6_numberOfTrailingZeros_0f7a4_77 ?_
  refine g_iadd dJ6_numberOfTrailingZeros_0f7a4_78 ?_
  have hf := Option.some.inj hf
  subst hf
  exact g_iret dJ6_numberOfTrailingZeros_0f7a4_79
set_option maxHeartbeats 4000000 in
set_option maxRecDepth 100000 in
theorem ujJ6_numberOfTrailingZeros_0f7a4_62 {S : Shp} {n : Nat} {r : Rf} {v0 : Int32} {v1 : Int32}  {h : Hp} {o : Int32} (hW : WF S r)  (hf : jJ6_numberOfTrailingZeros_0f7a4_62 n r v0 v1  h = some o)  : GJ6_numberOfTrailingZeros_0f7a4 S r r (some o, h) 62 [(0, .int v0), (1, .int v1)] [] h := by
  unfold jJ6_numberOfTrailingZeros_0f7a4_62 at hf
  refine g_iload_n (ps := 0) dJ6_numberOfTrailingZeros_0f7a4_62 rfl rfl ?_
  refine g_iconst (v := 4) dJ6_numberOfTrailingZeros_0f7a4_63 (by decide +kernel) ?_
  refine g_icmp_le (tgt := 74) dJ6_numberOfTrailingZeros_0f7a4_64 (by decide) (fun c6 => ?_) (fun c6 => ?_)
  · have hf := if_t hf c6
    exact g_pick [0, 1] rfl (ujJ6_numberOfTrailingZeros_0f7a4_74 hW  hf)
  · have hf := if_f hf c6
    obtain ⟨x7, ex7⟩ : ∃ y : Int32, y = v1 + 2 := ⟨_, rfl⟩
    have hf := lE_s hf ex7
    refine g_iinc (ps := 1) (v := x7) (L' := [(1, .int x7), (0, .int v0)]) dJ6_numberOfTrailingZeros_0f7a4_67 rfl (by rw [ex7]; rfl) (by decide) rfl ?_
    refine g_iload_n (ps := 1) dJ6_numberOfTrailingZeros_0f7a4_70 rfl rfl ?_
    refine g_iconst (v := 2) dJ6_numberOfTrailingZeros_0f7a4_71 (by decide +kernel) ?_
    refine g_iushr dJ6_numberOfTrailingZeros_0f7a4_72 ?_
    refine g_topi (fun x8 ex8 => ?_)
    have hf := lE_s hf ex8
    refine g_istore_n (L' := [(0, .int x8), (1, .int x7)]) dJ6_numberOfTrailingZeros_0f7a4_73 rfl (by decide) rfl ?_
    exact g_pick [0, 1] rfl (ujJ6_numberOfTrailingZeros_0f7a4_74 hW  hf)
set_option maxHeartbeats 4000000 in
set_option maxRecDepth 100000 in
theorem ujJ6_numberOfTrailingZeros_0f7a4_49 {S : Shp} {n : Nat} {r : Rf} {v0 : Int32} {v1 : Int32}  {h : Hp} {o : Int32} (hW : WF S r)  (hf : jJ6_numberOfTrailingZeros_0f7a4_49 n r v0 v1  h = some o)  : GJ6_numberOfTrailingZeros_0f7a4 S r r (some o, h) 49 [(0, .int v0), (1, .int v1)] [] h := by
  unfold jJ6_numberOfTrailingZeros_0f7a4_49 at hf
  refine g_iload_n (ps := 0) dJ6_numberOfTrailingZeros_0f7a4_49 rfl rfl ?_
  refine g_bipush (v := 16) dJ6_numberOfTrailingZeros_0f7a4_50 (by decide +kernel) ?_
  refine g_icmp_le (tgt := 62) dJ6_numberOfTrailingZeros_0f7a4_52 (by decide) (fun c5 => ?_) (fun c5 => ?_)
  · have hf := if_t hf c5
    exact g_pick [0, 1] rfl (ujJ6_numberOfTrailingZeros_0f7a4_62 hW  hf)
  · have hf := if_f hf c5
    obtain ⟨x9, ex9⟩ : ∃ y : Int32, y = v1 + 4 := ⟨_, rfl⟩
    have hf := lE_s hf ex9
    refine g_iinc (ps := 1) (v := x9) (L' := [(1, .int x9), (0, .int v0)]) dJ6_numberOfTrailingZeros_0f7a4_55 rfl (by rw [ex9]; rfl) (by decide) rfl ?_
    refine g_iload_n (ps := 1) dJ6_numberOfTrailingZeros_0f7a4_58 rfl rfl ?_
    refine g_iconst (v := 4) dJ6_numberOfTrailingZeros_0f7a4_59 (by decide +kernel) ?_
    refine g_iushr dJ6_numberOfTrailingZeros_0f7a4_60 ?_
    refine g_topi (fun x10 ex10 => ?_)
    have hf := lE_s hf ex10
    refine g_istore_n (L' := [(0, .int x10), (1, .int x9)]) dJ6_numberOfTrailingZeros_0f7a4_61 rfl (by decide) rfl ?_
    exact g_pick [0, 1] rfl (ujJ6_numberOfTrailingZeros_0f7a4_62 hW  hf)
set_option maxHeartbeats 4000000 in
set_option maxRecDepth 100000 in
theorem ujJ6_numberOfTrailingZeros_0f7a4_34 {S : Shp} {n : Nat} {r : Rf} {v0 : Int32} {v1 : Int32}  {h : Hp} {o : Int32} (hW : WF S r)  (hf : jJ6_numberOfTrailingZeros_0f7a4_34 n r v0 v1  h = some o)  : GJ6_numberOfTrailingZeros_0f7a4 S r r (some o, h) 34 [(0, .int v0), (1, .int v1)] [] h := by
  unfold jJ6_numberOfTrailingZeros_0f7a4_34 at hf
  refine g_iload_n (ps := 0) dJ6_numberOfTrailingZeros_0f7a4_34 rfl rfl ?_
  refine g_sipush (v := 256) dJ6_numberOfTrailingZeros_0f7a4_35 (by decide +kernel) ?_
  refine g_icmp_le (tgt := 49) dJ6_numberOfTrailingZeros_0f7a4_38 (by decide) (fun c4 => ?_) (fun c4 => ?_)
  · have hf := if_t hf c4
    exact g_pick [0, 1] rfl (ujJ6_numberOfTrailingZeros_0f7a4_49 hW  hf)
  · have hf := if_f hf c4
    obtain ⟨x11, ex11⟩ : ∃ y : Int32, y = v1 + 8 := ⟨_, rfl⟩
    have hf := lE_s hf ex11
    refine g_iinc (ps := 1) (v := x11) (L' := [(1, .int x11), (0, .int v0)]) dJ6_numberOfTrailingZeros_0f7a4_41 rfl (by rw [ex11]; rfl) (by decide) rfl ?_
    refine g_iload_n (ps := 1) dJ6_numberOfTrailingZeros_0f7a4_44 rfl rfl ?_
    refine g_bipush (v := 8) dJ6_numberOfTrailingZeros_0f7a4_45 (by decide +kernel) ?_
    refine g_iushr dJ6_numberOfTrailingZeros_0f7a4_47 ?_
    refine g_topi (fun x12 ex12 => ?_)
    have hf := lE_s hf ex12
    refine g_istore_n (L' := [(0, .int x12), (1, .int x11)]) dJ6_numberOfTrailingZeros_0f7a4_48 rfl (by decide) rfl ?_
    exact g_pick [0, 1] rfl (ujJ6_numberOfTrailingZeros_0f7a4_49 hW  hf)
set_option maxHeartbeats 4000000 in
set_option maxRecDepth 100000 in
theorem uJ6_numberOfTrailingZeros_0f7a4 {S : Shp} {n : Nat} {r : Rf} {v0 : Int32} {h : Hp} {o : Int32} (hW : WF S r)  (hf : fJ6_numberOfTrailingZeros_0f7a4 n r v0 h = some o) : GJ6_numberOfTrailingZeros_0f7a4 S r r (some o, h) 0 [(0, .int v0)] [] h := by
  unfold fJ6_numberOfTrailingZeros_0f7a4 at hf
  refine g_iload_n (ps := 0) dJ6_numberOfTrailingZeros_0f7a4_0 rfl rfl ?_
  refine g_iconst (v := (-1)) dJ6_numberOfTrailingZeros_0f7a4_1 (by decide +kernel) ?_
  refine g_ixor dJ6_numberOfTrailingZeros_0f7a4_2 ?_
  refine g_iload_n (ps := 0) dJ6_numberOfTrailingZeros_0f7a4_3 rfl rfl ?_
  refine g_iconst (v := 1) dJ6_numberOfTrailingZeros_0f7a4_4 (by decide +kernel) ?_
  refine g_isub dJ6_numberOfTrailingZeros_0f7a4_5 ?_
  refine g_iand dJ6_numberOfTrailingZeros_0f7a4_6 ?_
  refine g_topi (fun x1 ex1 => ?_)
  have hf := lE_s hf ex1
  refine g_istore_n (L' := [(0, .int x1)]) dJ6_numberOfTrailingZeros_0f7a4_7 rfl (by decide) rfl ?_
  refine g_iload_n (ps := 0) dJ6_numberOfTrailingZeros_0f7a4_8 rfl rfl ?_
  refine g_if_gt (tgt := 17) dJ6_numberOfTrailingZeros_0f7a4_9 (by decide) (fun c2 => ?_) (fun c2 => ?_)
  · have hf := if_t hf c2
    refine g_iconst (v := 1) dJ6_numberOfTrailingZeros_0f7a4_17 (by decide +kernel) ?_
    refine g_istore_n (L' := [(1, .int 1), (0, .int x1)]) dJ6_numberOfTrailingZeros_0f7a4_18 rfl (by decide) rfl ?_
    refine g_iload_n (ps := 1) dJ6_numberOfTrailingZeros_0f7a4_19 rfl rfl ?_
    refine g_ldcw (v := 65536) mJ6_numberOfTrailingZeros_0f7a4_264 dJ6_numberOfTrailingZeros_0f7a4_20 ?_
    refine g_icmp_le (tgt := 34) dJ6_numberOfTrailingZeros_0f7a4_23 (by decide) (fun c3 => ?_) (fun c3 => ?_)
    · have hf := if_t hf c3
      exact g_pick [1, 0] rfl (ujJ6_numberOfTrailingZeros_0f7a4_34 hW  hf)
    · have hf := if_f hf c3
      obtain ⟨x13, ex13⟩ : ∃ y : Int32, y = 1 + 16 := ⟨_, rfl⟩
      have hf := lE_s hf ex13
      refine g_iinc (ps := 0) (v := x13) (L' := [(1, .int x13), (0, .int x1)]) dJ6_numberOfTrailingZeros_0f7a4_26 rfl (by rw [ex13]; rfl) (by decide) rfl ?_
      refine g_iload_n (ps := 1) dJ6_numberOfTrailingZeros_0f7a4_29 rfl rfl ?_
      refine g_bipush (v := 16) dJ6_numberOfTrailingZeros_0f7a4_30 (by decide +kernel) ?_
      refine g_iushr dJ6_numberOfTrailingZeros_0f7a4_32 ?_
      refine g_topi (fun x14 ex14 => ?_)
      have hf := lE_s hf ex14
      refine g_istore_n (L' := [(0, .int x14), (1, .int x13)]) dJ6_numberOfTrailingZeros_0f7a4_33 rfl (by decide) rfl ?_
      exact g_pick [0, 1] rfl (ujJ6_numberOfTrailingZeros_0f7a4_34 hW  hf)
  · have hf := if_f hf c2
    refine g_iload_n (ps := 0) dJ6_numberOfTrailingZeros_0f7a4_12 rfl rfl ?_
    refine g_bipush (v := 32) dJ6_numberOfTrailingZeros_0f7a4_13 (by decide +kernel) ?_
    refine g_iand dJ6_numberOfTrailingZeros_0f7a4_15 ?_
    have hf := Option.some.inj hf
    subst hf
    exact g_iret dJ6_numberOfTrailingZeros_0f7a4_16
theorem kJ6_numberOfTrailingZeros_0f7a4 {S : Shp} {n : Nat} {r : Rf} {v0 : Int32} {h : Hp} {o : Int32} (hW : WF S r)  (hf : fJ6_numberOfTrailingZeros_0f7a4 n r v0 h = some o) : CTi yJ6_numberOfTrailingZeros_0f7a4 wsJ6_numberOfTrailingZeros_0f7a4 rmJ6_numberOfTrailingZeros_0f7a4 S r [.int v0] h r o h :=
  cti_of rfl (by decide +kernel) rfl (Nat.le_of_ble_eq_true rfl) rfl (uJ6_numberOfTrailingZeros_0f7a4 hW  hf)
/-! X5_leastOf leastOf -/
def rmX5_leastOf : Room := { frames := 1, cells := 0, slots := 0, locals := 21 }
abbrev GX5_leastOf (S : Shp) (r r' : Rf) (out : Option Int32 × Hp) (pc : Nat) (L : List (Nat × Value)) (st : List Value) (h : Hp) : Prop := G RX5 cX5_leastOf 1 (some .int) wsX5_leastOf rmX5_leastOf S r r' out pc L st h
theorem hdX5_leastOf : yX5_leastOf.cls ≠ "java/lang/invoke/MethodHandle" ∧ yX5_leastOf.cls ≠ "java/lang/invoke/VarHandle" ∧ (parseMethodDescriptor yX5_leastOf.desc).map (fun d => d.parameters.length) = some 1 := by decide +kernel
def fX5_leastOf (n : Nat) (r : Rf) (v0 : Int32) (h : Hp) : Option Int32 :=
  if v0 = 0 then (some (-1)) else ((fJ6_numberOfTrailingZeros_0f7a4 n r v0 h).bind (fun (x3 : Int32) => some x3))
set_option maxHeartbeats 4000000 in
set_option maxRecDepth 100000 in
theorem uX5_leastOf {S : Shp} {n : Nat} {r : Rf} {v0 : Int32} {h : Hp} {o : Int32} (hW : WF S r)  (hf : fX5_leastOf n r v0 h = some o) : GX5_leastOf S r r (some o, h) 0 [(0, .int v0)] [] h := by
  unfold fX5_leastOf at hf
  refine g_iload_n (ps := 0) dX5_leastOf_0 rfl rfl ?_
  refine g_if_ne (tgt := 8) dX5_leastOf_1 (by decide) (fun c1 => ?_) (fun c1 => ?_)
  · have hf := if_f hf c1
    refine g_iload_n (ps := 0) dX5_leastOf_8 rfl rfl ?_
    obtain ⟨x3, e2, hf⟩ := bd_s hf
    refine g_callSi (As := [.int v0]) (n := 1) (kJ6_numberOfTrailingZeros_0f7a4 hW  e2) gX5_leastOf_J6_numberOfTrailingZeros_0f7a4 rfl ⟨rfl, rfl⟩ hdJ6_numberOfTrailingZeros_0f7a4 ⟨Nat.le_of_ble_eq_true rfl, Nat.le_of_ble_eq_true rfl⟩ rfl rfl (Nat.le_of_ble_eq_true rfl) dX5_leastOf_9 ?_
    have hf := Option.some.inj hf
    subst hf
    exact g_iret dX5_leastOf_12
  · have hf := if_t hf c1
    refine g_iconst (v := (-1)) dX5_leastOf_4 (by decide +kernel) ?_
    refine g_goto (tgt := 12) dX5_leastOf_5 (by decide) ?_
    have hf := Option.some.inj hf
    subst hf
    exact g_iret dX5_leastOf_12
theorem kX5_leastOf {S : Shp} {n : Nat} {r : Rf} {v0 : Int32} {h : Hp} {o : Int32} (hW : WF S r)  (hf : fX5_leastOf n r v0 h = some o) : CTi yX5_leastOf wsX5_leastOf rmX5_leastOf S r [.int v0] h r o h :=
  cti_of rfl (by decide +kernel) rfl (Nat.le_of_ble_eq_true rfl) rfl (uX5_leastOf hW  hf)
/-! X5_first first -/
def rmX5_first : Room := { frames := 5, cells := 0, slots := 0, locals := 110 }
abbrev GX5_first (S : Shp) (r r' : Rf) (out : Option Int32 × Hp) (pc : Nat) (L : List (Nat × Value)) (st : List Value) (h : Hp) : Prop := G RX5 cX5_first 3 (some .int) wsX5_first rmX5_first S r r' out pc L st h
theorem nX5_first_X0 : ∀ w ∈ wsX00, w ∈ wsX5_first := by decide +kernel
theorem nX5_first_X5 : ∀ w ∈ wsX50, w ∈ wsX5_first := by decide +kernel
theorem mX5_first_68 : Cond.constant RX5 68 (-1000000002) ∈ wsX5_first := by decide +kernel
theorem mX5_first_110 : Cond.fieldLink RX5 110 "LinkedIsles$Bonds" "doneUp" "I" ∈ wsX5_first := by decide +kernel
theorem mX5_first_29 : Cond.fieldLink RX5 29 "LinkedIsles" "now" "LLinkedIsles$Bonds;" ∈ wsX5_first := by decide +kernel
theorem hdX5_first : yX5_first.cls ≠ "java/lang/invoke/MethodHandle" ∧ yX5_first.cls ≠ "java/lang/invoke/VarHandle" ∧ (parseMethodDescriptor yX5_first.desc).map (fun d => d.parameters.length) = some 1 := by decide +kernel
def fX5_first (n : Nat) (r : Rf) (v0 : Nat) (v1 : Int32) (h : Hp) : Option (Int32 × Hp) :=
  (fX5_isWithin n r v1 0 1 h).bind (fun (x2 : Int32) => if x2 = 0 then (some ((-1000000002), h)) else (bd2 (fX5_hoursUntilBreak n r v0 (h.1 (r v0 3) 1) h) (fun (x5 : Int32) (h6 : Hp) => if x5 = (-1) then (some (x5, h6)) else (if v1 = 1 then (some (x5, h6)) else (bd2 (fX5_doneUpBehind n r v0 x5 h6) (fun (x10 : Int32) (h11 : Hp) => (fX5_leastOf n r ((h6.1 (r v0 3) 1) &&& (x10 ^^^ (-1))) h11).bind (fun (x13 : Int32) => some (x13, h11))))))))
set_option maxHeartbeats 4000000 in
set_option maxRecDepth 100000 in
theorem uX5_first {S : Shp} {n : Nat} {r : Rf} {v0 : Nat} {v1 : Int32} {h : Hp} {o : (Int32 × Hp)} (hW : WF S r) (hv0 : S[v0]? = some (5, 11)) (hf : fX5_first n r v0 v1 h = some o) : GX5_first S r r (some o.1, o.2) 0 [(0, .ref v0), (1, .int v1)] [] h := by
  unfold fX5_first at hf
  refine g_iload_n (ps := 1) dX5_first_0 rfl rfl ?_
  refine g_iconst (v := 0) dX5_first_1 (by decide +kernel) ?_
  refine g_iconst (v := 1) dX5_first_2 (by decide +kernel) ?_
  obtain ⟨x2, e1, hf⟩ := bd_s hf
  refine g_callSi (As := [.int v1, .int 0, .int 1]) (n := 3) (kX5_isWithin hW  e1) gX5_first_X5_isWithin rfl ⟨rfl, rfl⟩ hdX5_isWithin ⟨Nat.le_of_ble_eq_true rfl, Nat.le_of_ble_eq_true rfl⟩ rfl rfl (Nat.le_of_ble_eq_true rfl) dX5_first_3 ?_
  refine g_if_ne (tgt := 12) dX5_first_6 (by decide) (fun c3 => ?_) (fun c3 => ?_)
  · have hf := if_f hf c3
    refine g_aload_n (ps := 0) dX5_first_12 rfl rfl ?_
    refine g_aload_n (ps := 0) dX5_first_13 rfl rfl ?_
    refine g_getR cf5 hv0 nX5_first_X5 (j := 3) (by decide) rfl mX5_first_29 dX5_first_14 ?_
    refine g_getI cf0 (hW _ _ _ hv0 3 _ rfl) nX5_first_X0 (j := 1) (by decide) rfl mX5_first_110 dX5_first_17 ?_
    obtain ⟨x5, h6, e4, hf⟩ := bd2_s hf
    refine g_callVi (As := [.int (h.1 (r v0 3) 1)]) (n := 1) (kX5_hoursUntilBreak hW hv0 e4) gX5_first_X5_hoursUntilBreak rfl ⟨rfl, rfl⟩ ⟨rfl, hdX5_hoursUntilBreak⟩ ⟨Nat.le_of_ble_eq_true rfl, Nat.le_of_ble_eq_true rfl⟩ cf5 hv0 rfl rfl (Nat.le_of_ble_eq_true rfl) dX5_first_20 ?_
    refine g_istore_n (L' := [(2, .int x5), (0, .ref v0), (1, .int v1)]) dX5_first_23 rfl (by decide) rfl ?_
    refine g_iload_n (ps := 0) dX5_first_24 rfl rfl ?_
    refine g_iconst (v := (-1)) dX5_first_25 (by decide +kernel) ?_
    refine g_icmp_eq (tgt := 34) dX5_first_26 (by decide) (fun c7 => ?_) (fun c7 => ?_)
    · have hf := if_t hf c7
      refine g_iload_n (ps := 0) dX5_first_34 rfl rfl ?_
      have hf := Option.some.inj hf
      subst hf
      exact g_iret dX5_first_35
    · have hf := if_f hf c7
      refine g_iload_n (ps := 2) dX5_first_29 rfl rfl ?_
      refine g_iconst (v := 1) dX5_first_30 (by decide +kernel) ?_
      refine g_icmp_ne (tgt := 36) dX5_first_31 (by decide) (fun c8 => ?_) (fun c8 => ?_)
      · have hf := if_f hf c8
        refine g_aload_n (ps := 1) dX5_first_36 rfl rfl ?_
        refine g_getR cf5 hv0 nX5_first_X5 (j := 3) (by decide) rfl mX5_first_29 dX5_first_37 ?_
        refine g_getI cf0 (hW _ _ _ hv0 3 _ rfl) nX5_first_X0 (j := 1) (by decide) rfl mX5_first_110 dX5_first_40 ?_
        refine g_aload_n (ps := 1) dX5_first_43 rfl rfl ?_
        refine g_iload_n (ps := 0) dX5_first_44 rfl rfl ?_
        obtain ⟨x10, h11, e9, hf⟩ := bd2_s hf
        refine g_callVi (As := [.int x5]) (n := 1) (kX5_doneUpBehind hW hv0 e9) gX5_first_X5_doneUpBehind rfl ⟨rfl, rfl⟩ ⟨rfl, hdX5_doneUpBehind⟩ ⟨Nat.le_of_ble_eq_true rfl, Nat.le_of_ble_eq_true rfl⟩ cf5 hv0 rfl rfl (Nat.le_of_ble_eq_true rfl) dX5_first_45 ?_
        refine g_iconst (v := (-1)) dX5_first_48 (by decide +kernel) ?_
        refine g_ixor dX5_first_49 ?_
        refine g_iand dX5_first_50 ?_
        obtain ⟨x13, e12, hf⟩ := bd_s hf
        refine g_callSi (As := [.int ((h6.1 (r v0 3) 1) &&& (x10 ^^^ (-1)))]) (n := 1) (kX5_leastOf hW  e12) gX5_first_X5_leastOf rfl ⟨rfl, rfl⟩ hdX5_leastOf ⟨Nat.le_of_ble_eq_true rfl, Nat.le_of_ble_eq_true rfl⟩ rfl rfl (Nat.le_of_ble_eq_true rfl) dX5_first_51 ?_
        have hf := Option.some.inj hf
        subst hf
        exact g_iret dX5_first_54
      · have hf := if_t hf c8
        refine g_iload_n (ps := 0) dX5_first_34 rfl rfl ?_
        have hf := Option.some.inj hf
        subst hf
        exact g_iret dX5_first_35
  · have hf := if_t hf c3
    refine g_ldc (v := (-1000000002)) mX5_first_68 dX5_first_9 ?_
    have hf := Option.some.inj hf
    subst hf
    exact g_iret dX5_first_11
theorem kX5_first {S : Shp} {n : Nat} {r : Rf} {v0 : Nat} {v1 : Int32} {h : Hp} {o : (Int32 × Hp)} (hW : WF S r) (hv0 : S[v0]? = some (5, 11)) (hf : fX5_first n r v0 v1 h = some o) : CTi yX5_first wsX5_first rmX5_first S r [.ref v0, .int v1] h r o.1 o.2 :=
  cti_of rfl (by decide +kernel) rfl (Nat.le_of_ble_eq_true rfl) rfl (uX5_first hW hv0 hf)
/-! X5_still still -/
def rmX5_still : Room := { frames := 5, cells := 0, slots := 0, locals := 110 }
abbrev GX5_still (S : Shp) (r r' : Rf) (out : Option Int32 × Hp) (pc : Nat) (L : List (Nat × Value)) (st : List Value) (h : Hp) : Prop := G RX5 cX5_still 2 (some .int) wsX5_still rmX5_still S r r' out pc L st h
theorem mX5_still_68 : Cond.constant RX5 68 (-1000000002) ∈ wsX5_still := by decide +kernel
theorem hdX5_still : yX5_still.cls ≠ "java/lang/invoke/MethodHandle" ∧ yX5_still.cls ≠ "java/lang/invoke/VarHandle" ∧ (parseMethodDescriptor yX5_still.desc).map (fun d => d.parameters.length) = some 1 := by decide +kernel
def fX5_still (n : Nat) (r : Rf) (v0 : Nat) (v1 : Int32) (h : Hp) : Option (Int32 × Hp) :=
  (fX5_isWithin n r v1 0 60 h).bind (fun (x2 : Int32) => if x2 = 0 then (some ((-1000000002), h)) else (bd2 (fX5_doneUpBehind n r v0 v1 h) (fun (x5 : Int32) (h6 : Hp) => some (x5, h6))))
set_option maxHeartbeats 4000000 in
set_option maxRecDepth 100000 in
theorem uX5_still {S : Shp} {n : Nat} {r : Rf} {v0 : Nat} {v1 : Int32} {h : Hp} {o : (Int32 × Hp)} (hW : WF S r) (hv0 : S[v0]? = some (5, 11)) (hf : fX5_still n r v0 v1 h = some o) : GX5_still S r r (some o.1, o.2) 0 [(0, .ref v0), (1, .int v1)] [] h := by
  unfold fX5_still at hf
  refine g_iload_n (ps := 1) dX5_still_0 rfl rfl ?_
  refine g_iconst (v := 0) dX5_still_1 (by decide +kernel) ?_
  refine g_bipush (v := 60) dX5_still_2 (by decide +kernel) ?_
  obtain ⟨x2, e1, hf⟩ := bd_s hf
  refine g_callSi (As := [.int v1, .int 0, .int 60]) (n := 3) (kX5_isWithin hW  e1) gX5_still_X5_isWithin rfl ⟨rfl, rfl⟩ hdX5_isWithin ⟨Nat.le_of_ble_eq_true rfl, Nat.le_of_ble_eq_true rfl⟩ rfl rfl (Nat.le_of_ble_eq_true rfl) dX5_still_4 ?_
  refine g_if_ne (tgt := 13) dX5_still_7 (by decide) (fun c3 => ?_) (fun c3 => ?_)
  · have hf := if_f hf c3
    refine g_aload_n (ps := 0) dX5_still_13 rfl rfl ?_
    refine g_iload_n (ps := 1) dX5_still_14 rfl rfl ?_
    obtain ⟨x5, h6, e4, hf⟩ := bd2_s hf
    refine g_callVi (As := [.int v1]) (n := 1) (kX5_doneUpBehind hW hv0 e4) gX5_still_X5_doneUpBehind rfl ⟨rfl, rfl⟩ ⟨rfl, hdX5_doneUpBehind⟩ ⟨Nat.le_of_ble_eq_true rfl, Nat.le_of_ble_eq_true rfl⟩ cf5 hv0 rfl rfl (Nat.le_of_ble_eq_true rfl) dX5_still_15 ?_
    have hf := Option.some.inj hf
    subst hf
    exact g_iret dX5_still_18
  · have hf := if_t hf c3
    refine g_ldc (v := (-1000000002)) mX5_still_68 dX5_still_10 ?_
    have hf := Option.some.inj hf
    subst hf
    exact g_iret dX5_still_12
theorem kX5_still {S : Shp} {n : Nat} {r : Rf} {v0 : Nat} {v1 : Int32} {h : Hp} {o : (Int32 × Hp)} (hW : WF S r) (hv0 : S[v0]? = some (5, 11)) (hf : fX5_still n r v0 v1 h = some o) : CTi yX5_still wsX5_still rmX5_still S r [.ref v0, .int v1] h r o.1 o.2 :=
  cti_of rfl (by decide +kernel) rfl (Nat.le_of_ble_eq_true rfl) rfl (uX5_still hW hv0 hf)
/-! X5_parts parts -/
def rmX5_parts : Room := { frames := 5, cells := 0, slots := 0, locals := 110 }
abbrev GX5_parts (S : Shp) (r r' : Rf) (out : Option Int32 × Hp) (pc : Nat) (L : List (Nat × Value)) (st : List Value) (h : Hp) : Prop := G RX5 cX5_parts 2 (some .int) wsX5_parts rmX5_parts S r r' out pc L st h
theorem nX5_parts_X5 : ∀ w ∈ wsX50, w ∈ wsX5_parts := by decide +kernel
theorem mX5_parts_68 : Cond.constant RX5 68 (-1000000002) ∈ wsX5_parts := by decide +kernel
theorem mX5_parts_19 : Cond.fieldLink RX5 19 "LinkedIsles" "chart" "LLinkedIsles$Chart;" ∈ wsX5_parts := by decide +kernel
theorem hdX5_parts : yX5_parts.cls ≠ "java/lang/invoke/MethodHandle" ∧ yX5_parts.cls ≠ "java/lang/invoke/VarHandle" ∧ (parseMethodDescriptor yX5_parts.desc).map (fun d => d.parameters.length) = some 1 := by decide +kernel
def fX5_parts (n : Nat) (r : Rf) (v0 : Nat) (v1 : Int32) (h : Hp) : Option (Int32 × Hp) :=
  (fX5_isWithin n r v1 0 60 h).bind (fun (x2 : Int32) => if x2 = 0 then (some ((-1000000002), h)) else (bd2 (fX5_doneUpBehind n r v0 v1 h) (fun (x5 : Int32) (h6 : Hp) => (fX1_partsBy n r (r v0 1) x5 h6).bind (fun (x8 : Int32) => some (x8, h6)))))
set_option maxHeartbeats 4000000 in
set_option maxRecDepth 100000 in
theorem uX5_parts {S : Shp} {n : Nat} {r : Rf} {v0 : Nat} {v1 : Int32} {h : Hp} {o : (Int32 × Hp)} (hW : WF S r) (hv0 : S[v0]? = some (5, 11)) (hf : fX5_parts n r v0 v1 h = some o) : GX5_parts S r r (some o.1, o.2) 0 [(0, .ref v0), (1, .int v1)] [] h := by
  unfold fX5_parts at hf
  refine g_iload_n (ps := 1) dX5_parts_0 rfl rfl ?_
  refine g_iconst (v := 0) dX5_parts_1 (by decide +kernel) ?_
  refine g_bipush (v := 60) dX5_parts_2 (by decide +kernel) ?_
  obtain ⟨x2, e1, hf⟩ := bd_s hf
  refine g_callSi (As := [.int v1, .int 0, .int 60]) (n := 3) (kX5_isWithin hW  e1) gX5_parts_X5_isWithin rfl ⟨rfl, rfl⟩ hdX5_isWithin ⟨Nat.le_of_ble_eq_true rfl, Nat.le_of_ble_eq_true rfl⟩ rfl rfl (Nat.le_of_ble_eq_true rfl) dX5_parts_4 ?_
  refine g_if_ne (tgt := 13) dX5_parts_7 (by decide) (fun c3 => ?_) (fun c3 => ?_)
  · have hf := if_f hf c3
    refine g_aload_n (ps := 0) dX5_parts_13 rfl rfl ?_
    refine g_getR cf5 hv0 nX5_parts_X5 (j := 1) (by decide) rfl mX5_parts_19 dX5_parts_14 ?_
    refine g_aload_n (ps := 0) dX5_parts_17 rfl rfl ?_
    refine g_iload_n (ps := 1) dX5_parts_18 rfl rfl ?_
    obtain ⟨x5, h6, e4, hf⟩ := bd2_s hf
    refine g_callVi (As := [.int v1]) (n := 1) (kX5_doneUpBehind hW hv0 e4) gX5_parts_X5_doneUpBehind rfl ⟨rfl, rfl⟩ ⟨rfl, hdX5_doneUpBehind⟩ ⟨Nat.le_of_ble_eq_true rfl, Nat.le_of_ble_eq_true rfl⟩ cf5 hv0 rfl rfl (Nat.le_of_ble_eq_true rfl) dX5_parts_19 ?_
    obtain ⟨x8, e7, hf⟩ := bd_s hf
    refine g_callVi (As := [.int x5]) (n := 1) (kX1_partsBy hW (hW _ _ _ hv0 1 _ rfl) e7) gX5_parts_X1_partsBy rfl ⟨rfl, rfl⟩ ⟨rfl, hdX1_partsBy⟩ ⟨Nat.le_of_ble_eq_true rfl, Nat.le_of_ble_eq_true rfl⟩ cf1 (hW _ _ _ hv0 1 _ rfl) rfl rfl (Nat.le_of_ble_eq_true rfl) dX5_parts_22 ?_
    have hf := Option.some.inj hf
    subst hf
    exact g_iret dX5_parts_25
  · have hf := if_t hf c3
    refine g_ldc (v := (-1000000002)) mX5_parts_68 dX5_parts_10 ?_
    have hf := Option.some.inj hf
    subst hf
    exact g_iret dX5_parts_12
theorem kX5_parts {S : Shp} {n : Nat} {r : Rf} {v0 : Nat} {v1 : Int32} {h : Hp} {o : (Int32 × Hp)} (hW : WF S r) (hv0 : S[v0]? = some (5, 11)) (hf : fX5_parts n r v0 v1 h = some o) : CTi yX5_parts wsX5_parts rmX5_parts S r [.ref v0, .int v1] h r o.1 o.2 :=
  cti_of rfl (by decide +kernel) rfl (Nat.le_of_ble_eq_true rfl) rfl (uX5_parts hW hv0 hf)
