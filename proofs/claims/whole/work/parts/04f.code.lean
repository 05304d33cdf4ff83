/-! X5_clashesIfTurned clashesIfTurned -/
def rmX5_clashesIfTurned : Room := { frames := 2, cells := 0, slots := 0, locals := 47 }
abbrev GX5_clashesIfTurned (S : Shp) (r r' : Rf) (out : Option Int32 × Hp) (pc : Nat) (L : List (Nat × Value)) (st : List Value) (h : Hp) : Prop := G RX5 cX5_clashesIfTurned 2 (some .int) wsX5_clashesIfTurned rmX5_clashesIfTurned S r r' out pc L st h
theorem nX5_clashesIfTurned_X0 : ∀ w ∈ wsX00, w ∈ wsX5_clashesIfTurned := by decide +kernel
theorem nX5_clashesIfTurned_X5 : ∀ w ∈ wsX50, w ∈ wsX5_clashesIfTurned := by decide +kernel
theorem mX5_clashesIfTurned_110 : Cond.fieldLink RX5 110 "LinkedIsles$Bonds" "doneUp" "I" ∈ wsX5_clashesIfTurned := by decide +kernel
theorem mX5_clashesIfTurned_117 : Cond.fieldLink RX5 117 "LinkedIsles$Bonds" "turned" "I" ∈ wsX5_clashesIfTurned := by decide +kernel
theorem mX5_clashesIfTurned_19 : Cond.fieldLink RX5 19 "LinkedIsles" "chart" "LLinkedIsles$Chart;" ∈ wsX5_clashesIfTurned := by decide +kernel
theorem mX5_clashesIfTurned_29 : Cond.fieldLink RX5 29 "LinkedIsles" "now" "LLinkedIsles$Bonds;" ∈ wsX5_clashesIfTurned := by decide +kernel
theorem hdX5_clashesIfTurned : yX5_clashesIfTurned.cls ≠ "java/lang/invoke/MethodHandle" ∧ yX5_clashesIfTurned.cls ≠ "java/lang/invoke/VarHandle" ∧ (parseMethodDescriptor yX5_clashesIfTurned.desc).map (fun d => d.parameters.length) = some 1 := by decide +kernel
def fX5_clashesIfTurned (n : Nat) (r : Rf) (v0 : Nat) (v1 : Int32) (h : Hp) : Option (Int32 × Hp) :=
  bd2 (fX1_clashing n r (r v0 1) (h.1 (r v0 3) 1) ((h.1 (r v0 3) 2) ^^^ v1) h) (fun (x2 : Int32) (h3 : Hp) => (fJ6_bitCount_0f7a4 n r x2 h3).bind (fun (x5 : Int32) => some (x5, h3)))
set_option maxHeartbeats 4000000 in
set_option maxRecDepth 100000 in
theorem uX5_clashesIfTurned {S : Shp} {n : Nat} {r : Rf} {v0 : Nat} {v1 : Int32} {h : Hp} {o : (Int32 × Hp)} (hW : WF S r) (hv0 : S[v0]? = some (5, 11)) (hf : fX5_clashesIfTurned n r v0 v1 h = some o) : GX5_clashesIfTurned S r r (some o.1, o.2) 0 [(0, .ref v0), (1, .int v1)] [] h := by
  unfold fX5_clashesIfTurned at hf
  refine g_aload_n (ps := 0) dX5_clashesIfTurned_0 rfl rfl ?_
  refine g_getR cf5 hv0 nX5_clashesIfTurned_X5 (j := 1) (by decide) rfl mX5_clashesIfTurned_19 dX5_clashesIfTurned_1 ?_
  refine g_aload_n (ps := 0) dX5_clashesIfTurned_4 rfl rfl ?_
  refine g_getR cf5 hv0 nX5_clashesIfTurned_X5 (j := 3) (by decide) rfl mX5_clashesIfTurned_29 dX5_clashesIfTurned_5 ?_
  refine g_getI cf0 (hW _ _ _ hv0 3 _ rfl) nX5_clashesIfTurned_X0 (j := 1) (by decide) rfl mX5_clashesIfTurned_110 dX5_clashesIfTurned_8 ?_
  refine g_aload_n (ps := 0) dX5_clashesIfTurned_11 rfl rfl ?_
  refine g_getR cf5 hv0 nX5_clashesIfTurned_X5 (j := 3) (by decide) rfl mX5_clashesIfTurned_29 dX5_clashesIfTurned_12 ?_
  refine g_getI cf0 (hW _ _ _ hv0 3 _ rfl) nX5_clashesIfTurned_X0 (j := 2) (by decide) rfl mX5_clashesIfTurned_117 dX5_clashesIfTurned_15 ?_
  refine g_iload_n (ps := 1) dX5_clashesIfTurned_18 rfl rfl ?_
  refine g_ixor dX5_clashesIfTurned_19 ?_
  obtain ⟨x2, h3, e1, hf⟩ := bd2_s hf
  refine g_callVi (As := [.int (h.1 (r v0 3) 1), .int ((h.1 (r v0 3) 2) ^^^ v1)]) (n := 2) (kX1_clashing hW (hW _ _ _ hv0 1 _ rfl) e1) gX5_clashesIfTurned_X1_clashing rfl ⟨rfl, rfl⟩ ⟨rfl, hdX1_clashing⟩ ⟨Nat.le_of_ble_eq_true rfl, Nat.le_of_ble_eq_true rfl⟩ cf1 (hW _ _ _ hv0 1 _ rfl) rfl rfl (Nat.le_of_ble_eq_true rfl) dX5_clashesIfTurned_20 ?_
  obtain ⟨x5, e4, hf⟩ := bd_s hf
  refine g_callSi (As := [.int x2]) (n := 1) (kJ6_bitCount_0f7a4 hW  e4) gX5_clashesIfTurned_J6_bitCount_0f7a4 rfl ⟨rfl, rfl⟩ hdJ6_bitCount_0f7a4 ⟨Nat.le_of_ble_eq_true rfl, Nat.le_of_ble_eq_true rfl⟩ rfl rfl (Nat.le_of_ble_eq_true rfl) dX5_clashesIfTurned_23 ?_
  have hf := Option.some.inj hf
  subst hf
  exact g_iret dX5_clashesIfTurned_26
theorem kX5_clashesIfTurned {S : Shp} {n : Nat} {r : Rf} {v0 : Nat} {v1 : Int32} {h : Hp} {o : (Int32 × Hp)} (hW : WF S r) (hv0 : S[v0]? = some (5, 11)) (hf : fX5_clashesIfTurned n r v0 v1 h = some o) : CTi yX5_clashesIfTurned wsX5_clashesIfTurned rmX5_clashesIfTurned S r [.ref v0, .int v1] h r o.1 o.2 :=
  cti_of rfl (by decide +kernel) rfl (Nat.le_of_ble_eq_true rfl) rfl (uX5_clashesIfTurned hW hv0 hf)
/-! X5_fewestToTurn fewestToTurn -/
def rmX5_fewestToTurn : Room := { frames := 3, cells := 0, slots := 0, locals := 68 }
abbrev GX5_fewestToTurn (S : Shp) (r r' : Rf) (out : Option Int32 × Hp) (pc : Nat) (L : List (Nat × Value)) (st : List Value) (h : Hp) : Prop := G RX5 cX5_fewestToTurn 6 (some .int) wsX5_fewestToTurn rmX5_fewestToTurn S r r' out pc L st h
theorem nX5_fewestToTurn_X0 : ∀ w ∈ wsX00, w ∈ wsX5_fewestToTurn := by decide +kernel
theorem nX5_fewestToTurn_X5 : ∀ w ∈ wsX50, w ∈ wsX5_fewestToTurn := by decide +kernel
theorem mX5_fewestToTurn_110 : Cond.fieldLink RX5 110 "LinkedIsles$Bonds" "doneUp" "I" ∈ wsX5_fewestToTurn := by decide +kernel
theorem mX5_fewestToTurn_29 : Cond.fieldLink RX5 29 "LinkedIsles" "now" "LLinkedIsles$Bonds;" ∈ wsX5_fewestToTurn := by decide +kernel
theorem hdX5_fewestToTurn : yX5_fewestToTurn.cls ≠ "java/lang/invoke/MethodHandle" ∧ yX5_fewestToTurn.cls ≠ "java/lang/invoke/VarHandle" ∧ (parseMethodDescriptor yX5_fewestToTurn.desc).map (fun d => d.parameters.length) = some 0 := by decide +kernel
def jX5_fewestToTurn_59 (n : Nat) (r : Rf) (v0 : Nat) (v1 : Int32) (v2 : Int32) (v3 : Int32) (v4 : Int32) (s0 : Int32) (h : Hp) : Option ((Int32 × Int32 × Int32 × Hp) ⊕ (Int32 × Int32 × Hp)) :=
  if v2 ≤ s0 then (lE (v4 + 1) (fun (x12 : Int32) => some (.inl (v1, v2, x12, h)))) else (lE (v4 + 1) (fun (x13 : Int32) => some (.inl (v4, s0, x13, h))))
def bX5_fewestToTurn_23 (n : Nat) (r : Rf) (v0 : Nat) (v1 : Int32) (v2 : Int32) (v3 : Int32) (v4 : Int32) (h : Hp) : Option ((Int32 × Int32 × Int32 × Hp) ⊕ (Int32 × Int32 × Hp)) :=
  if (h.1 (r v0 3) 1) < v4 then (some (.inr (v1, v2, h))) else (if v2 ≤ 0 then (some (.inr (v1, v2, h))) else ((fX5_isChoice n r v0 v4 v3 h).bind (fun (x9 : Int32) => if x9 = 0 then (jX5_fewestToTurn_59 n r v0 v1 v2 v3 v4 v2 h) else (bd2 (fX5_clashesIfTurned n r v0 v4 h) (fun (x15 : Int32) (h16 : Hp) => jX5_fewestToTurn_59 n r v0 v1 v2 v3 v4 x15 h16)))))
def lX5_fewestToTurn_23 (n : Nat) (r : Rf) (v0 : Nat) (v1 : Int32) (v2 : Int32) (v3 : Int32) (v4 : Int32) (h : Hp) : Option ((Int32 × Int32 × Int32 × Hp) ⊕ (Int32 × Hp)) :=
  (it (fun (s : Int32 × Int32 × Int32 × Hp) => bX5_fewestToTurn_23 n r v0 s.1 s.2.1 v3 s.2.2.1 s.2.2.2) n (v1, v2, v4, h)).bind (fun z => lE (v3 + 1) (fun (x17 : Int32) => some (.inl ((z.1), (z.2.1), x17, (z.2.2)))))
def bX5_fewestToTurn_10 (n : Nat) (r : Rf) (v0 : Nat) (v1 : Int32) (v2 : Int32) (v3 : Int32) (h : Hp) : Option ((Int32 × Int32 × Int32 × Hp) ⊕ (Int32 × Hp)) :=
  if 10 < v3 then (some (.inr (v1, h))) else (if v2 ≤ 0 then (some (.inr (v1, h))) else (lX5_fewestToTurn_23 n r v0 v1 v2 v3 1 h))
def lX5_fewestToTurn_10 (n : Nat) (r : Rf) (v0 : Nat) (v1 : Int32) (v2 : Int32) (v3 : Int32) (h : Hp) : Option (Int32 × Hp) :=
  (it (fun (s : Int32 × Int32 × Int32 × Hp) => bX5_fewestToTurn_10 n r v0 s.1 s.2.1 s.2.2.1 s.2.2.2) n (v1, v2, v3, h)).bind (fun z => some ((z.1), (z.2)))
def fX5_fewestToTurn (n : Nat) (r : Rf) (v0 : Nat) (h : Hp) : Option (Int32 × Hp) :=
  bd2 (fX5_clashesIfTurned n r v0 0 h) (fun (x2 : Int32) (h3 : Hp) => lX5_fewestToTurn_10 n r v0 0 x2 1 h3)
set_option maxHeartbeats 4000000 in
set_option maxRecDepth 100000 in
theorem ujX5_fewestToTurn_59 {S : Shp} {n : Nat} {r : Rf} {out : Option Int32 × Hp} {r' : Rf} {v0 : Nat} {v1 : Int32} {v2 : Int32} {v3 : Int32} {v4 : Int32} {s0 : Int32} {h : Hp} {w : (Int32 × Int32 × Int32 × Hp) ⊕ (Int32 × Int32 × Hp)} (hW : WF S r) (hv0 : S[v0]? = some (5, 11)) (hf : jX5_fewestToTurn_59 n r v0 v1 v2 v3 v4 s0 h = some w) (hk : ∀ y, w = .inl y → GX5_fewestToTurn S r r' out 23 [(0, .ref v0), (1, .int (y.1)), (2, .int (y.2.1)), (3, .int v3), (4, .int (y.2.2.1))] [] (y.2.2.2)) (he : ∀ z, w = .inr z → GX5_fewestToTurn S r r' out 79 [(0, .ref v0), (1, .int (z.1)), (2, .int (z.2.1)), (3, .int v3)] [] (z.2.2)) : GX5_fewestToTurn S r r' out 59 [(0, .ref v0), (1, .int v1), (2, .int v2), (3, .int v3), (4, .int v4)] [.int s0] h := by
  unfold jX5_fewestToTurn_59 at hf
  refine g_istore (L' := [(5, .int s0), (0, .ref v0), (1, .int v1), (2, .int v2), (3, .int v3), (4, .int v4)]) dX5_fewestToTurn_59 (by decide) rfl ?_
  refine g_iload (ps := 0) dX5_fewestToTurn_61 rfl ?_
  refine g_iload_n (ps := 3) dX5_fewestToTurn_63 rfl rfl ?_
  refine g_icmp_ge (tgt := 73) dX5_fewestToTurn_64 (by decide) (fun c11 => ?_) (fun c11 => ?_)
  · have hf := if_t hf c11
    obtain ⟨x12, ex12⟩ : ∃ y : Int32, y = v4 + 1 := ⟨_, rfl⟩
    have hf := lE_s hf ex12
    refine g_iinc (ps := 5) (v := x12) (L' := [(4, .int x12), (5, .int s0), (0, .ref v0), (1, .int v1), (2, .int v2), (3, .int v3)]) dX5_fewestToTurn_73 rfl (by rw [ex12]; rfl) (by decide) rfl ?_
    refine g_goto (tgt := 23) dX5_fewestToTurn_76 (by decide) ?_
    exact g_pick [2, 3, 4, 5, 0] rfl (hk _ (Option.some.inj hf).symm)
  · have hf := if_f hf c11
    refine g_iload (ps := 5) dX5_fewestToTurn_67 rfl ?_
    refine g_istore_n (L' := [(1, .int v4), (5, .int s0), (0, .ref v0), (2, .int v2), (3, .int v3), (4, .int v4)]) dX5_fewestToTurn_69 rfl (by decide) rfl ?_
    refine g_iload (ps := 1) dX5_fewestToTurn_70 rfl ?_
    refine g_istore_n (L' := [(2, .int s0), (1, .int v4), (5, .int s0), (0, .ref v0), (3, .int v3), (4, .int v4)]) dX5_fewestToTurn_72 rfl (by decide) rfl ?_
    obtain ⟨x13, ex13⟩ : ∃ y : Int32, y = v4 + 1 := ⟨_, rfl⟩
    have hf := lE_s hf ex13
    refine g_iinc (ps := 5) (v := x13) (L' := [(4, .int x13), (2, .int s0), (1, .int v4), (5, .int s0), (0, .ref v0), (3, .int v3)]) dX5_fewestToTurn_73 rfl (by rw [ex13]; rfl) (by decide) rfl ?_
    refine g_goto (tgt := 23) dX5_fewestToTurn_76 (by decide) ?_
    exact g_pick [4, 2, 1, 5, 0] rfl (hk _ (Option.some.inj hf).symm)
set_option maxHeartbeats 4000000 in
set_option maxRecDepth 100000 in
theorem ubX5_fewestToTurn_23 {S : Shp} {n : Nat} {r : Rf} {out : Option Int32 × Hp} {r' : Rf} {v0 : Nat} {v1 : Int32} {v2 : Int32} {v3 : Int32} {v4 : Int32}  {h : Hp} {w : (Int32 × Int32 × Int32 × Hp) ⊕ (Int32 × Int32 × Hp)} (hW : WF S r) (hv0 : S[v0]? = some (5, 11)) (hf : bX5_fewestToTurn_23 n r v0 v1 v2 v3 v4 h = some w) (hk : ∀ y, w = .inl y → GX5_fewestToTurn S r r' out 23 [(0, .ref v0), (1, .int (y.1)), (2, .int (y.2.1)), (3, .int v3), (4, .int (y.2.2.1))] [] (y.2.2.2)) (he : ∀ z, w = .inr z → GX5_fewestToTurn S r r' out 79 [(0, .ref v0), (1, .int (z.1)), (2, .int (z.2.1)), (3, .int v3)] [] (z.2.2)) : GX5_fewestToTurn S r r' out 23 [(0, .ref v0), (1, .int v1), (2, .int v2), (3, .int v3), (4, .int v4)] [] h := by
  unfold bX5_fewestToTurn_23 at hf
  refine g_iload (ps := 4) dX5_fewestToTurn_23 rfl ?_
  refine g_aload_n (ps := 0) dX5_fewestToTurn_25 rfl rfl ?_
  refine g_getR cf5 hv0 nX5_fewestToTurn_X5 (j := 3) (by decide) rfl mX5_fewestToTurn_29 dX5_fewestToTurn_26 ?_
  refine g_getI cf0 (hW _ _ _ hv0 3 _ rfl) nX5_fewestToTurn_X0 (j := 1) (by decide) rfl mX5_fewestToTurn_110 dX5_fewestToTurn_29 ?_
  refine g_icmp_gt (tgt := 79) dX5_fewestToTurn_32 (by decide) (fun c6 => ?_) (fun c6 => ?_)
  · have hf := if_t hf c6
    exact g_pick [0, 1, 2, 3] rfl (he _ (Option.some.inj hf).symm)
  · have hf := if_f hf c6
    refine g_iload_n (ps := 2) dX5_fewestToTurn_35 rfl rfl ?_
    refine g_if_le (tgt := 79) dX5_fewestToTurn_36 (by decide) (fun c7 => ?_) (fun c7 => ?_)
    · have hf := if_t hf c7
      exact g_pick [0, 1, 2, 3] rfl (he _ (Option.some.inj hf).symm)
    · have hf := if_f hf c7
      refine g_aload_n (ps := 0) dX5_fewestToTurn_39 rfl rfl ?_
      refine g_iload (ps := 4) dX5_fewestToTurn_40 rfl ?_
      refine g_iload_n (ps := 3) dX5_fewestToTurn_42 rfl rfl ?_
      obtain ⟨x9, e8, hf⟩ := bd_s hf
      refine g_callVi (As := [.int v4, .int v3]) (n := 2) (kX5_isChoice hW hv0 e8) gX5_fewestToTurn_X5_isChoice rfl ⟨rfl, rfl⟩ ⟨rfl, hdX5_isChoice⟩ ⟨Nat.le_of_ble_eq_true rfl, Nat.le_of_ble_eq_true rfl⟩ cf5 hv0 rfl rfl (Nat.le_of_ble_eq_true rfl) dX5_fewestToTurn_43 ?_
      refine g_if_eq (tgt := 58) dX5_fewestToTurn_46 (by decide) (fun c10 => ?_) (fun c10 => ?_)
      · have hf := if_t hf c10
        refine g_iload_n (ps := 2) dX5_fewestToTurn_58 rfl rfl ?_
        exact g_pick [0, 1, 2, 3, 4] rfl (ujX5_fewestToTurn_59 hW hv0 hf hk he)
      · have hf := if_f hf c10
        refine g_aload_n (ps := 0) dX5_fewestToTurn_49 rfl rfl ?_
        refine g_iload (ps := 4) dX5_fewestToTurn_50 rfl ?_
        obtain ⟨x15, h16, e14, hf⟩ := bd2_s hf
        refine g_callVi (As := [.int v4]) (n := 1) (kX5_clashesIfTurned hW hv0 e14) gX5_fewestToTurn_X5_clashesIfTurned rfl ⟨rfl, rfl⟩ ⟨rfl, hdX5_clashesIfTurned⟩ ⟨Nat.le_of_ble_eq_true rfl, Nat.le_of_ble_eq_true rfl⟩ cf5 hv0 rfl rfl (Nat.le_of_ble_eq_true rfl) dX5_fewestToTurn_52 ?_
        refine g_goto (tgt := 59) dX5_fewestToTurn_55 (by decide) ?_
        exact g_pick [0, 1, 2, 3, 4] rfl (ujX5_fewestToTurn_59 hW hv0 hf hk he)
set_option maxHeartbeats 4000000 in
set_option maxRecDepth 100000 in
theorem ulX5_fewestToTurn_23 {S : Shp} {n : Nat} {r : Rf} {out : Option Int32 × Hp} {r' : Rf} {v0 : Nat} {v1 : Int32} {v2 : Int32} {v3 : Int32} {v4 : Int32}  {h : Hp} {w : (Int32 × Int32 × Int32 × Hp) ⊕ (Int32 × Hp)} (hW : WF S r) (hv0 : S[v0]? = some (5, 11)) (hf : lX5_fewestToTurn_23 n r v0 v1 v2 v3 v4 h = some w) (hk : ∀ y, w = .inl y → GX5_fewestToTurn S r r' out 10 [(0, .ref v0), (1, .int (y.1)), (2, .int (y.2.1)), (3, .int (y.2.2.1))] [] (y.2.2.2)) (he : ∀ z, w = .inr z → GX5_fewestToTurn S r r' out 85 [(0, .ref v0), (1, .int (z.1))] [] (z.2)) : GX5_fewestToTurn S r r' out 23 [(0, .ref v0), (1, .int v1), (2, .int v2), (3, .int v3), (4, .int v4)] [] h := by
  unfold lX5_fewestToTurn_23 at hf
  obtain ⟨z0, ei, hf⟩ := bd_s hf
  refine it_ind (P := fun (s : Int32 × Int32 × Int32 × Hp) => GX5_fewestToTurn S r r' out 23 [(0, .ref v0), (1, .int (s.1)), (2, .int (s.2.1)), (3, .int v3), (4, .int (s.2.2.1))] [] (s.2.2.2)) (fun s w hb hk2 he2 => ?_) n _ ei
  refine ubX5_fewestToTurn_23 (out := out) (r' := r') hW hv0 hb hk2 (fun z hz => ?_)
  have hz := he2 z hz
  subst hz
  obtain ⟨x17, ex17⟩ : ∃ y : Int32, y = v3 + 1 := ⟨_, rfl⟩
  have hf := lE_s hf ex17
  refine g_iinc (ps := 3) (v := x17) (L' := [(3, .int x17), (0, .ref v0), (1, .int (z.1)), (2, .int (z.2.1))]) dX5_fewestToTurn_79 rfl (by rw [ex17]; rfl) (by decide) rfl ?_
  refine g_goto (tgt := 10) dX5_fewestToTurn_82 (by decide) ?_
  exact g_pick [1, 2, 3, 0] rfl (hk _ (Option.some.inj hf).symm)
set_option maxHeartbeats 4000000 in
set_option maxRecDepth 100000 in
theorem ubX5_fewestToTurn_10 {S : Shp} {n : Nat} {r : Rf} {out : Option Int32 × Hp} {r' : Rf} {v0 : Nat} {v1 : Int32} {v2 : Int32} {v3 : Int32}  {h : Hp} {w : (Int32 × Int32 × Int32 × Hp) ⊕ (Int32 × Hp)} (hW : WF S r) (hv0 : S[v0]? = some (5, 11)) (hf : bX5_fewestToTurn_10 n r v0 v1 v2 v3 h = some w) (hk : ∀ y, w = .inl y → GX5_fewestToTurn S r r' out 10 [(0, .ref v0), (1, .int (y.1)), (2, .int (y.2.1)), (3, .int (y.2.2.1))] [] (y.2.2.2)) (he : ∀ z, w = .inr z → GX5_fewestToTurn S r r' out 85 [(0, .ref v0), (1, .int (z.1))] [] (z.2)) : GX5_fewestToTurn S r r' out 10 [(0, .ref v0), (1, .int v1), (2, .int v2), (3, .int v3)] [] h := by
  unfold bX5_fewestToTurn_10 at hf
  refine g_iload_n (ps := 3) dX5_fewestToTurn_10 rfl rfl ?_
  refine g_bipush (v := 10) dX5_fewestToTurn_11 (by decide +kernel) ?_
  refine g_icmp_gt (tgt := 85) dX5_fewestToTurn_13 (by decide) (fun c4 => ?_) (fun c4 => ?_)
  · have hf := if_t hf c4
    exact g_pick [0, 1] rfl (he _ (Option.some.inj hf).symm)
  · have hf := if_f hf c4
    refine g_iload_n (ps := 2) dX5_fewestToTurn_16 rfl rfl ?_
    refine g_if_le (tgt := 85) dX5_fewestToTurn_17 (by decide) (fun c5 => ?_) (fun c5 => ?_)
    · have hf := if_t hf c5
      exact g_pick [0, 1] rfl (he _ (Option.some.inj hf).symm)
    · have hf := if_f hf c5
      refine g_iconst (v := 1) dX5_fewestToTurn_20 (by decide +kernel) ?_
      refine g_istore (L' := [(4, .int 1), (0, .ref v0), (1, .int v1), (2, .int v2), (3, .int v3)]) dX5_fewestToTurn_21 (by decide) rfl ?_
      exact g_pick [1, 2, 3, 4, 0] rfl (ulX5_fewestToTurn_23 hW hv0 hf hk he)
set_option maxHeartbeats 4000000 in
set_option maxRecDepth 100000 in
theorem ulX5_fewestToTurn_10 {S : Shp} {n : Nat} {r : Rf} {v0 : Nat} {v1 : Int32} {v2 : Int32} {v3 : Int32}  {h : Hp} {o : (Int32 × Hp)} (hW : WF S r) (hv0 : S[v0]? = some (5, 11)) (hf : lX5_fewestToTurn_10 n r v0 v1 v2 v3 h = some o)  : GX5_fewestToTurn S r r (some o.1, o.2) 10 [(0, .ref v0), (1, .int v1), (2, .int v2), (3, .int v3)] [] h := by
  unfold lX5_fewestToTurn_10 at hf
  obtain ⟨z0, ei, hf⟩ := bd_s hf
  refine it_ind (P := fun (s : Int32 × Int32 × Int32 × Hp) => GX5_fewestToTurn S r r (some o.1, o.2) 10 [(0, .ref v0), (1, .int (s.1)), (2, .int (s.2.1)), (3, .int (s.2.2.1))] [] (s.2.2.2)) (fun s w hb hk2 he2 => ?_) n _ ei
  refine ubX5_fewestToTurn_10 (out := (some o.1, o.2)) (r' := r) hW hv0 hb hk2 (fun z hz => ?_)
  have hz := he2 z hz
  subst hz
  refine g_iload_n (ps := 1) dX5_fewestToTurn_85 rfl rfl ?_
  have hf := Option.some.inj hf
  subst hf
  exact g_iret dX5_fewestToTurn_86
set_option maxHeartbeats 4000000 in
set_option maxRecDepth 100000 in
theorem uX5_fewestToTurn {S : Shp} {n : Nat} {r : Rf} {v0 : Nat} {h : Hp} {o : (Int32 × Hp)} (hW : WF S r) (hv0 : S[v0]? = some (5, 11)) (hf : fX5_fewestToTurn n r v0 h = some o) : GX5_fewestToTurn S r r (some o.1, o.2) 0 [(0, .ref v0)] [] h := by
  unfold fX5_fewestToTurn at hf
  refine g_iconst (v := 0) dX5_fewestToTurn_0 (by decide +kernel) ?_
  refine g_istore_n (L' := [(1, .int 0), (0, .ref v0)]) dX5_fewestToTurn_1 rfl (by decide) rfl ?_
  refine g_aload_n (ps := 1) dX5_fewestToTurn_2 rfl rfl ?_
  refine g_iconst (v := 0) dX5_fewestToTurn_3 (by decide +kernel) ?_
  obtain ⟨x2, h3, e1, hf⟩ := bd2_s hf
  refine g_callVi (As := [.int 0]) (n := 1) (kX5_clashesIfTurned hW hv0 e1) gX5_fewestToTurn_X5_clashesIfTurned rfl ⟨rfl, rfl⟩ ⟨rfl, hdX5_clashesIfTurned⟩ ⟨Nat.le_of_ble_eq_true rfl, Nat.le_of_ble_eq_true rfl⟩ cf5 hv0 rfl rfl (Nat.le_of_ble_eq_true rfl) dX5_fewestToTurn_4 ?_
  refine g_istore_n (L' := [(2, .int x2), (1, .int 0), (0, .ref v0)]) dX5_fewestToTurn_7 rfl (by decide) rfl ?_
  refine g_iconst (v := 1) dX5_fewestToTurn_8 (by decide +kernel) ?_
  refine g_istore_n (L' := [(3, .int 1), (2, .int x2), (1, .int 0), (0, .ref v0)]) dX5_fewestToTurn_9 rfl (by decide) rfl ?_
  exact g_pick [3, 2, 1, 0] rfl (ulX5_fewestToTurn_10 hW hv0 hf)
theorem kX5_fewestToTurn {S : Shp} {n : Nat} {r : Rf} {v0 : Nat} {h : Hp} {o : (Int32 × Hp)} (hW : WF S r) (hv0 : S[v0]? = some (5, 11)) (hf : fX5_fewestToTurn n r v0 h = some o) : CTi yX5_fewestToTurn wsX5_fewestToTurn rmX5_fewestToTurn S r [.ref v0] h r o.1 o.2 :=
  cti_of rfl (by decide +kernel) rfl (Nat.le_of_ble_eq_true rfl) rfl (uX5_fewestToTurn hW hv0 hf)
/-! X5_agree agree -/
def rmX5_agree : Room := { frames := 4, cells := 0, slots := 0, locals := 93 }
abbrev GX5_agree (S : Shp) (r r' : Rf) (out : Option Int32 × Hp) (pc : Nat) (L : List (Nat × Value)) (st : List Value) (h : Hp) : Prop := G RX5 cX5_agree 3 (some .int) wsX5_agree rmX5_agree S r r' out pc L st h
theorem mX5_agree_68 : Cond.constant RX5 68 (-1000000002) ∈ wsX5_agree := by decide +kernel
theorem hdX5_agree : yX5_agree.cls ≠ "java/lang/invoke/MethodHandle" ∧ yX5_agree.cls ≠ "java/lang/invoke/VarHandle" ∧ (parseMethodDescriptor yX5_agree.desc).map (fun d => d.parameters.length) = some 1 := by decide +kernel
def fX5_agree (n : Nat) (r : Rf) (v0 : Nat) (v1 : Int32) (h : Hp) : Option (Int32 × Hp) :=
  (fX5_isWithin n r v1 0 1 h).bind (fun (x2 : Int32) => if x2 = 0 then (some ((-1000000002), h)) else (bd2 (fX5_fewestToTurn n r v0 h) (fun (x5 : Int32) (h6 : Hp) => if v1 = 1 then (some (x5, h6)) else (bd2 (fX5_clashesIfTurned n r v0 x5 h6) (fun (x9 : Int32) (h10 : Hp) => some (x9, h10))))))
set_option maxHeartbeats 4000000 in
set_option maxRecDepth 100000 in
theorem uX5_agree {S : Shp} {n : Nat} {r : Rf} {v0 : Nat} {v1 : Int32} {h : Hp} {o : (Int32 × Hp)} (hW : WF S r) (hv0 : S[v0]? = some (5, 11)) (hf : fX5_agree n r v0 v1 h = some o) : GX5_agree S r r (some o.1, o.2) 0 [(0, .ref v0), (1, .int v1)] [] h := by
  unfold fX5_agree at hf
  refine g_iload_n (ps := 1) dX5_agree_0 rfl rfl ?_
  refine g_iconst (v := 0) dX5_agree_1 (by decide +kernel) ?_
  refine g_iconst (v := 1) dX5_agree_2 (by decide +kernel) ?_
  obtain ⟨x2, e1, hf⟩ := bd_s hf
  refine g_callSi (As := [.int v1, .int 0, .int 1]) (n := 3) (kX5_isWithin hW  e1) gX5_agree_X5_isWithin rfl ⟨rfl, rfl⟩ hdX5_isWithin ⟨Nat.le_of_ble_eq_true rfl, Nat.le_of_ble_eq_true rfl⟩ rfl rfl (Nat.le_of_ble_eq_true rfl) dX5_agree_3 ?_
  refine g_if_ne (tgt := 12) dX5_agree_6 (by decide) (fun c3 => ?_) (fun c3 => ?_)
  · have hf := if_f hf c3
    refine g_aload_n (ps := 0) dX5_agree_12 rfl rfl ?_
    obtain ⟨x5, h6, e4, hf⟩ := bd2_s hf
    refine g_callVi (As := []) (n := 0) (kX5_fewestToTurn hW hv0 e4) gX5_agree_X5_fewestToTurn rfl ⟨rfl, rfl⟩ ⟨rfl, hdX5_fewestToTurn⟩ ⟨Nat.le_of_ble_eq_true rfl, Nat.le_of_ble_eq_true rfl⟩ cf5 hv0 rfl rfl (Nat.le_of_ble_eq_true rfl) dX5_agree_13 ?_
    refine g_istore_n (L' := [(2, .int x5), (0, .ref v0), (1, .int v1)]) dX5_agree_16 rfl (by decide) rfl ?_
    refine g_iload_n (ps := 2) dX5_agree_17 rfl rfl ?_
    refine g_iconst (v := 1) dX5_agree_18 (by decide +kernel) ?_
    refine g_icmp_ne (tgt := 26) dX5_agree_19 (by decide) (fun c7 => ?_) (fun c7 => ?_)
    · have hf := if_f hf c7
      refine g_aload_n (ps := 1) dX5_agree_26 rfl rfl ?_
      refine g_iload_n (ps := 0) dX5_agree_27 rfl rfl ?_
      obtain ⟨x9, h10, e8, hf⟩ := bd2_s hf
      refine g_callVi (As := [.int x5]) (n := 1) (kX5_clashesIfTurned hW hv0 e8) gX5_agree_X5_clashesIfTurned rfl ⟨rfl, rfl⟩ ⟨rfl, hdX5_clashesIfTurned⟩ ⟨Nat.le_of_ble_eq_true rfl, Nat.le_of_ble_eq_true rfl⟩ cf5 hv0 rfl rfl (Nat.le_of_ble_eq_true rfl) dX5_agree_28 ?_
      have hf := Option.some.inj hf
      subst hf
      exact g_iret dX5_agree_31
    · have hf := if_t hf c7
      refine g_iload_n (ps := 0) dX5_agree_22 rfl rfl ?_
      refine g_goto (tgt := 31) dX5_agree_23 (by decide) ?_
      have hf := Option.some.inj hf
      subst hf
      exact g_iret dX5_agree_31
  · have hf := if_t hf c3
    refine g_ldc (v := (-1000000002)) mX5_agree_68 dX5_agree_9 ?_
    have hf := Option.some.inj hf
    subst hf
    exact g_iret dX5_agree_11
theorem kX5_agree {S : Shp} {n : Nat} {r : Rf} {v0 : Nat} {v1 : Int32} {h : Hp} {o : (Int32 × Hp)} (hW : WF S r) (hv0 : S[v0]? = some (5, 11)) (hf : fX5_agree n r v0 v1 h = some o) : CTi yX5_agree wsX5_agree rmX5_agree S r [.ref v0, .int v1] h r o.1 o.2 :=
  cti_of rfl (by decide +kernel) rfl (Nat.le_of_ble_eq_true rfl) rfl (uX5_agree hW hv0 hf)
/-! X5_liesOn liesOn -/
def rmX5_liesOn : Room := { frames := 2, cells := 0, slots := 0, locals := 45 }
abbrev GX5_liesOn (S : Shp) (r r' : Rf) (out : Option Int32 × Hp) (pc : Nat) (L : List (Nat × Value)) (st : List Value) (h : Hp) : Prop := G RX5 cX5_liesOn 6 (some .boolean) wsX5_liesOn rmX5_liesOn S r r' out pc L st h
theorem nX5_liesOn_X0 : ∀ w ∈ wsX00, w ∈ wsX5_liesOn := by decide +kernel
theorem nX5_liesOn_X5 : ∀ w ∈ wsX50, w ∈ wsX5_liesOn := by decide +kernel
theorem mX5_liesOn_110 : Cond.fieldLink RX5 110 "LinkedIsles$Bonds" "doneUp" "I" ∈ wsX5_liesOn := by decide +kernel
theorem mX5_liesOn_19 : Cond.fieldLink RX5 19 "LinkedIsles" "chart" "LLinkedIsles$Chart;" ∈ wsX5_liesOn := by decide +kernel
theorem mX5_liesOn_29 : Cond.fieldLink RX5 29 "LinkedIsles" "now" "LLinkedIsles$Bonds;" ∈ wsX5_liesOn := by decide +kernel
theorem hdX5_liesOn : yX5_liesOn.cls ≠ "java/lang/invoke/MethodHandle" ∧ yX5_liesOn.cls ≠ "java/lang/invoke/VarHandle" ∧ (parseMethodDescriptor yX5_liesOn.desc).map (fun d => d.parameters.length) = some 2 := by decide +kernel
def fX5_liesOn (n : Nat) (r : Rf) (v0 : Nat) (v1 : Int32) (v2 : Int32) (h : Hp) : Option Int32 :=
  lE (((1 <<< (v1 &&& 31)) ||| (1 <<< (v2 &&& 31)))) (fun (x1 : Int32) => (fX1_widen n r (r v0 1) (1 <<< (v1 &&& 31)) (h.1 (r v0 3) 1) h).bind (fun (x3 : Int32) => lE ((x3 &&& (x1 ^^^ (-1)))) (fun (x4 : Int32) => (fX1_widen n r (r v0 1) (1 <<< (v2 &&& 31)) (h.1 (r v0 3) 1) h).bind (fun (x6 : Int32) => lE ((x6 &&& (x1 ^^^ (-1)))) (fun (x7 : Int32) => if x4 = x7 then (if x4 = 0 then (some 0) else (some 1)) else (some 0))))))
set_option maxHeartbeats 4000000 in
set_option maxRecDepth 100000 in
theorem uX5_liesOn {S : Shp} {n : Nat} {r : Rf} {v0 : Nat} {v1 : Int32} {v2 : Int32} {h : Hp} {o : Int32} (hW : WF S r) (hv0 : S[v0]? = some (5, 11)) (hf : fX5_liesOn n r v0 v1 v2 h = some o) : GX5_liesOn S r r (some o, h) 0 [(0, .ref v0), (1, .int v1), (2, .int v2)] [] h := by
  unfold fX5_liesOn at hf
  refine g_iconst (v := 1) dX5_liesOn_0 (by decide +kernel) ?_
  refine g_iload_n (ps := 1) dX5_liesOn_1 rfl rfl ?_
  refine g_ishl dX5_liesOn_2 ?_
  refine g_iconst (v := 1) dX5_liesOn_3 (by decide +kernel) ?_
  refine g_iload_n (ps := 2) dX5_liesOn_4 rfl rfl ?_
  refine g_ishl dX5_liesOn_5 ?_
  refine g_ior dX5_liesOn_6 ?_
  refine g_topi (fun x1 ex1 => ?_)
  have hf := lE_s hf ex1
  refine g_istore_n (L' := [(3, .int x1), (0, .ref v0), (1, .int v1), (2, .int v2)]) dX5_liesOn_7 rfl (by decide) rfl ?_
  refine g_aload_n (ps := 1) dX5_liesOn_8 rfl rfl ?_
  refine g_getR cf5 hv0 nX5_liesOn_X5 (j := 1) (by decide) rfl mX5_liesOn_19 dX5_liesOn_9 ?_
  refine g_iconst (v := 1) dX5_liesOn_12 (by decide +kernel) ?_
  refine g_iload_n (ps := 2) dX5_liesOn_13 rfl rfl ?_
  refine g_ishl dX5_liesOn_14 ?_
  refine g_aload_n (ps := 1) dX5_liesOn_15 rfl rfl ?_
  refine g_getR cf5 hv0 nX5_liesOn_X5 (j := 3) (by decide) rfl mX5_liesOn_29 dX5_liesOn_16 ?_
  refine g_getI cf0 (hW _ _ _ hv0 3 _ rfl) nX5_liesOn_X0 (j := 1) (by decide) rfl mX5_liesOn_110 dX5_liesOn_19 ?_
  obtain ⟨x3, e2, hf⟩ := bd_s hf
  refine g_callVi (As := [.int (1 <<< (v1 &&& 31)), .int (h.1 (r v0 3) 1)]) (n := 2) (kX1_widen hW (hW _ _ _ hv0 1 _ rfl) e2) gX5_liesOn_X1_widen rfl ⟨rfl, rfl⟩ ⟨rfl, hdX1_widen⟩ ⟨Nat.le_of_ble_eq_true rfl, Nat.le_of_ble_eq_true rfl⟩ cf1 (hW _ _ _ hv0 1 _ rfl) rfl rfl (Nat.le_of_ble_eq_true rfl) dX5_liesOn_22 ?_
  refine g_iload_n (ps := 0) dX5_liesOn_25 rfl rfl ?_
  refine g_iconst (v := (-1)) dX5_liesOn_26 (by decide +kernel) ?_
  refine g_ixor dX5_liesOn_27 ?_
  refine g_iand dX5_liesOn_28 ?_
  refine g_topi (fun x4 ex4 => ?_)
  have hf := lE_s hf ex4
  refine g_istore (L' := [(4, .int x4), (3, .int x1), (0, .ref v0), (1, .int v1), (2, .int v2)]) dX5_liesOn_29 (by decide) rfl ?_
  refine g_aload_n (ps := 2) dX5_liesOn_31 rfl rfl ?_
  refine g_getR cf5 hv0 nX5_liesOn_X5 (j := 1) (by decide) rfl mX5_liesOn_19 dX5_liesOn_32 ?_
  refine g_iconst (v := 1) dX5_liesOn_35 (by decide +kernel) ?_
  refine g_iload_n (ps := 4) dX5_liesOn_36 rfl rfl ?_
  refine g_ishl dX5_liesOn_37 ?_
  refine g_aload_n (ps := 2) dX5_liesOn_38 rfl rfl ?_
  refine g_getR cf5 hv0 nX5_liesOn_X5 (j := 3) (by decide) rfl mX5_liesOn_29 dX5_liesOn_39 ?_
  refine g_getI cf0 (hW _ _ _ hv0 3 _ rfl) nX5_liesOn_X0 (j := 1) (by decide) rfl mX5_liesOn_110 dX5_liesOn_42 ?_
  obtain ⟨x6, e5, hf⟩ := bd_s hf
  refine g_callVi (As := [.int (1 <<< (v2 &&& 31)), .int (h.1 (r v0 3) 1)]) (n := 2) (kX1_widen hW (hW _ _ _ hv0 1 _ rfl) e5) gX5_liesOn_X1_widen rfl ⟨rfl, rfl⟩ ⟨rfl, hdX1_widen⟩ ⟨Nat.le_of_ble_eq_true rfl, Nat.le_of_ble_eq_true rfl⟩ cf1 (hW _ _ _ hv0 1 _ rfl) rfl rfl (Nat.le_of_ble_eq_true rfl) dX5_liesOn_45 ?_
  refine g_iload_n (ps := 1) dX5_liesOn_48 rfl rfl ?_
  refine g_iconst (v := (-1)) dX5_liesOn_49 (by decide +kernel) ?_
  refine g_ixor dX5_liesOn_50 ?_
  refine g_iand dX5_liesOn_51 ?_
  refine g_topi (fun x7 ex7 => ?_)
  have hf := lE_s hf ex7
  refine g_istore (L' := [(5, .int x7), (4, .int x4), (3, .int x1), (0, .ref v0), (1, .int v1), (2, .int v2)]) dX5_liesOn_52 (by decide) rfl ?_
  refine g_iload (ps := 1) dX5_liesOn_54 rfl ?_
  refine g_iload (ps := 0) dX5_liesOn_56 rfl ?_
  refine g_icmp_ne (tgt := 70) dX5_liesOn_58 (by decide) (fun c8 => ?_) (fun c8 => ?_)
  · have hf := if_f hf c8
    refine g_iconst (v := 0) dX5_liesOn_70 (by decide +kernel) ?_
    have hf := Option.some.inj hf
    subst hf
    exact g_zret (Or.inl rfl) dX5_liesOn_71
  · have hf := if_t hf c8
    refine g_iload (ps := 1) dX5_liesOn_61 rfl ?_
    refine g_if_eq (tgt := 70) dX5_liesOn_63 (by decide) (fun c9 => ?_) (fun c9 => ?_)
    · have hf := if_t hf c9
      refine g_iconst (v := 0) dX5_liesOn_70 (by decide +kernel) ?_
      have hf := Option.some.inj hf
      subst hf
      exact g_zret (Or.inl rfl) dX5_liesOn_71
    · have hf := if_f hf c9
      refine g_iconst (v := 1) dX5_liesOn_66 (by decide +kernel) ?_
      refine g_goto (tgt := 71) dX5_liesOn_67 (by decide) ?_
      have hf := Option.some.inj hf
      subst hf
      exact g_zret (Or.inr rfl) dX5_liesOn_71
theorem kX5_liesOn {S : Shp} {n : Nat} {r : Rf} {v0 : Nat} {v1 : Int32} {v2 : Int32} {h : Hp} {o : Int32} (hW : WF S r) (hv0 : S[v0]? = some (5, 11)) (hf : fX5_liesOn n r v0 v1 v2 h = some o) : CTi yX5_liesOn wsX5_liesOn rmX5_liesOn S r [.ref v0, .int v1, .int v2] h r o h :=
  cti_of rfl (by decide +kernel) rfl (Nat.le_of_ble_eq_true rfl) rfl (uX5_liesOn hW hv0 hf)
/-! X5_fold fold -/
def rmX5_fold : Room := { frames := 3, cells := 0, slots := 0, locals := 70 }
abbrev GX5_fold (S : Shp) (r r' : Rf) (out : Option Int32 × Hp) (pc : Nat) (L : List (Nat × Value)) (st : List Value) (h : Hp) : Prop := G RX5 cX5_fold 5 (some .int) wsX5_fold rmX5_fold S r r' out pc L st h
theorem nX5_fold_X1 : ∀ w ∈ wsX10, w ∈ wsX5_fold := by decide +kernel
theorem nX5_fold_X5 : ∀ w ∈ wsX50, w ∈ wsX5_fold := by decide +kernel
theorem mX5_fold_19 : Cond.fieldLink RX5 19 "LinkedIsles" "chart" "LLinkedIsles$Chart;" ∈ wsX5_fold := by decide +kernel
theorem mX5_fold_95 : Cond.fieldLink RX5 95 "LinkedIsles$Chart" "islands" "I" ∈ wsX5_fold := by decide +kernel
theorem hdX5_fold : yX5_fold.cls ≠ "java/lang/invoke/MethodHandle" ∧ yX5_fold.cls ≠ "java/lang/invoke/VarHandle" ∧ (parseMethodDescriptor yX5_fold.desc).map (fun d => d.parameters.length) = some 1 := by decide +kernel
def bX5_fold_20 (n : Nat) (r : Rf) (v0 : Nat) (v1 : Int32) (v2 : Int32) (v3 : Int32) (v4 : Int32) (h : Hp) : Option ((Int32 × Int32) ⊕ ((Int32) ⊕ (Int32))) :=
  if (h.1 (r v0 1) 9) ≤ v4 then (some (.inr (.inr (v2)))) else ((fX5_liesOn n r v0 v3 v4 h).bind (fun (x5 : Int32) => if x5 = 0 then (lE (v4 + 1) (fun (x7 : Int32) => some (.inl (v2, x7)))) else (if v2 = v1 then (some (.inr (.inl v4))) else (lE (v2 + 1) (fun (x9 : Int32) => lE (v4 + 1) (fun (x10 : Int32) => some (.inl (x9, x10))))))))
def lX5_fold_20 (n : Nat) (r : Rf) (v0 : Nat) (v1 : Int32) (v2 : Int32) (v3 : Int32) (v4 : Int32) (h : Hp) : Option ((Int32 × Int32) ⊕ ((Int32 × Int32) ⊕ (Int32))) :=
  (it (fun (s : Int32 × Int32) => bX5_fold_20 n r v0 v1 s.1 v3 s.2 h) n (v2, v4)).bind (fun z => match z with | .inl z => some (.inr (.inl (v3, z))) | .inr z => lE (v3 + 1) (fun (x11 : Int32) => some (.inl (z, x11))))
def bX5_fold_4 (n : Nat) (r : Rf) (v0 : Nat) (v1 : Int32) (v2 : Int32) (v3 : Int32) (h : Hp) : Option ((Int32 × Int32) ⊕ ((Int32 × Int32) ⊕ (Int32))) :=
  if (h.1 (r v0 1) 9) ≤ v3 then (some (.inr (.inr (v2)))) else (lE ((v3 + 1)) (fun (x2 : Int32) => lX5_fold_20 n r v0 v1 v2 v3 x2 h))
def lX5_fold_4 (n : Nat) (r : Rf) (v0 : Nat) (v1 : Int32) (v2 : Int32) (v3 : Int32) (h : Hp) : Option Int32 :=
  (it (fun (s : Int32 × Int32) => bX5_fold_4 n r v0 v1 s.1 s.2 h) n (v2, v3)).bind (fun z => match z with | .inl z => some ((10 * (z.1)) + (z.2)) | .inr z => if v1 = (-1) then (some z) else (some (-1)))
def fX5_fold (n : Nat) (r : Rf) (v0 : Nat) (v1 : Int32) (h : Hp) : Option Int32 :=
  lX5_fold_4 n r v0 v1 0 0 h
set_option maxHeartbeats 4000000 in
set_option maxRecDepth 100000 in
theorem ubX5_fold_20 {S : Shp} {n : Nat} {r : Rf} {out : Option Int32 × Hp} {r' : Rf} {v0 : Nat} {v1 : Int32} {v2 : Int32} {v3 : Int32} {v4 : Int32}  {h : Hp} {w : (Int32 × Int32) ⊕ ((Int32) ⊕ (Int32))} (hW : WF S r) (hv0 : S[v0]? = some (5, 11)) (hf : bX5_fold_20 n r v0 v1 v2 v3 v4 h = some w) (hk : ∀ y, w = .inl y → GX5_fold S r r' out 20 [(0, .ref v0), (1, .int v1), (2, .int (y.1)), (3, .int v3), (4, .int (y.2))] [] h) (he : ∀ z, w = .inr z → (match z with | .inl z => GX5_fold S r r' out 47 [(0, .ref v0), (3, .int v3), (4, .int (z))] [] h | .inr z => GX5_fold S r r' out 64 [(0, .ref v0), (1, .int v1), (2, .int (z)), (3, .int v3)] [] h)) : GX5_fold S r r' out 20 [(0, .ref v0), (1, .int v1), (2, .int v2), (3, .int v3), (4, .int v4)] [] h := by
  unfold bX5_fold_20 at hf
  refine g_iload (ps := 4) dX5_fold_20 rfl ?_
  refine g_aload_n (ps := 0) dX5_fold_22 rfl rfl ?_
  refine g_getR cf5 hv0 nX5_fold_X5 (j := 1) (by decide) rfl mX5_fold_19 dX5_fold_23 ?_
  refine g_getI cf1 (hW _ _ _ hv0 1 _ rfl) nX5_fold_X1 (j := 9) (by decide) rfl mX5_fold_95 dX5_fold_26 ?_
  refine g_icmp_ge (tgt := 64) dX5_fold_29 (by decide) (fun c3 => ?_) (fun c3 => ?_)
  · have hf := if_t hf c3
    exact g_pick [0, 1, 2, 3] rfl (he _ (Option.some.inj hf).symm)
  · have hf := if_f hf c3
    refine g_aload_n (ps := 0) dX5_fold_32 rfl rfl ?_
    refine g_iload_n (ps := 3) dX5_fold_33 rfl rfl ?_
    refine g_iload (ps := 4) dX5_fold_34 rfl ?_
    obtain ⟨x5, e4, hf⟩ := bd_s hf
    refine g_callVi (As := [.int v3, .int v4]) (n := 2) (kX5_liesOn hW hv0 e4) gX5_fold_X5_liesOn rfl ⟨rfl, rfl⟩ ⟨rfl, hdX5_liesOn⟩ ⟨Nat.le_of_ble_eq_true rfl, Nat.le_of_ble_eq_true rfl⟩ cf5 hv0 rfl rfl (Nat.le_of_ble_eq_true rfl) dX5_fold_36 ?_
    refine g_if_eq (tgt := 58) dX5_fold_39 (by decide) (fun c6 => ?_) (fun c6 => ?_)
    · have hf := if_t hf c6
      obtain ⟨x7, ex7⟩ : ∃ y : Int32, y = v4 + 1 := ⟨_, rfl⟩
      have hf := lE_s hf ex7
      refine g_iinc (ps := 4) (v := x7) (L' := [(4, .int x7), (0, .ref v0), (1, .int v1), (2, .int v2), (3, .int v3)]) dX5_fold_58 rfl (by rw [ex7]; rfl) (by decide) rfl ?_
      refine g_goto (tgt := 20) dX5_fold_61 (by decide) ?_
      exact g_pick [1, 2, 3, 4, 0] rfl (hk _ (Option.some.inj hf).symm)
    · have hf := if_f hf c6
      refine g_iload_n (ps := 2) dX5_fold_42 rfl rfl ?_
      refine g_iload_n (ps := 1) dX5_fold_43 rfl rfl ?_
      refine g_icmp_ne (tgt := 55) dX5_fold_44 (by decide) (fun c8 => ?_) (fun c8 => ?_)
      · have hf := if_f hf c8
        obtain ⟨x9, ex9⟩ : ∃ y : Int32, y = v2 + 1 := ⟨_, rfl⟩
        have hf := lE_s hf ex9
        refine g_iinc (ps := 2) (v := x9) (L' := [(2, .int x9), (0, .ref v0), (1, .int v1), (3, .int v3), (4, .int v4)]) dX5_fold_55 rfl (by rw [ex9]; rfl) (by decide) rfl ?_
        obtain ⟨x10, ex10⟩ : ∃ y : Int32, y = v4 + 1 := ⟨_, rfl⟩
        have hf := lE_s hf ex10
        refine g_iinc (ps := 4) (v := x10) (L' := [(4, .int x10), (2, .int x9), (0, .ref v0), (1, .int v1), (3, .int v3)]) dX5_fold_58 rfl (by rw [ex10]; rfl) (by decide) rfl ?_
        refine g_goto (tgt := 20) dX5_fold_61 (by decide) ?_
        exact g_pick [2, 3, 1, 4, 0] rfl (hk _ (Option.some.inj hf).symm)
      · have hf := if_t hf c8
        exact g_pick [0, 3, 4] rfl (he _ (Option.some.inj hf).symm)
set_option maxHeartbeats 4000000 in
set_option maxRecDepth 100000 in
theorem ulX5_fold_20 {S : Shp} {n : Nat} {r : Rf} {out : Option Int32 × Hp} {r' : Rf} {v0 : Nat} {v1 : Int32} {v2 : Int32} {v3 : Int32} {v4 : Int32}  {h : Hp} {w : (Int32 × Int32) ⊕ ((Int32 × Int32) ⊕ (Int32))} (hW : WF S r) (hv0 : S[v0]? = some (5, 11)) (hf : lX5_fold_20 n r v0 v1 v2 v3 v4 h = some w) (hk : ∀ y, w = .inl y → GX5_fold S r r' out 4 [(0, .ref v0), (1, .int v1), (2, .int (y.1)), (3, .int (y.2))] [] h) (he : ∀ z, w = .inr z → (match z with | .inl z => GX5_fold S r r' out 47 [(0, .ref v0), (3, .int (z.1)), (4, .int (z.2))] [] h | .inr z => GX5_fold S r r' out 70 [(0, .ref v0), (1, .int v1), (2, .int (z))] [] h)) : GX5_fold S r r' out 20 [(0, .ref v0), (1, .int v1), (2, .int v2), (3, .int v3), (4, .int v4)] [] h := by
  unfold lX5_fold_20 at hf
  obtain ⟨z0, ei, hf⟩ := bd_s hf
  refine it_ind (P := fun (s : Int32 × Int32) => GX5_fold S r r' out 20 [(0, .ref v0), (1, .int v1), (2, .int (s.1)), (3, .int v3), (4, .int (s.2))] [] h) (fun s w hb hk2 he2 => ?_) n _ ei
  refine ubX5_fold_20 (out := out) (r' := r') hW hv0 hb hk2 (fun z hz => ?_)
  have hz := he2 z hz
  subst hz
  rcases z with z | z
  · exact g_pick [0, 1, 2] rfl (he _ (Option.some.inj hf).symm)
  · obtain ⟨x11, ex11⟩ : ∃ y : Int32, y = v3 + 1 := ⟨_, rfl⟩
    have hf := lE_s hf ex11
    refine g_iinc (ps := 3) (v := x11) (L' := [(3, .int x11), (0, .ref v0), (1, .int v1), (2, .int z)]) dX5_fold_64 rfl (by rw [ex11]; rfl) (by decide) rfl ?_
    refine g_goto (tgt := 4) dX5_fold_67 (by decide) ?_
    exact g_pick [1, 2, 3, 0] rfl (hk _ (Option.some.inj hf).symm)
set_option maxHeartbeats 4000000 in
set_option maxRecDepth 100000 in
theorem ubX5_fold_4 {S : Shp} {n : Nat} {r : Rf} {out : Option Int32 × Hp} {r' : Rf} {v0 : Nat} {v1 : Int32} {v2 : Int32} {v3 : Int32}  {h : Hp} {w : (Int32 × Int32) ⊕ ((Int32 × Int32) ⊕ (Int32))} (hW : WF S r) (hv0 : S[v0]? = some (5, 11)) (hf : bX5_fold_4 n r v0 v1 v2 v3 h = some w) (hk : ∀ y, w = .inl y → GX5_fold S r r' out 4 [(0, .ref v0), (1, .int v1), (2, .int (y.1)), (3, .int (y.2))] [] h) (he : ∀ z, w = .inr z → (match z with | .inl z => GX5_fold S r r' out 47 [(0, .ref v0), (3, .int (z.1)), (4, .int (z.2))] [] h | .inr z => GX5_fold S r r' out 70 [(0, .ref v0), (1, .int v1), (2, .int (z))] [] h)) : GX5_fold S r r' out 4 [(0, .ref v0), (1, .int v1), (2, .int v2), (3, .int v3)] [] h := by
  unfold bX5_fold_4 at hf
  refine g_iload_n (ps := 3) dX5_fold_4 rfl rfl ?_
  refine g_aload_n (ps := 0) dX5_fold_5 rfl rfl ?_
  refine g_getR cf5 hv0 nX5_fold_X5 (j := 1) (by decide) rfl mX5_fold_19 dX5_fold_6 ?_
  refine g_getI cf1 (hW _ _ _ hv0 1 _ rfl) nX5_fold_X1 (j := 9) (by decide) rfl mX5_fold_95 dX5_fold_9 ?_
  refine g_icmp_ge (tgt := 70) dX5_fold_12 (by decide) (fun c1 => ?_) (fun c1 => ?_)
  · have hf := if_t hf c1
    exact g_pick [0, 1, 2] rfl (he _ (Option.some.inj hf).symm)
  · have hf := if_f hf c1
    refine g_iload_n (ps := 3) dX5_fold_15 rfl rfl ?_
    refine g_iconst (v := 1) dX5_fold_16 (by decide +kernel) ?_
    refine g_iadd dX5_fold_17 ?_
    refine g_topi (fun x2 ex2 => ?_)
    have hf := lE_s hf ex2
    refine g_istore (L' := [(4, .int x2), (0, .ref v0), (1, .int v1), (2, .int v2), (3, .int v3)]) dX5_fold_18 (by decide) rfl ?_
    exact g_pick [1, 2, 3, 4, 0] rfl (ulX5_fold_20 hW hv0 hf hk he)
set_option maxHeartbeats 4000000 in
set_option maxRecDepth 100000 in
theorem ulX5_fold_4 {S : Shp} {n : Nat} {r : Rf} {v0 : Nat} {v1 : Int32} {v2 : Int32} {v3 : Int32}  {h : Hp} {o : Int32} (hW : WF S r) (hv0 : S[v0]? = some (5, 11)) (hf : lX5_fold_4 n r v0 v1 v2 v3 h = some o)  : GX5_fold S r r (some o, h) 4 [(0, .ref v0), (1, .int v1), (2, .int v2), (3, .int v3)] [] h := by
  unfold lX5_fold_4 at hf
  obtain ⟨z0, ei, hf⟩ := bd_s hf
  refine it_ind (P := fun (s : Int32 × Int32) => GX5_fold S r r (some o, h) 4 [(0, .ref v0), (1, .int v1), (2, .int (s.1)), (3, .int (s.2))] [] h) (fun s w hb hk2 he2 => ?_) n _ ei
  refine ubX5_fold_4 (out := (some o, h)) (r' := r) hW hv0 hb hk2 (fun z hz => ?_)
  have hz := he2 z hz
  subst hz
  rcases z with z | z
  · refine g_bipush (v := 10) dX5_fold_47 (by decide +kernel) ?_
    refine g_iload_n (ps := 1) dX5_fold_49 rfl rfl ?_
    refine g_imul dX5_fold_50 ?_
    refine g_iload (ps := 2) dX5_fold_51 rfl ?_
    refine g_iadd dX5_fold_53 ?_
    have hf := Option.some.inj hf
    subst hf
    exact g_iret dX5_fold_54
  · refine g_iload_n (ps := 1) dX5_fold_70 rfl rfl ?_
    refine g_iconst (v := (-1)) dX5_fold_71 (by decide +kernel) ?_
    refine g_icmp_ne (tgt := 79) dX5_fold_72 (by decide) (fun c12 => ?_) (fun c12 => ?_)
    · have hf := if_f hf c12
      refine g_iconst (v := (-1)) dX5_fold_79 (by decide +kernel) ?_
      have hf := Option.some.inj hf
      subst hf
      exact g_iret dX5_fold_80
    · have hf := if_t hf c12
      refine g_iload_n (ps := 2) dX5_fold_75 rfl rfl ?_
      refine g_goto (tgt := 80) dX5_fold_76 (by decide) ?_
      have hf := Option.some.inj hf
      subst hf
      exact g_iret dX5_fold_80
set_option maxHeartbeats 4000000 in
set_option maxRecDepth 100000 in
theorem uX5_fold {S : Shp} {n : Nat} {r : Rf} {v0 : Nat} {v1 : Int32} {h : Hp} {o : Int32} (hW : WF S r) (hv0 : S[v0]? = some (5, 11)) (hf : fX5_fold n r v0 v1 h = some o) : GX5_fold S r r (some o, h) 0 [(0, .ref v0), (1, .int v1)] [] h := by
  unfold fX5_fold at hf
  refine g_iconst (v := 0) dX5_fold_0 (by decide +kernel) ?_
  refine g_istore_n (L' := [(2, .int 0), (0, .ref v0), (1, .int v1)]) dX5_fold_1 rfl (by decide) rfl ?_
  refine g_iconst (v := 0) dX5_fold_2 (by decide +kernel) ?_
  refine g_istore_n (L' := [(3, .int 0), (2, .int 0), (0, .ref v0), (1, .int v1)]) dX5_fold_3 rfl (by decide) rfl ?_
  exact g_pick [2, 3, 1, 0] rfl (ulX5_fold_4 hW hv0 hf)
theorem kX5_fold {S : Shp} {n : Nat} {r : Rf} {v0 : Nat} {v1 : Int32} {h : Hp} {o : Int32} (hW : WF S r) (hv0 : S[v0]? = some (5, 11)) (hf : fX5_fold n r v0 v1 h = some o) : CTi yX5_fold wsX5_fold rmX5_fold S r [.ref v0, .int v1] h r o h :=
  cti_of rfl (by decide +kernel) rfl (Nat.le_of_ble_eq_true rfl) rfl (uX5_fold hW hv0 hf)
/-! X5_mostStrained mostStrained -/
def rmX5_mostStrained : Room := { frames := 2, cells := 0, slots := 0, locals := 41 }
abbrev GX5_mostStrained (S : Shp) (r r' : Rf) (out : Option Int32 × Hp) (pc : Nat) (L : List (Nat × Value)) (st : List Value) (h : Hp) : Prop := G RX5 cX5_mostStrained 4 (some .int) wsX5_mostStrained rmX5_mostStrained S r r' out pc L st h
theorem nX5_mostStrained_X0 : ∀ w ∈ wsX00, w ∈ wsX5_mostStrained := by decide +kernel
theorem nX5_mostStrained_X1 : ∀ w ∈ wsX10, w ∈ wsX5_mostStrained := by decide +kernel
theorem nX5_mostStrained_X5 : ∀ w ∈ wsX50, w ∈ wsX5_mostStrained := by decide +kernel
theorem mX5_mostStrained_148 : Cond.fieldLink RX5 148 "LinkedIsles$Bonds" "strain" "[I" ∈ wsX5_mostStrained := by decide +kernel
theorem mX5_mostStrained_19 : Cond.fieldLink RX5 19 "LinkedIsles" "chart" "LLinkedIsles$Chart;" ∈ wsX5_mostStrained := by decide +kernel
theorem mX5_mostStrained_29 : Cond.fieldLink RX5 29 "LinkedIsles" "now" "LLinkedIsles$Bonds;" ∈ wsX5_mostStrained := by decide +kernel
theorem mX5_mostStrained_89 : Cond.fieldLink RX5 89 "LinkedIsles$Chart" "links" "I" ∈ wsX5_mostStrained := by decide +kernel
theorem hdX5_mostStrained : yX5_mostStrained.cls ≠ "java/lang/invoke/MethodHandle" ∧ yX5_mostStrained.cls ≠ "java/lang/invoke/VarHandle" ∧ (parseMethodDescriptor yX5_mostStrained.desc).map (fun d => d.parameters.length) = some 1 := by decide +kernel
def bX5_mostStrained_7 (n : Nat) (r : Rf) (v0 : Nat) (v1 : Int32) (v2 : Int32) (v3 : Int32) (h : Hp) : Option ((Int32 × Int32) ⊕ (Int32)) :=
  if (h.1 (r v0 1) 10) ≤ v3 then (some (.inr v2)) else ((fX5_has n r v1 v3 h).bind (fun (x5 : Int32) => if x5 = 0 then (lE (v3 + 1) (fun (x7 : Int32) => some (.inl (v2, x7)))) else (if v2 = (-1) then (lE (v3 + 1) (fun (x9 : Int32) => some (.inl (v2, x9)))) else (ck v3 10 (ck v2 10 (if (h.1 (r (r v0 3) 0) (Int32.toNatClampNeg v3)) ≤ (h.1 (r (r v0 3) 0) (Int32.toNatClampNeg v2)) then (lE (v3 + 1) (fun (x13 : Int32) => some (.inl (v2, x13)))) else (lE (v3 + 1) (fun (x14 : Int32) => some (.inl (v3, x14))))))))))
def lX5_mostStrained_7 (n : Nat) (r : Rf) (v0 : Nat) (v1 : Int32) (v2 : Int32) (v3 : Int32) (h : Hp) : Option Int32 :=
  (it (fun (s : Int32 × Int32) => bX5_mostStrained_7 n r v0 v1 s.1 s.2 h) n (v2, v3)).bind (fun z => some z)
def fX5_mostStrained (n : Nat) (r : Rf) (v0 : Nat) (v1 : Int32) (h : Hp) : Option Int32 :=
  (fX5_leastOf n r v1 h).bind (fun (x2 : Int32) => lX5_mostStrained_7 n r v0 v1 x2 0 h)
set_option maxHeartbeats 4000000 in
set_option maxRecDepth 100000 in
theorem ubX5_mostStrained_7 {S : Shp} {n : Nat} {r : Rf} {out : Option Int32 × Hp} {r' : Rf} {v0 : Nat} {v1 : Int32} {v2 : Int32} {v3 : Int32}  {h : Hp} {w : (Int32 × Int32) ⊕ (Int32)} (hW : WF S r) (hv0 : S[v0]? = some (5, 11)) (hf : bX5_mostStrained_7 n r v0 v1 v2 v3 h = some w) (hk : ∀ y, w = .inl y → GX5_mostStrained S r r' out 7 [(0, .ref v0), (1, .int v1), (2, .int (y.1)), (3, .int (y.2))] [] h) (he : ∀ z, w = .inr z → GX5_mostStrained S r r' out 60 [(0, .ref v0), (2, .int (z))] [] h) : GX5_mostStrained S r r' out 7 [(0, .ref v0), (1, .int v1), (2, .int v2), (3, .int v3)] [] h := by
  unfold bX5_mostStrained_7 at hf
  refine g_iload_n (ps := 3) dX5_mostStrained_7 rfl rfl ?_
  refine g_aload_n (ps := 0) dX5_mostStrained_8 rfl rfl ?_
  refine g_getR cf5 hv0 nX5_mostStrained_X5 (j := 1) (by decide) rfl mX5_mostStrained_19 dX5_mostStrained_9 ?_
  refine g_getI cf1 (hW _ _ _ hv0 1 _ rfl) nX5_mostStrained_X1 (j := 10) (by decide) rfl mX5_mostStrained_89 dX5_mostStrained_12 ?_
  refine g_icmp_ge (tgt := 60) dX5_mostStrained_15 (by decide) (fun c3 => ?_) (fun c3 => ?_)
  · have hf := if_t hf c3
    exact g_pick [0, 2] rfl (he _ (Option.some.inj hf).symm)
  · have hf := if_f hf c3
    refine g_iload_n (ps := 1) dX5_mostStrained_18 rfl rfl ?_
    refine g_iload_n (ps := 3) dX5_mostStrained_19 rfl rfl ?_
    obtain ⟨x5, e4, hf⟩ := bd_s hf
    refine g_callSi (As := [.int v1, .int v3]) (n := 2) (kX5_has hW  e4) gX5_mostStrained_X5_has rfl ⟨rfl, rfl⟩ hdX5_has ⟨Nat.le_of_ble_eq_true rfl, Nat.le_of_ble_eq_true rfl⟩ rfl rfl (Nat.le_of_ble_eq_true rfl) dX5_mostStrained_20 ?_
    refine g_if_eq (tgt := 54) dX5_mostStrained_23 (by decide) (fun c6 => ?_) (fun c6 => ?_)
    · have hf := if_t hf c6
      obtain ⟨x7, ex7⟩ : ∃ y : Int32, y = v3 + 1 := ⟨_, rfl⟩
      have hf := lE_s hf ex7
      refine g_iinc (ps := 3) (v := x7) (L' := [(3, .int x7), (0, .ref v0), (1, .int v1), (2, .int v2)]) dX5_mostStrained_54 rfl (by rw [ex7]; rfl) (by decide) rfl ?_
      refine g_goto (tgt := 7) dX5_mostStrained_57 (by decide) ?_
      exact g_pick [1, 2, 3, 0] rfl (hk _ (Option.some.inj hf).symm)
    · have hf := if_f hf c6
      refine g_iload_n (ps := 2) dX5_mostStrained_26 rfl rfl ?_
      refine g_iconst (v := (-1)) dX5_mostStrained_27 (by decide +kernel) ?_
      refine g_icmp_eq (tgt := 54) dX5_mostStrained_28 (by decide) (fun c8 => ?_) (fun c8 => ?_)
      · have hf := if_t hf c8
        obtain ⟨x9, ex9⟩ : ∃ y : Int32, y = v3 + 1 := ⟨_, rfl⟩
        have hf := lE_s hf ex9
        refine g_iinc (ps := 3) (v := x9) (L' := [(3, .int x9), (0, .ref v0), (1, .int v1), (2, .int v2)]) dX5_mostStrained_54 rfl (by rw [ex9]; rfl) (by decide) rfl ?_
        refine g_goto (tgt := 7) dX5_mostStrained_57 (by decide) ?_
        exact g_pick [1, 2, 3, 0] rfl (hk _ (Option.some.inj hf).symm)
      · have hf := if_f hf c8
        refine g_aload_n (ps := 0) dX5_mostStrained_31 rfl rfl ?_
        refine g_getR cf5 hv0 nX5_mostStrained_X5 (j := 3) (by decide) rfl mX5_mostStrained_29 dX5_mostStrained_32 ?_
        refine g_getR cf0 (hW _ _ _ hv0 3 _ rfl) nX5_mostStrained_X0 (j := 0) (by decide) rfl mX5_mostStrained_148 dX5_mostStrained_35 ?_
        refine g_iload_n (ps := 3) dX5_mostStrained_38 rfl rfl ?_
        obtain ⟨z10, hf⟩ := ck_s hf
        refine g_iald (hW _ _ _ (hW _ _ _ hv0 3 _ rfl) 0 _ rfl) z10 dX5_mostStrained_39 ?_
        refine g_aload_n (ps := 0) dX5_mostStrained_40 rfl rfl ?_
        refine g_getR cf5 hv0 nX5_mostStrained_X5 (j := 3) (by decide) rfl mX5_mostStrained_29 dX5_mostStrained_41 ?_
        refine g_getR cf0 (hW _ _ _ hv0 3 _ rfl) nX5_mostStrained_X0 (j := 0) (by decide) rfl mX5_mostStrained_148 dX5_mostStrained_44 ?_
        refine g_iload_n (ps := 2) dX5_mostStrained_47 rfl rfl ?_
        obtain ⟨z11, hf⟩ := ck_s hf
        refine g_iald (hW _ _ _ (hW _ _ _ hv0 3 _ rfl) 0 _ rfl) z11 dX5_mostStrained_48 ?_
        refine g_icmp_le (tgt := 54) dX5_mostStrained_49 (by decide) (fun c12 => ?_) (fun c12 => ?_)
        · have hf := if_t hf c12
          obtain ⟨x13, ex13⟩ : ∃ y : Int32, y = v3 + 1 := ⟨_, rfl⟩
          have hf := lE_s hf ex13
          refine g_iinc (ps := 3) (v := x13) (L' := [(3, .int x13), (0, .ref v0), (1, .int v1), (2, .int v2)]) dX5_mostStrained_54 rfl (by rw [ex13]; rfl) (by decide) rfl ?_
          refine g_goto (tgt := 7) dX5_mostStrained_57 (by decide) ?_
          exact g_pick [1, 2, 3, 0] rfl (hk _ (Option.some.inj hf).symm)
        · have hf := if_f hf c12
          refine g_iload_n (ps := 3) dX5_mostStrained_52 rfl rfl ?_
          refine g_istore_n (L' := [(2, .int v3), (0, .ref v0), (1, .int v1), (3, .int v3)]) dX5_mostStrained_53 rfl (by decide) rfl ?_
          obtain ⟨x14, ex14⟩ : ∃ y : Int32, y = v3 + 1 := ⟨_, rfl⟩
          have hf := lE_s hf ex14
          refine g_iinc (ps := 3) (v := x14) (L' := [(3, .int x14), (2, .int v3), (0, .ref v0), (1, .int v1)]) dX5_mostStrained_54 rfl (by rw [ex14]; rfl) (by decide) rfl ?_
          refine g_goto (tgt := 7) dX5_mostStrained_57 (by decide) ?_
          exact g_pick [2, 3, 1, 0] rfl (hk _ (Option.some.inj hf).symm)
set_option maxHeartbeats 4000000 in
set_option maxRecDepth 100000 in
theorem ulX5_mostStrained_7 {S : Shp} {n : Nat} {r : Rf} {v0 : Nat} {v1 : Int32} {v2 : Int32} {v3 : Int32}  {h : Hp} {o : Int32} (hW : WF S r) (hv0 : S[v0]? = some (5, 11)) (hf : lX5_mostStrained_7 n r v0 v1 v2 v3 h = some o)  : GX5_mostStrained S r r (some o, h) 7 [(0, .ref v0), (1, .int v1), (2, .int v2), (3, .int v3)] [] h := by
  unfold lX5_mostStrained_7 at hf
  obtain ⟨z0, ei, hf⟩ := bd_s hf
  refine it_ind (P := fun (s : Int32 × Int32) => GX5_mostStrained S r r (some o, h) 7 [(0, .ref v0), (1, .int v1), (2, .int (s.1)), (3, .int (s.2))] [] h) (fun s w hb hk2 he2 => ?_) n _ ei
  refine ubX5_mostStrained_7 (out := (some o, h)) (r' := r) hW hv0 hb hk2 (fun z hz => ?_)
  have hz := he2 z hz
  subst hz
  refine g_iload_n (ps := 1) dX5_mostStrained_60 rfl rfl ?_
  have hf := Option.some.inj hf
  subst hf
  exact g_iret dX5_mostStrained_61
set_option maxHeartbeats 4000000 in
set_option maxRecDepth 100000 in
theorem uX5_mostStrained {S : Shp} {n : Nat} {r : Rf} {v0 : Nat} {v1 : Int32} {h : Hp} {o : Int32} (hW : WF S r) (hv0 : S[v0]? = some (5, 11)) (hf : fX5_mostStrained n r v0 v1 h = some o) : GX5_mostStrained S r r (some o, h) 0 [(0, .ref v0), (1, .int v1)] [] h := by
  unfold fX5_mostStrained at hf
  refine g_iload_n (ps := 1) dX5_mostStrained_0 rfl rfl ?_
  obtain ⟨x2, e1, hf⟩ := bd_s hf
  refine g_callSi (As := [.int v1]) (n := 1) (kX5_leastOf hW  e1) gX5_mostStrained_X5_leastOf rfl ⟨rfl, rfl⟩ hdX5_leastOf ⟨Nat.le_of_ble_eq_true rfl, Nat.le_of_ble_eq_true rfl⟩ rfl rfl (Nat.le_of_ble_eq_true rfl) dX5_mostStrained_1 ?_
  refine g_istore_n (L' := [(2, .int x2), (0, .ref v0), (1, .int v1)]) dX5_mostStrained_4 rfl (by decide) rfl ?_
  refine g_iconst (v := 0) dX5_mostStrained_5 (by decide +kernel) ?_
  refine g_istore_n (L' := [(3, .int 0), (2, .int x2), (0, .ref v0), (1, .int v1)]) dX5_mostStrained_6 rfl (by decide) rfl ?_
  exact g_pick [2, 3, 1, 0] rfl (ulX5_mostStrained_7 hW hv0 hf)
theorem kX5_mostStrained {S : Shp} {n : Nat} {r : Rf} {v0 : Nat} {v1 : Int32} {h : Hp} {o : Int32} (hW : WF S r) (hv0 : S[v0]? = some (5, 11)) (hf : fX5_mostStrained n r v0 v1 h = some o) : CTi yX5_mostStrained wsX5_mostStrained rmX5_mostStrained S r [.ref v0, .int v1] h r o h :=
  cti_of rfl (by decide +kernel) rfl (Nat.le_of_ble_eq_true rfl) rfl (uX5_mostStrained hW hv0 hf)
/-! X5_share share -/
def rmX5_share : Room := { frames := 3, cells := 0, slots := 0, locals := 64 }
abbrev GX5_share (S : Shp) (r r' : Rf) (out : Option Int32 × Hp) (pc : Nat) (L : List (Nat × Value)) (st : List Value) (h : Hp) : Prop := G RX5 cX5_share 6 (some .int) wsX5_share rmX5_share S r r' out pc L st h
theorem nX5_share_X0 : ∀ w ∈ wsX00, w ∈ wsX5_share := by decide +kernel
theorem nX5_share_X5 : ∀ w ∈ wsX50, w ∈ wsX5_share := by decide +kernel
theorem mX5_share_68 : Cond.constant RX5 68 (-1000000002) ∈ wsX5_share := by decide +kernel
theorem mX5_share_110 : Cond.fieldLink RX5 110 "LinkedIsles$Bonds" "doneUp" "I" ∈ wsX5_share := by decide +kernel
theorem mX5_share_29 : Cond.fieldLink RX5 29 "LinkedIsles" "now" "LLinkedIsles$Bonds;" ∈ wsX5_share := by decide +kernel
theorem hdX5_share : yX5_share.cls ≠ "java/lang/invoke/MethodHandle" ∧ yX5_share.cls ≠ "java/lang/invoke/VarHandle" ∧ (parseMethodDescriptor yX5_share.desc).map (fun d => d.parameters.length) = some 2 := by decide +kernel
def bX5_share_30 (n : Nat) (r : Rf) (v0 : Nat) (v2 : Int32) (v3 : Int32) (v4 : Int32) (v5 : Int32) (h : Hp) : Option ((Int32 × Int32 × Int32) ⊕ (Int32 × Int32)) :=
  if 10 ≤ v5 then (some (.inr (v3, v4))) else (if v4 ≤ 0 then (some (.inr (v3, v4))) else (if v3 = (h.1 (r v0 3) 1) then (some (.inr (v3, v4))) else ((fX5_mostStrained n r v0 ((h.1 (r v0 3) 1) &&& (v3 ^^^ (-1))) h).bind (fun (x11 : Int32) => lE ((v3 ||| (1 <<< (x11 &&& 31)))) (fun (x12 : Int32) => lE (v4 + (-1)) (fun (x13 : Int32) => lE (v5 + 1) (fun (x14 : Int32) => some (.inl (x12, x13, x14)))))))))
def jX5_share_82 (n : Nat) (r : Rf) (v0 : Nat) (v2 : Int32) (v3 : Int32) (v4 : Int32)  (h : Hp) : Option Int32 :=
  if v2 = 0 then (some v4) else (some v3)
def lX5_share_30 (n : Nat) (r : Rf) (v0 : Nat) (v2 : Int32) (v3 : Int32) (v4 : Int32) (v5 : Int32) (h : Hp) : Option Int32 :=
  (it (fun (s : Int32 × Int32 × Int32) => bX5_share_30 n r v0 v2 s.1 s.2.1 s.2.2 h) n (v3, v4, v5)).bind (fun z => jX5_share_82 n r v0 v2 (z.1) (z.2)  h)
def fX5_share (n : Nat) (r : Rf) (v0 : Nat) (v1 : Int32) (v2 : Int32) (h : Hp) : Option Int32 :=
  (fX5_isWithin n r v1 0 99 h).bind (fun (x2 : Int32) => if x2 = 0 then (some (-1000000002)) else ((fX5_isWithin n r v2 0 1 h).bind (fun (x5 : Int32) => if x5 = 0 then (some (-1000000002)) else (lX5_share_30 n r v0 v2 0 v1 0 h))))
set_option maxHeartbeats 4000000 in
set_option maxRecDepth 100000 in
theorem ubX5_share_30 {S : Shp} {n : Nat} {r : Rf} {out : Option Int32 × Hp} {r' : Rf} {v0 : Nat} {v2 : Int32} {v3 : Int32} {v4 : Int32} {v5 : Int32}  {h : Hp} {w : (Int32 × Int32 × Int32) ⊕ (Int32 × Int32)} (hW : WF S r) (hv0 : S[v0]? = some (5, 11)) (hf : bX5_share_30 n r v0 v2 v3 v4 v5 h = some w) (hk : ∀ y, w = .inl y → GX5_share S r r' out 30 [(0, .ref v0), (2, .int v2), (3, .int (y.1)), (4, .int (y.2.1)), (5, .int (y.2.2))] [] h) (he : ∀ z, w = .inr z → GX5_share S r r' out 82 [(0, .ref v0), (2, .int v2), (3, .int (z.1)), (4, .int (z.2))] [] h) : GX5_share S r r' out 30 [(0, .ref v0), (2, .int v2), (3, .int v3), (4, .int v4), (5, .int v5)] [] h := by
  unfold bX5_share_30 at hf
  refine g_iload (ps := 4) dX5_share_30 rfl ?_
  refine g_bipush (v := 10) dX5_share_32 (by decide +kernel) ?_
  refine g_icmp_ge (tgt := 82) dX5_share_34 (by decide) (fun c7 => ?_) (fun c7 => ?_)
  · have hf := if_t hf c7
    exact g_pick [0, 1, 2, 3] rfl (he _ (Option.some.inj hf).symm)
  · have hf := if_f hf c7
    refine g_iload (ps := 3) dX5_share_37 rfl ?_
    refine g_if_le (tgt := 82) dX5_share_39 (by decide) (fun c8 => ?_) (fun c8 => ?_)
    · have hf := if_t hf c8
      exact g_pick [0, 1, 2, 3] rfl (he _ (Option.some.inj hf).symm)
    · have hf := if_f hf c8
      refine g_iload_n (ps := 2) dX5_share_42 rfl rfl ?_
      refine g_aload_n (ps := 0) dX5_share_43 rfl rfl ?_
      refine g_getR cf5 hv0 nX5_share_X5 (j := 3) (by decide) rfl mX5_share_29 dX5_share_44 ?_
      refine g_getI cf0 (hW _ _ _ hv0 3 _ rfl) nX5_share_X0 (j := 1) (by decide) rfl mX5_share_110 dX5_share_47 ?_
      refine g_icmp_eq (tgt := 82) dX5_share_50 (by decide) (fun c9 => ?_) (fun c9 => ?_)
      · have hf := if_t hf c9
        exact g_pick [0, 1, 2, 3] rfl (he _ (Option.some.inj hf).symm)
      · have hf := if_f hf c9
        refine g_iload_n (ps := 2) dX5_share_53 rfl rfl ?_
        refine g_iconst (v := 1) dX5_share_54 (by decide +kernel) ?_
        refine g_aload_n (ps := 0) dX5_share_55 rfl rfl ?_
        refine g_aload_n (ps := 0) dX5_share_56 rfl rfl ?_
        refine g_getR cf5 hv0 nX5_share_X5 (j := 3) (by decide) rfl mX5_share_29 dX5_share_57 ?_
        refine g_getI cf0 (hW _ _ _ hv0 3 _ rfl) nX5_share_X0 (j := 1) (by decide) rfl mX5_share_110 dX5_share_60 ?_
        refine g_iload_n (ps := 2) dX5_share_63 rfl rfl ?_
        refine g_iconst (v := (-1)) dX5_share_64 (by decide +kernel) ?_
        refine g_ixor dX5_share_65 ?_
        refine g_iand dX5_share_66 ?_
        obtain ⟨x11, e10, hf⟩ := bd_s hf
        refine g_callVi (As := [.int ((h.1 (r v0 3) 1) &&& (v3 ^^^ (-1)))]) (n := 1) (kX5_mostStrained hW hv0 e10) gX5_share_X5_mostStrained rfl ⟨rfl, rfl⟩ ⟨rfl, hdX5_mostStrained⟩ ⟨Nat.le_of_ble_eq_true rfl, Nat.le_of_ble_eq_true rfl⟩ cf5 hv0 rfl rfl (Nat.le_of_ble_eq_true rfl) dX5_share_67 ?_
        refine g_ishl dX5_share_70 ?_
        refine g_ior dX5_share_71 ?_
        refine g_topi (fun x12 ex12 => ?_)
        have hf := lE_s hf ex12
        refine g_istore_n (L' := [(3, .int x12), (0, .ref v0), (2, .int v2), (4, .int v4), (5, .int v5)]) dX5_share_72 rfl (by decide) rfl ?_
        obtain ⟨x13, ex13⟩ : ∃ y : Int32, y = v4 + (-1) := ⟨_, rfl⟩
        have hf := lE_s hf ex13
        refine g_iinc (ps := 3) (v := x13) (L' := [(4, .int x13), (3, .int x12), (0, .ref v0), (2, .int v2), (5, .int v5)]) dX5_share_73 rfl (by rw [ex13]; rfl) (by decide) rfl ?_
        obtain ⟨x14, ex14⟩ : ∃ y : Int32, y = v5 + 1 := ⟨_, rfl⟩
        have hf := lE_s hf ex14
        refine g_iinc (ps := 4) (v := x14) (L' := [(5, .int x14), (4, .int x13), (3, .int x12), (0, .ref v0), (2, .int v2)]) dX5_share_76 rfl (by rw [ex14]; rfl) (by decide) rfl ?_
        refine g_goto (tgt := 30) dX5_share_79 (by decide) ?_
        exact g_pick [3, 4, 2, 1, 0] rfl (hk _ (Option.some.inj hf).symm)
set_option maxHeartbeats 4000000 in
set_option maxRecDepth 100000 in
theorem ujX5_share_82 {S : Shp} {n : Nat} {r : Rf} {v0 : Nat} {v2 : Int32} {v3 : Int32} {v4 : Int32}  {h : Hp} {o : Int32} (hW : WF S r) (hv0 : S[v0]? = some (5, 11)) (hf : jX5_share_82 n r v0 v2 v3 v4  h = some o)  : GX5_share S r r (some o, h) 82 [(0, .ref v0), (2, .int v2), (3, .int v3), (4, .int v4)] [] h := by
  unfold jX5_share_82 at hf
  refine g_iload_n (ps := 1) dX5_share_82 rfl rfl ?_
  refine g_if_ne (tgt := 91) dX5_share_83 (by decide) (fun c15 => ?_) (fun c15 => ?_)
  · have hf := if_f hf c15
    refine g_iload_n (ps := 2) dX5_share_91 rfl rfl ?_
    have hf := Option.some.inj hf
    subst hf
    exact g_iret dX5_share_92
  · have hf := if_t hf c15
    refine g_iload (ps := 3) dX5_share_86 rfl ?_
    refine g_goto (tgt := 92) dX5_share_88 (by decide) ?_
    have hf := Option.some.inj hf
    subst hf
    exact g_iret dX5_share_92
set_option maxHeartbeats 4000000 in
set_option maxRecDepth 100000 in
theorem ulX5_share_30 {S : Shp} {n : Nat} {r : Rf} {v0 : Nat} {v2 : Int32} {v3 : Int32} {v4 : Int32} {v5 : Int32}  {h : Hp} {o : Int32} (hW : WF S r) (hv0 : S[v0]? = some (5, 11)) (hf : lX5_share_30 n r v0 v2 v3 v4 v5 h = some o)  : GX5_share S r r (some o, h) 30 [(0, .ref v0), (2, .int v2), (3, .int v3), (4, .int v4), (5, .int v5)] [] h := by
  unfold lX5_share_30 at hf
  obtain ⟨z0, ei, hf⟩ := bd_s hf
  refine it_ind (P := fun (s : Int32 × Int32 × Int32) => GX5_share S r r (some o, h) 30 [(0, .ref v0), (2, .int v2), (3, .int (s.1)), (4, .int (s.2.1)), (5, .int (s.2.2))] [] h) (fun s w hb hk2 he2 => ?_) n _ ei
  refine ubX5_share_30 (out := (some o, h)) (r' := r) hW hv0 hb hk2 (fun z hz => ?_)
  have hz := he2 z hz
  subst hz
  exact g_pick [0, 1, 2, 3] rfl (ujX5_share_82 hW hv0 hf)
set_option maxHeartbeats 4000000 in
set_option maxRecDepth 100000 in
theorem uX5_share {S : Shp} {n : Nat} {r : Rf} {v0 : Nat} {v1 : Int32} {v2 : Int32} {h : Hp} {o : Int32} (hW : WF S r) (hv0 : S[v0]? = some (5, 11)) (hf : fX5_share n r v0 v1 v2 h = some o) : GX5_share S r r (some o, h) 0 [(0, .ref v0), (1, .int v1), (2, .int v2)] [] h := by
  unfold fX5_share at hf
  refine g_iload_n (ps := 1) dX5_share_0 rfl rfl ?_
  refine g_iconst (v := 0) dX5_share_1 (by decide +kernel) ?_
  refine g_bipush (v := 99) dX5_share_2 (by decide +kernel) ?_
  obtain ⟨x2, e1, hf⟩ := bd_s hf
  refine g_callSi (As := [.int v1, .int 0, .int 99]) (n := 3) (kX5_isWithin hW  e1) gX5_share_X5_isWithin rfl ⟨rfl, rfl⟩ hdX5_isWithin ⟨Nat.le_of_ble_eq_true rfl, Nat.le_of_ble_eq_true rfl⟩ rfl rfl (Nat.le_of_ble_eq_true rfl) dX5_share_4 ?_
  refine g_if_eq (tgt := 19) dX5_share_7 (by decide) (fun c3 => ?_) (fun c3 => ?_)
  · have hf := if_t hf c3
    refine g_ldc (v := (-1000000002)) mX5_share_68 dX5_share_19 ?_
    have hf := Option.some.inj hf
    subst hf
    exact g_iret dX5_share_21
  · have hf := if_f hf c3
    refine g_iload_n (ps := 2) dX5_share_10 rfl rfl ?_
    refine g_iconst (v := 0) dX5_share_11 (by decide +kernel) ?_
    refine g_iconst (v := 1) dX5_share_12 (by decide +kernel) ?_
    obtain ⟨x5, e4, hf⟩ := bd_s hf
    refine g_callSi (As := [.int v2, .int 0, .int 1]) (n := 3) (kX5_isWithin hW  e4) gX5_share_X5_isWithin rfl ⟨rfl, rfl⟩ hdX5_isWithin ⟨Nat.le_of_ble_eq_true rfl, Nat.le_of_ble_eq_true rfl⟩ rfl rfl (Nat.le_of_ble_eq_true rfl) dX5_share_13 ?_
    refine g_if_ne (tgt := 22) dX5_share_16 (by decide) (fun c6 => ?_) (fun c6 => ?_)
    · have hf := if_f hf c6
      refine g_iconst (v := 0) dX5_share_22 (by decide +kernel) ?_
      refine g_istore_n (L' := [(3, .int 0), (0, .ref v0), (1, .int v1), (2, .int v2)]) dX5_share_23 rfl (by decide) rfl ?_
      refine g_iload_n (ps := 2) dX5_share_24 rfl rfl ?_
      refine g_istore (L' := [(4, .int v1), (3, .int 0), (0, .ref v0), (1, .int v1), (2, .int v2)]) dX5_share_25 (by decide) rfl ?_
      refine g_iconst (v := 0) dX5_share_27 (by decide +kernel) ?_
      refine g_istore (L' := [(5, .int 0), (4, .int v1), (3, .int 0), (0, .ref v0), (1, .int v1), (2, .int v2)]) dX5_share_28 (by decide) rfl ?_
      exact g_pick [3, 5, 2, 1, 0] rfl (ulX5_share_30 hW hv0 hf)
    · have hf := if_t hf c6
      refine g_ldc (v := (-1000000002)) mX5_share_68 dX5_share_19 ?_
      have hf := Option.some.inj hf
      subst hf
      exact g_iret dX5_share_21
theorem kX5_share {S : Shp} {n : Nat} {r : Rf} {v0 : Nat} {v1 : Int32} {v2 : Int32} {h : Hp} {o : Int32} (hW : WF S r) (hv0 : S[v0]? = some (5, 11)) (hf : fX5_share n r v0 v1 v2 h = some o) : CTi yX5_share wsX5_share rmX5_share S r [.ref v0, .int v1, .int v2] h r o h :=
  cti_of rfl (by decide +kernel) rfl (Nat.le_of_ble_eq_true rfl) rfl (uX5_share hW hv0 hf)
/-! X5_calm calm -/
def rmX5_calm : Room := { frames := 1, cells := 0, slots := 0, locals := 22 }
abbrev GX5_calm (S : Shp) (r r' : Rf) (out : Option Int32 × Hp) (pc : Nat) (L : List (Nat × Value)) (st : List Value) (h : Hp) : Prop := G RX5 cX5_calm 6 (some .int) wsX5_calm rmX5_calm S r r' out pc L st h
theorem mX5_calm_266 : Cond.constantLong RX5 266 (1000000000) ∈ wsX5_calm := by decide +kernel
theorem mX5_calm_268 : Cond.constantLong RX5 268 (100) ∈ wsX5_calm := by decide +kernel
theorem mX5_calm_68 : Cond.constant RX5 68 (-1000000002) ∈ wsX5_calm := by decide +kernel
theorem hdX5_calm : yX5_calm.cls ≠ "java/lang/invoke/MethodHandle" ∧ yX5_calm.cls ≠ "java/lang/invoke/VarHandle" ∧ (parseMethodDescriptor yX5_calm.desc).map (fun d => d.parameters.length) = some 2 := by decide +kernel
def bX5_calm_30 (n : Nat) (r : Rf) (v0 : Nat) (v1 : Int32) (v2 : Int32) (v3 : Int64) (v5 : Int32) (h : Hp) : Option ((Int64 × Int32) ⊕ (Int64)) :=
  if v1 ≤ v5 then (some (.inr v3)) else (lE (((v3 * (Int32.toInt64 v2)) / 100)) (fun (x8 : Int64) => lE (v5 + 1) (fun (x9 : Int32) => some (.inl (x8, x9)))))
def lX5_calm_30 (n : Nat) (r : Rf) (v0 : Nat) (v1 : Int32) (v2 : Int32) (v3 : Int64) (v5 : Int32) (h : Hp) : Option Int32 :=
  (it (fun (s : Int64 × Int32) => bX5_calm_30 n r v0 v1 v2 s.1 s.2 h) n (v3, v5)).bind (fun z => some (Int64.toInt32 z))
def fX5_calm (n : Nat) (r : Rf) (v0 : Nat) (v1 : Int32) (v2 : Int32) (h : Hp) : Option Int32 :=
  (fX5_isWithin n r v1 0 60 h).bind (fun (x2 : Int32) => if x2 = 0 then (some (-1000000002)) else ((fX5_isWithin n r v2 0 100 h).bind (fun (x5 : Int32) => if x5 = 0 then (some (-1000000002)) else (lX5_calm_30 n r v0 v1 v2 1000000000 0 h))))
set_option maxHeartbeats 4000000 in
set_option maxRecDepth 100000 in
theorem ubX5_calm_30 {S : Shp} {n : Nat} {r : Rf} {out : Option Int32 × Hp} {r' : Rf} {v0 : Nat} {v1 : Int32} {v2 : Int32} {v3 : Int64} {v5 : Int32}  {h : Hp} {w : (Int64 × Int32) ⊕ (Int64)} (hW : WF S r) (hv0 : S[v0]? = some (5, 11)) (hf : bX5_calm_30 n r v0 v1 v2 v3 v5 h = some w) (hk : ∀ y, w = .inl y → GX5_calm S r r' out 30 [(0, .ref v0), (1, .int v1), (2, .int v2), (3, .long (y.1)), (5, .int (y.2))] [] h) (he : ∀ z, w = .inr z → GX5_calm S r r' out 51 [(0, .ref v0), (3, .long (z))] [] h) : GX5_calm S r r' out 30 [(0, .ref v0), (1, .int v1), (2, .int v2), (3, .long v3), (5, .int v5)] [] h := by
  unfold bX5_calm_30 at hf
  refine g_iload (ps := 4) dX5_calm_30 rfl ?_
  refine g_iload_n (ps := 1) dX5_calm_32 rfl rfl ?_
  refine g_icmp_ge (tgt := 51) dX5_calm_33 (by decide) (fun c7 => ?_) (fun c7 => ?_)
  · have hf := if_t hf c7
    exact g_pick [0, 3] rfl (he _ (Option.some.inj hf).symm)
  · have hf := if_f hf c7
    refine g_lload_n (ps := 3) dX5_calm_36 rfl rfl ?_
    refine g_iload_n (ps := 2) dX5_calm_37 rfl rfl ?_
    refine g_i2l dX5_calm_38 ?_
    refine g_lmul dX5_calm_39 ?_
    refine g_ldc2 (v := 100) mX5_calm_268 dX5_calm_40 ?_
    refine g_ldiv dX5_calm_43 (by decide +kernel) ?_
    refine g_topl (fun x8 ex8 => ?_)
    have hf := lE_s hf ex8
    refine g_lstore_n (L' := [(3, .long x8), (0, .ref v0), (1, .int v1), (2, .int v2), (5, .int v5)]) dX5_calm_44 rfl (by decide) rfl ?_
    obtain ⟨x9, ex9⟩ : ∃ y : Int32, y = v5 + 1 := ⟨_, rfl⟩
    have hf := lE_s hf ex9
    refine g_iinc (ps := 4) (v := x9) (L' := [(5, .int x9), (3, .long x8), (0, .ref v0), (1, .int v1), (2, .int v2)]) dX5_calm_45 rfl (by rw [ex9]; rfl) (by decide) rfl ?_
    refine g_goto (tgt := 30) dX5_calm_48 (by decide) ?_
    exact g_pick [2, 3, 4, 1, 0] rfl (hk _ (Option.some.inj hf).symm)
set_option maxHeartbeats 4000000 in
set_option maxRecDepth 100000 in
theorem ulX5_calm_30 {S : Shp} {n : Nat} {r : Rf} {v0 : Nat} {v1 : Int32} {v2 : Int32} {v3 : Int64} {v5 : Int32}  {h : Hp} {o : Int32} (hW : WF S r) (hv0 : S[v0]? = some (5, 11)) (hf : lX5_calm_30 n r v0 v1 v2 v3 v5 h = some o)  : GX5_calm S r r (some o, h) 30 [(0, .ref v0), (1, .int v1), (2, .int v2), (3, .long v3), (5, .int v5)] [] h := by
  unfold lX5_calm_30 at hf
  obtain ⟨z0, ei, hf⟩ := bd_s hf
  refine it_ind (P := fun (s : Int64 × Int32) => GX5_calm S r r (some o, h) 30 [(0, .ref v0), (1, .int v1), (2, .int v2), (3, .long (s.1)), (5, .int (s.2))] [] h) (fun s w hb hk2 he2 => ?_) n _ ei
  refine ubX5_calm_30 (out := (some o, h)) (r' := r) hW hv0 hb hk2 (fun z hz => ?_)
  have hz := he2 z hz
  subst hz
  refine g_lload_n (ps := 1) dX5_calm_51 rfl rfl ?_
  refine g_l2i dX5_calm_52 ?_
  have hf := Option.some.inj hf
  subst hf
  exact g_iret dX5_calm_53
set_option maxHeartbeats 4000000 in
set_option maxRecDepth 100000 in
theorem uX5_calm {S : Shp} {n : Nat} {r : Rf} {v0 : Nat} {v1 : Int32} {v2 : Int32} {h : Hp} {o : Int32} (hW : WF S r) (hv0 : S[v0]? = some (5, 11)) (hf : fX5_calm n r v0 v1 v2 h = some o) : GX5_calm S r r (some o, h) 0 [(0, .ref v0), (1, .int v1), (2, .int v2)] [] h := by
  unfold fX5_calm at hf
  refine g_iload_n (ps := 1) dX5_calm_0 rfl rfl ?_
  refine g_iconst (v := 0) dX5_calm_1 (by decide +kernel) ?_
  refine g_bipush (v := 60) dX5_calm_2 (by decide +kernel) ?_
  obtain ⟨x2, e1, hf⟩ := bd_s hf
  refine g_callSi (As := [.int v1, .int 0, .int 60]) (n := 3) (kX5_isWithin hW  e1) gX5_calm_X5_isWithin rfl ⟨rfl, rfl⟩ hdX5_isWithin ⟨Nat.le_of_ble_eq_true rfl, Nat.le_of_ble_eq_true rfl⟩ rfl rfl (Nat.le_of_ble_eq_true rfl) dX5_calm_4 ?_
  refine g_if_eq (tgt := 20) dX5_calm_7 (by decide) (fun c3 => ?_) (fun c3 => ?_)
  · have hf := if_t hf c3
    refine g_ldc (v := (-1000000002)) mX5_calm_68 dX5_calm_20 ?_
    have hf := Option.some.inj hf
    subst hf
    exact g_iret dX5_calm_22
  · have hf := if_f hf c3
    refine g_iload_n (ps := 2) dX5_calm_10 rfl rfl ?_
    refine g_iconst (v := 0) dX5_calm_11 (by decide +kernel) ?_
    refine g_bipush (v := 100) dX5_calm_12 (by decide +kernel) ?_
    obtain ⟨x5, e4, hf⟩ := bd_s hf
    refine g_callSi (As := [.int v2, .int 0, .int 100]) (n := 3) (kX5_isWithin hW  e4) gX5_calm_X5_isWithin rfl ⟨rfl, rfl⟩ hdX5_isWithin ⟨Nat.le_of_ble_eq_true rfl, Nat.le_of_ble_eq_true rfl⟩ rfl rfl (Nat.le_of_ble_eq_true rfl) dX5_calm_14 ?_
    refine g_if_ne (tgt := 23) dX5_calm_17 (by decide) (fun c6 => ?_) (fun c6 => ?_)
    · have hf := if_f hf c6
      refine g_ldc2 (v := 1000000000) mX5_calm_266 dX5_calm_23 ?_
      refine g_lstore_n (L' := [(3, .long 1000000000), (0, .ref v0), (1, .int v1), (2, .int v2)]) dX5_calm_26 rfl (by decide) rfl ?_
      refine g_iconst (v := 0) dX5_calm_27 (by decide +kernel) ?_
      refine g_istore (L' := [(5, .int 0), (3, .long 1000000000), (0, .ref v0), (1, .int v1), (2, .int v2)]) dX5_calm_28 (by decide) rfl ?_
      exact g_pick [2, 3, 4, 1, 0] rfl (ulX5_calm_30 hW hv0 hf)
    · have hf := if_t hf c6
      refine g_ldc (v := (-1000000002)) mX5_calm_68 dX5_calm_20 ?_
      have hf := Option.some.inj hf
      subst hf
      exact g_iret dX5_calm_22
theorem kX5_calm {S : Shp} {n : Nat} {r : Rf} {v0 : Nat} {v1 : Int32} {v2 : Int32} {h : Hp} {o : Int32} (hW : WF S r) (hv0 : S[v0]? = some (5, 11)) (hf : fX5_calm n r v0 v1 v2 h = some o) : CTi yX5_calm wsX5_calm rmX5_calm S r [.ref v0, .int v1, .int v2] h r o h :=
  cti_of rfl (by decide +kernel) rfl (Nat.le_of_ble_eq_true rfl) rfl (uX5_calm hW hv0 hf)
/-! X5_hear hear -/
def rmX5_hear : Room := { frames := 2, cells := 0, slots := 0, locals := 43 }
abbrev GX5_hear (S : Shp) (r r' : Rf) (out : Option Int32 × Hp) (pc : Nat) (L : List (Nat × Value)) (st : List Value) (h : Hp) : Prop := G RX5 cX5_hear 4 (some .int) wsX5_hear rmX5_hear S r r' out pc L st h
theorem nX5_hear_X3 : ∀ w ∈ wsX30, w ∈ wsX5_hear := by decide +kernel
theorem nX5_hear_X5 : ∀ w ∈ wsX50, w ∈ wsX5_hear := by decide +kernel
theorem mX5_hear_135 : Cond.constant RX5 135 (-1000000001) ∈ wsX5_hear := by decide +kernel
theorem mX5_hear_72 : Cond.constant RX5 72 (-1000000004) ∈ wsX5_hear := by decide +kernel
theorem mX5_hear_124 : Cond.fieldLink RX5 124 "LinkedIsles$Talk" "heardCount" "I" ∈ wsX5_hear := by decide +kernel
theorem mX5_hear_46 : Cond.fieldLink RX5 46 "LinkedIsles" "talk" "LLinkedIsles$Talk;" ∈ wsX5_hear := by decide +kernel
theorem hdX5_hear : yX5_hear.cls ≠ "java/lang/invoke/MethodHandle" ∧ yX5_hear.cls ≠ "java/lang/invoke/VarHandle" ∧ (parseMethodDescriptor yX5_hear.desc).map (fun d => d.parameters.length) = some 3 := by decide +kernel
def fX5_hear (n : Nat) (r : Rf) (v0 : Nat) (v1 : Int32) (v2 : Int32) (v3 : Int32) (h : Hp) : Option (Int32 × Hp) :=
  (fX5_areTwoIslands n r v0 v1 v2 h).bind (fun (x2 : Int32) => if x2 = 0 then (some ((-1000000001), h)) else (if (h.1 (r v0 6) 3) < 6 then (bd2 (fX3_addHeard n r (r v0 6) v1 v2 v3 h) (fun (x6 : Int32) (h7 : Hp) => some (x6, h7))) else (some ((-1000000004), h))))
set_option maxHeartbeats 4000000 in
set_option maxRecDepth 100000 in
theorem uX5_hear {S : Shp} {n : Nat} {r : Rf} {v0 : Nat} {v1 : Int32} {v2 : Int32} {v3 : Int32} {h : Hp} {o : (Int32 × Hp)} (hW : WF S r) (hv0 : S[v0]? = some (5, 11)) (hf : fX5_hear n r v0 v1 v2 v3 h = some o) : GX5_hear S r r (some o.1, o.2) 0 [(0, .ref v0), (1, .int v1), (2, .int v2), (3, .int v3)] [] h := by
  unfold fX5_hear at hf
  refine g_aload_n (ps := 0) dX5_hear_0 rfl rfl ?_
  refine g_iload_n (ps := 1) dX5_hear_1 rfl rfl ?_
  refine g_iload_n (ps := 2) dX5_hear_2 rfl rfl ?_
  obtain ⟨x2, e1, hf⟩ := bd_s hf
  refine g_callVi (As := [.int v1, .int v2]) (n := 2) (kX5_areTwoIslands hW hv0 e1) gX5_hear_X5_areTwoIslands rfl ⟨rfl, rfl⟩ ⟨rfl, hdX5_areTwoIslands⟩ ⟨Nat.le_of_ble_eq_true rfl, Nat.le_of_ble_eq_true rfl⟩ cf5 hv0 rfl rfl (Nat.le_of_ble_eq_true rfl) dX5_hear_3 ?_
  refine g_if_ne (tgt := 12) dX5_hear_6 (by decide) (fun c3 => ?_) (fun c3 => ?_)
  · have hf := if_f hf c3
    refine g_aload_n (ps := 0) dX5_hear_12 rfl rfl ?_
    refine g_getR cf5 hv0 nX5_hear_X5 (j := 6) (by decide) rfl mX5_hear_46 dX5_hear_13 ?_
    refine g_getI cf3 (hW _ _ _ hv0 6 _ rfl) nX5_hear_X3 (j := 3) (by decide) rfl mX5_hear_124 dX5_hear_16 ?_
    refine g_bipush (v := 6) dX5_hear_19 (by decide +kernel) ?_
    refine g_icmp_lt (tgt := 27) dX5_hear_21 (by decide) (fun c4 => ?_) (fun c4 => ?_)
    · have hf := if_t hf c4
      refine g_aload_n (ps := 0) dX5_hear_27 rfl rfl ?_
      refine g_getR cf5 hv0 nX5_hear_X5 (j := 6) (by decide) rfl mX5_hear_46 dX5_hear_28 ?_
      refine g_iload_n (ps := 1) dX5_hear_31 rfl rfl ?_
      refine g_iload_n (ps := 2) dX5_hear_32 rfl rfl ?_
      refine g_iload_n (ps := 3) dX5_hear_33 rfl rfl ?_
      obtain ⟨x6, h7, e5, hf⟩ := bd2_s hf
      refine g_callVi (As := [.int v1, .int v2, .int v3]) (n := 3) (kX3_addHeard hW (hW _ _ _ hv0 6 _ rfl) e5) gX5_hear_X3_addHeard rfl ⟨rfl, rfl⟩ ⟨rfl, hdX3_addHeard⟩ ⟨Nat.le_of_ble_eq_true rfl, Nat.le_of_ble_eq_true rfl⟩ cf3 (hW _ _ _ hv0 6 _ rfl) rfl rfl (Nat.le_of_ble_eq_true rfl) dX5_hear_34 ?_
      have hf := Option.some.inj hf
      subst hf
      exact g_iret dX5_hear_37
    · have hf := if_f hf c4
      refine g_ldc (v := (-1000000004)) mX5_hear_72 dX5_hear_24 ?_
      have hf := Option.some.inj hf
      subst hf
      exact g_iret dX5_hear_26
  · have hf := if_t hf c3
    refine g_ldc (v := (-1000000001)) mX5_hear_135 dX5_hear_9 ?_
    have hf := Option.some.inj hf
    subst hf
    exact g_iret dX5_hear_11
theorem kX5_hear {S : Shp} {n : Nat} {r : Rf} {v0 : Nat} {v1 : Int32} {v2 : Int32} {v3 : Int32} {h : Hp} {o : (Int32 × Hp)} (hW : WF S r) (hv0 : S[v0]? = some (5, 11)) (hf : fX5_hear n r v0 v1 v2 v3 h = some o) : CTi yX5_hear wsX5_hear rmX5_hear S r [.ref v0, .int v1, .int v2, .int v3] h r o.1 o.2 :=
  cti_of rfl (by decide +kernel) rfl (Nat.le_of_ble_eq_true rfl) rfl (uX5_hear hW hv0 hf)
/-! X5_traitor traitor -/
def rmX5_traitor : Room := { frames := 5, cells := 0, slots := 0, locals := 116 }
abbrev GX5_traitor (S : Shp) (r r' : Rf) (out : Option Int32 × Hp) (pc : Nat) (L : List (Nat × Value)) (st : List Value) (h : Hp) : Prop := G RX5 cX5_traitor 4 (some .int) wsX5_traitor rmX5_traitor S r r' out pc L st h
theorem nX5_traitor_X0 : ∀ w ∈ wsX00, w ∈ wsX5_traitor := by decide +kernel
theorem nX5_traitor_X5 : ∀ w ∈ wsX50, w ∈ wsX5_traitor := by decide +kernel
theorem mX5_traitor_110 : Cond.fieldLink RX5 110 "LinkedIsles$Bonds" "doneUp" "I" ∈ wsX5_traitor := by decide +kernel
theorem mX5_traitor_19 : Cond.fieldLink RX5 19 "LinkedIsles" "chart" "LLinkedIsles$Chart;" ∈ wsX5_traitor := by decide +kernel
theorem mX5_traitor_29 : Cond.fieldLink RX5 29 "LinkedIsles" "now" "LLinkedIsles$Bonds;" ∈ wsX5_traitor := by decide +kernel
theorem mX5_traitor_46 : Cond.fieldLink RX5 46 "LinkedIsles" "talk" "LLinkedIsles$Talk;" ∈ wsX5_traitor := by decide +kernel
theorem hdX5_traitor : yX5_traitor.cls ≠ "java/lang/invoke/MethodHandle" ∧ yX5_traitor.cls ≠ "java/lang/invoke/VarHandle" ∧ (parseMethodDescriptor yX5_traitor.desc).map (fun d => d.parameters.length) = some 0 := by decide +kernel
def jX5_traitor_35 (n : Nat) (r : Rf) (v0 : Nat) (v1 : Int32) (v2 : Int32) (s0 : Int32) (h : Hp) : Option ((Int32 × Int32) ⊕ (Int32)) :=
  if s0 = 0 then (lE (v2 + 1) (fun (x4 : Int32) => some (.inl (v1, x4)))) else ((fX5_doneUpWithout n r v0 v2 h).bind (fun (x6 : Int32) => (fX3_fits n r (r v0 6) (r v0 1) x6 h).bind (fun (x8 : Int32) => if x8 = 0 then (lE (v2 + 1) (fun (x10 : Int32) => some (.inl (v1, x10)))) else (lE ((v1 ||| (1 <<< (v2 &&& 31)))) (fun (x11 : Int32) => lE (v2 + 1) (fun (x12 : Int32) => some (.inl (x11, x12))))))))
def bX5_traitor_4 (n : Nat) (r : Rf) (v0 : Nat) (v1 : Int32) (v2 : Int32) (h : Hp) : Option ((Int32 × Int32) ⊕ (Int32)) :=
  if 10 < v2 then (some (.inr v1)) else (if v2 = 10 then (jX5_traitor_35 n r v0 v1 v2 1 h) else ((fX5_has n r (h.1 (r v0 3) 1) v2 h).bind (fun (x14 : Int32) => if x14 = 0 then (jX5_traitor_35 n r v0 v1 v2 0 h) else (jX5_traitor_35 n r v0 v1 v2 1 h))))
def lX5_traitor_4 (n : Nat) (r : Rf) (v0 : Nat) (v1 : Int32) (v2 : Int32) (h : Hp) : Option Int32 :=
  (it (fun (s : Int32 × Int32) => bX5_traitor_4 n r v0 s.1 s.2 h) n (v1, v2)).bind (fun z => some z)
def fX5_traitor (n : Nat) (r : Rf) (v0 : Nat) (h : Hp) : Option Int32 :=
  lX5_traitor_4 n r v0 0 0 h
set_option maxHeartbeats 4000000 in
set_option maxRecDepth 100000 in
theorem ujX5_traitor_35 {S : Shp} {n : Nat} {r : Rf} {out : Option Int32 × Hp} {r' : Rf} {v0 : Nat} {v1 : Int32} {v2 : Int32} {s0 : Int32} {h : Hp} {w : (Int32 × Int32) ⊕ (Int32)} (hW : WF S r) (hv0 : S[v0]? = some (5, 11)) (hf : jX5_traitor_35 n r v0 v1 v2 s0 h = some w) (hk : ∀ y, w = .inl y → GX5_traitor S r r' out 4 [(0, .ref v0), (1, .int (y.1)), (2, .int (y.2))] [] h) (he : ∀ z, w = .inr z → GX5_traitor S r r' out 71 [(0, .ref v0), (1, .int (z))] [] h) : GX5_traitor S r r' out 35 [(0, .ref v0), (1, .int v1), (2, .int v2)] [.int s0] h := by
  unfold jX5_traitor_35 at hf
  refine g_istore_n (L' := [(3, .int s0), (0, .ref v0), (1, .int v1), (2, .int v2)]) dX5_traitor_35 rfl (by decide) rfl ?_
  refine g_iload_n (ps := 0) dX5_traitor_36 rfl rfl ?_
  refine g_if_eq (tgt := 65) dX5_traitor_37 (by decide) (fun c3 => ?_) (fun c3 => ?_)
  · have hf := if_t hf c3
    obtain ⟨x4, ex4⟩ : ∃ y : Int32, y = v2 + 1 := ⟨_, rfl⟩
    have hf := lE_s hf ex4
    refine g_iinc (ps := 3) (v := x4) (L' := [(2, .int x4), (3, .int s0), (0, .ref v0), (1, .int v1)]) dX5_traitor_65 rfl (by rw [ex4]; rfl) (by decide) rfl ?_
    refine g_goto (tgt := 4) dX5_traitor_68 (by decide) ?_
    exact g_pick [2, 3, 0] rfl (hk _ (Option.some.inj hf).symm)
  · have hf := if_f hf c3
    refine g_aload_n (ps := 1) dX5_traitor_40 rfl rfl ?_
    refine g_getR cf5 hv0 nX5_traitor_X5 (j := 6) (by decide) rfl mX5_traitor_46 dX5_traitor_41 ?_
    refine g_aload_n (ps := 1) dX5_traitor_44 rfl rfl ?_
    refine g_getR cf5 hv0 nX5_traitor_X5 (j := 1) (by decide) rfl mX5_traitor_19 dX5_traitor_45 ?_
    refine g_aload_n (ps := 1) dX5_traitor_48 rfl rfl ?_
    refine g_iload_n (ps := 3) dX5_traitor_49 rfl rfl ?_
    obtain ⟨x6, e5, hf⟩ := bd_s hf
    refine g_callVi (As := [.int v2]) (n := 1) (kX5_doneUpWithout hW hv0 e5) gX5_traitor_X5_doneUpWithout rfl ⟨rfl, rfl⟩ ⟨rfl, hdX5_doneUpWithout⟩ ⟨Nat.le_of_ble_eq_true rfl, Nat.le_of_ble_eq_true rfl⟩ cf5 hv0 rfl rfl (Nat.le_of_ble_eq_true rfl) dX5_traitor_50 ?_
    obtain ⟨x8, e7, hf⟩ := bd_s hf
    refine g_callVi (As := [.ref (r v0 1), .int x6]) (n := 2) (kX3_fits hW (hW _ _ _ hv0 6 _ rfl) (hW _ _ _ hv0 1 _ rfl) e7) gX5_traitor_X3_fits rfl ⟨rfl, rfl⟩ ⟨rfl, hdX3_fits⟩ ⟨Nat.le_of_ble_eq_true rfl, Nat.le_of_ble_eq_true rfl⟩ cf3 (hW _ _ _ hv0 6 _ rfl) rfl rfl (Nat.le_of_ble_eq_true rfl) dX5_traitor_53 ?_
    refine g_if_eq (tgt := 65) dX5_traitor_56 (by decide) (fun c9 => ?_) (fun c9 => ?_)
    · have hf := if_t hf c9
      obtain ⟨x10, ex10⟩ : ∃ y : Int32, y = v2 + 1 := ⟨_, rfl⟩
      have hf := lE_s hf ex10
      refine g_iinc (ps := 3) (v := x10) (L' := [(2, .int x10), (3, .int s0), (0, .ref v0), (1, .int v1)]) dX5_traitor_65 rfl (by rw [ex10]; rfl) (by decide) rfl ?_
      refine g_goto (tgt := 4) dX5_traitor_68 (by decide) ?_
      exact g_pick [2, 3, 0] rfl (hk _ (Option.some.inj hf).symm)
    · have hf := if_f hf c9
      refine g_iload_n (ps := 2) dX5_traitor_59 rfl rfl ?_
      refine g_iconst (v := 1) dX5_traitor_60 (by decide +kernel) ?_
      refine g_iload_n (ps := 3) dX5_traitor_61 rfl rfl ?_
      refine g_ishl dX5_traitor_62 ?_
      refine g_ior dX5_traitor_63 ?_
      refine g_topi (fun x11 ex11 => ?_)
      have hf := lE_s hf ex11
      refine g_istore_n (L' := [(1, .int x11), (3, .int s0), (0, .ref v0), (2, .int v2)]) dX5_traitor_64 rfl (by decide) rfl ?_
      obtain ⟨x12, ex12⟩ : ∃ y : Int32, y = v2 + 1 := ⟨_, rfl⟩
      have hf := lE_s hf ex12
      refine g_iinc (ps := 3) (v := x12) (L' := [(2, .int x12), (1, .int x11), (3, .int s0), (0, .ref v0)]) dX5_traitor_65 rfl (by rw [ex12]; rfl) (by decide) rfl ?_
      refine g_goto (tgt := 4) dX5_traitor_68 (by decide) ?_
      exact g_pick [3, 1, 0] rfl (hk _ (Option.some.inj hf).symm)
set_option maxHeartbeats 4000000 in
set_option maxRecDepth 100000 in
theorem ubX5_traitor_4 {S : Shp} {n : Nat} {r : Rf} {out : Option Int32 × Hp} {r' : Rf} {v0 : Nat} {v1 : Int32} {v2 : Int32}  {h : Hp} {w : (Int32 × Int32) ⊕ (Int32)} (hW : WF S r) (hv0 : S[v0]? = some (5, 11)) (hf : bX5_traitor_4 n r v0 v1 v2 h = some w) (hk : ∀ y, w = .inl y → GX5_traitor S r r' out 4 [(0, .ref v0), (1, .int (y.1)), (2, .int (y.2))] [] h) (he : ∀ z, w = .inr z → GX5_traitor S r r' out 71 [(0, .ref v0), (1, .int (z))] [] h) : GX5_traitor S r r' out 4 [(0, .ref v0), (1, .int v1), (2, .int v2)] [] h := by
  unfold bX5_traitor_4 at hf
  refine g_iload_n (ps := 2) dX5_traitor_4 rfl rfl ?_
  refine g_bipush (v := 10) dX5_traitor_5 (by decide +kernel) ?_
  refine g_icmp_gt (tgt := 71) dX5_traitor_7 (by decide) (fun c1 => ?_) (fun c1 => ?_)
  · have hf := if_t hf c1
    exact g_pick [0, 1] rfl (he _ (Option.some.inj hf).symm)
  · have hf := if_f hf c1
    refine g_iload_n (ps := 2) dX5_traitor_10 rfl rfl ?_
    refine g_bipush (v := 10) dX5_traitor_11 (by decide +kernel) ?_
    refine g_icmp_eq (tgt := 30) dX5_traitor_13 (by decide) (fun c2 => ?_) (fun c2 => ?_)
    · have hf := if_t hf c2
      refine g_iconst (v := 1) dX5_traitor_30 (by decide +kernel) ?_
      refine g_goto (tgt := 35) dX5_traitor_31 (by decide) ?_
      exact g_pick [0, 1, 2] rfl (ujX5_traitor_35 hW hv0 hf hk he)
    · have hf := if_f hf c2
      refine g_aload_n (ps := 0) dX5_traitor_16 rfl rfl ?_
      refine g_getR cf5 hv0 nX5_traitor_X5 (j := 3) (by decide) rfl mX5_traitor_29 dX5_traitor_17 ?_
      refine g_getI cf0 (hW _ _ _ hv0 3 _ rfl) nX5_traitor_X0 (j := 1) (by decide) rfl mX5_traitor_110 dX5_traitor_20 ?_
      refine g_iload_n (ps := 2) dX5_traitor_23 rfl rfl ?_
      obtain ⟨x14, e13, hf⟩ := bd_s hf
      refine g_callSi (As := [.int (h.1 (r v0 3) 1), .int v2]) (n := 2) (kX5_has hW  e13) gX5_traitor_X5_has rfl ⟨rfl, rfl⟩ hdX5_has ⟨Nat.le_of_ble_eq_true rfl, Nat.le_of_ble_eq_true rfl⟩ rfl rfl (Nat.le_of_ble_eq_true rfl) dX5_traitor_24 ?_
      refine g_if_eq (tgt := 34) dX5_traitor_27 (by decide) (fun c15 => ?_) (fun c15 => ?_)
      · have hf := if_t hf c15
        refine g_iconst (v := 0) dX5_traitor_34 (by decide +kernel) ?_
        exact g_pick [0, 1, 2] rfl (ujX5_traitor_35 hW hv0 hf hk he)
      · have hf := if_f hf c15
        refine g_iconst (v := 1) dX5_traitor_30 (by decide +kernel) ?_
        refine g_goto (tgt := 35) dX5_traitor_31 (by decide) ?_
        exact g_pick [0, 1, 2] rfl (ujX5_traitor_35 hW hv0 hf hk he)
set_option maxHeartbeats 4000000 in
set_option maxRecDepth 100000 in
theorem ulX5_traitor_4 {S : Shp} {n : Nat} {r : Rf} {v0 : Nat} {v1 : Int32} {v2 : Int32}  {h : Hp} {o : Int32} (hW : WF S r) (hv0 : S[v0]? = some (5, 11)) (hf : lX5_traitor_4 n r v0 v1 v2 h = some o)  : GX5_traitor S r r (some o, h) 4 [(0, .ref v0), (1, .int v1), (2, .int v2)] [] h := by
  unfold lX5_traitor_4 at hf
  obtain ⟨z0, ei, hf⟩ := bd_s hf
  refine it_ind (P := fun (s : Int32 × Int32) => GX5_traitor S r r (some o, h) 4 [(0, .ref v0), (1, .int (s.1)), (2, .int (s.2))] [] h) (fun s w hb hk2 he2 => ?_) n _ ei
  refine ubX5_traitor_4 (out := (some o, h)) (r' := r) hW hv0 hb hk2 (fun z hz => ?_)
  have hz := he2 z hz
  subst hz
  refine g_iload_n (ps := 1) dX5_traitor_71 rfl rfl ?_
  have hf := Option.some.inj hf
  subst hf
  exact g_iret dX5_traitor_72
set_option maxHeartbeats 4000000 in
set_option maxRecDepth 100000 in
theorem uX5_traitor {S : Shp} {n : Nat} {r : Rf} {v0 : Nat} {h : Hp} {o : Int32} (hW : WF S r) (hv0 : S[v0]? = some (5, 11)) (hf : fX5_traitor n r v0 h = some o) : GX5_traitor S r r (some o, h) 0 [(0, .ref v0)] [] h := by
  unfold fX5_traitor at hf
  refine g_iconst (v := 0) dX5_traitor_0 (by decide +kernel) ?_
  refine g_istore_n (L' := [(1, .int 0), (0, .ref v0)]) dX5_traitor_1 rfl (by decide) rfl ?_
  refine g_iconst (v := 0) dX5_traitor_2 (by decide +kernel) ?_
  refine g_istore_n (L' := [(2, .int 0), (1, .int 0), (0, .ref v0)]) dX5_traitor_3 rfl (by decide) rfl ?_
  exact g_pick [2, 1, 0] rfl (ulX5_traitor_4 hW hv0 hf)
theorem kX5_traitor {S : Shp} {n : Nat} {r : Rf} {v0 : Nat} {h : Hp} {o : Int32} (hW : WF S r) (hv0 : S[v0]? = some (5, 11)) (hf : fX5_traitor n r v0 h = some o) : CTi yX5_traitor wsX5_traitor rmX5_traitor S r [.ref v0] h r o h :=
  cti_of rfl (by decide +kernel) rfl (Nat.le_of_ble_eq_true rfl) rfl (uX5_traitor hW hv0 hf)
/-! X5_greaterPart greaterPart -/
def rmX5_greaterPart : Room := { frames := 4, cells := 0, slots := 0, locals := 93 }
abbrev GX5_greaterPart (S : Shp) (r r' : Rf) (out : Option Int32 × Hp) (pc : Nat) (L : List (Nat × Value)) (st : List Value) (h : Hp) : Prop := G RX5 cX5_greaterPart 6 (some .int) wsX5_greaterPart rmX5_greaterPart S r r' out pc L st h
theorem nX5_greaterPart_X5 : ∀ w ∈ wsX50, w ∈ wsX5_greaterPart := by decide +kernel
theorem mX5_greaterPart_328 : Cond.methodLink RX5 328 Lib.Math.max.name ∈ wsX5_greaterPart := by decide +kernel
theorem mX5_greaterPart_328_s : Cond.static Lib.Math.max.name ∈ wsX5_greaterPart := by decide +kernel
theorem mX5_greaterPart_328_c : Cond.code Lib.Math.max.name Lib.Math.max.code 2 (some .int) ∈ wsX5_greaterPart := by decide +kernel
theorem mX5_greaterPart_i : Cond.initialized "java/lang/Math" ∈ wsX5_greaterPart := by decide +kernel
theorem mX5_greaterPart_19 : Cond.fieldLink RX5 19 "LinkedIsles" "chart" "LLinkedIsles$Chart;" ∈ wsX5_greaterPart := by decide +kernel
theorem hdX5_greaterPart : yX5_greaterPart.cls ≠ "java/lang/invoke/MethodHandle" ∧ yX5_greaterPart.cls ≠ "java/lang/invoke/VarHandle" ∧ (parseMethodDescriptor yX5_greaterPart.desc).map (fun d => d.parameters.length) = some 3 := by decide +kernel
def bX5_greaterPart_6 (n : Nat) (r : Rf) (v0 : Nat) (v1 : Int32) (v2 : Int32) (v3 : Int32) (v4 : Int32) (v5 : Int32) (h : Hp) : Option ((Int32 × Int32) ⊕ (Int32)) :=
  if 10 < v5 then (some (.inr v4)) else ((fX5_has n r v3 v5 h).bind (fun (x3 : Int32) => if x3 = 0 then (lE (v5 + 1) (fun (x5 : Int32) => some (.inl (v4, x5)))) else ((fX5_doneUpWithout n r v0 v5 h).bind (fun (x7 : Int32) => (fX1_hang n r (r v0 1) v1 v2 x7 h).bind (fun (x9 : Int32) => if x9 = 0 then (lE (v5 + 1) (fun (x11 : Int32) => some (.inl (v4, x11)))) else (lE (v4 + 1) (fun (x12 : Int32) => lE (v5 + 1) (fun (x13 : Int32) => some (.inl (x12, x13))))))))))
def lX5_greaterPart_6 (n : Nat) (r : Rf) (v0 : Nat) (v1 : Int32) (v2 : Int32) (v3 : Int32) (v4 : Int32) (v5 : Int32) (h : Hp) : Option Int32 :=
  (it (fun (s : Int32 × Int32) => bX5_greaterPart_6 n r v0 v1 v2 v3 s.1 s.2 h) n (v4, v5)).bind (fun z => (fJ6_bitCount_0f7a4 n r v3 h).bind (fun (x15 : Int32) => some (if z < (x15 - z) then (x15 - z) else z)))
def fX5_greaterPart (n : Nat) (r : Rf) (v0 : Nat) (v1 : Int32) (v2 : Int32) (v3 : Int32) (h : Hp) : Option Int32 :=
  lX5_greaterPart_6 n r v0 v1 v2 v3 0 0 h
set_option maxHeartbeats 4000000 in
set_option maxRecDepth 100000 in
theorem ubX5_greaterPart_6 {S : Shp} {n : Nat} {r : Rf} {out : Option Int32 × Hp} {r' : Rf} {v0 : Nat} {v1 : Int32} {v2 : Int32} {v3 : Int32} {v4 : Int32} {v5 : Int32}  {h : Hp} {w : (Int32 × Int32) ⊕ (Int32)} (hW : WF S r) (hv0 : S[v0]? = some (5, 11)) (hf : bX5_greaterPart_6 n r v0 v1 v2 v3 v4 v5 h = some w) (hk : ∀ y, w = .inl y → GX5_greaterPart S r r' out 6 [(0, .ref v0), (1, .int v1), (2, .int v2), (3, .int v3), (4, .int (y.1)), (5, .int (y.2))] [] h) (he : ∀ z, w = .inr z → GX5_greaterPart S r r' out 49 [(0, .ref v0), (3, .int v3), (4, .int (z))] [] h) : GX5_greaterPart S r r' out 6 [(0, .ref v0), (1, .int v1), (2, .int v2), (3, .int v3), (4, .int v4), (5, .int v5)] [] h := by
  unfold bX5_greaterPart_6 at hf
  refine g_iload (ps := 5) dX5_greaterPart_6 rfl ?_
  refine g_bipush (v := 10) dX5_greaterPart_8 (by decide +kernel) ?_
  refine g_icmp_gt (tgt := 49) dX5_greaterPart_10 (by decide) (fun c1 => ?_) (fun c1 => ?_)
  · have hf := if_t hf c1
    exact g_pick [0, 3, 4] rfl (he _ (Option.some.inj hf).symm)
  · have hf := if_f hf c1
    refine g_iload_n (ps := 3) dX5_greaterPart_13 rfl rfl ?_
    refine g_iload (ps := 5) dX5_greaterPart_14 rfl ?_
    obtain ⟨x3, e2, hf⟩ := bd_s hf
    refine g_callSi (As := [.int v3, .int v5]) (n := 2) (kX5_has hW  e2) gX5_greaterPart_X5_has rfl ⟨rfl, rfl⟩ hdX5_has ⟨Nat.le_of_ble_eq_true rfl, Nat.le_of_ble_eq_true rfl⟩ rfl rfl (Nat.le_of_ble_eq_true rfl) dX5_greaterPart_16 ?_
    refine g_if_eq (tgt := 43) dX5_greaterPart_19 (by decide) (fun c4 => ?_) (fun c4 => ?_)
    · have hf := if_t hf c4
      obtain ⟨x5, ex5⟩ : ∃ y : Int32, y = v5 + 1 := ⟨_, rfl⟩
      have hf := lE_s hf ex5
      refine g_iinc (ps := 5) (v := x5) (L' := [(5, .int x5), (0, .ref v0), (1, .int v1), (2, .int v2), (3, .int v3), (4, .int v4)]) dX5_greaterPart_43 rfl (by rw [ex5]; rfl) (by decide) rfl ?_
      refine g_goto (tgt := 6) dX5_greaterPart_46 (by decide) ?_
      exact g_pick [1, 2, 3, 4, 5, 0] rfl (hk _ (Option.some.inj hf).symm)
    · have hf := if_f hf c4
      refine g_aload_n (ps := 0) dX5_greaterPart_22 rfl rfl ?_
      refine g_getR cf5 hv0 nX5_greaterPart_X5 (j := 1) (by decide) rfl mX5_greaterPart_19 dX5_greaterPart_23 ?_
      refine g_iload_n (ps := 1) dX5_greaterPart_26 rfl rfl ?_
      refine g_iload_n (ps := 2) dX5_greaterPart_27 rfl rfl ?_
      refine g_aload_n (ps := 0) dX5_greaterPart_28 rfl rfl ?_
      refine g_iload (ps := 5) dX5_greaterPart_29 rfl ?_
      obtain ⟨x7, e6, hf⟩ := bd_s hf
      refine g_callVi (As := [.int v5]) (n := 1) (kX5_doneUpWithout hW hv0 e6) gX5_greaterPart_X5_doneUpWithout rfl ⟨rfl, rfl⟩ ⟨rfl, hdX5_doneUpWithout⟩ ⟨Nat.le_of_ble_eq_true rfl, Nat.le_of_ble_eq_true rfl⟩ cf5 hv0 rfl rfl (Nat.le_of_ble_eq_true rfl) dX5_greaterPart_31 ?_
      obtain ⟨x9, e8, hf⟩ := bd_s hf
      refine g_callVi (As := [.int v1, .int v2, .int x7]) (n := 3) (kX1_hang hW (hW _ _ _ hv0 1 _ rfl) e8) gX5_greaterPart_X1_hang rfl ⟨rfl, rfl⟩ ⟨rfl, hdX1_hang⟩ ⟨Nat.le_of_ble_eq_true rfl, Nat.le_of_ble_eq_true rfl⟩ cf1 (hW _ _ _ hv0 1 _ rfl) rfl rfl (Nat.le_of_ble_eq_true rfl) dX5_greaterPart_34 ?_
      refine g_if_eq (tgt := 43) dX5_greaterPart_37 (by decide) (fun c10 => ?_) (fun c10 => ?_)
      · have hf := if_t hf c10
        obtain ⟨x11, ex11⟩ : ∃ y : Int32, y = v5 + 1 := ⟨_, rfl⟩
        have hf := lE_s hf ex11
        refine g_iinc (ps := 5) (v := x11) (L' := [(5, .int x11), (0, .ref v0), (1, .int v1), (2, .int v2), (3, .int v3), (4, .int v4)]) dX5_greaterPart_43 rfl (by rw [ex11]; rfl) (by decide) rfl ?_
        refine g_goto (tgt := 6) dX5_greaterPart_46 (by decide) ?_
        exact g_pick [1, 2, 3, 4, 5, 0] rfl (hk _ (Option.some.inj hf).symm)
      · have hf := if_f hf c10
        obtain ⟨x12, ex12⟩ : ∃ y : Int32, y = v4 + 1 := ⟨_, rfl⟩
        have hf := lE_s hf ex12
        refine g_iinc (ps := 4) (v := x12) (L' := [(4, .int x12), (0, .ref v0), (1, .int v1), (2, .int v2), (3, .int v3), (5, .int v5)]) dX5_greaterPart_40 rfl (by rw [ex12]; rfl) (by decide) rfl ?_
        obtain ⟨x13, ex13⟩ : ∃ y : Int32, y = v5 + 1 := ⟨_, rfl⟩
        have hf := lE_s hf ex13
        refine g_iinc (ps := 5) (v := x13) (L' := [(5, .int x13), (4, .int x12), (0, .ref v0), (1, .int v1), (2, .int v2), (3, .int v3)]) dX5_greaterPart_43 rfl (by rw [ex13]; rfl) (by decide) rfl ?_
        refine g_goto (tgt := 6) dX5_greaterPart_46 (by decide) ?_
        exact g_pick [2, 3, 4, 5, 1, 0] rfl (hk _ (Option.some.inj hf).symm)
set_option maxHeartbeats 4000000 in
set_option maxRecDepth 100000 in
theorem ulX5_greaterPart_6 {S : Shp} {n : Nat} {r : Rf} {v0 : Nat} {v1 : Int32} {v2 : Int32} {v3 : Int32} {v4 : Int32} {v5 : Int32}  {h : Hp} {o : Int32} (hW : WF S r) (hv0 : S[v0]? = some (5, 11)) (hf : lX5_greaterPart_6 n r v0 v1 v2 v3 v4 v5 h = some o)  : GX5_greaterPart S r r (some o, h) 6 [(0, .ref v0), (1, .int v1), (2, .int v2), (3, .int v3), (4, .int v4), (5, .int v5)] [] h := by
  unfold lX5_greaterPart_6 at hf
  obtain ⟨z0, ei, hf⟩ := bd_s hf
  refine it_ind (P := fun (s : Int32 × Int32) => GX5_greaterPart S r r (some o, h) 6 [(0, .ref v0), (1, .int v1), (2, .int v2), (3, .int v3), (4, .int (s.1)), (5, .int (s.2))] [] h) (fun s w hb hk2 he2 => ?_) n _ ei
  refine ubX5_greaterPart_6 (out := (some o, h)) (r' := r) hW hv0 hb hk2 (fun z hz => ?_)
  have hz := he2 z hz
  subst hz
  refine g_iload (ps := 2) dX5_greaterPart_49 rfl ?_
  refine g_iload_n (ps := 1) dX5_greaterPart_51 rfl rfl ?_
  obtain ⟨x15, e14, hf⟩ := bd_s hf
  refine g_callSi (As := [.int v3]) (n := 1) (kJ6_bitCount_0f7a4 hW  e14) gX5_greaterPart_J6_bitCount_0f7a4 rfl ⟨rfl, rfl⟩ hdJ6_bitCount_0f7a4 ⟨Nat.le_of_ble_eq_true rfl, Nat.le_of_ble_eq_true rfl⟩ rfl rfl (Nat.le_of_ble_eq_true rfl) dX5_greaterPart_52 ?_
  refine g_iload (ps := 2) dX5_greaterPart_55 rfl ?_
  refine g_isub dX5_greaterPart_57 ?_
  refine g_max mX5_greaterPart_328 mX5_greaterPart_328_s mX5_greaterPart_i mX5_greaterPart_328_c (by decide) (Nat.le_of_ble_eq_true rfl) dX5_greaterPart_58 ?_
  have hf := Option.some.inj hf
  subst hf
  exact g_iret dX5_greaterPart_61
set_option maxHeartbeats 4000000 in
set_option maxRecDepth 100000 in
theorem uX5_greaterPart {S : Shp} {n : Nat} {r : Rf} {v0 : Nat} {v1 : Int32} {v2 : Int32} {v3 : Int32} {h : Hp} {o : Int32} (hW : WF S r) (hv0 : S[v0]? = some (5, 11)) (hf : fX5_greaterPart n r v0 v1 v2 v3 h = some o) : GX5_greaterPart S r r (some o, h) 0 [(0, .ref v0), (1, .int v1), (2, .int v2), (3, .int v3)] [] h := by
  unfold fX5_greaterPart at hf
  refine g_iconst (v := 0) dX5_greaterPart_0 (by decide +kernel) ?_
  refine g_istore (L' := [(4, .int 0), (0, .ref v0), (1, .int v1), (2, .int v2), (3, .int v3)]) dX5_greaterPart_1 (by decide) rfl ?_
  refine g_iconst (v := 0) dX5_greaterPart_3 (by decide +kernel) ?_
  refine g_istore (L' := [(5, .int 0), (4, .int 0), (0, .ref v0), (1, .int v1), (2, .int v2), (3, .int v3)]) dX5_greaterPart_4 (by decide) rfl ?_
  exact g_pick [2, 3, 4, 5, 1, 0] rfl (ulX5_greaterPart_6 hW hv0 hf)
theorem kX5_greaterPart {S : Shp} {n : Nat} {r : Rf} {v0 : Nat} {v1 : Int32} {v2 : Int32} {v3 : Int32} {h : Hp} {o : Int32} (hW : WF S r) (hv0 : S[v0]? = some (5, 11)) (hf : fX5_greaterPart n r v0 v1 v2 v3 h = some o) : CTi yX5_greaterPart wsX5_greaterPart rmX5_greaterPart S r [.ref v0, .int v1, .int v2, .int v3] h r o h :=
  cti_of rfl (by decide +kernel) rfl (Nat.le_of_ble_eq_true rfl) rfl (uX5_greaterPart hW hv0 hf)
/-! X5_ask ask -/
def rmX5_ask : Room := { frames := 6, cells := 0, slots := 0, locals := 139 }
abbrev GX5_ask (S : Shp) (r r' : Rf) (out : Option Int32 × Hp) (pc : Nat) (L : List (Nat × Value)) (st : List Value) (h : Hp) : Prop := G RX5 cX5_ask 7 (some .int) wsX5_ask rmX5_ask S r r' out pc L st h
theorem nX5_ask_X1 : ∀ w ∈ wsX10, w ∈ wsX5_ask := by decide +kernel
theorem nX5_ask_X5 : ∀ w ∈ wsX50, w ∈ wsX5_ask := by decide +kernel
theorem mX5_ask_19 : Cond.fieldLink RX5 19 "LinkedIsles" "chart" "LLinkedIsles$Chart;" ∈ wsX5_ask := by decide +kernel
theorem mX5_ask_95 : Cond.fieldLink RX5 95 "LinkedIsles$Chart" "islands" "I" ∈ wsX5_ask := by decide +kernel
theorem hdX5_ask : yX5_ask.cls ≠ "java/lang/invoke/MethodHandle" ∧ yX5_ask.cls ≠ "java/lang/invoke/VarHandle" ∧ (parseMethodDescriptor yX5_ask.desc).map (fun d => d.parameters.length) = some 0 := by decide +kernel
def bX5_ask_33 (n : Nat) (r : Rf) (v0 : Nat) (v1 : Int32) (v2 : Int32) (v3 : Int32) (v4 : Int32) (v5 : Int32) (h : Hp) : Option ((Int32 × Int32 × Int32) ⊕ (Int32 × Int32)) :=
  if (h.1 (r v0 1) 9) ≤ v5 then (some (.inr (v2, v3))) else ((fX5_greaterPart n r v0 v4 v5 v1 h).bind (fun (x9 : Int32) => if v2 ≤ x9 then (lE (v5 + 1) (fun (x11 : Int32) => some (.inl (v2, v3, x11)))) else (lE (((10 * v4) + v5)) (fun (x12 : Int32) => lE (v5 + 1) (fun (x13 : Int32) => some (.inl (x9, x12, x13)))))))
def lX5_ask_33 (n : Nat) (r : Rf) (v0 : Nat) (v1 : Int32) (v2 : Int32) (v3 : Int32) (v4 : Int32) (v5 : Int32) (h : Hp) : Option ((Int32 × Int32 × Int32) ⊕ (Int32)) :=
  (it (fun (s : Int32 × Int32 × Int32) => bX5_ask_33 n r v0 v1 s.1 s.2.1 v4 s.2.2 h) n (v2, v3, v5)).bind (fun z => lE (v4 + 1) (fun (x14 : Int32) => some (.inl ((z.1), (z.2), x14))))
def bX5_ask_15 (n : Nat) (r : Rf) (v0 : Nat) (v1 : Int32) (v2 : Int32) (v3 : Int32) (v4 : Int32) (h : Hp) : Option ((Int32 × Int32 × Int32) ⊕ (Int32)) :=
  if (h.1 (r v0 1) 9) ≤ v4 then (some (.inr v3)) else (lE ((v4 + 1)) (fun (x6 : Int32) => lX5_ask_33 n r v0 v1 v2 v3 v4 x6 h))
def lX5_ask_15 (n : Nat) (r : Rf) (v0 : Nat) (v1 : Int32) (v2 : Int32) (v3 : Int32) (v4 : Int32) (h : Hp) : Option Int32 :=
  (it (fun (s : Int32 × Int32 × Int32) => bX5_ask_15 n r v0 v1 s.1 s.2.1 s.2.2 h) n (v2, v3, v4)).bind (fun z => some z)
def fX5_ask (n : Nat) (r : Rf) (v0 : Nat) (h : Hp) : Option Int32 :=
  (fX5_traitor n r v0 h).bind (fun (x2 : Int32) => (fJ6_bitCount_0f7a4 n r x2 h).bind (fun (x4 : Int32) => lX5_ask_15 n r v0 x2 x4 (-1) 0 h))
set_option maxHeartbeats 4000000 in
set_option maxRecDepth 100000 in
theorem ubX5_ask_33 {S : Shp} {n : Nat} {r : Rf} {out : Option Int32 × Hp} {r' : Rf} {v0 : Nat} {v1 : Int32} {v2 : Int32} {v3 : Int32} {v4 : Int32} {v5 : Int32}  {h : Hp} {w : (Int32 × Int32 × Int32) ⊕ (Int32 × Int32)} (hW : WF S r) (hv0 : S[v0]? = some (5, 11)) (hf : bX5_ask_33 n r v0 v1 v2 v3 v4 v5 h = some w) (hk : ∀ y, w = .inl y → GX5_ask S r r' out 33 [(0, .ref v0), (1, .int v1), (2, .int (y.1)), (3, .int (y.2.1)), (4, .int v4), (5, .int (y.2.2))] [] h) (he : ∀ z, w = .inr z → GX5_ask S r r' out 80 [(0, .ref v0), (1, .int v1), (2, .int (z.1)), (3, .int (z.2)), (4, .int v4)] [] h) : GX5_ask S r r' out 33 [(0, .ref v0), (1, .int v1), (2, .int v2), (3, .int v3), (4, .int v4), (5, .int v5)] [] h := by
  unfold bX5_ask_33 at hf
  refine g_iload (ps := 5) dX5_ask_33 rfl ?_
  refine g_aload_n (ps := 0) dX5_ask_35 rfl rfl ?_
  refine g_getR cf5 hv0 nX5_ask_X5 (j := 1) (by decide) rfl mX5_ask_19 dX5_ask_36 ?_
  refine g_getI cf1 (hW _ _ _ hv0 1 _ rfl) nX5_ask_X1 (j := 9) (by decide) rfl mX5_ask_95 dX5_ask_39 ?_
  refine g_icmp_ge (tgt := 80) dX5_ask_42 (by decide) (fun c7 => ?_) (fun c7 => ?_)
  · have hf := if_t hf c7
    exact g_pick [0, 1, 2, 3, 4] rfl (he _ (Option.some.inj hf).symm)
  · have hf := if_f hf c7
    refine g_aload_n (ps := 0) dX5_ask_45 rfl rfl ?_
    refine g_iload (ps := 4) dX5_ask_46 rfl ?_
    refine g_iload (ps := 5) dX5_ask_48 rfl ?_
    refine g_iload_n (ps := 1) dX5_ask_50 rfl rfl ?_
    obtain ⟨x9, e8, hf⟩ := bd_s hf
    refine g_callVi (As := [.int v4, .int v5, .int v1]) (n := 3) (kX5_greaterPart hW hv0 e8) gX5_ask_X5_greaterPart rfl ⟨rfl, rfl⟩ ⟨rfl, hdX5_greaterPart⟩ ⟨Nat.le_of_ble_eq_true rfl, Nat.le_of_ble_eq_true rfl⟩ cf5 hv0 rfl rfl (Nat.le_of_ble_eq_true rfl) dX5_ask_51 ?_
    refine g_istore (L' := [(6, .int x9), (0, .ref v0), (1, .int v1), (2, .int v2), (3, .int v3), (4, .int v4), (5, .int v5)]) dX5_ask_54 (by decide) rfl ?_
    refine g_iload (ps := 0) dX5_ask_56 rfl ?_
    refine g_iload_n (ps := 3) dX5_ask_58 rfl rfl ?_
    refine g_icmp_ge (tgt := 74) dX5_ask_59 (by decide) (fun c10 => ?_) (fun c10 => ?_)
    · have hf := if_t hf c10
      obtain ⟨x11, ex11⟩ : ∃ y : Int32, y = v5 + 1 := ⟨_, rfl⟩
      have hf := lE_s hf ex11
      refine g_iinc (ps := 6) (v := x11) (L' := [(5, .int x11), (6, .int x9), (0, .ref v0), (1, .int v1), (2, .int v2), (3, .int v3), (4, .int v4)]) dX5_ask_74 rfl (by rw [ex11]; rfl) (by decide) rfl ?_
      refine g_goto (tgt := 33) dX5_ask_77 (by decide) ?_
      exact g_pick [2, 3, 4, 5, 6, 0] rfl (hk _ (Option.some.inj hf).symm)
    · have hf := if_f hf c10
      refine g_iload (ps := 0) dX5_ask_62 rfl ?_
      refine g_istore_n (L' := [(2, .int x9), (6, .int x9), (0, .ref v0), (1, .int v1), (3, .int v3), (4, .int v4), (5, .int v5)]) dX5_ask_64 rfl (by decide) rfl ?_
      refine g_bipush (v := 10) dX5_ask_65 (by decide +kernel) ?_
      refine g_iload (ps := 5) dX5_ask_67 rfl ?_
      refine g_imul dX5_ask_69 ?_
      refine g_iload (ps := 6) dX5_ask_70 rfl ?_
      refine g_iadd dX5_ask_72 ?_
      refine g_topi (fun x12 ex12 => ?_)
      have hf := lE_s hf ex12
      refine g_istore_n (L' := [(3, .int x12), (2, .int x9), (6, .int x9), (0, .ref v0), (1, .int v1), (4, .int v4), (5, .int v5)]) dX5_ask_73 rfl (by decide) rfl ?_
      obtain ⟨x13, ex13⟩ : ∃ y : Int32, y = v5 + 1 := ⟨_, rfl⟩
      have hf := lE_s hf ex13
      refine g_iinc (ps := 6) (v := x13) (L' := [(5, .int x13), (3, .int x12), (2, .int x9), (6, .int x9), (0, .ref v0), (1, .int v1), (4, .int v4)]) dX5_ask_74 rfl (by rw [ex13]; rfl) (by decide) rfl ?_
      refine g_goto (tgt := 33) dX5_ask_77 (by decide) ?_
      exact g_pick [4, 5, 2, 1, 6, 0] rfl (hk _ (Option.some.inj hf).symm)
set_option maxHeartbeats 4000000 in
set_option maxRecDepth 100000 in
theorem ulX5_ask_33 {S : Shp} {n : Nat} {r : Rf} {out : Option Int32 × Hp} {r' : Rf} {v0 : Nat} {v1 : Int32} {v2 : Int32} {v3 : Int32} {v4 : Int32} {v5 : Int32}  {h : Hp} {w : (Int32 × Int32 × Int32) ⊕ (Int32)} (hW : WF S r) (hv0 : S[v0]? = some (5, 11)) (hf : lX5_ask_33 n r v0 v1 v2 v3 v4 v5 h = some w) (hk : ∀ y, w = .inl y → GX5_ask S r r' out 15 [(0, .ref v0), (1, .int v1), (2, .int (y.1)), (3, .int (y.2.1)), (4, .int (y.2.2))] [] h) (he : ∀ z, w = .inr z → GX5_ask S r r' out 86 [(0, .ref v0), (3, .int (z))] [] h) : GX5_ask S r r' out 33 [(0, .ref v0), (1, .int v1), (2, .int v2), (3, .int v3), (4, .int v4), (5, .int v5)] [] h := by
  unfold lX5_ask_33 at hf
  obtain ⟨z0, ei, hf⟩ := bd_s hf
  refine it_ind (P := fun (s : Int32 × Int32 × Int32) => GX5_ask S r r' out 33 [(0, .ref v0), (1, .int v1), (2, .int (s.1)), (3, .int (s.2.1)), (4, .int v4), (5, .int (s.2.2))] [] h) (fun s w hb hk2 he2 => ?_) n _ ei
  refine ubX5_ask_33 (out := out) (r' := r') hW hv0 hb hk2 (fun z hz => ?_)
  have hz := he2 z hz
  subst hz
  obtain ⟨x14, ex14⟩ : ∃ y : Int32, y = v4 + 1 := ⟨_, rfl⟩
  have hf := lE_s hf ex14
  refine g_iinc (ps := 4) (v := x14) (L' := [(4, .int x14), (0, .ref v0), (1, .int v1), (2, .int (z.1)), (3, .int (z.2))]) dX5_ask_80 rfl (by rw [ex14]; rfl) (by decide) rfl ?_
  refine g_goto (tgt := 15) dX5_ask_83 (by decide) ?_
  exact g_pick [1, 2, 3, 4, 0] rfl (hk _ (Option.some.inj hf).symm)
set_option maxHeartbeats 4000000 in
set_option maxRecDepth 100000 in
theorem ubX5_ask_15 {S : Shp} {n : Nat} {r : Rf} {out : Option Int32 × Hp} {r' : Rf} {v0 : Nat} {v1 : Int32} {v2 : Int32} {v3 : Int32} {v4 : Int32}  {h : Hp} {w : (Int32 × Int32 × Int32) ⊕ (Int32)} (hW : WF S r) (hv0 : S[v0]? = some (5, 11)) (hf : bX5_ask_15 n r v0 v1 v2 v3 v4 h = some w) (hk : ∀ y, w = .inl y → GX5_ask S r r' out 15 [(0, .ref v0), (1, .int v1), (2, .int (y.1)), (3, .int (y.2.1)), (4, .int (y.2.2))] [] h) (he : ∀ z, w = .inr z → GX5_ask S r r' out 86 [(0, .ref v0), (3, .int (z))] [] h) : GX5_ask S r r' out 15 [(0, .ref v0), (1, .int v1), (2, .int v2), (3, .int v3), (4, .int v4)] [] h := by
  unfold bX5_ask_15 at hf
  refine g_iload (ps := 4) dX5_ask_15 rfl ?_
  refine g_aload_n (ps := 0) dX5_ask_17 rfl rfl ?_
  refine g_getR cf5 hv0 nX5_ask_X5 (j := 1) (by decide) rfl mX5_ask_19 dX5_ask_18 ?_
  refine g_getI cf1 (hW _ _ _ hv0 1 _ rfl) nX5_ask_X1 (j := 9) (by decide) rfl mX5_ask_95 dX5_ask_21 ?_
  refine g_icmp_ge (tgt := 86) dX5_ask_24 (by decide) (fun c5 => ?_) (fun c5 => ?_)
  · have hf := if_t hf c5
    exact g_pick [0, 3] rfl (he _ (Option.some.inj hf).symm)
  · have hf := if_f hf c5
    refine g_iload (ps := 4) dX5_ask_27 rfl ?_
    refine g_iconst (v := 1) dX5_ask_29 (by decide +kernel) ?_
    refine g_iadd dX5_ask_30 ?_
    refine g_topi (fun x6 ex6 => ?_)
    have hf := lE_s hf ex6
    refine g_istore (L' := [(5, .int x6), (0, .ref v0), (1, .int v1), (2, .int v2), (3, .int v3), (4, .int v4)]) dX5_ask_31 (by decide) rfl ?_
    exact g_pick [1, 2, 3, 4, 5, 0] rfl (ulX5_ask_33 hW hv0 hf hk he)
set_option maxHeartbeats 4000000 in
set_option maxRecDepth 100000 in
theorem ulX5_ask_15 {S : Shp} {n : Nat} {r : Rf} {v0 : Nat} {v1 : Int32} {v2 : Int32} {v3 : Int32} {v4 : Int32}  {h : Hp} {o : Int32} (hW : WF S r) (hv0 : S[v0]? = some (5, 11)) (hf : lX5_ask_15 n r v0 v1 v2 v3 v4 h = some o)  : GX5_ask S r r (some o, h) 15 [(0, .ref v0), (1, .int v1), (2, .int v2), (3, .int v3), (4, .int v4)] [] h := by
  unfold lX5_ask_15 at hf
  obtain ⟨z0, ei, hf⟩ := bd_s hf
  refine it_ind (P := fun (s : Int32 × Int32 × Int32) => GX5_ask S r r (some o, h) 15 [(0, .ref v0), (1, .int v1), (2, .int (s.1)), (3, .int (s.2.1)), (4, .int (s.2.2))] [] h) (fun s w hb hk2 he2 => ?_) n _ ei
  refine ubX5_ask_15 (out := (some o, h)) (r' := r) hW hv0 hb hk2 (fun z hz => ?_)
  have hz := he2 z hz
  subst hz
  refine g_iload_n (ps := 1) dX5_ask_86 rfl rfl ?_
  have hf := Option.some.inj hf
  subst hf
  exact g_iret dX5_ask_87
set_option maxHeartbeats 4000000 in
set_option maxRecDepth 100000 in
theorem uX5_ask {S : Shp} {n : Nat} {r : Rf} {v0 : Nat} {h : Hp} {o : Int32} (hW : WF S r) (hv0 : S[v0]? = some (5, 11)) (hf : fX5_ask n r v0 h = some o) : GX5_ask S r r (some o, h) 0 [(0, .ref v0)] [] h := by
  unfold fX5_ask at hf
  refine g_aload_n (ps := 0) dX5_ask_0 rfl rfl ?_
  obtain ⟨x2, e1, hf⟩ := bd_s hf
  refine g_callVi (As := []) (n := 0) (kX5_traitor hW hv0 e1) gX5_ask_X5_traitor rfl ⟨rfl, rfl⟩ ⟨rfl, hdX5_traitor⟩ ⟨Nat.le_of_ble_eq_true rfl, Nat.le_of_ble_eq_true rfl⟩ cf5 hv0 rfl rfl (Nat.le_of_ble_eq_true rfl) dX5_ask_1 ?_
  refine g_istore_n (L' := [(1, .int x2), (0, .ref v0)]) dX5_ask_4 rfl (by decide) rfl ?_
  refine g_iload_n (ps := 0) dX5_ask_5 rfl rfl ?_
  obtain ⟨x4, e3, hf⟩ := bd_s hf
  refine g_callSi (As := [.int x2]) (n := 1) (kJ6_bitCount_0f7a4 hW  e3) gX5_ask_J6_bitCount_0f7a4 rfl ⟨rfl, rfl⟩ hdJ6_bitCount_0f7a4 ⟨Nat.le_of_ble_eq_true rfl, Nat.le_of_ble_eq_true rfl⟩ rfl rfl (Nat.le_of_ble_eq_true rfl) dX5_ask_6 ?_
  refine g_istore_n (L' := [(2, .int x4), (1, .int x2), (0, .ref v0)]) dX5_ask_9 rfl (by decide) rfl ?_
  refine g_iconst (v := (-1)) dX5_ask_10 (by decide +kernel) ?_
  refine g_istore_n (L' := [(3, .int (-1)), (2, .int x4), (1, .int x2), (0, .ref v0)]) dX5_ask_11 rfl (by decide) rfl ?_
  refine g_iconst (v := 0) dX5_ask_12 (by decide +kernel) ?_
  refine g_istore (L' := [(4, .int 0), (3, .int (-1)), (2, .int x4), (1, .int x2), (0, .ref v0)]) dX5_ask_13 (by decide) rfl ?_
  exact g_pick [4, 3, 2, 1, 0] rfl (ulX5_ask_15 hW hv0 hf)
theorem kX5_ask {S : Shp} {n : Nat} {r : Rf} {v0 : Nat} {h : Hp} {o : Int32} (hW : WF S r) (hv0 : S[v0]? = some (5, 11)) (hf : fX5_ask n r v0 h = some o) : CTi yX5_ask wsX5_ask rmX5_ask S r [.ref v0] h r o h :=
  cti_of rfl (by decide +kernel) rfl (Nat.le_of_ble_eq_true rfl) rfl (uX5_ask hW hv0 hf)
/-! X5_write write -/
def rmX5_write : Room := { frames := 1, cells := 0, slots := 0, locals := 22 }
abbrev GX5_write (S : Shp) (r r' : Rf) (out : Option Int32 × Hp) (pc : Nat) (L : List (Nat × Value)) (st : List Value) (h : Hp) : Prop := G RX5 cX5_write 3 (some .int) wsX5_write rmX5_write S r r' out pc L st h
theorem nX5_write_X3 : ∀ w ∈ wsX30, w ∈ wsX5_write := by decide +kernel
theorem nX5_write_X5 : ∀ w ∈ wsX50, w ∈ wsX5_write := by decide +kernel
theorem mX5_write_135 : Cond.constant RX5 135 (-1000000001) ∈ wsX5_write := by decide +kernel
theorem mX5_write_68 : Cond.constant RX5 68 (-1000000002) ∈ wsX5_write := by decide +kernel
theorem mX5_write_72 : Cond.constant RX5 72 (-1000000004) ∈ wsX5_write := by decide +kernel
theorem mX5_write_127 : Cond.fieldLink RX5 127 "LinkedIsles$Talk" "entryCount" "I" ∈ wsX5_write := by decide +kernel
theorem mX5_write_19 : Cond.fieldLink RX5 19 "LinkedIsles" "chart" "LLinkedIsles$Chart;" ∈ wsX5_write := by decide +kernel
theorem mX5_write_46 : Cond.fieldLink RX5 46 "LinkedIsles" "talk" "LLinkedIsles$Talk;" ∈ wsX5_write := by decide +kernel
theorem hdX5_write : yX5_write.cls ≠ "java/lang/invoke/MethodHandle" ∧ yX5_write.cls ≠ "java/lang/invoke/VarHandle" ∧ (parseMethodDescriptor yX5_write.desc).map (fun d => d.parameters.length) = some 2 := by decide +kernel
def fX5_write (n : Nat) (r : Rf) (v0 : Nat) (v1 : Int32) (v2 : Int32) (h : Hp) : Option (Int32 × Hp) :=
  (fX1_hasLink n r (r v0 1) v1 h).bind (fun (x2 : Int32) => if x2 = 0 then (some ((-1000000001), h)) else ((fX5_isWithin n r v2 0 1 h).bind (fun (x5 : Int32) => if x5 = 0 then (some ((-1000000002), h)) else (if (h.1 (r v0 6) 4) < 20 then (bd2 (fX3_addEntry n r (r v0 6) v1 v2 h) (fun (x9 : Int32) (h10 : Hp) => some (x9, h10))) else (some ((-1000000004), h))))))
set_option maxHeartbeats 4000000 in
set_option maxRecDepth 100000 in
theorem uX5_write {S : Shp} {n : Nat} {r : Rf} {v0 : Nat} {v1 : Int32} {v2 : Int32} {h : Hp} {o : (Int32 × Hp)} (hW : WF S r) (hv0 : S[v0]? = some (5, 11)) (hf : fX5_write n r v0 v1 v2 h = some o) : GX5_write S r r (some o.1, o.2) 0 [(0, .ref v0), (1, .int v1), (2, .int v2)] [] h := by
  unfold fX5_write at hf
  refine g_aload_n (ps := 0) dX5_write_0 rfl rfl ?_
  refine g_getR cf5 hv0 nX5_write_X5 (j := 1) (by decide) rfl mX5_write_19 dX5_write_1 ?_
  refine g_iload_n (ps := 1) dX5_write_4 rfl rfl ?_
  obtain ⟨x2, e1, hf⟩ := bd_s hf
  refine g_callVi (As := [.int v1]) (n := 1) (kX1_hasLink hW (hW _ _ _ hv0 1 _ rfl) e1) gX5_write_X1_hasLink rfl ⟨rfl, rfl⟩ ⟨rfl, hdX1_hasLink⟩ ⟨Nat.le_of_ble_eq_true rfl, Nat.le_of_ble_eq_true rfl⟩ cf1 (hW _ _ _ hv0 1 _ rfl) rfl rfl (Nat.le_of_ble_eq_true rfl) dX5_write_5 ?_
  refine g_if_ne (tgt := 14) dX5_write_8 (by decide) (fun c3 => ?_) (fun c3 => ?_)
  · have hf := if_f hf c3
    refine g_iload_n (ps := 2) dX5_write_14 rfl rfl ?_
    refine g_iconst (v := 0) dX5_write_15 (by decide +kernel) ?_
    refine g_iconst (v := 1) dX5_write_16 (by decide +kernel) ?_
    obtain ⟨x5, e4, hf⟩ := bd_s hf
    refine g_callSi (As := [.int v2, .int 0, .int 1]) (n := 3) (kX5_isWithin hW  e4) gX5_write_X5_isWithin rfl ⟨rfl, rfl⟩ hdX5_isWithin ⟨Nat.le_of_ble_eq_true rfl, Nat.le_of_ble_eq_true rfl⟩ rfl rfl (Nat.le_of_ble_eq_true rfl) dX5_write_17 ?_
    refine g_if_ne (tgt := 26) dX5_write_20 (by decide) (fun c6 => ?_) (fun c6 => ?_)
    · have hf := if_f hf c6
      refine g_aload_n (ps := 0) dX5_write_26 rfl rfl ?_
      refine g_getR cf5 hv0 nX5_write_X5 (j := 6) (by decide) rfl mX5_write_46 dX5_write_27 ?_
      refine g_getI cf3 (hW _ _ _ hv0 6 _ rfl) nX5_write_X3 (j := 4) (by decide) rfl mX5_write_127 dX5_write_30 ?_
      refine g_bipush (v := 20) dX5_write_33 (by decide +kernel) ?_
      refine g_icmp_lt (tgt := 41) dX5_write_35 (by decide) (fun c7 => ?_) (fun c7 => ?_)
      · have hf := if_t hf c7
        refine g_aload_n (ps := 0) dX5_write_41 rfl rfl ?_
        refine g_getR cf5 hv0 nX5_write_X5 (j := 6) (by decide) rfl mX5_write_46 dX5_write_42 ?_
        refine g_iload_n (ps := 1) dX5_write_45 rfl rfl ?_
        refine g_iload_n (ps := 2) dX5_write_46 rfl rfl ?_
        obtain ⟨x9, h10, e8, hf⟩ := bd2_s hf
        refine g_callVi (As := [.int v1, .int v2]) (n := 2) (kX3_addEntry hW (hW _ _ _ hv0 6 _ rfl) e8) gX5_write_X3_addEntry rfl ⟨rfl, rfl⟩ ⟨rfl, hdX3_addEntry⟩ ⟨Nat.le_of_ble_eq_true rfl, Nat.le_of_ble_eq_true rfl⟩ cf3 (hW _ _ _ hv0 6 _ rfl) rfl rfl (Nat.le_of_ble_eq_true rfl) dX5_write_47 ?_
        have hf := Option.some.inj hf
        subst hf
        exact g_iret dX5_write_50
      · have hf := if_f hf c7
        refine g_ldc (v := (-1000000004)) mX5_write_72 dX5_write_38 ?_
        have hf := Option.some.inj hf
        subst hf
        exact g_iret dX5_write_40
    · have hf := if_t hf c6
      refine g_ldc (v := (-1000000002)) mX5_write_68 dX5_write_23 ?_
      have hf := Option.some.inj hf
      subst hf
      exact g_iret dX5_write_25
  · have hf := if_t hf c3
    refine g_ldc (v := (-1000000001)) mX5_write_135 dX5_write_11 ?_
    have hf := Option.some.inj hf
    subst hf
    exact g_iret dX5_write_13
theorem kX5_write {S : Shp} {n : Nat} {r : Rf} {v0 : Nat} {v1 : Int32} {v2 : Int32} {h : Hp} {o : (Int32 × Hp)} (hW : WF S r) (hv0 : S[v0]? = some (5, 11)) (hf : fX5_write n r v0 v1 v2 h = some o) : CTi yX5_write wsX5_write rmX5_write S r [.ref v0, .int v1, .int v2] h r o.1 o.2 :=
  cti_of rfl (by decide +kernel) rfl (Nat.le_of_ble_eq_true rfl) rfl (uX5_write hW hv0 hf)
