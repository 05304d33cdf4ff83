/-! X6_partsOf partsOf -/
def rmX6_partsOf : Room := { frames := 3, cells := 0, slots := 0, locals := 69 }
abbrev GX6_partsOf (S : Shp) (r r' : Rf) (out : Option Int32 × Hp) (pc : Nat) (L : List (Nat × Value)) (st : List Value) (h : Hp) : Prop := G RX6 cX6_partsOf 5 (some .int) wsX6_partsOf rmX6_partsOf S r r' out pc L st h
theorem nX6_partsOf_X6 : ∀ w ∈ wsX60, w ∈ wsX6_partsOf := by decide +kernel
theorem mX6_partsOf_141 : Cond.fieldLink RX6 141 "LinkedIslesModel" "n" "I" ∈ wsX6_partsOf := by decide +kernel
theorem hdX6_partsOf : yX6_partsOf.cls ≠ "java/lang/invoke/MethodHandle" ∧ yX6_partsOf.cls ≠ "java/lang/invoke/VarHandle" ∧ (parseMethodDescriptor yX6_partsOf.desc).map (fun d => d.parameters.length) = some 1 := by decide +kernel
def bX6_partsOf_7 (n : Nat) (r : Rf) (v0 : Nat) (v1 : Int32) (v2 : Int32) (v3 : Int32) (v4 : Int32) (h : Hp) : Option ((Int32 × Int32 × Int32) ⊕ (Int32)) :=
  if (h.1 v0 14) ≤ v4 then (some (.inr v2)) else ((fX6_has n r v3 v4 h).bind (fun (x3 : Int32) => if x3 = 0 then (lE (v2 + 1) (fun (x6 : Int32) => (fX6_reached n r v0 v4 v1 h).bind (fun (x8 : Int32) => lE ((v3 ||| x8)) (fun (x9 : Int32) => lE (v4 + 1) (fun (x10 : Int32) => some (.inl (x6, x9, x10))))))) else (lE (v4 + 1) (fun (x5 : Int32) => some (.inl (v2, v3, x5))))))
def lX6_partsOf_7 (n : Nat) (r : Rf) (v0 : Nat) (v1 : Int32) (v2 : Int32) (v3 : Int32) (v4 : Int32) (h : Hp) : Option Int32 :=
  (it (fun (s : Int32 × Int32 × Int32) => bX6_partsOf_7 n r v0 v1 s.1 s.2.1 s.2.2 h) n (v2, v3, v4)).bind (fun z => some z)
def fX6_partsOf (n : Nat) (r : Rf) (v0 : Nat) (v1 : Int32) (h : Hp) : Option Int32 :=
  lX6_partsOf_7 n r v0 v1 0 0 0 h
set_option maxHeartbeats 4000000 in
set_option maxRecDepth 100000 in
theorem ubX6_partsOf_7 {S : Shp} {n : Nat} {r : Rf} {out : Option Int32 × Hp} {r' : Rf} {v0 : Nat} {v1 : Int32} {v2 : Int32} {v3 : Int32} {v4 : Int32}  {h : Hp} {w : (Int32 × Int32 × Int32) ⊕ (Int32)} (hW : WF S r) (hv0 : S[v0]? = some (6, 38)) (hf : bX6_partsOf_7 n r v0 v1 v2 v3 v4 h = some w) (hk : ∀ y, w = .inl y → GX6_partsOf S r r' out 7 [(0, .ref v0), (1, .int v1), (2, .int (y.1)), (3, .int (y.2.1)), (4, .int (y.2.2))] [] h) (he : ∀ z, w = .inr z → GX6_partsOf S r r' out 44 [(0, .ref v0), (2, .int (z))] [] h) : GX6_partsOf S r r' out 7 [(0, .ref v0), (1, .int v1), (2, .int v2), (3, .int v3), (4, .int v4)] [] h := by
  unfold bX6_partsOf_7 at hf
  refine g_iload (ps := 4) dX6_partsOf_7 rfl ?_
  refine g_aload_n (ps := 0) dX6_partsOf_9 rfl rfl ?_
  refine g_getI cf6 hv0 nX6_partsOf_X6 (j := 14) (by decide) rfl mX6_partsOf_141 dX6_partsOf_10 ?_
  refine g_icmp_ge (tgt := 44) dX6_partsOf_13 (by decide) (fun c1 => ?_) (fun c1 => ?_)
  · have hf := if_t hf c1
    exact g_pick [0, 2] rfl (he _ (Option.some.inj hf).symm)
  · have hf := if_f hf c1
    refine g_iload_n (ps := 3) dX6_partsOf_16 rfl rfl ?_
    refine g_iload (ps := 4) dX6_partsOf_17 rfl ?_
    obtain ⟨x3, e2, hf⟩ := bd_s hf
    refine g_callSi (As := [.int v3, .int v4]) (n := 2) (kX6_has hW  e2) gX6_partsOf_X6_has rfl ⟨rfl, rfl⟩ hdX6_has ⟨Nat.le_of_ble_eq_true rfl, Nat.le_of_ble_eq_true rfl⟩ rfl rfl (Nat.le_of_ble_eq_true rfl) dX6_partsOf_19 ?_
    refine g_if_ne (tgt := 38) dX6_partsOf_22 (by decide) (fun c4 => ?_) (fun c4 => ?_)
    · have hf := if_f hf c4
      obtain ⟨x5, ex5⟩ : ∃ y : Int32, y = v4 + 1 := ⟨_, rfl⟩
      have hf := lE_s hf ex5
      refine g_iinc (ps := 4) (v := x5) (L' := [(4, .int x5), (0, .ref v0), (1, .int v1), (2, .int v2), (3, .int v3)]) dX6_partsOf_38 rfl (by rw [ex5]; rfl) (by decide) rfl ?_
      refine g_goto (tgt := 7) dX6_partsOf_41 (by decide) ?_
      exact g_pick [1, 2, 3, 4, 0] rfl (hk _ (Option.some.inj hf).symm)
    · have hf := if_t hf c4
      obtain ⟨x6, ex6⟩ : ∃ y : Int32, y = v2 + 1 := ⟨_, rfl⟩
      have hf := lE_s hf ex6
      refine g_iinc (ps := 2) (v := x6) (L' := [(2, .int x6), (0, .ref v0), (1, .int v1), (3, .int v3), (4, .int v4)]) dX6_partsOf_25 rfl (by rw [ex6]; rfl) (by decide) rfl ?_
      refine g_iload_n (ps := 3) dX6_partsOf_28 rfl rfl ?_
      refine g_aload_n (ps := 1) dX6_partsOf_29 rfl rfl ?_
      refine g_iload (ps := 4) dX6_partsOf_30 rfl ?_
      refine g_iload_n (ps := 2) dX6_partsOf_32 rfl rfl ?_
      obtain ⟨x8, e7, hf⟩ := bd_s hf
      refine g_callVi (As := [.int v4, .int v1]) (n := 2) (kX6_reached hW hv0 e7) gX6_partsOf_X6_reached rfl ⟨rfl, rfl⟩ ⟨rfl, hdX6_reached⟩ ⟨Nat.le_of_ble_eq_true rfl, Nat.le_of_ble_eq_true rfl⟩ cf6 hv0 rfl rfl (Nat.le_of_ble_eq_true rfl) dX6_partsOf_33 ?_
      refine g_ior dX6_partsOf_36 ?_
      refine g_topi (fun x9 ex9 => ?_)
      have hf := lE_s hf ex9
      refine g_istore_n (L' := [(3, .int x9), (2, .int x6), (0, .ref v0), (1, .int v1), (4, .int v4)]) dX6_partsOf_37 rfl (by decide) rfl ?_
      obtain ⟨x10, ex10⟩ : ∃ y : Int32, y = v4 + 1 := ⟨_, rfl⟩
      have hf := lE_s hf ex10
      refine g_iinc (ps := 4) (v := x10) (L' := [(4, .int x10), (3, .int x9), (2, .int x6), (0, .ref v0), (1, .int v1)]) dX6_partsOf_38 rfl (by rw [ex10]; rfl) (by decide) rfl ?_
      refine g_goto (tgt := 7) dX6_partsOf_41 (by decide) ?_
      exact g_pick [3, 4, 2, 1, 0] rfl (hk _ (Option.some.inj hf).symm)
set_option maxHeartbeats 4000000 in
set_option maxRecDepth 100000 in
theorem ulX6_partsOf_7 {S : Shp} {n : Nat} {r : Rf} {v0 : Nat} {v1 : Int32} {v2 : Int32} {v3 : Int32} {v4 : Int32}  {h : Hp} {o : Int32} (hW : WF S r) (hv0 : S[v0]? = some (6, 38)) (hf : lX6_partsOf_7 n r v0 v1 v2 v3 v4 h = some o)  : GX6_partsOf S r r (some o, h) 7 [(0, .ref v0), (1, .int v1), (2, .int v2), (3, .int v3), (4, .int v4)] [] h := by
  unfold lX6_partsOf_7 at hf
  obtain ⟨z0, ei, hf⟩ := bd_s hf
  refine it_ind (P := fun (s : Int32 × Int32 × Int32) => GX6_partsOf S r r (some o, h) 7 [(0, .ref v0), (1, .int v1), (2, .int (s.1)), (3, .int (s.2.1)), (4, .int (s.2.2))] [] h) (fun s w hb hk2 he2 => ?_) n _ ei
  refine ubX6_partsOf_7 (out := (some o, h)) (r' := r) hW hv0 hb hk2 (fun z hz => ?_)
  have hz := he2 z hz
  subst hz
  refine g_iload_n (ps := 1) dX6_partsOf_44 rfl rfl ?_
  have hf := Option.some.inj hf
  subst hf
  exact g_iret dX6_partsOf_45
set_option maxHeartbeats 4000000 in
set_option maxRecDepth 100000 in
theorem uX6_partsOf {S : Shp} {n : Nat} {r : Rf} {v0 : Nat} {v1 : Int32} {h : Hp} {o : Int32} (hW : WF S r) (hv0 : S[v0]? = some (6, 38)) (hf : fX6_partsOf n r v0 v1 h = some o) : GX6_partsOf S r r (some o, h) 0 [(0, .ref v0), (1, .int v1)] [] h := by
  unfold fX6_partsOf at hf
  refine g_iconst (v := 0) dX6_partsOf_0 (by decide +kernel) ?_
  refine g_istore_n (L' := [(2, .int 0), (0, .ref v0), (1, .int v1)]) dX6_partsOf_1 rfl (by decide) rfl ?_
  refine g_iconst (v := 0) dX6_partsOf_2 (by decide +kernel) ?_
  refine g_istore_n (L' := [(3, .int 0), (2, .int 0), (0, .ref v0), (1, .int v1)]) dX6_partsOf_3 rfl (by decide) rfl ?_
  refine g_iconst (v := 0) dX6_partsOf_4 (by decide +kernel) ?_
  refine g_istore (L' := [(4, .int 0), (3, .int 0), (2, .int 0), (0, .ref v0), (1, .int v1)]) dX6_partsOf_5 (by decide) rfl ?_
  exact g_pick [3, 4, 2, 1, 0] rfl (ulX6_partsOf_7 hW hv0 hf)
theorem kX6_partsOf {S : Shp} {n : Nat} {r : Rf} {v0 : Nat} {v1 : Int32} {h : Hp} {o : Int32} (hW : WF S r) (hv0 : S[v0]? = some (6, 38)) (hf : fX6_partsOf n r v0 v1 h = some o) : CTi yX6_partsOf wsX6_partsOf rmX6_partsOf S r [.ref v0, .int v1] h r o h :=
  cti_of rfl (by decide +kernel) rfl (Nat.le_of_ble_eq_true rfl) rfl (uX6_partsOf hW hv0 hf)
/-! X6_alone alone -/
def rmX6_alone : Room := { frames := 4, cells := 0, slots := 0, locals := 93 }
abbrev GX6_alone (S : Shp) (r r' : Rf) (out : Option Int32 × Hp) (pc : Nat) (L : List (Nat × Value)) (st : List Value) (h : Hp) : Prop := G RX6 cX6_alone 3 (some .int) wsX6_alone rmX6_alone S r r' out pc L st h
theorem nX6_alone_X6 : ∀ w ∈ wsX60, w ∈ wsX6_alone := by decide +kernel
theorem mX6_alone_144 : Cond.fieldLink RX6 144 "LinkedIslesModel" "m" "I" ∈ wsX6_alone := by decide +kernel
theorem mX6_alone_47 : Cond.fieldLink RX6 47 "LinkedIslesModel" "now" "[I" ∈ wsX6_alone := by decide +kernel
theorem hdX6_alone : yX6_alone.cls ≠ "java/lang/invoke/MethodHandle" ∧ yX6_alone.cls ≠ "java/lang/invoke/VarHandle" ∧ (parseMethodDescriptor yX6_alone.desc).map (fun d => d.parameters.length) = some 0 := by decide +kernel
def bX6_alone_4 (n : Nat) (r : Rf) (v0 : Nat) (v1 : Int32) (v2 : Int32) (h : Hp) : Option ((Int32 × Int32) ⊕ (Int32)) :=
  if (h.1 v0 15) ≤ v2 then (some (.inr v1)) else (ck 0 16 ((fX6_has n r (h.1 (r v0 22) (Int32.toNatClampNeg 0)) v2 h).bind (fun (x4 : Int32) => if x4 = 0 then (lE ((v1 ||| 0)) (fun (x6 : Int32) => lE (v2 + 1) (fun (x7 : Int32) => some (.inl (x6, x7))))) else (ck 0 16 ((fX6_partsOf n r v0 ((h.1 (r v0 22) (Int32.toNatClampNeg 0)) &&& ((1 <<< (v2 &&& 31)) ^^^ (-1))) h).bind (fun (x10 : Int32) => ck 0 16 ((fX6_partsOf n r v0 (h.1 (r v0 22) (Int32.toNatClampNeg 0)) h).bind (fun (x13 : Int32) => if x10 ≤ x13 then (lE ((v1 ||| 0)) (fun (x15 : Int32) => lE (v2 + 1) (fun (x16 : Int32) => some (.inl (x15, x16))))) else (lE ((v1 ||| (1 <<< (v2 &&& 31)))) (fun (x17 : Int32) => lE (v2 + 1) (fun (x18 : Int32) => some (.inl (x17, x18)))))))))))))
def lX6_alone_4 (n : Nat) (r : Rf) (v0 : Nat) (v1 : Int32) (v2 : Int32) (h : Hp) : Option Int32 :=
  (it (fun (s : Int32 × Int32) => bX6_alone_4 n r v0 s.1 s.2 h) n (v1, v2)).bind (fun z => some z)
def fX6_alone (n : Nat) (r : Rf) (v0 : Nat) (h : Hp) : Option Int32 :=
  lX6_alone_4 n r v0 0 0 h
set_option maxHeartbeats 4000000 in
set_option maxRecDepth 100000 in
theorem ubX6_alone_4 {S : Shp} {n : Nat} {r : Rf} {out : Option Int32 × Hp} {r' : Rf} {v0 : Nat} {v1 : Int32} {v2 : Int32}  {h : Hp} {w : (Int32 × Int32) ⊕ (Int32)} (hW : WF S r) (hv0 : S[v0]? = some (6, 38)) (hf : bX6_alone_4 n r v0 v1 v2 h = some w) (hk : ∀ y, w = .inl y → GX6_alone S r r' out 4 [(0, .ref v0), (1, .int (y.1)), (2, .int (y.2))] [] h) (he : ∀ z, w = .inr z → GX6_alone S r r' out 70 [(0, .ref v0), (1, .int (z))] [] h) : GX6_alone S r r' out 4 [(0, .ref v0), (1, .int v1), (2, .int v2)] [] h := by
  unfold bX6_alone_4 at hf
  refine g_iload_n (ps := 2) dX6_alone_4 rfl rfl ?_
  refine g_aload_n (ps := 0) dX6_alone_5 rfl rfl ?_
  refine g_getI cf6 hv0 nX6_alone_X6 (j := 15) (by decide) rfl mX6_alone_144 dX6_alone_6 ?_
  refine g_icmp_ge (tgt := 70) dX6_alone_9 (by decide) (fun c1 => ?_) (fun c1 => ?_)
  · have hf := if_t hf c1
    exact g_pick [0, 1] rfl (he _ (Option.some.inj hf).symm)
  · have hf := if_f hf c1
    refine g_iload_n (ps := 1) dX6_alone_12 rfl rfl ?_
    refine g_aload_n (ps := 0) dX6_alone_13 rfl rfl ?_
    refine g_getR cf6 hv0 nX6_alone_X6 (j := 22) (by decide) rfl mX6_alone_47 dX6_alone_14 ?_
    refine g_iconst (v := 0) dX6_alone_17 (by decide +kernel) ?_
    obtain ⟨z2, hf⟩ := ck_s hf
    refine g_iald (hW _ _ _ hv0 22 _ rfl) z2 dX6_alone_18 ?_
    refine g_iload_n (ps := 2) dX6_alone_19 rfl rfl ?_
    obtain ⟨x4, e3, hf⟩ := bd_s hf
    refine g_callSi (As := [.int (h.1 (r v0 22) (Int32.toNatClampNeg 0)), .int v2]) (n := 2) (kX6_has hW  e3) gX6_alone_X6_has rfl ⟨rfl, rfl⟩ hdX6_has ⟨Nat.le_of_ble_eq_true rfl, Nat.le_of_ble_eq_true rfl⟩ rfl rfl (Nat.le_of_ble_eq_true rfl) dX6_alone_20 ?_
    refine g_if_eq (tgt := 61) dX6_alone_23 (by decide) (fun c5 => ?_) (fun c5 => ?_)
    · have hf := if_t hf c5
      refine g_iconst (v := 0) dX6_alone_61 (by decide +kernel) ?_
      refine g_ior dX6_alone_62 ?_
      refine g_topi (fun x6 ex6 => ?_)
      have hf := lE_s hf ex6
      refine g_istore_n (L' := [(1, .int x6), (0, .ref v0), (2, .int v2)]) dX6_alone_63 rfl (by decide) rfl ?_
      obtain ⟨x7, ex7⟩ : ∃ y : Int32, y = v2 + 1 := ⟨_, rfl⟩
      have hf := lE_s hf ex7
      refine g_iinc (ps := 2) (v := x7) (L' := [(2, .int x7), (1, .int x6), (0, .ref v0)]) dX6_alone_64 rfl (by rw [ex7]; rfl) (by decide) rfl ?_
      refine g_goto (tgt := 4) dX6_alone_67 (by decide) ?_
      exact g_pick [2, 1, 0] rfl (hk _ (Option.some.inj hf).symm)
    · have hf := if_f hf c5
      refine g_aload_n (ps := 0) dX6_alone_26 rfl rfl ?_
      refine g_aload_n (ps := 0) dX6_alone_27 rfl rfl ?_
      refine g_getR cf6 hv0 nX6_alone_X6 (j := 22) (by decide) rfl mX6_alone_47 dX6_alone_28 ?_
      refine g_iconst (v := 0) dX6_alone_31 (by decide +kernel) ?_
      obtain ⟨z8, hf⟩ := ck_s hf
      refine g_iald (hW _ _ _ hv0 22 _ rfl) z8 dX6_alone_32 ?_
      refine g_iconst (v := 1) dX6_alone_33 (by decide +kernel) ?_
      refine g_iload_n (ps := 2) dX6_alone_34 rfl rfl ?_
      refine g_ishl dX6_alone_35 ?_
      refine g_iconst (v := (-1)) dX6_alone_36 (by decide +kernel) ?_
      refine g_ixor dX6_alone_37 ?_
      refine g_iand dX6_alone_38 ?_
      obtain ⟨x10, e9, hf⟩ := bd_s hf
      refine g_callVi (As := [.int ((h.1 (r v0 22) (Int32.toNatClampNeg 0)) &&& ((1 <<< (v2 &&& 31)) ^^^ (-1)))]) (n := 1) (kX6_partsOf hW hv0 e9) gX6_alone_X6_partsOf rfl ⟨rfl, rfl⟩ ⟨rfl, hdX6_partsOf⟩ ⟨Nat.le_of_ble_eq_true rfl, Nat.le_of_ble_eq_true rfl⟩ cf6 hv0 rfl rfl (Nat.le_of_ble_eq_true rfl) dX6_alone_39 ?_
      refine g_aload_n (ps := 0) dX6_alone_42 rfl rfl ?_
      refine g_aload_n (ps := 0) dX6_alone_43 rfl rfl ?_
      refine g_getR cf6 hv0 nX6_alone_X6 (j := 22) (by decide) rfl mX6_alone_47 dX6_alone_44 ?_
      refine g_iconst (v := 0) dX6_alone_47 (by decide +kernel) ?_
      obtain ⟨z11, hf⟩ := ck_s hf
      refine g_iald (hW _ _ _ hv0 22 _ rfl) z11 dX6_alone_48 ?_
      obtain ⟨x13, e12, hf⟩ := bd_s hf
      refine g_callVi (As := [.int (h.1 (r v0 22) (Int32.toNatClampNeg 0))]) (n := 1) (kX6_partsOf hW hv0 e12) gX6_alone_X6_partsOf rfl ⟨rfl, rfl⟩ ⟨rfl, hdX6_partsOf⟩ ⟨Nat.le_of_ble_eq_true rfl, Nat.le_of_ble_eq_true rfl⟩ cf6 hv0 rfl rfl (Nat.le_of_ble_eq_true rfl) dX6_alone_49 ?_
      refine g_icmp_le (tgt := 61) dX6_alone_52 (by decide) (fun c14 => ?_) (fun c14 => ?_)
      · have hf := if_t hf c14
        refine g_iconst (v := 0) dX6_alone_61 (by decide +kernel) ?_
        refine g_ior dX6_alone_62 ?_
        refine g_topi (fun x15 ex15 => ?_)
        have hf := lE_s hf ex15
        refine g_istore_n (L' := [(1, .int x15), (0, .ref v0), (2, .int v2)]) dX6_alone_63 rfl (by decide) rfl ?_
        obtain ⟨x16, ex16⟩ : ∃ y : Int32, y = v2 + 1 := ⟨_, rfl⟩
        have hf := lE_s hf ex16
        refine g_iinc (ps := 2) (v := x16) (L' := [(2, .int x16), (1, .int x15), (0, .ref v0)]) dX6_alone_64 rfl (by rw [ex16]; rfl) (by decide) rfl ?_
        refine g_goto (tgt := 4) dX6_alone_67 (by decide) ?_
        exact g_pick [2, 1, 0] rfl (hk _ (Option.some.inj hf).symm)
      · have hf := if_f hf c14
        refine g_iconst (v := 1) dX6_alone_55 (by decide +kernel) ?_
        refine g_iload_n (ps := 2) dX6_alone_56 rfl rfl ?_
        refine g_ishl dX6_alone_57 ?_
        refine g_goto (tgt := 62) dX6_alone_58 (by decide) ?_
        refine g_ior dX6_alone_62 ?_
        refine g_topi (fun x17 ex17 => ?_)
        have hf := lE_s hf ex17
        refine g_istore_n (L' := [(1, .int x17), (0, .ref v0), (2, .int v2)]) dX6_alone_63 rfl (by decide) rfl ?_
        obtain ⟨x18, ex18⟩ : ∃ y : Int32, y = v2 + 1 := ⟨_, rfl⟩
        have hf := lE_s hf ex18
        refine g_iinc (ps := 2) (v := x18) (L' := [(2, .int x18), (1, .int x17), (0, .ref v0)]) dX6_alone_64 rfl (by rw [ex18]; rfl) (by decide) rfl ?_
        refine g_goto (tgt := 4) dX6_alone_67 (by decide) ?_
        exact g_pick [2, 1, 0] rfl (hk _ (Option.some.inj hf).symm)
set_option maxHeartbeats 4000000 in
set_option maxRecDepth 100000 in
theorem ulX6_alone_4 {S : Shp} {n : Nat} {r : Rf} {v0 : Nat} {v1 : Int32} {v2 : Int32}  {h : Hp} {o : Int32} (hW : WF S r) (hv0 : S[v0]? = some (6, 38)) (hf : lX6_alone_4 n r v0 v1 v2 h = some o)  : GX6_alone S r r (some o, h) 4 [(0, .ref v0), (1, .int v1), (2, .int v2)] [] h := by
  unfold lX6_alone_4 at hf
  obtain ⟨z0, ei, hf⟩ := bd_s hf
  refine it_ind (P := fun (s : Int32 × Int32) => GX6_alone S r r (some o, h) 4 [(0, .ref v0), (1, .int (s.1)), (2, .int (s.2))] [] h) (fun s w hb hk2 he2 => ?_) n _ ei
  refine ubX6_alone_4 (out := (some o, h)) (r' := r) hW hv0 hb hk2 (fun z hz => ?_)
  have hz := he2 z hz
  subst hz
  refine g_iload_n (ps := 1) dX6_alone_70 rfl rfl ?_
  have hf := Option.some.inj hf
  subst hf
  exact g_iret dX6_alone_71
set_option maxHeartbeats 4000000 in
set_option maxRecDepth 100000 in
theorem uX6_alone {S : Shp} {n : Nat} {r : Rf} {v0 : Nat} {h : Hp} {o : Int32} (hW : WF S r) (hv0 : S[v0]? = some (6, 38)) (hf : fX6_alone n r v0 h = some o) : GX6_alone S r r (some o, h) 0 [(0, .ref v0)] [] h := by
  unfold fX6_alone at hf
  refine g_iconst (v := 0) dX6_alone_0 (by decide +kernel) ?_
  refine g_istore_n (L' := [(1, .int 0), (0, .ref v0)]) dX6_alone_1 rfl (by decide) rfl ?_
  refine g_iconst (v := 0) dX6_alone_2 (by decide +kernel) ?_
  refine g_istore_n (L' := [(2, .int 0), (1, .int 0), (0, .ref v0)]) dX6_alone_3 rfl (by decide) rfl ?_
  exact g_pick [2, 1, 0] rfl (ulX6_alone_4 hW hv0 hf)
theorem kX6_alone {S : Shp} {n : Nat} {r : Rf} {v0 : Nat} {h : Hp} {o : Int32} (hW : WF S r) (hv0 : S[v0]? = some (6, 38)) (hf : fX6_alone n r v0 h = some o) : CTi yX6_alone wsX6_alone rmX6_alone S r [.ref v0] h r o h :=
  cti_of rfl (by decide +kernel) rfl (Nat.le_of_ble_eq_true rfl) rfl (uX6_alone hW hv0 hf)
/-! X6_clashesBy clashesBy -/
def rmX6_clashesBy : Room := { frames := 2, cells := 0, slots := 0, locals := 46 }
abbrev GX6_clashesBy (S : Shp) (r r' : Rf) (out : Option Int32 × Hp) (pc : Nat) (L : List (Nat × Value)) (st : List Value) (h : Hp) : Prop := G RX6 cX6_clashesBy 8 (some .int) wsX6_clashesBy rmX6_clashesBy S r r' out pc L st h
theorem nX6_clashesBy_X6 : ∀ w ∈ wsX60, w ∈ wsX6_clashesBy := by decide +kernel
theorem mX6_clashesBy_141 : Cond.fieldLink RX6 141 "LinkedIslesModel" "n" "I" ∈ wsX6_clashesBy := by decide +kernel
theorem mX6_clashesBy_144 : Cond.fieldLink RX6 144 "LinkedIslesModel" "m" "I" ∈ wsX6_clashesBy := by decide +kernel
theorem hdX6_clashesBy : yX6_clashesBy.cls ≠ "java/lang/invoke/MethodHandle" ∧ yX6_clashesBy.cls ≠ "java/lang/invoke/VarHandle" ∧ (parseMethodDescriptor yX6_clashesBy.desc).map (fun d => d.parameters.length) = some 2 := by decide +kernel
def jX6_clashesBy_69 (n : Nat) (r : Rf) (v0 : Nat) (v1 : Int32) (v2 : Int32) (v4 : Int32) (v5 : Int32) (v6 : Int32) (v7 : Int32) (s0 : Int32) (s1 : Int32) (h : Hp) : Option ((Int32 × Int32 × Int32) ⊕ (Int32)) :=
  lE ((s1 ||| s0)) (fun (x6 : Int32) => if v7 = (-1) then (lE (v6 + 1) (fun (x8 : Int32) => some (.inl (x6, v5, x8)))) else (lE (v6 + 1) (fun (x9 : Int32) => some (.inl (x6, v7, x9)))))
def bX6_clashesBy_20 (n : Nat) (r : Rf) (v0 : Nat) (v1 : Int32) (v2 : Int32) (v3 : Int32) (v4 : Int32) (v5 : Int32) (v6 : Int32) (h : Hp) : Option ((Int32 × Int32 × Int32) ⊕ (Int32)) :=
  if (h.1 v0 15) ≤ v6 then (some (.inr v3)) else ((fX6_readBy n r v0 v4 v6 v1 v2 h).bind (fun (x4 : Int32) => if x4 = (-1) then (jX6_clashesBy_69 n r v0 v1 v2 v4 v5 v6 x4 0 v3 h) else (if v5 = (-1) then (jX6_clashesBy_69 n r v0 v1 v2 v4 v5 v6 x4 0 v3 h) else (if x4 = v5 then (jX6_clashesBy_69 n r v0 v1 v2 v4 v5 v6 x4 0 v3 h) else (jX6_clashesBy_69 n r v0 v1 v2 v4 v5 v6 x4 (1 <<< (v4 &&& 31)) v3 h)))))
def lX6_clashesBy_20 (n : Nat) (r : Rf) (v0 : Nat) (v1 : Int32) (v2 : Int32) (v3 : Int32) (v4 : Int32) (v5 : Int32) (v6 : Int32) (h : Hp) : Option ((Int32 × Int32) ⊕ (Int32)) :=
  (it (fun (s : Int32 × Int32 × Int32) => bX6_clashesBy_20 n r v0 v1 v2 s.1 v4 s.2.1 s.2.2 h) n (v3, v5, v6)).bind (fun z => lE (v4 + 1) (fun (x12 : Int32) => some (.inl (z, x12))))
def bX6_clashesBy_5 (n : Nat) (r : Rf) (v0 : Nat) (v1 : Int32) (v2 : Int32) (v3 : Int32) (v4 : Int32) (h : Hp) : Option ((Int32 × Int32) ⊕ (Int32)) :=
  if (h.1 v0 14) ≤ v4 then (some (.inr v3)) else (lX6_clashesBy_20 n r v0 v1 v2 v3 v4 (-1) 0 h)
def lX6_clashesBy_5 (n : Nat) (r : Rf) (v0 : Nat) (v1 : Int32) (v2 : Int32) (v3 : Int32) (v4 : Int32) (h : Hp) : Option Int32 :=
  (it (fun (s : Int32 × Int32) => bX6_clashesBy_5 n r v0 v1 v2 s.1 s.2 h) n (v3, v4)).bind (fun z => some z)
def fX6_clashesBy (n : Nat) (r : Rf) (v0 : Nat) (v1 : Int32) (v2 : Int32) (h : Hp) : Option Int32 :=
  lX6_clashesBy_5 n r v0 v1 v2 0 0 h
set_option maxHeartbeats 4000000 in
set_option maxRecDepth 100000 in
theorem ujX6_clashesBy_69 {S : Shp} {n : Nat} {r : Rf} {out : Option Int32 × Hp} {r' : Rf} {v0 : Nat} {v1 : Int32} {v2 : Int32} {v4 : Int32} {v5 : Int32} {v6 : Int32} {v7 : Int32} {s0 : Int32} {s1 : Int32} {h : Hp} {w : (Int32 × Int32 × Int32) ⊕ (Int32)} (hW : WF S r) (hv0 : S[v0]? = some (6, 38)) (hf : jX6_clashesBy_69 n r v0 v1 v2 v4 v5 v6 v7 s0 s1 h = some w) (hk : ∀ y, w = .inl y → GX6_clashesBy S r r' out 20 [(0, .ref v0), (1, .int v1), (2, .int v2), (3, .int (y.1)), (4, .int v4), (5, .int (y.2.1)), (6, .int (y.2.2))] [] h) (he : ∀ z, w = .inr z → GX6_clashesBy S r r' out 92 [(0, .ref v0), (1, .int v1), (2, .int v2), (3, .int (z)), (4, .int v4)] [] h) : GX6_clashesBy S r r' out 69 [(0, .ref v0), (1, .int v1), (2, .int v2), (4, .int v4), (5, .int v5), (6, .int v6), (7, .int v7)] [.int s0, .int s1] h := by
  unfold jX6_clashesBy_69 at hf
  refine g_ior dX6_clashesBy_69 ?_
  refine g_topi (fun x6 ex6 => ?_)
  have hf := lE_s hf ex6
  refine g_istore_n (L' := [(3, .int x6), (0, .ref v0), (1, .int v1), (2, .int v2), (4, .int v4), (5, .int v5), (6, .int v6), (7, .int v7)]) dX6_clashesBy_70 rfl (by decide) rfl ?_
  refine g_iload (ps := 7) dX6_clashesBy_71 rfl ?_
  refine g_iconst (v := (-1)) dX6_clashesBy_73 (by decide +kernel) ?_
  refine g_icmp_eq (tgt := 82) dX6_clashesBy_74 (by decide) (fun c7 => ?_) (fun c7 => ?_)
  · have hf := if_t hf c7
    refine g_iload (ps := 5) dX6_clashesBy_82 rfl ?_
    refine g_istore (L' := [(5, .int v5), (3, .int x6), (0, .ref v0), (1, .int v1), (2, .int v2), (4, .int v4), (6, .int v6), (7, .int v7)]) dX6_clashesBy_84 (by decide) rfl ?_
    obtain ⟨x8, ex8⟩ : ∃ y : Int32, y = v6 + 1 := ⟨_, rfl⟩
    have hf := lE_s hf ex8
    refine g_iinc (ps := 6) (v := x8) (L' := [(6, .int x8), (5, .int v5), (3, .int x6), (0, .ref v0), (1, .int v1), (2, .int v2), (4, .int v4), (7, .int v7)]) dX6_clashesBy_86 rfl (by rw [ex8]; rfl) (by decide) rfl ?_
    refine g_goto (tgt := 20) dX6_clashesBy_89 (by decide) ?_
    exact g_pick [3, 4, 5, 2, 6, 1, 0] rfl (hk _ (Option.some.inj hf).symm)
  · have hf := if_f hf c7
    refine g_iload (ps := 7) dX6_clashesBy_77 rfl ?_
    refine g_goto (tgt := 84) dX6_clashesBy_79 (by decide) ?_
    refine g_istore (L' := [(5, .int v7), (3, .int x6), (0, .ref v0), (1, .int v1), (2, .int v2), (4, .int v4), (6, .int v6), (7, .int v7)]) dX6_clashesBy_84 (by decide) rfl ?_
    obtain ⟨x9, ex9⟩ : ∃ y : Int32, y = v6 + 1 := ⟨_, rfl⟩
    have hf := lE_s hf ex9
    refine g_iinc (ps := 6) (v := x9) (L' := [(6, .int x9), (5, .int v7), (3, .int x6), (0, .ref v0), (1, .int v1), (2, .int v2), (4, .int v4), (7, .int v7)]) dX6_clashesBy_86 rfl (by rw [ex9]; rfl) (by decide) rfl ?_
    refine g_goto (tgt := 20) dX6_clashesBy_89 (by decide) ?_
    exact g_pick [3, 4, 5, 2, 6, 1, 0] rfl (hk _ (Option.some.inj hf).symm)
set_option maxHeartbeats 4000000 in
set_option maxRecDepth 100000 in
theorem ubX6_clashesBy_20 {S : Shp} {n : Nat} {r : Rf} {out : Option Int32 × Hp} {r' : Rf} {v0 : Nat} {v1 : Int32} {v2 : Int32} {v3 : Int32} {v4 : Int32} {v5 : Int32} {v6 : Int32}  {h : Hp} {w : (Int32 × Int32 × Int32) ⊕ (Int32)} (hW : WF S r) (hv0 : S[v0]? = some (6, 38)) (hf : bX6_clashesBy_20 n r v0 v1 v2 v3 v4 v5 v6 h = some w) (hk : ∀ y, w = .inl y → GX6_clashesBy S r r' out 20 [(0, .ref v0), (1, .int v1), (2, .int v2), (3, .int (y.1)), (4, .int v4), (5, .int (y.2.1)), (6, .int (y.2.2))] [] h) (he : ∀ z, w = .inr z → GX6_clashesBy S r r' out 92 [(0, .ref v0), (1, .int v1), (2, .int v2), (3, .int (z)), (4, .int v4)] [] h) : GX6_clashesBy S r r' out 20 [(0, .ref v0), (1, .int v1), (2, .int v2), (3, .int v3), (4, .int v4), (5, .int v5), (6, .int v6)] [] h := by
  unfold bX6_clashesBy_20 at hf
  refine g_iload (ps := 6) dX6_clashesBy_20 rfl ?_
  refine g_aload_n (ps := 0) dX6_clashesBy_22 rfl rfl ?_
  refine g_getI cf6 hv0 nX6_clashesBy_X6 (j := 15) (by decide) rfl mX6_clashesBy_144 dX6_clashesBy_23 ?_
  refine g_icmp_ge (tgt := 92) dX6_clashesBy_26 (by decide) (fun c2 => ?_) (fun c2 => ?_)
  · have hf := if_t hf c2
    exact g_pick [0, 1, 2, 3, 4] rfl (he _ (Option.some.inj hf).symm)
  · have hf := if_f hf c2
    refine g_aload_n (ps := 0) dX6_clashesBy_29 rfl rfl ?_
    refine g_iload (ps := 4) dX6_clashesBy_30 rfl ?_
    refine g_iload (ps := 6) dX6_clashesBy_32 rfl ?_
    refine g_iload_n (ps := 1) dX6_clashesBy_34 rfl rfl ?_
    refine g_iload_n (ps := 2) dX6_clashesBy_35 rfl rfl ?_
    obtain ⟨x4, e3, hf⟩ := bd_s hf
    refine g_callVi (As := [.int v4, .int v6, .int v1, .int v2]) (n := 4) (kX6_readBy hW hv0 e3) gX6_clashesBy_X6_readBy rfl ⟨rfl, rfl⟩ ⟨rfl, hdX6_readBy⟩ ⟨Nat.le_of_ble_eq_true rfl, Nat.le_of_ble_eq_true rfl⟩ cf6 hv0 rfl rfl (Nat.le_of_ble_eq_true rfl) dX6_clashesBy_36 ?_
    refine g_istore (L' := [(7, .int x4), (0, .ref v0), (1, .int v1), (2, .int v2), (3, .int v3), (4, .int v4), (5, .int v5), (6, .int v6)]) dX6_clashesBy_39 (by decide) rfl ?_
    refine g_iload_n (ps := 4) dX6_clashesBy_41 rfl rfl ?_
    refine g_iload (ps := 0) dX6_clashesBy_42 rfl ?_
    refine g_iconst (v := (-1)) dX6_clashesBy_44 (by decide +kernel) ?_
    refine g_icmp_eq (tgt := 68) dX6_clashesBy_45 (by decide) (fun c5 => ?_) (fun c5 => ?_)
    · have hf := if_t hf c5
      refine g_iconst (v := 0) dX6_clashesBy_68 (by decide +kernel) ?_
      exact g_pick [1, 2, 3, 5, 6, 7, 0] rfl (ujX6_clashesBy_69 hW hv0 hf hk he)
    · have hf := if_f hf c5
      refine g_iload (ps := 6) dX6_clashesBy_48 rfl ?_
      refine g_iconst (v := (-1)) dX6_clashesBy_50 (by decide +kernel) ?_
      refine g_icmp_eq (tgt := 68) dX6_clashesBy_51 (by decide) (fun c10 => ?_) (fun c10 => ?_)
      · have hf := if_t hf c10
        refine g_iconst (v := 0) dX6_clashesBy_68 (by decide +kernel) ?_
        exact g_pick [1, 2, 3, 5, 6, 7, 0] rfl (ujX6_clashesBy_69 hW hv0 hf hk he)
      · have hf := if_f hf c10
        refine g_iload (ps := 0) dX6_clashesBy_54 rfl ?_
        refine g_iload (ps := 6) dX6_clashesBy_56 rfl ?_
        refine g_icmp_eq (tgt := 68) dX6_clashesBy_58 (by decide) (fun c11 => ?_) (fun c11 => ?_)
        · have hf := if_t hf c11
          refine g_iconst (v := 0) dX6_clashesBy_68 (by decide +kernel) ?_
          exact g_pick [1, 2, 3, 5, 6, 7, 0] rfl (ujX6_clashesBy_69 hW hv0 hf hk he)
        · have hf := if_f hf c11
          refine g_iconst (v := 1) dX6_clashesBy_61 (by decide +kernel) ?_
          refine g_iload (ps := 5) dX6_clashesBy_62 rfl ?_
          refine g_ishl dX6_clashesBy_64 ?_
          refine g_goto (tgt := 69) dX6_clashesBy_65 (by decide) ?_
          exact g_pick [1, 2, 3, 5, 6, 7, 0] rfl (ujX6_clashesBy_69 hW hv0 hf hk he)
set_option maxHeartbeats 4000000 in
set_option maxRecDepth 100000 in
theorem ulX6_clashesBy_20 {S : Shp} {n : Nat} {r : Rf} {out : Option Int32 × Hp} {r' : Rf} {v0 : Nat} {v1 : Int32} {v2 : Int32} {v3 : Int32} {v4 : Int32} {v5 : Int32} {v6 : Int32}  {h : Hp} {w : (Int32 × Int32) ⊕ (Int32)} (hW : WF S r) (hv0 : S[v0]? = some (6, 38)) (hf : lX6_clashesBy_20 n r v0 v1 v2 v3 v4 v5 v6 h = some w) (hk : ∀ y, w = .inl y → GX6_clashesBy S r r' out 5 [(0, .ref v0), (1, .int v1), (2, .int v2), (3, .int (y.1)), (4, .int (y.2))] [] h) (he : ∀ z, w = .inr z → GX6_clashesBy S r r' out 98 [(0, .ref v0), (3, .int (z))] [] h) : GX6_clashesBy S r r' out 20 [(0, .ref v0), (1, .int v1), (2, .int v2), (3, .int v3), (4, .int v4), (5, .int v5), (6, .int v6)] [] h := by
  unfold lX6_clashesBy_20 at hf
  obtain ⟨z0, ei, hf⟩ := bd_s hf
  refine it_ind (P := fun (s : Int32 × Int32 × Int32) => GX6_clashesBy S r r' out 20 [(0, .ref v0), (1, .int v1), (2, .int v2), (3, .int (s.1)), (4, .int v4), (5, .int (s.2.1)), (6, .int (s.2.2))] [] h) (fun s w hb hk2 he2 => ?_) n _ ei
  refine ubX6_clashesBy_20 (out := out) (r' := r') hW hv0 hb hk2 (fun z hz => ?_)
  have hz := he2 z hz
  subst hz
  obtain ⟨x12, ex12⟩ : ∃ y : Int32, y = v4 + 1 := ⟨_, rfl⟩
  have hf := lE_s hf ex12
  refine g_iinc (ps := 4) (v := x12) (L' := [(4, .int x12), (0, .ref v0), (1, .int v1), (2, .int v2), (3, .int z)]) dX6_clashesBy_92 rfl (by rw [ex12]; rfl) (by decide) rfl ?_
  refine g_goto (tgt := 5) dX6_clashesBy_95 (by decide) ?_
  exact g_pick [1, 2, 3, 4, 0] rfl (hk _ (Option.some.inj hf).symm)
set_option maxHeartbeats 4000000 in
set_option maxRecDepth 100000 in
theorem ubX6_clashesBy_5 {S : Shp} {n : Nat} {r : Rf} {out : Option Int32 × Hp} {r' : Rf} {v0 : Nat} {v1 : Int32} {v2 : Int32} {v3 : Int32} {v4 : Int32}  {h : Hp} {w : (Int32 × Int32) ⊕ (Int32)} (hW : WF S r) (hv0 : S[v0]? = some (6, 38)) (hf : bX6_clashesBy_5 n r v0 v1 v2 v3 v4 h = some w) (hk : ∀ y, w = .inl y → GX6_clashesBy S r r' out 5 [(0, .ref v0), (1, .int v1), (2, .int v2), (3, .int (y.1)), (4, .int (y.2))] [] h) (he : ∀ z, w = .inr z → GX6_clashesBy S r r' out 98 [(0, .ref v0), (3, .int (z))] [] h) : GX6_clashesBy S r r' out 5 [(0, .ref v0), (1, .int v1), (2, .int v2), (3, .int v3), (4, .int v4)] [] h := by
  unfold bX6_clashesBy_5 at hf
  refine g_iload (ps := 4) dX6_clashesBy_5 rfl ?_
  refine g_aload_n (ps := 0) dX6_clashesBy_7 rfl rfl ?_
  refine g_getI cf6 hv0 nX6_clashesBy_X6 (j := 14) (by decide) rfl mX6_clashesBy_141 dX6_clashesBy_8 ?_
  refine g_icmp_ge (tgt := 98) dX6_clashesBy_11 (by decide) (fun c1 => ?_) (fun c1 => ?_)
  · have hf := if_t hf c1
    exact g_pick [0, 3] rfl (he _ (Option.some.inj hf).symm)
  · have hf := if_f hf c1
    refine g_iconst (v := (-1)) dX6_clashesBy_14 (by decide +kernel) ?_
    refine g_istore (L' := [(5, .int (-1)), (0, .ref v0), (1, .int v1), (2, .int v2), (3, .int v3), (4, .int v4)]) dX6_clashesBy_15 (by decide) rfl ?_
    refine g_iconst (v := 0) dX6_clashesBy_17 (by decide +kernel) ?_
    refine g_istore (L' := [(6, .int 0), (5, .int (-1)), (0, .ref v0), (1, .int v1), (2, .int v2), (3, .int v3), (4, .int v4)]) dX6_clashesBy_18 (by decide) rfl ?_
    exact g_pick [2, 3, 4, 5, 6, 1, 0] rfl (ulX6_clashesBy_20 hW hv0 hf hk he)
set_option maxHeartbeats 4000000 in
set_option maxRecDepth 100000 in
theorem ulX6_clashesBy_5 {S : Shp} {n : Nat} {r : Rf} {v0 : Nat} {v1 : Int32} {v2 : Int32} {v3 : Int32} {v4 : Int32}  {h : Hp} {o : Int32} (hW : WF S r) (hv0 : S[v0]? = some (6, 38)) (hf : lX6_clashesBy_5 n r v0 v1 v2 v3 v4 h = some o)  : GX6_clashesBy S r r (some o, h) 5 [(0, .ref v0), (1, .int v1), (2, .int v2), (3, .int v3), (4, .int v4)] [] h := by
  unfold lX6_clashesBy_5 at hf
  obtain ⟨z0, ei, hf⟩ := bd_s hf
  refine it_ind (P := fun (s : Int32 × Int32) => GX6_clashesBy S r r (some o, h) 5 [(0, .ref v0), (1, .int v1), (2, .int v2), (3, .int (s.1)), (4, .int (s.2))] [] h) (fun s w hb hk2 he2 => ?_) n _ ei
  refine ubX6_clashesBy_5 (out := (some o, h)) (r' := r) hW hv0 hb hk2 (fun z hz => ?_)
  have hz := he2 z hz
  subst hz
  refine g_iload_n (ps := 1) dX6_clashesBy_98 rfl rfl ?_
  have hf := Option.some.inj hf
  subst hf
  exact g_iret dX6_clashesBy_99
set_option maxHeartbeats 4000000 in
set_option maxRecDepth 100000 in
theorem uX6_clashesBy {S : Shp} {n : Nat} {r : Rf} {v0 : Nat} {v1 : Int32} {v2 : Int32} {h : Hp} {o : Int32} (hW : WF S r) (hv0 : S[v0]? = some (6, 38)) (hf : fX6_clashesBy n r v0 v1 v2 h = some o) : GX6_clashesBy S r r (some o, h) 0 [(0, .ref v0), (1, .int v1), (2, .int v2)] [] h := by
  unfold fX6_clashesBy at hf
  refine g_iconst (v := 0) dX6_clashesBy_0 (by decide +kernel) ?_
  refine g_istore_n (L' := [(3, .int 0), (0, .ref v0), (1, .int v1), (2, .int v2)]) dX6_clashesBy_1 rfl (by decide) rfl ?_
  refine g_iconst (v := 0) dX6_clashesBy_2 (by decide +kernel) ?_
  refine g_istore (L' := [(4, .int 0), (3, .int 0), (0, .ref v0), (1, .int v1), (2, .int v2)]) dX6_clashesBy_3 (by decide) rfl ?_
  exact g_pick [2, 3, 4, 1, 0] rfl (ulX6_clashesBy_5 hW hv0 hf)
theorem kX6_clashesBy {S : Shp} {n : Nat} {r : Rf} {v0 : Nat} {v1 : Int32} {v2 : Int32} {h : Hp} {o : Int32} (hW : WF S r) (hv0 : S[v0]? = some (6, 38)) (hf : fX6_clashesBy n r v0 v1 v2 h = some o) : CTi yX6_clashesBy wsX6_clashesBy rmX6_clashesBy S r [.ref v0, .int v1, .int v2] h r o h :=
  cti_of rfl (by decide +kernel) rfl (Nat.le_of_ble_eq_true rfl) rfl (uX6_clashesBy hW hv0 hf)
/-! X6_told told -/
def rmX6_told : Room := { frames := 5, cells := 0, slots := 0, locals := 115 }
abbrev GX6_told (S : Shp) (r r' : Rf) (out : Option Int32 × Hp) (pc : Nat) (L : List (Nat × Value)) (st : List Value) (h : Hp) : Prop := G RX6 cX6_told 2 (some .int) wsX6_told rmX6_told S r r' out pc L st h
theorem nX6_told_X6 : ∀ w ∈ wsX60, w ∈ wsX6_told := by decide +kernel
theorem mX6_told_86 : Cond.constant RX6 86 (-1000000002) ∈ wsX6_told := by decide +kernel
theorem mX6_told_141 : Cond.fieldLink RX6 141 "LinkedIslesModel" "n" "I" ∈ wsX6_told := by decide +kernel
theorem mX6_told_144 : Cond.fieldLink RX6 144 "LinkedIslesModel" "m" "I" ∈ wsX6_told := by decide +kernel
theorem mX6_told_147 : Cond.fieldLink RX6 147 "LinkedIslesModel" "windMany" "I" ∈ wsX6_told := by decide +kernel
theorem mX6_told_150 : Cond.fieldLink RX6 150 "LinkedIslesModel" "undoMany" "I" ∈ wsX6_told := by decide +kernel
theorem mX6_told_153 : Cond.fieldLink RX6 153 "LinkedIslesModel" "heardMany" "I" ∈ wsX6_told := by decide +kernel
theorem mX6_told_156 : Cond.fieldLink RX6 156 "LinkedIslesModel" "bookMany" "I" ∈ wsX6_told := by decide +kernel
theorem mX6_told_47 : Cond.fieldLink RX6 47 "LinkedIslesModel" "now" "[I" ∈ wsX6_told := by decide +kernel
theorem mX6_told_87 : Cond.fieldLink RX6 87 "LinkedIslesModel" "letterMany" "I" ∈ wsX6_told := by decide +kernel
theorem hdX6_told : yX6_told.cls ≠ "java/lang/invoke/MethodHandle" ∧ yX6_told.cls ≠ "java/lang/invoke/VarHandle" ∧ (parseMethodDescriptor yX6_told.desc).map (fun d => d.parameters.length) = some 1 := by decide +kernel
def fX6_told (n : Nat) (r : Rf) (v0 : Nat) (v1 : Int32) (h : Hp) : Option Int32 :=
  lE (v1) (fun (x1 : Int32) => if x1 = 0 then (some (h.1 v0 14)) else (if x1 = 1 then (some (h.1 v0 15)) else (if x1 = 2 then (some (h.1 v0 16)) else (if x1 = 3 then (some (h.1 v0 0)) else (if x1 = 4 then (ck 3 16 (some (h.1 (r v0 22) (Int32.toNatClampNeg 3)))) else (if x1 = 5 then (ck 4 16 (some (h.1 (r v0 22) (Int32.toNatClampNeg 4)))) else (if x1 = 6 then (ck 5 16 (some (h.1 (r v0 22) (Int32.toNatClampNeg 5)))) else (if x1 = 7 then (ck 0 16 (some (h.1 (r v0 22) (Int32.toNatClampNeg 0)))) else (if x1 = 8 then ((fX6_alone n r v0 h).bind (fun (x16 : Int32) => some x16)) else (if x1 = 9 then (ck 0 16 (ck 1 16 ((fX6_clashesBy n r v0 (h.1 (r v0 22) (Int32.toNatClampNeg 0)) (h.1 (r v0 22) (Int32.toNatClampNeg 1)) h).bind (fun (x21 : Int32) => some x21)))) else (if x1 = 10 then (some (h.1 v0 28)) else (if x1 = 11 then (some (h.1 v0 32)) else (if x1 = 12 then (some (h.1 v0 24)) else (some (-1000000002)))))))))))))))
set_option maxHeartbeats 4000000 in
set_option maxRecDepth 100000 in
theorem uX6_told {S : Shp} {n : Nat} {r : Rf} {v0 : Nat} {v1 : Int32} {h : Hp} {o : Int32} (hW : WF S r) (hv0 : S[v0]? = some (6, 38)) (hf : fX6_told n r v0 v1 h = some o) : GX6_told S r r (some o, h) 0 [(0, .ref v0), (1, .int v1)] [] h := by
  unfold fX6_told at hf
  refine g_iload_n (ps := 1) dX6_told_0 rfl rfl ?_
  refine g_topi (fun x1 ex1 => ?_)
  have hf := lE_s hf ex1
  by_cases c2 : x1 = 0
  · have hf := if_t hf c2
    refine g_tableIn (off := 67) (tgt := 68) dX6_told_1 (by rw [c2]; decide +kernel) (by rw [c2]; decide +kernel) (by rw [c2]; decide +kernel) (by decide) ?_
    refine g_aload_n (ps := 0) dX6_told_68 rfl rfl ?_
    refine g_getI cf6 hv0 nX6_told_X6 (j := 14) (by decide) rfl mX6_told_141 dX6_told_69 ?_
    have hf := Option.some.inj hf
    subst hf
    exact g_iret dX6_told_72
  have hf := if_f hf c2
  by_cases c3 : x1 = 1
  · have hf := if_t hf c3
    refine g_tableIn (off := 72) (tgt := 73) dX6_told_1 (by rw [c3]; decide +kernel) (by rw [c3]; decide +kernel) (by rw [c3]; decide +kernel) (by decide) ?_
    refine g_aload_n (ps := 0) dX6_told_73 rfl rfl ?_
    refine g_getI cf6 hv0 nX6_told_X6 (j := 15) (by decide) rfl mX6_told_144 dX6_told_74 ?_
    have hf := Option.some.inj hf
    subst hf
    exact g_iret dX6_told_77
  have hf := if_f hf c3
  by_cases c4 : x1 = 2
  · have hf := if_t hf c4
    refine g_tableIn (off := 77) (tgt := 78) dX6_told_1 (by rw [c4]; decide +kernel) (by rw [c4]; decide +kernel) (by rw [c4]; decide +kernel) (by decide) ?_
    refine g_aload_n (ps := 0) dX6_told_78 rfl rfl ?_
    refine g_getI cf6 hv0 nX6_told_X6 (j := 16) (by decide) rfl mX6_told_147 dX6_told_79 ?_
    have hf := Option.some.inj hf
    subst hf
    exact g_iret dX6_told_82
  have hf := if_f hf c4
  by_cases c5 : x1 = 3
  · have hf := if_t hf c5
    refine g_tableIn (off := 82) (tgt := 83) dX6_told_1 (by rw [c5]; decide +kernel) (by rw [c5]; decide +kernel) (by rw [c5]; decide +kernel) (by decide) ?_
    refine g_aload_n (ps := 0) dX6_told_83 rfl rfl ?_
    refine g_getI cf6 hv0 nX6_told_X6 (j := 0) (by decide) rfl mX6_told_87 dX6_told_84 ?_
    have hf := Option.some.inj hf
    subst hf
    exact g_iret dX6_told_87
  have hf := if_f hf c5
  by_cases c6 : x1 = 4
  · have hf := if_t hf c6
    refine g_tableIn (off := 87) (tgt := 88) dX6_told_1 (by rw [c6]; decide +kernel) (by rw [c6]; decide +kernel) (by rw [c6]; decide +kernel) (by decide) ?_
    refine g_aload_n (ps := 0) dX6_told_88 rfl rfl ?_
    refine g_getR cf6 hv0 nX6_told_X6 (j := 22) (by decide) rfl mX6_told_47 dX6_told_89 ?_
    refine g_iconst (v := 3) dX6_told_92 (by decide +kernel) ?_
    obtain ⟨z7, hf⟩ := ck_s hf
    refine g_iald (hW _ _ _ hv0 22 _ rfl) z7 dX6_told_93 ?_
    have hf := Option.some.inj hf
    subst hf
    exact g_iret dX6_told_94
  have hf := if_f hf c6
  by_cases c8 : x1 = 5
  · have hf := if_t hf c8
    refine g_tableIn (off := 94) (tgt := 95) dX6_told_1 (by rw [c8]; decide +kernel) (by rw [c8]; decide +kernel) (by rw [c8]; decide +kernel) (by decide) ?_
    refine g_aload_n (ps := 0) dX6_told_95 rfl rfl ?_
    refine g_getR cf6 hv0 nX6_told_X6 (j := 22) (by decide) rfl mX6_told_47 dX6_told_96 ?_
    refine g_iconst (v := 4) dX6_told_99 (by decide +kernel) ?_
    obtain ⟨z9, hf⟩ := ck_s hf
    refine g_iald (hW _ _ _ hv0 22 _ rfl) z9 dX6_told_100 ?_
    have hf := Option.some.inj hf
    subst hf
    exact g_iret dX6_told_101
  have hf := if_f hf c8
  by_cases c10 : x1 = 6
  · have hf := if_t hf c10
    refine g_tableIn (off := 101) (tgt := 102) dX6_told_1 (by rw [c10]; decide +kernel) (by rw [c10]; decide +kernel) (by rw [c10]; decide +kernel) (by decide) ?_
    refine g_aload_n (ps := 0) dX6_told_102 rfl rfl ?_
    refine g_getR cf6 hv0 nX6_told_X6 (j := 22) (by decide) rfl mX6_told_47 dX6_told_103 ?_
    refine g_iconst (v := 5) dX6_told_106 (by decide +kernel) ?_
    obtain ⟨z11, hf⟩ := ck_s hf
    refine g_iald (hW _ _ _ hv0 22 _ rfl) z11 dX6_told_107 ?_
    have hf := Option.some.inj hf
    subst hf
    exact g_iret dX6_told_108
  have hf := if_f hf c10
  by_cases c12 : x1 = 7
  · have hf := if_t hf c12
    refine g_tableIn (off := 108) (tgt := 109) dX6_told_1 (by rw [c12]; decide +kernel) (by rw [c12]; decide +kernel) (by rw [c12]; decide +kernel) (by decide) ?_
    refine g_aload_n (ps := 0) dX6_told_109 rfl rfl ?_
    refine g_getR cf6 hv0 nX6_told_X6 (j := 22) (by decide) rfl mX6_told_47 dX6_told_110 ?_
    refine g_iconst (v := 0) dX6_told_113 (by decide +kernel) ?_
    obtain ⟨z13, hf⟩ := ck_s hf
    refine g_iald (hW _ _ _ hv0 22 _ rfl) z13 dX6_told_114 ?_
    have hf := Option.some.inj hf
    subst hf
    exact g_iret dX6_told_115
  have hf := if_f hf c12
  by_cases c14 : x1 = 8
  · have hf := if_t hf c14
    refine g_tableIn (off := 115) (tgt := 116) dX6_told_1 (by rw [c14]; decide +kernel) (by rw [c14]; decide +kernel) (by rw [c14]; decide +kernel) (by decide) ?_
    refine g_aload_n (ps := 0) dX6_told_116 rfl rfl ?_
    obtain ⟨x16, e15, hf⟩ := bd_s hf
    refine g_callVi (As := []) (n := 0) (kX6_alone hW hv0 e15) gX6_told_X6_alone rfl ⟨rfl, rfl⟩ ⟨rfl, hdX6_alone⟩ ⟨Nat.le_of_ble_eq_true rfl, Nat.le_of_ble_eq_true rfl⟩ cf6 hv0 rfl rfl (Nat.le_of_ble_eq_true rfl) dX6_told_117 ?_
    have hf := Option.some.inj hf
    subst hf
    exact g_iret dX6_told_120
  have hf := if_f hf c14
  by_cases c17 : x1 = 9
  · have hf := if_t hf c17
    refine g_tableIn (off := 120) (tgt := 121) dX6_told_1 (by rw [c17]; decide +kernel) (by rw [c17]; decide +kernel) (by rw [c17]; decide +kernel) (by decide) ?_
    refine g_aload_n (ps := 0) dX6_told_121 rfl rfl ?_
    refine g_aload_n (ps := 0) dX6_told_122 rfl rfl ?_
    refine g_getR cf6 hv0 nX6_told_X6 (j := 22) (by decide) rfl mX6_told_47 dX6_told_123 ?_
    refine g_iconst (v := 0) dX6_told_126 (by decide +kernel) ?_
    obtain ⟨z18, hf⟩ := ck_s hf
    refine g_iald (hW _ _ _ hv0 22 _ rfl) z18 dX6_told_127 ?_
    refine g_aload_n (ps := 0) dX6_told_128 rfl rfl ?_
    refine g_getR cf6 hv0 nX6_told_X6 (j := 22) (by decide) rfl mX6_told_47 dX6_told_129 ?_
    refine g_iconst (v := 1) dX6_told_132 (by decide +kernel) ?_
    obtain ⟨z19, hf⟩ := ck_s hf
    refine g_iald (hW _ _ _ hv0 22 _ rfl) z19 dX6_told_133 ?_
    obtain ⟨x21, e20, hf⟩ := bd_s hf
    refine g_callVi (As := [.int (h.1 (r v0 22) (Int32.toNatClampNeg 0)), .int (h.1 (r v0 22) (Int32.toNatClampNeg 1))]) (n := 2) (kX6_clashesBy hW hv0 e20) gX6_told_X6_clashesBy rfl ⟨rfl, rfl⟩ ⟨rfl, hdX6_clashesBy⟩ ⟨Nat.le_of_ble_eq_true rfl, Nat.le_of_ble_eq_true rfl⟩ cf6 hv0 rfl rfl (Nat.le_of_ble_eq_true rfl) dX6_told_134 ?_
    have hf := Option.some.inj hf
    subst hf
    exact g_iret dX6_told_137
  have hf := if_f hf c17
  by_cases c22 : x1 = 10
  · have hf := if_t hf c22
    refine g_tableIn (off := 137) (tgt := 138) dX6_told_1 (by rw [c22]; decide +kernel) (by rw [c22]; decide +kernel) (by rw [c22]; decide +kernel) (by decide) ?_
    refine g_aload_n (ps := 0) dX6_told_138 rfl rfl ?_
    refine g_getI cf6 hv0 nX6_told_X6 (j := 28) (by decide) rfl mX6_told_153 dX6_told_139 ?_
    have hf := Option.some.inj hf
    subst hf
    exact g_iret dX6_told_142
  have hf := if_f hf c22
  by_cases c23 : x1 = 11
  · have hf := if_t hf c23
    refine g_tableIn (off := 142) (tgt := 143) dX6_told_1 (by rw [c23]; decide +kernel) (by rw [c23]; decide +kernel) (by rw [c23]; decide +kernel) (by decide) ?_
    refine g_aload_n (ps := 0) dX6_told_143 rfl rfl ?_
    refine g_getI cf6 hv0 nX6_told_X6 (j := 32) (by decide) rfl mX6_told_156 dX6_told_144 ?_
    have hf := Option.some.inj hf
    subst hf
    exact g_iret dX6_told_147
  have hf := if_f hf c23
  by_cases c24 : x1 = 12
  · have hf := if_t hf c24
    refine g_tableIn (off := 147) (tgt := 148) dX6_told_1 (by rw [c24]; decide +kernel) (by rw [c24]; decide +kernel) (by rw [c24]; decide +kernel) (by decide) ?_
    refine g_aload_n (ps := 0) dX6_told_148 rfl rfl ?_
    refine g_getI cf6 hv0 nX6_told_X6 (j := 24) (by decide) rfl mX6_told_150 dX6_told_149 ?_
    have hf := Option.some.inj hf
    subst hf
    exact g_iret dX6_told_152
  have hf := if_f hf c24
  refine g_tableOut (tgt := 153) dX6_told_1 (by have q0 := lv_neT c2 (a := 0) (by decide +kernel); have q1 := lv_neT c3 (a := 1) (by decide +kernel); have q2 := lv_neT c4 (a := 2) (by decide +kernel); have q3 := lv_neT c5 (a := 3) (by decide +kernel); have q4 := lv_neT c6 (a := 4) (by decide +kernel); have q5 := lv_neT c8 (a := 5) (by decide +kernel); have q6 := lv_neT c10 (a := 6) (by decide +kernel); have q7 := lv_neT c12 (a := 7) (by decide +kernel); have q8 := lv_neT c14 (a := 8) (by decide +kernel); have q9 := lv_neT c17 (a := 9) (by decide +kernel); have q10 := lv_neT c22 (a := 10) (by decide +kernel); have q11 := lv_neT c23 (a := 11) (by decide +kernel); have q12 := lv_neT c24 (a := 12) (by decide +kernel); omega) (by decide) ?_
  refine g_ldc (v := (-1000000002)) mX6_told_86 dX6_told_153 ?_
  have hf := Option.some.inj hf
  subst hf
  exact g_iret dX6_told_155
theorem kX6_told {S : Shp} {n : Nat} {r : Rf} {v0 : Nat} {v1 : Int32} {h : Hp} {o : Int32} (hW : WF S r) (hv0 : S[v0]? = some (6, 38)) (hf : fX6_told n r v0 v1 h = some o) : CTi yX6_told wsX6_told rmX6_told S r [.ref v0, .int v1] h r o h :=
  cti_of rfl (by decide +kernel) rfl (Nat.le_of_ble_eq_true rfl) rfl (uX6_told hW hv0 hf)
/-! X6_remember remember -/
def rmX6_remember : Room := { frames := 0, cells := 0, slots := 0, locals := 0 }
abbrev GX6_remember (S : Shp) (r r' : Rf) (out : Option Int32 × Hp) (pc : Nat) (L : List (Nat × Value)) (st : List Value) (h : Hp) : Prop := G RX6 cX6_remember 2 none wsX6_remember rmX6_remember S r r' out pc L st h
theorem nX6_remember_X6 : ∀ w ∈ wsX60, w ∈ wsX6_remember := by decide +kernel
theorem mX6_remember_150 : Cond.fieldLink RX6 150 "LinkedIslesModel" "undoMany" "I" ∈ wsX6_remember := by decide +kernel
theorem mX6_remember_197 : Cond.fieldLink RX6 197 "LinkedIslesModel" "undoAt" "I" ∈ wsX6_remember := by decide +kernel
theorem mX6_remember_47 : Cond.fieldLink RX6 47 "LinkedIslesModel" "now" "[I" ∈ wsX6_remember := by decide +kernel
theorem mX6_remember_53 : Cond.fieldLink RX6 53 "LinkedIslesModel" "undos" "[I" ∈ wsX6_remember := by decide +kernel
theorem hdX6_remember : yX6_remember.cls ≠ "java/lang/invoke/MethodHandle" ∧ yX6_remember.cls ≠ "java/lang/invoke/VarHandle" ∧ (parseMethodDescriptor yX6_remember.desc).map (fun d => d.parameters.length) = some 0 := by decide +kernel
def bX6_remember_2 (n : Nat) (r : Rf) (v0 : Nat) (v1 : Int32) (h : Hp) : Option ((Int32 × Hp) ⊕ (Hp)) :=
  if 16 ≤ v1 then (some (.inr h)) else (ck v1 16 (ck ((16 * (h.1 v0 25)) + v1) 480 (lE (pI h (r v0 26) (Int32.toNatClampNeg ((16 * (h.1 v0 25)) + v1)) (h.1 (r v0 22) (Int32.toNatClampNeg v1))) (fun (h4 : Hp) => lE (v1 + 1) (fun (x5 : Int32) => some (.inl (x5, h4)))))))
def jX6_remember_66 (n : Nat) (r : Rf) (v0 : Nat) (s0 : Int32) (s1 : Int32) (h : Hp) : Option Hp :=
  lE (pI h v0 24 (s1 + s0)) (fun (h8 : Hp) => some h8)
def lX6_remember_2 (n : Nat) (r : Rf) (v0 : Nat) (v1 : Int32) (h : Hp) : Option Hp :=
  (it (fun (s : Int32 × Hp) => bX6_remember_2 n r v0 s.1 s.2) n (v1, h)).bind (fun z => lE (pI z v0 25 (((z.1 v0 25) + 1) - ((z.1 v0 25) + 1) / 30 * 30)) (fun (h6 : Hp) => if 30 ≤ (h6.1 v0 24) then (jX6_remember_66 n r v0 0 (h6.1 v0 24) h6) else (jX6_remember_66 n r v0 1 (h6.1 v0 24) h6)))
def fX6_remember (n : Nat) (r : Rf) (v0 : Nat) (h : Hp) : Option Hp :=
  lX6_remember_2 n r v0 0 h
set_option maxHeartbeats 4000000 in
set_option maxRecDepth 100000 in
theorem ubX6_remember_2 {S : Shp} {n : Nat} {r : Rf} {out : Option Int32 × Hp} {r' : Rf} {v0 : Nat} {v1 : Int32}  {h : Hp} {w : (Int32 × Hp) ⊕ (Hp)} (hW : WF S r) (hv0 : S[v0]? = some (6, 38)) (hf : bX6_remember_2 n r v0 v1 h = some w) (hk : ∀ y, w = .inl y → GX6_remember S r r' out 2 [(0, .ref v0), (1, .int (y.1))] [] (y.2)) (he : ∀ z, w = .inr z → GX6_remember S r r' out 34 [(0, .ref v0)] [] (z)) : GX6_remember S r r' out 2 [(0, .ref v0), (1, .int v1)] [] h := by
  unfold bX6_remember_2 at hf
  refine g_iload_n (ps := 1) dX6_remember_2 rfl rfl ?_
  refine g_bipush (v := 16) dX6_remember_3 (by decide +kernel) ?_
  refine g_icmp_ge (tgt := 34) dX6_remember_5 (by decide) (fun c1 => ?_) (fun c1 => ?_)
  · have hf := if_t hf c1
    exact g_pick [0] rfl (he _ (Option.some.inj hf).symm)
  · have hf := if_f hf c1
    refine g_aload_n (ps := 0) dX6_remember_8 rfl rfl ?_
    refine g_getR cf6 hv0 nX6_remember_X6 (j := 26) (by decide) rfl mX6_remember_53 dX6_remember_9 ?_
    refine g_bipush (v := 16) dX6_remember_12 (by decide +kernel) ?_
    refine g_aload_n (ps := 0) dX6_remember_14 rfl rfl ?_
    refine g_getI cf6 hv0 nX6_remember_X6 (j := 25) (by decide) rfl mX6_remember_197 dX6_remember_15 ?_
    refine g_imul dX6_remember_18 ?_
    refine g_iload_n (ps := 1) dX6_remember_19 rfl rfl ?_
    refine g_iadd dX6_remember_20 ?_
    refine g_aload_n (ps := 0) dX6_remember_21 rfl rfl ?_
    refine g_getR cf6 hv0 nX6_remember_X6 (j := 22) (by decide) rfl mX6_remember_47 dX6_remember_22 ?_
    refine g_iload_n (ps := 1) dX6_remember_25 rfl rfl ?_
    obtain ⟨z2, hf⟩ := ck_s hf
    refine g_iald (hW _ _ _ hv0 22 _ rfl) z2 dX6_remember_26 ?_
    obtain ⟨z3, hf⟩ := ck_s hf
    refine g_iast (hW _ _ _ hv0 26 _ rfl) z3 dX6_remember_27 ?_
    refine g_topH (fun h4 eh4 => ?_)
    have hf := lE_s hf eh4
    obtain ⟨x5, ex5⟩ : ∃ y : Int32, y = v1 + 1 := ⟨_, rfl⟩
    have hf := lE_s hf ex5
    refine g_iinc (ps := 1) (v := x5) (L' := [(1, .int x5), (0, .ref v0)]) dX6_remember_28 rfl (by rw [ex5]; rfl) (by decide) rfl ?_
    refine g_goto (tgt := 2) dX6_remember_31 (by decide) ?_
    exact g_pick [1, 0] rfl (hk _ (Option.some.inj hf).symm)
set_option maxHeartbeats 4000000 in
set_option maxRecDepth 100000 in
theorem ujX6_remember_66 {S : Shp} {n : Nat} {r : Rf} {v0 : Nat} {s0 : Int32} {s1 : Int32} {h : Hp} {o : Hp} (hW : WF S r) (hv0 : S[v0]? = some (6, 38)) (hf : jX6_remember_66 n r v0 s0 s1 h = some o)  : GX6_remember S r r (none, o) 66 [(0, .ref v0)] [.int s0, .int s1, .ref v0] h := by
  unfold jX6_remember_66 at hf
  refine g_iadd dX6_remember_66 ?_
  refine g_putI cf6 hv0 nX6_remember_X6 (j := 24) (by decide) rfl mX6_remember_150 rfl dX6_remember_67 ?_
  refine g_topH (fun h8 eh8 => ?_)
  have hf := lE_s hf eh8
  have hf := Option.some.inj hf
  subst hf
  exact g_vret dX6_remember_70
set_option maxHeartbeats 4000000 in
set_option maxRecDepth 100000 in
theorem ulX6_remember_2 {S : Shp} {n : Nat} {r : Rf} {v0 : Nat} {v1 : Int32}  {h : Hp} {o : Hp} (hW : WF S r) (hv0 : S[v0]? = some (6, 38)) (hf : lX6_remember_2 n r v0 v1 h = some o)  : GX6_remember S r r (none, o) 2 [(0, .ref v0), (1, .int v1)] [] h := by
  unfold lX6_remember_2 at hf
  obtain ⟨z0, ei, hf⟩ := bd_s hf
  refine it_ind (P := fun (s : Int32 × Hp) => GX6_remember S r r (none, o) 2 [(0, .ref v0), (1, .int (s.1))] [] (s.2)) (fun s w hb hk2 he2 => ?_) n _ ei
  refine ubX6_remember_2 (out := (none, o)) (r' := r) hW hv0 hb hk2 (fun z hz => ?_)
  have hz := he2 z hz
  subst hz
  refine g_aload_n (ps := 0) dX6_remember_34 rfl rfl ?_
  refine g_aload_n (ps := 0) dX6_remember_35 rfl rfl ?_
  refine g_getI cf6 hv0 nX6_remember_X6 (j := 25) (by decide) rfl mX6_remember_197 dX6_remember_36 ?_
  refine g_iconst (v := 1) dX6_remember_39 (by decide +kernel) ?_
  refine g_iadd dX6_remember_40 ?_
  refine g_bipush (v := 30) dX6_remember_41 (by decide +kernel) ?_
  refine g_irem dX6_remember_43 (by decide +kernel) ?_
  refine g_putI cf6 hv0 nX6_remember_X6 (j := 25) (by decide) rfl mX6_remember_197 rfl dX6_remember_44 ?_
  refine g_topH (fun h6 eh6 => ?_)
  have hf := lE_s hf eh6
  refine g_aload_n (ps := 0) dX6_remember_47 rfl rfl ?_
  refine g_dup dX6_remember_48 rfl ?_
  refine g_getI cf6 hv0 nX6_remember_X6 (j := 24) (by decide) rfl mX6_remember_150 dX6_remember_49 ?_
  refine g_aload_n (ps := 0) dX6_remember_52 rfl rfl ?_
  refine g_getI cf6 hv0 nX6_remember_X6 (j := 24) (by decide) rfl mX6_remember_150 dX6_remember_53 ?_
  refine g_bipush (v := 30) dX6_remember_56 (by decide +kernel) ?_
  refine g_icmp_ge (tgt := 65) dX6_remember_58 (by decide) (fun c7 => ?_) (fun c7 => ?_)
  · have hf := if_t hf c7
    refine g_iconst (v := 0) dX6_remember_65 (by decide +kernel) ?_
    exact g_pick [0] rfl (ujX6_remember_66 hW hv0 hf)
  · have hf := if_f hf c7
    refine g_iconst (v := 1) dX6_remember_61 (by decide +kernel) ?_
    refine g_goto (tgt := 66) dX6_remember_62 (by decide) ?_
    exact g_pick [0] rfl (ujX6_remember_66 hW hv0 hf)
set_option maxHeartbeats 4000000 in
set_option maxRecDepth 100000 in
theorem uX6_remember {S : Shp} {n : Nat} {r : Rf} {v0 : Nat} {h : Hp} {o : Hp} (hW : WF S r) (hv0 : S[v0]? = some (6, 38)) (hf : fX6_remember n r v0 h = some o) : GX6_remember S r r (none, o) 0 [(0, .ref v0)] [] h := by
  unfold fX6_remember at hf
  refine g_iconst (v := 0) dX6_remember_0 (by decide +kernel) ?_
  refine g_istore_n (L' := [(1, .int 0), (0, .ref v0)]) dX6_remember_1 rfl (by decide) rfl ?_
  exact g_pick [1, 0] rfl (ulX6_remember_2 hW hv0 hf)
theorem kX6_remember {S : Shp} {n : Nat} {r : Rf} {v0 : Nat} {h : Hp} {o : Hp} (hW : WF S r) (hv0 : S[v0]? = some (6, 38)) (hf : fX6_remember n r v0 h = some o) : CTv yX6_remember wsX6_remember rmX6_remember S r [.ref v0] h r o :=
  ctv_of rfl (by decide +kernel) rfl (Nat.le_of_ble_eq_true rfl) rfl (uX6_remember hW hv0 hf)
/-! X6_needHours needHours -/
def rmX6_needHours : Room := { frames := 1, cells := 0, slots := 0, locals := 22 }
abbrev GX6_needHours (S : Shp) (r r' : Rf) (out : Option Int32 × Hp) (pc : Nat) (L : List (Nat × Value)) (st : List Value) (h : Hp) : Prop := G RX6 cX6_needHours 2 (some .int) wsX6_needHours rmX6_needHours S r r' out pc L st h
theorem nX6_needHours_X6 : ∀ w ∈ wsX60, w ∈ wsX6_needHours := by decide +kernel
theorem mX6_needHours_181 : Cond.constant RX6 181 (-1000000003) ∈ wsX6_needHours := by decide +kernel
theorem mX6_needHours_200 : Cond.constant RX6 200 (90000) ∈ wsX6_needHours := by decide +kernel
theorem mX6_needHours_86 : Cond.constant RX6 86 (-1000000002) ∈ wsX6_needHours := by decide +kernel
theorem mX6_needHours_90 : Cond.constant RX6 90 (-1000000004) ∈ wsX6_needHours := by decide +kernel
theorem mX6_needHours_141 : Cond.fieldLink RX6 141 "LinkedIslesModel" "n" "I" ∈ wsX6_needHours := by decide +kernel
theorem mX6_needHours_47 : Cond.fieldLink RX6 47 "LinkedIslesModel" "now" "[I" ∈ wsX6_needHours := by decide +kernel
theorem hdX6_needHours : yX6_needHours.cls ≠ "java/lang/invoke/MethodHandle" ∧ yX6_needHours.cls ≠ "java/lang/invoke/VarHandle" ∧ (parseMethodDescriptor yX6_needHours.desc).map (fun d => d.parameters.length) = some 1 := by decide +kernel
def fX6_needHours (n : Nat) (r : Rf) (v0 : Nat) (v1 : Int32) (h : Hp) : Option Int32 :=
  (fX6_in n r v1 1 30 h).bind (fun (x2 : Int32) => if x2 = 0 then (some (-1000000002)) else (if (h.1 v0 14) = 0 then (some (-1000000003)) else (ck 3 16 (if (h.1 (r v0 22) (Int32.toNatClampNeg 3)) ≤ 90000 then (some 0) else (some (-1000000004))))))
set_option maxHeartbeats 4000000 in
set_option maxRecDepth 100000 in
theorem uX6_needHours {S : Shp} {n : Nat} {r : Rf} {v0 : Nat} {v1 : Int32} {h : Hp} {o : Int32} (hW : WF S r) (hv0 : S[v0]? = some (6, 38)) (hf : fX6_needHours n r v0 v1 h = some o) : GX6_needHours S r r (some o, h) 0 [(0, .ref v0), (1, .int v1)] [] h := by
  unfold fX6_needHours at hf
  refine g_iload_n (ps := 1) dX6_needHours_0 rfl rfl ?_
  refine g_iconst (v := 1) dX6_needHours_1 (by decide +kernel) ?_
  refine g_bipush (v := 30) dX6_needHours_2 (by decide +kernel) ?_
  obtain ⟨x2, e1, hf⟩ := bd_s hf
  refine g_callSi (As := [.int v1, .int 1, .int 30]) (n := 3) (kX6_in hW  e1) gX6_needHours_X6_in rfl ⟨rfl, rfl⟩ hdX6_in ⟨Nat.le_of_ble_eq_true rfl, Nat.le_of_ble_eq_true rfl⟩ rfl rfl (Nat.le_of_ble_eq_true rfl) dX6_needHours_4 ?_
  refine g_if_ne (tgt := 15) dX6_needHours_7 (by decide) (fun c3 => ?_) (fun c3 => ?_)
  · have hf := if_f hf c3
    refine g_aload_n (ps := 0) dX6_needHours_15 rfl rfl ?_
    refine g_getI cf6 hv0 nX6_needHours_X6 (j := 14) (by decide) rfl mX6_needHours_141 dX6_needHours_16 ?_
    refine g_if_ne (tgt := 27) dX6_needHours_19 (by decide) (fun c4 => ?_) (fun c4 => ?_)
    · have hf := if_f hf c4
      refine g_aload_n (ps := 0) dX6_needHours_27 rfl rfl ?_
      refine g_getR cf6 hv0 nX6_needHours_X6 (j := 22) (by decide) rfl mX6_needHours_47 dX6_needHours_28 ?_
      refine g_iconst (v := 3) dX6_needHours_31 (by decide +kernel) ?_
      obtain ⟨z5, hf⟩ := ck_s hf
      refine g_iald (hW _ _ _ hv0 22 _ rfl) z5 dX6_needHours_32 ?_
      refine g_ldc (v := 90000) mX6_needHours_200 dX6_needHours_33 ?_
      refine g_icmp_le (tgt := 43) dX6_needHours_35 (by decide) (fun c6 => ?_) (fun c6 => ?_)
      · have hf := if_t hf c6
        refine g_iconst (v := 0) dX6_needHours_43 (by decide +kernel) ?_
        have hf := Option.some.inj hf
        subst hf
        exact g_iret dX6_needHours_44
      · have hf := if_f hf c6
        refine g_ldc (v := (-1000000004)) mX6_needHours_90 dX6_needHours_38 ?_
        refine g_goto (tgt := 44) dX6_needHours_40 (by decide) ?_
        have hf := Option.some.inj hf
        subst hf
        exact g_iret dX6_needHours_44
    · have hf := if_t hf c4
      refine g_ldc (v := (-1000000003)) mX6_needHours_181 dX6_needHours_22 ?_
      refine g_goto (tgt := 44) dX6_needHours_24 (by decide) ?_
      have hf := Option.some.inj hf
      subst hf
      exact g_iret dX6_needHours_44
  · have hf := if_t hf c3
    refine g_ldc (v := (-1000000002)) mX6_needHours_86 dX6_needHours_10 ?_
    refine g_goto (tgt := 44) dX6_needHours_12 (by decide) ?_
    have hf := Option.some.inj hf
    subst hf
    exact g_iret dX6_needHours_44
theorem kX6_needHours {S : Shp} {n : Nat} {r : Rf} {v0 : Nat} {v1 : Int32} {h : Hp} {o : Int32} (hW : WF S r) (hv0 : S[v0]? = some (6, 38)) (hf : fX6_needHours n r v0 v1 h = some o) : CTi yX6_needHours wsX6_needHours rmX6_needHours S r [.ref v0, .int v1] h r o h :=
  cti_of rfl (by decide +kernel) rfl (Nat.le_of_ble_eq_true rfl) rfl (uX6_needHours hW hv0 hf)
/-! X6_hour hour -/
def rmX6_hour : Room := { frames := 3, cells := 0, slots := 0, locals := 69 }
abbrev GX6_hour (S : Shp) (r r' : Rf) (out : Option Int32 × Hp) (pc : Nat) (L : List (Nat × Value)) (st : List Value) (h : Hp) : Prop := G RX6 cX6_hour 4 (some .int) wsX6_hour rmX6_hour S r r' out pc L st h
theorem nX6_hour_X6 : ∀ w ∈ wsX60, w ∈ wsX6_hour := by decide +kernel
theorem mX6_hour_47 : Cond.fieldLink RX6 47 "LinkedIslesModel" "now" "[I" ∈ wsX6_hour := by decide +kernel
theorem hdX6_hour : yX6_hour.cls ≠ "java/lang/invoke/MethodHandle" ∧ yX6_hour.cls ≠ "java/lang/invoke/VarHandle" ∧ (parseMethodDescriptor yX6_hour.desc).map (fun d => d.parameters.length) = some 1 := by decide +kernel
def bX6_hour_14 (n : Nat) (r : Rf) (v0 : Nat) (v1 : Int32) (v3 : Int32) (h : Hp) : Option ((Int32 × Hp) ⊕ (Hp)) :=
  if v1 ≤ v3 then (some (.inr h)) else ((fX6_remember n r v0 h).bind (fun (h6 : Hp) => bd2 (fX6_passes n r v0 (r v0 22) 16 h6) (fun (x8 : Int32) (h9 : Hp) => lE (v3 + 1) (fun (x10 : Int32) => some (.inl (x10, h9))))))
def lX6_hour_14 (n : Nat) (r : Rf) (v0 : Nat) (v1 : Int32) (v3 : Int32) (h : Hp) : Option (Int32 × Hp) :=
  (it (fun (s : Int32 × Hp) => bX6_hour_14 n r v0 v1 s.1 s.2) n (v3, h)).bind (fun z => ck 0 16 (some ((z.1 (r v0 22) (Int32.toNatClampNeg 0)), z)))
def fX6_hour (n : Nat) (r : Rf) (v0 : Nat) (v1 : Int32) (h : Hp) : Option (Int32 × Hp) :=
  (fX6_needHours n r v0 v1 h).bind (fun (x2 : Int32) => if 0 ≤ x2 then (lX6_hour_14 n r v0 v1 0 h) else (some (x2, h)))
set_option maxHeartbeats 4000000 in
set_option maxRecDepth 100000 in
theorem ubX6_hour_14 {S : Shp} {n : Nat} {r : Rf} {out : Option Int32 × Hp} {r' : Rf} {v0 : Nat} {v1 : Int32} {v3 : Int32}  {h : Hp} {w : (Int32 × Hp) ⊕ (Hp)} (hW : WF S r) (hv0 : S[v0]? = some (6, 38)) (hf : bX6_hour_14 n r v0 v1 v3 h = some w) (hk : ∀ y, w = .inl y → GX6_hour S r r' out 14 [(0, .ref v0), (1, .int v1), (3, .int (y.1))] [] (y.2)) (he : ∀ z, w = .inr z → GX6_hour S r r' out 38 [(0, .ref v0)] [] (z)) : GX6_hour S r r' out 14 [(0, .ref v0), (1, .int v1), (3, .int v3)] [] h := by
  unfold bX6_hour_14 at hf
  refine g_iload_n (ps := 2) dX6_hour_14 rfl rfl ?_
  refine g_iload_n (ps := 1) dX6_hour_15 rfl rfl ?_
  refine g_icmp_ge (tgt := 38) dX6_hour_16 (by decide) (fun c4 => ?_) (fun c4 => ?_)
  · have hf := if_t hf c4
    exact g_pick [0] rfl (he _ (Option.some.inj hf).symm)
  · have hf := if_f hf c4
    refine g_aload_n (ps := 0) dX6_hour_19 rfl rfl ?_
    obtain ⟨h6, e5, hf⟩ := bd_s hf
    refine g_callVv (As := []) (n := 0) (kX6_remember hW hv0 e5) gX6_hour_X6_remember rfl ⟨rfl, rfl⟩ ⟨rfl, hdX6_remember⟩ ⟨Nat.le_of_ble_eq_true rfl, Nat.le_of_ble_eq_true rfl⟩ cf6 hv0 rfl rfl (Nat.le_of_ble_eq_true rfl) dX6_hour_20 ?_
    refine g_aload_n (ps := 0) dX6_hour_23 rfl rfl ?_
    refine g_aload_n (ps := 0) dX6_hour_24 rfl rfl ?_
    refine g_getR cf6 hv0 nX6_hour_X6 (j := 22) (by decide) rfl mX6_hour_47 dX6_hour_25 ?_
    obtain ⟨x8, h9, e7, hf⟩ := bd2_s hf
    refine g_callVi (As := [.ref (r v0 22)]) (n := 1) (kX6_passes hW hv0 (hW _ _ _ hv0 22 _ rfl) e7) gX6_hour_X6_passes rfl ⟨rfl, rfl⟩ ⟨rfl, hdX6_passes⟩ ⟨Nat.le_of_ble_eq_true rfl, Nat.le_of_ble_eq_true rfl⟩ cf6 hv0 rfl rfl (Nat.le_of_ble_eq_true rfl) dX6_hour_28 ?_
    refine g_pop dX6_hour_31 rfl ?_
    obtain ⟨x10, ex10⟩ : ∃ y : Int32, y = v3 + 1 := ⟨_, rfl⟩
    have hf := lE_s hf ex10
    refine g_iinc (ps := 2) (v := x10) (L' := [(3, .int x10), (0, .ref v0), (1, .int v1)]) dX6_hour_32 rfl (by rw [ex10]; rfl) (by decide) rfl ?_
    refine g_goto (tgt := 14) dX6_hour_35 (by decide) ?_
    exact g_pick [1, 2, 0] rfl (hk _ (Option.some.inj hf).symm)
set_option maxHeartbeats 4000000 in
set_option maxRecDepth 100000 in
theorem ulX6_hour_14 {S : Shp} {n : Nat} {r : Rf} {v0 : Nat} {v1 : Int32} {v3 : Int32}  {h : Hp} {o : (Int32 × Hp)} (hW : WF S r) (hv0 : S[v0]? = some (6, 38)) (hf : lX6_hour_14 n r v0 v1 v3 h = some o)  : GX6_hour S r r (some o.1, o.2) 14 [(0, .ref v0), (1, .int v1), (3, .int v3)] [] h := by
  unfold lX6_hour_14 at hf
  obtain ⟨z0, ei, hf⟩ := bd_s hf
  refine it_ind (P := fun (s : Int32 × Hp) => GX6_hour S r r (some o.1, o.2) 14 [(0, .ref v0), (1, .int v1), (3, .int (s.1))] [] (s.2)) (fun s w hb hk2 he2 => ?_) n _ ei
  refine ubX6_hour_14 (out := (some o.1, o.2)) (r' := r) hW hv0 hb hk2 (fun z hz => ?_)
  have hz := he2 z hz
  subst hz
  refine g_aload_n (ps := 0) dX6_hour_38 rfl rfl ?_
  refine g_getR cf6 hv0 nX6_hour_X6 (j := 22) (by decide) rfl mX6_hour_47 dX6_hour_39 ?_
  refine g_iconst (v := 0) dX6_hour_42 (by decide +kernel) ?_
  obtain ⟨z11, hf⟩ := ck_s hf
  refine g_iald (hW _ _ _ hv0 22 _ rfl) z11 dX6_hour_43 ?_
  have hf := Option.some.inj hf
  subst hf
  exact g_iret dX6_hour_44
set_option maxHeartbeats 4000000 in
set_option maxRecDepth 100000 in
theorem uX6_hour {S : Shp} {n : Nat} {r : Rf} {v0 : Nat} {v1 : Int32} {h : Hp} {o : (Int32 × Hp)} (hW : WF S r) (hv0 : S[v0]? = some (6, 38)) (hf : fX6_hour n r v0 v1 h = some o) : GX6_hour S r r (some o.1, o.2) 0 [(0, .ref v0), (1, .int v1)] [] h := by
  unfold fX6_hour at hf
  refine g_aload_n (ps := 0) dX6_hour_0 rfl rfl ?_
  refine g_iload_n (ps := 1) dX6_hour_1 rfl rfl ?_
  obtain ⟨x2, e1, hf⟩ := bd_s hf
  refine g_callVi (As := [.int v1]) (n := 1) (kX6_needHours hW hv0 e1) gX6_hour_X6_needHours rfl ⟨rfl, rfl⟩ ⟨rfl, hdX6_needHours⟩ ⟨Nat.le_of_ble_eq_true rfl, Nat.le_of_ble_eq_true rfl⟩ cf6 hv0 rfl rfl (Nat.le_of_ble_eq_true rfl) dX6_hour_2 ?_
  refine g_istore_n (L' := [(2, .int x2), (0, .ref v0), (1, .int v1)]) dX6_hour_5 rfl (by decide) rfl ?_
  refine g_iload_n (ps := 0) dX6_hour_6 rfl rfl ?_
  refine g_if_ge (tgt := 12) dX6_hour_7 (by decide) (fun c3 => ?_) (fun c3 => ?_)
  · have hf := if_t hf c3
    refine g_iconst (v := 0) dX6_hour_12 (by decide +kernel) ?_
    refine g_istore_n (L' := [(3, .int 0), (2, .int x2), (0, .ref v0), (1, .int v1)]) dX6_hour_13 rfl (by decide) rfl ?_
    exact g_pick [2, 3, 0] rfl (ulX6_hour_14 hW hv0 hf)
  · have hf := if_f hf c3
    refine g_iload_n (ps := 0) dX6_hour_10 rfl rfl ?_
    have hf := Option.some.inj hf
    subst hf
    exact g_iret dX6_hour_11
theorem kX6_hour {S : Shp} {n : Nat} {r : Rf} {v0 : Nat} {v1 : Int32} {h : Hp} {o : (Int32 × Hp)} (hW : WF S r) (hv0 : S[v0]? = some (6, 38)) (hf : fX6_hour n r v0 v1 h = some o) : CTi yX6_hour wsX6_hour rmX6_hour S r [.ref v0, .int v1] h r o.1 o.2 :=
  cti_of rfl (by decide +kernel) rfl (Nat.le_of_ble_eq_true rfl) rfl (uX6_hour hW hv0 hf)
/-! X6_undoLink undoLink -/
def rmX6_undoLink : Room := { frames := 2, cells := 0, slots := 0, locals := 43 }
abbrev GX6_undoLink (S : Shp) (r r' : Rf) (out : Option Int32 × Hp) (pc : Nat) (L : List (Nat × Value)) (st : List Value) (h : Hp) : Prop := G RX6 cX6_undoLink 2 (some .int) wsX6_undoLink rmX6_undoLink S r r' out pc L st h
theorem nX6_undoLink_X6 : ∀ w ∈ wsX60, w ∈ wsX6_undoLink := by decide +kernel
theorem mX6_undoLink_176 : Cond.constant RX6 176 (-1000000001) ∈ wsX6_undoLink := by decide +kernel
theorem mX6_undoLink_181 : Cond.constant RX6 181 (-1000000003) ∈ wsX6_undoLink := by decide +kernel
theorem mX6_undoLink_47 : Cond.fieldLink RX6 47 "LinkedIslesModel" "now" "[I" ∈ wsX6_undoLink := by decide +kernel
theorem hdX6_undoLink : yX6_undoLink.cls ≠ "java/lang/invoke/MethodHandle" ∧ yX6_undoLink.cls ≠ "java/lang/invoke/VarHandle" ∧ (parseMethodDescriptor yX6_undoLink.desc).map (fun d => d.parameters.length) = some 1 := by decide +kernel
def fX6_undoLink (n : Nat) (r : Rf) (v0 : Nat) (v1 : Int32) (h : Hp) : Option (Int32 × Hp) :=
  (fX6_isLink n r v0 v1 h).bind (fun (x2 : Int32) => if x2 = 0 then (some ((-1000000001), h)) else (ck 0 16 ((fX6_has n r (h.1 (r v0 22) (Int32.toNatClampNeg 0)) v1 h).bind (fun (x6 : Int32) => if x6 = 0 then (some ((-1000000003), h)) else ((fX6_remember n r v0 h).bind (fun (h9 : Hp) => ck 0 16 (ck 0 16 (lE (pI h9 (r v0 22) (Int32.toNatClampNeg 0) ((h9.1 (r v0 22) (Int32.toNatClampNeg 0)) &&& ((1 <<< (v1 &&& 31)) ^^^ (-1)))) (fun (h12 : Hp) => ck 0 16 ((fX6_bits n r (h12.1 (r v0 22) (Int32.toNatClampNeg 0)) h12).bind (fun (x15 : Int32) => some (x15, h12))))))))))))
set_option maxHeartbeats 4000000 in
set_option maxRecDepth 100000 in
theorem uX6_undoLink {S : Shp} {n : Nat} {r : Rf} {v0 : Nat} {v1 : Int32} {h : Hp} {o : (Int32 × Hp)} (hW : WF S r) (hv0 : S[v0]? = some (6, 38)) (hf : fX6_undoLink n r v0 v1 h = some o) : GX6_undoLink S r r (some o.1, o.2) 0 [(0, .ref v0), (1, .int v1)] [] h := by
  unfold fX6_undoLink at hf
  refine g_aload_n (ps := 0) dX6_undoLink_0 rfl rfl ?_
  refine g_iload_n (ps := 1) dX6_undoLink_1 rfl rfl ?_
  obtain ⟨x2, e1, hf⟩ := bd_s hf
  refine g_callVi (As := [.int v1]) (n := 1) (kX6_isLink hW hv0 e1) gX6_undoLink_X6_isLink rfl ⟨rfl, rfl⟩ ⟨rfl, hdX6_isLink⟩ ⟨Nat.le_of_ble_eq_true rfl, Nat.le_of_ble_eq_true rfl⟩ cf6 hv0 rfl rfl (Nat.le_of_ble_eq_true rfl) dX6_undoLink_2 ?_
  refine g_if_ne (tgt := 11) dX6_undoLink_5 (by decide) (fun c3 => ?_) (fun c3 => ?_)
  · have hf := if_f hf c3
    refine g_aload_n (ps := 0) dX6_undoLink_11 rfl rfl ?_
    refine g_getR cf6 hv0 nX6_undoLink_X6 (j := 22) (by decide) rfl mX6_undoLink_47 dX6_undoLink_12 ?_
    refine g_iconst (v := 0) dX6_undoLink_15 (by decide +kernel) ?_
    obtain ⟨z4, hf⟩ := ck_s hf
    refine g_iald (hW _ _ _ hv0 22 _ rfl) z4 dX6_undoLink_16 ?_
    refine g_iload_n (ps := 1) dX6_undoLink_17 rfl rfl ?_
    obtain ⟨x6, e5, hf⟩ := bd_s hf
    refine g_callSi (As := [.int (h.1 (r v0 22) (Int32.toNatClampNeg 0)), .int v1]) (n := 2) (kX6_has hW  e5) gX6_undoLink_X6_has rfl ⟨rfl, rfl⟩ hdX6_has ⟨Nat.le_of_ble_eq_true rfl, Nat.le_of_ble_eq_true rfl⟩ rfl rfl (Nat.le_of_ble_eq_true rfl) dX6_undoLink_18 ?_
    refine g_if_ne (tgt := 27) dX6_undoLink_21 (by decide) (fun c7 => ?_) (fun c7 => ?_)
    · have hf := if_f hf c7
      refine g_aload_n (ps := 0) dX6_undoLink_27 rfl rfl ?_
      obtain ⟨h9, e8, hf⟩ := bd_s hf
      refine g_callVv (As := []) (n := 0) (kX6_remember hW hv0 e8) gX6_undoLink_X6_remember rfl ⟨rfl, rfl⟩ ⟨rfl, hdX6_remember⟩ ⟨Nat.le_of_ble_eq_true rfl, Nat.le_of_ble_eq_true rfl⟩ cf6 hv0 rfl rfl (Nat.le_of_ble_eq_true rfl) dX6_undoLink_28 ?_
      refine g_aload_n (ps := 0) dX6_undoLink_31 rfl rfl ?_
      refine g_getR cf6 hv0 nX6_undoLink_X6 (j := 22) (by decide) rfl mX6_undoLink_47 dX6_undoLink_32 ?_
      refine g_iconst (v := 0) dX6_undoLink_35 (by decide +kernel) ?_
      refine g_dup2 dX6_undoLink_36 rfl rfl ?_
      obtain ⟨z10, hf⟩ := ck_s hf
      refine g_iald (hW _ _ _ hv0 22 _ rfl) z10 dX6_undoLink_37 ?_
      refine g_iconst (v := 1) dX6_undoLink_38 (by decide +kernel) ?_
      refine g_iload_n (ps := 1) dX6_undoLink_39 rfl rfl ?_
      refine g_ishl dX6_undoLink_40 ?_
      refine g_iconst (v := (-1)) dX6_undoLink_41 (by decide +kernel) ?_
      refine g_ixor dX6_undoLink_42 ?_
      refine g_iand dX6_undoLink_43 ?_
      obtain ⟨z11, hf⟩ := ck_s hf
      refine g_iast (hW _ _ _ hv0 22 _ rfl) z11 dX6_undoLink_44 ?_
      refine g_topH (fun h12 eh12 => ?_)
      have hf := lE_s hf eh12
      refine g_aload_n (ps := 0) dX6_undoLink_45 rfl rfl ?_
      refine g_getR cf6 hv0 nX6_undoLink_X6 (j := 22) (by decide) rfl mX6_undoLink_47 dX6_undoLink_46 ?_
      refine g_iconst (v := 0) dX6_undoLink_49 (by decide +kernel) ?_
      obtain ⟨z13, hf⟩ := ck_s hf
      refine g_iald (hW _ _ _ hv0 22 _ rfl) z13 dX6_undoLink_50 ?_
      obtain ⟨x15, e14, hf⟩ := bd_s hf
      refine g_callSi (As := [.int (h12.1 (r v0 22) (Int32.toNatClampNeg 0))]) (n := 1) (kX6_bits hW  e14) gX6_undoLink_X6_bits rfl ⟨rfl, rfl⟩ hdX6_bits ⟨Nat.le_of_ble_eq_true rfl, Nat.le_of_ble_eq_true rfl⟩ rfl rfl (Nat.le_of_ble_eq_true rfl) dX6_undoLink_51 ?_
      have hf := Option.some.inj hf
      subst hf
      exact g_iret dX6_undoLink_54
    · have hf := if_t hf c7
      refine g_ldc (v := (-1000000003)) mX6_undoLink_181 dX6_undoLink_24 ?_
      have hf := Option.some.inj hf
      subst hf
      exact g_iret dX6_undoLink_26
  · have hf := if_t hf c3
    refine g_ldc (v := (-1000000001)) mX6_undoLink_176 dX6_undoLink_8 ?_
    have hf := Option.some.inj hf
    subst hf
    exact g_iret dX6_undoLink_10
theorem kX6_undoLink {S : Shp} {n : Nat} {r : Rf} {v0 : Nat} {v1 : Int32} {h : Hp} {o : (Int32 × Hp)} (hW : WF S r) (hv0 : S[v0]? = some (6, 38)) (hf : fX6_undoLink n r v0 v1 h = some o) : CTi yX6_undoLink wsX6_undoLink rmX6_undoLink S r [.ref v0, .int v1] h r o.1 o.2 :=
  cti_of rfl (by decide +kernel) rfl (Nat.le_of_ble_eq_true rfl) rfl (uX6_undoLink hW hv0 hf)
/-! X6_isUpable isUpable -/
def rmX6_isUpable : Room := { frames := 1, cells := 0, slots := 0, locals := 21 }
abbrev GX6_isUpable (S : Shp) (r r' : Rf) (out : Option Int32 × Hp) (pc : Nat) (L : List (Nat × Value)) (st : List Value) (h : Hp) : Prop := G RX6 cX6_isUpable 2 (some .boolean) wsX6_isUpable rmX6_isUpable S r r' out pc L st h
theorem nX6_isUpable_X6 : ∀ w ∈ wsX60, w ∈ wsX6_isUpable := by decide +kernel
theorem mX6_isUpable_38 : Cond.fieldLink RX6 38 "LinkedIslesModel" "strengths" "[I" ∈ wsX6_isUpable := by decide +kernel
theorem mX6_isUpable_47 : Cond.fieldLink RX6 47 "LinkedIslesModel" "now" "[I" ∈ wsX6_isUpable := by decide +kernel
theorem hdX6_isUpable : yX6_isUpable.cls ≠ "java/lang/invoke/MethodHandle" ∧ yX6_isUpable.cls ≠ "java/lang/invoke/VarHandle" ∧ (parseMethodDescriptor yX6_isUpable.desc).map (fun d => d.parameters.length) = some 1 := by decide +kernel
def fX6_isUpable (n : Nat) (r : Rf) (v0 : Nat) (v1 : Int32) (h : Hp) : Option Int32 :=
  ck 0 16 ((fX6_has n r (h.1 (r v0 22) (Int32.toNatClampNeg 0)) v1 h).bind (fun (x3 : Int32) => if x3 = 0 then (ck (6 + v1) 16 (ck v1 10 (if (h.1 (r v0 19) (Int32.toNatClampNeg v1)) ≤ (h.1 (r v0 22) (Int32.toNatClampNeg (6 + v1))) then (some 0) else (some 1)))) else (some 0)))
set_option maxHeartbeats 4000000 in
set_option maxRecDepth 100000 in
theorem uX6_isUpable {S : Shp} {n : Nat} {r : Rf} {v0 : Nat} {v1 : Int32} {h : Hp} {o : Int32} (hW : WF S r) (hv0 : S[v0]? = some (6, 38)) (hf : fX6_isUpable n r v0 v1 h = some o) : GX6_isUpable S r r (some o, h) 0 [(0, .ref v0), (1, .int v1)] [] h := by
  unfold fX6_isUpable at hf
  refine g_aload_n (ps := 0) dX6_isUpable_0 rfl rfl ?_
  refine g_getR cf6 hv0 nX6_isUpable_X6 (j := 22) (by decide) rfl mX6_isUpable_47 dX6_isUpable_1 ?_
  refine g_iconst (v := 0) dX6_isUpable_4 (by decide +kernel) ?_
  obtain ⟨z1, hf⟩ := ck_s hf
  refine g_iald (hW _ _ _ hv0 22 _ rfl) z1 dX6_isUpable_5 ?_
  refine g_iload_n (ps := 1) dX6_isUpable_6 rfl rfl ?_
  obtain ⟨x3, e2, hf⟩ := bd_s hf
  refine g_callSi (As := [.int (h.1 (r v0 22) (Int32.toNatClampNeg 0)), .int v1]) (n := 2) (kX6_has hW  e2) gX6_isUpable_X6_has rfl ⟨rfl, rfl⟩ hdX6_has ⟨Nat.le_of_ble_eq_true rfl, Nat.le_of_ble_eq_true rfl⟩ rfl rfl (Nat.le_of_ble_eq_true rfl) dX6_isUpable_7 ?_
  refine g_if_ne (tgt := 35) dX6_isUpable_10 (by decide) (fun c4 => ?_) (fun c4 => ?_)
  · have hf := if_f hf c4
    refine g_iconst (v := 0) dX6_isUpable_35 (by decide +kernel) ?_
    have hf := Option.some.inj hf
    subst hf
    exact g_zret (Or.inl rfl) dX6_isUpable_36
  · have hf := if_t hf c4
    refine g_aload_n (ps := 0) dX6_isUpable_13 rfl rfl ?_
    refine g_getR cf6 hv0 nX6_isUpable_X6 (j := 22) (by decide) rfl mX6_isUpable_47 dX6_isUpable_14 ?_
    refine g_bipush (v := 6) dX6_isUpable_17 (by decide +kernel) ?_
    refine g_iload_n (ps := 1) dX6_isUpable_19 rfl rfl ?_
    refine g_iadd dX6_isUpable_20 ?_
    obtain ⟨z5, hf⟩ := ck_s hf
    refine g_iald (hW _ _ _ hv0 22 _ rfl) z5 dX6_isUpable_21 ?_
    refine g_aload_n (ps := 0) dX6_isUpable_22 rfl rfl ?_
    refine g_getR cf6 hv0 nX6_isUpable_X6 (j := 19) (by decide) rfl mX6_isUpable_38 dX6_isUpable_23 ?_
    refine g_iload_n (ps := 1) dX6_isUpable_26 rfl rfl ?_
    obtain ⟨z6, hf⟩ := ck_s hf
    refine g_iald (hW _ _ _ hv0 19 _ rfl) z6 dX6_isUpable_27 ?_
    refine g_icmp_ge (tgt := 35) dX6_isUpable_28 (by decide) (fun c7 => ?_) (fun c7 => ?_)
    · have hf := if_t hf c7
      refine g_iconst (v := 0) dX6_isUpable_35 (by decide +kernel) ?_
      have hf := Option.some.inj hf
      subst hf
      exact g_zret (Or.inl rfl) dX6_isUpable_36
    · have hf := if_f hf c7
      refine g_iconst (v := 1) dX6_isUpable_31 (by decide +kernel) ?_
      refine g_goto (tgt := 36) dX6_isUpable_32 (by decide) ?_
      have hf := Option.some.inj hf
      subst hf
      exact g_zret (Or.inr rfl) dX6_isUpable_36
theorem kX6_isUpable {S : Shp} {n : Nat} {r : Rf} {v0 : Nat} {v1 : Int32} {h : Hp} {o : Int32} (hW : WF S r) (hv0 : S[v0]? = some (6, 38)) (hf : fX6_isUpable n r v0 v1 h = some o) : CTi yX6_isUpable wsX6_isUpable rmX6_isUpable S r [.ref v0, .int v1] h r o h :=
  cti_of rfl (by decide +kernel) rfl (Nat.le_of_ble_eq_true rfl) rfl (uX6_isUpable hW hv0 hf)
/-! X6_doUp doUp -/
def rmX6_doUp : Room := { frames := 2, cells := 0, slots := 0, locals := 43 }
abbrev GX6_doUp (S : Shp) (r r' : Rf) (out : Option Int32 × Hp) (pc : Nat) (L : List (Nat × Value)) (st : List Value) (h : Hp) : Prop := G RX6 cX6_doUp 2 (some .int) wsX6_doUp rmX6_doUp S r r' out pc L st h
theorem nX6_doUp_X6 : ∀ w ∈ wsX60, w ∈ wsX6_doUp := by decide +kernel
theorem mX6_doUp_176 : Cond.constant RX6 176 (-1000000001) ∈ wsX6_doUp := by decide +kernel
theorem mX6_doUp_181 : Cond.constant RX6 181 (-1000000003) ∈ wsX6_doUp := by decide +kernel
theorem mX6_doUp_47 : Cond.fieldLink RX6 47 "LinkedIslesModel" "now" "[I" ∈ wsX6_doUp := by decide +kernel
theorem hdX6_doUp : yX6_doUp.cls ≠ "java/lang/invoke/MethodHandle" ∧ yX6_doUp.cls ≠ "java/lang/invoke/VarHandle" ∧ (parseMethodDescriptor yX6_doUp.desc).map (fun d => d.parameters.length) = some 1 := by decide +kernel
def fX6_doUp (n : Nat) (r : Rf) (v0 : Nat) (v1 : Int32) (h : Hp) : Option (Int32 × Hp) :=
  (fX6_isLink n r v0 v1 h).bind (fun (x2 : Int32) => if x2 = 0 then (some ((-1000000001), h)) else ((fX6_isUpable n r v0 v1 h).bind (fun (x5 : Int32) => if x5 = 0 then (some ((-1000000003), h)) else ((fX6_remember n r v0 h).bind (fun (h8 : Hp) => ck 0 16 (ck 0 16 (lE (pI h8 (r v0 22) (Int32.toNatClampNeg 0) ((h8.1 (r v0 22) (Int32.toNatClampNeg 0)) ||| (1 <<< (v1 &&& 31)))) (fun (h11 : Hp) => ck 0 16 ((fX6_bits n r (h11.1 (r v0 22) (Int32.toNatClampNeg 0)) h11).bind (fun (x14 : Int32) => some (x14, h11)))))))))))
set_option maxHeartbeats 4000000 in
set_option maxRecDepth 100000 in
theorem uX6_doUp {S : Shp} {n : Nat} {r : Rf} {v0 : Nat} {v1 : Int32} {h : Hp} {o : (Int32 × Hp)} (hW : WF S r) (hv0 : S[v0]? = some (6, 38)) (hf : fX6_doUp n r v0 v1 h = some o) : GX6_doUp S r r (some o.1, o.2) 0 [(0, .ref v0), (1, .int v1)] [] h := by
  unfold fX6_doUp at hf
  refine g_aload_n (ps := 0) dX6_doUp_0 rfl rfl ?_
  refine g_iload_n (ps := 1) dX6_doUp_1 rfl rfl ?_
  obtain ⟨x2, e1, hf⟩ := bd_s hf
  refine g_callVi (As := [.int v1]) (n := 1) (kX6_isLink hW hv0 e1) gX6_doUp_X6_isLink rfl ⟨rfl, rfl⟩ ⟨rfl, hdX6_isLink⟩ ⟨Nat.le_of_ble_eq_true rfl, Nat.le_of_ble_eq_true rfl⟩ cf6 hv0 rfl rfl (Nat.le_of_ble_eq_true rfl) dX6_doUp_2 ?_
  refine g_if_ne (tgt := 11) dX6_doUp_5 (by decide) (fun c3 => ?_) (fun c3 => ?_)
  · have hf := if_f hf c3
    refine g_aload_n (ps := 0) dX6_doUp_11 rfl rfl ?_
    refine g_iload_n (ps := 1) dX6_doUp_12 rfl rfl ?_
    obtain ⟨x5, e4, hf⟩ := bd_s hf
    refine g_callVi (As := [.int v1]) (n := 1) (kX6_isUpable hW hv0 e4) gX6_doUp_X6_isUpable rfl ⟨rfl, rfl⟩ ⟨rfl, hdX6_isUpable⟩ ⟨Nat.le_of_ble_eq_true rfl, Nat.le_of_ble_eq_true rfl⟩ cf6 hv0 rfl rfl (Nat.le_of_ble_eq_true rfl) dX6_doUp_13 ?_
    refine g_if_ne (tgt := 22) dX6_doUp_16 (by decide) (fun c6 => ?_) (fun c6 => ?_)
    · have hf := if_f hf c6
      refine g_aload_n (ps := 0) dX6_doUp_22 rfl rfl ?_
      obtain ⟨h8, e7, hf⟩ := bd_s hf
      refine g_callVv (As := []) (n := 0) (kX6_remember hW hv0 e7) gX6_doUp_X6_remember rfl ⟨rfl, rfl⟩ ⟨rfl, hdX6_remember⟩ ⟨Nat.le_of_ble_eq_true rfl, Nat.le_of_ble_eq_true rfl⟩ cf6 hv0 rfl rfl (Nat.le_of_ble_eq_true rfl) dX6_doUp_23 ?_
      refine g_aload_n (ps := 0) dX6_doUp_26 rfl rfl ?_
      refine g_getR cf6 hv0 nX6_doUp_X6 (j := 22) (by decide) rfl mX6_doUp_47 dX6_doUp_27 ?_
      refine g_iconst (v := 0) dX6_doUp_30 (by decide +kernel) ?_
      refine g_dup2 dX6_doUp_31 rfl rfl ?_
      obtain ⟨z9, hf⟩ := ck_s hf
      refine g_iald (hW _ _ _ hv0 22 _ rfl) z9 dX6_doUp_32 ?_
      refine g_iconst (v := 1) dX6_doUp_33 (by decide +kernel) ?_
      refine g_iload_n (ps := 1) dX6_doUp_34 rfl rfl ?_
      refine g_ishl dX6_doUp_35 ?_
      refine g_ior dX6_doUp_36 ?_
      obtain ⟨z10, hf⟩ := ck_s hf
      refine g_iast (hW _ _ _ hv0 22 _ rfl) z10 dX6_doUp_37 ?_
      refine g_topH (fun h11 eh11 => ?_)
      have hf := lE_s hf eh11
      refine g_aload_n (ps := 0) dX6_doUp_38 rfl rfl ?_
      refine g_getR cf6 hv0 nX6_doUp_X6 (j := 22) (by decide) rfl mX6_doUp_47 dX6_doUp_39 ?_
      refine g_iconst (v := 0) dX6_doUp_42 (by decide +kernel) ?_
      obtain ⟨z12, hf⟩ := ck_s hf
      refine g_iald (hW _ _ _ hv0 22 _ rfl) z12 dX6_doUp_43 ?_
      obtain ⟨x14, e13, hf⟩ := bd_s hf
      refine g_callSi (As := [.int (h11.1 (r v0 22) (Int32.toNatClampNeg 0))]) (n := 1) (kX6_bits hW  e13) gX6_doUp_X6_bits rfl ⟨rfl, rfl⟩ hdX6_bits ⟨Nat.le_of_ble_eq_true rfl, Nat.le_of_ble_eq_true rfl⟩ rfl rfl (Nat.le_of_ble_eq_true rfl) dX6_doUp_44 ?_
      have hf := Option.some.inj hf
      subst hf
      exact g_iret dX6_doUp_47
    · have hf := if_t hf c6
      refine g_ldc (v := (-1000000003)) mX6_doUp_181 dX6_doUp_19 ?_
      have hf := Option.some.inj hf
      subst hf
      exact g_iret dX6_doUp_21
  · have hf := if_t hf c3
    refine g_ldc (v := (-1000000001)) mX6_doUp_176 dX6_doUp_8 ?_
    have hf := Option.some.inj hf
    subst hf
    exact g_iret dX6_doUp_10
theorem kX6_doUp {S : Shp} {n : Nat} {r : Rf} {v0 : Nat} {v1 : Int32} {h : Hp} {o : (Int32 × Hp)} (hW : WF S r) (hv0 : S[v0]? = some (6, 38)) (hf : fX6_doUp n r v0 v1 h = some o) : CTi yX6_doUp wsX6_doUp rmX6_doUp S r [.ref v0, .int v1] h r o.1 o.2 :=
  cti_of rfl (by decide +kernel) rfl (Nat.le_of_ble_eq_true rfl) rfl (uX6_doUp hW hv0 hf)
/-! X6_turn turn -/
def rmX6_turn : Room := { frames := 2, cells := 0, slots := 0, locals := 43 }
abbrev GX6_turn (S : Shp) (r r' : Rf) (out : Option Int32 × Hp) (pc : Nat) (L : List (Nat × Value)) (st : List Value) (h : Hp) : Prop := G RX6 cX6_turn 2 (some .int) wsX6_turn rmX6_turn S r r' out pc L st h
theorem nX6_turn_X6 : ∀ w ∈ wsX60, w ∈ wsX6_turn := by decide +kernel
theorem mX6_turn_176 : Cond.constant RX6 176 (-1000000001) ∈ wsX6_turn := by decide +kernel
theorem mX6_turn_47 : Cond.fieldLink RX6 47 "LinkedIslesModel" "now" "[I" ∈ wsX6_turn := by decide +kernel
theorem hdX6_turn : yX6_turn.cls ≠ "java/lang/invoke/MethodHandle" ∧ yX6_turn.cls ≠ "java/lang/invoke/VarHandle" ∧ (parseMethodDescriptor yX6_turn.desc).map (fun d => d.parameters.length) = some 1 := by decide +kernel
def fX6_turn (n : Nat) (r : Rf) (v0 : Nat) (v1 : Int32) (h : Hp) : Option (Int32 × Hp) :=
  (fX6_isLink n r v0 v1 h).bind (fun (x2 : Int32) => if x2 = 0 then (some ((-1000000001), h)) else ((fX6_remember n r v0 h).bind (fun (h5 : Hp) => ck 1 16 (ck 1 16 (lE (pI h5 (r v0 22) (Int32.toNatClampNeg 1) ((h5.1 (r v0 22) (Int32.toNatClampNeg 1)) ^^^ (1 <<< (v1 &&& 31)))) (fun (h8 : Hp) => ck 1 16 (some ((((h8.1 (r v0 22) (Int32.toNatClampNeg 1)) >>> (v1 &&& 31)) &&& 1), h8))))))))
set_option maxHeartbeats 4000000 in
set_option maxRecDepth 100000 in
theorem uX6_turn {S : Shp} {n : Nat} {r : Rf} {v0 : Nat} {v1 : Int32} {h : Hp} {o : (Int32 × Hp)} (hW : WF S r) (hv0 : S[v0]? = some (6, 38)) (hf : fX6_turn n r v0 v1 h = some o) : GX6_turn S r r (some o.1, o.2) 0 [(0, .ref v0), (1, .int v1)] [] h := by
  unfold fX6_turn at hf
  refine g_aload_n (ps := 0) dX6_turn_0 rfl rfl ?_
  refine g_iload_n (ps := 1) dX6_turn_1 rfl rfl ?_
  obtain ⟨x2, e1, hf⟩ := bd_s hf
  refine g_callVi (As := [.int v1]) (n := 1) (kX6_isLink hW hv0 e1) gX6_turn_X6_isLink rfl ⟨rfl, rfl⟩ ⟨rfl, hdX6_isLink⟩ ⟨Nat.le_of_ble_eq_true rfl, Nat.le_of_ble_eq_true rfl⟩ cf6 hv0 rfl rfl (Nat.le_of_ble_eq_true rfl) dX6_turn_2 ?_
  refine g_if_ne (tgt := 11) dX6_turn_5 (by decide) (fun c3 => ?_) (fun c3 => ?_)
  · have hf := if_f hf c3
    refine g_aload_n (ps := 0) dX6_turn_11 rfl rfl ?_
    obtain ⟨h5, e4, hf⟩ := bd_s hf
    refine g_callVv (As := []) (n := 0) (kX6_remember hW hv0 e4) gX6_turn_X6_remember rfl ⟨rfl, rfl⟩ ⟨rfl, hdX6_remember⟩ ⟨Nat.le_of_ble_eq_true rfl, Nat.le_of_ble_eq_true rfl⟩ cf6 hv0 rfl rfl (Nat.le_of_ble_eq_true rfl) dX6_turn_12 ?_
    refine g_aload_n (ps := 0) dX6_turn_15 rfl rfl ?_
    refine g_getR cf6 hv0 nX6_turn_X6 (j := 22) (by decide) rfl mX6_turn_47 dX6_turn_16 ?_
    refine g_iconst (v := 1) dX6_turn_19 (by decide +kernel) ?_
    refine g_dup2 dX6_turn_20 rfl rfl ?_
    obtain ⟨z6, hf⟩ := ck_s hf
    refine g_iald (hW _ _ _ hv0 22 _ rfl) z6 dX6_turn_21 ?_
    refine g_iconst (v := 1) dX6_turn_22 (by decide +kernel) ?_
    refine g_iload_n (ps := 1) dX6_turn_23 rfl rfl ?_
    refine g_ishl dX6_turn_24 ?_
    refine g_ixor dX6_turn_25 ?_
    obtain ⟨z7, hf⟩ := ck_s hf
    refine g_iast (hW _ _ _ hv0 22 _ rfl) z7 dX6_turn_26 ?_
    refine g_topH (fun h8 eh8 => ?_)
    have hf := lE_s hf eh8
    refine g_aload_n (ps := 0) dX6_turn_27 rfl rfl ?_
    refine g_getR cf6 hv0 nX6_turn_X6 (j := 22) (by decide) rfl mX6_turn_47 dX6_turn_28 ?_
    refine g_iconst (v := 1) dX6_turn_31 (by decide +kernel) ?_
    obtain ⟨z9, hf⟩ := ck_s hf
    refine g_iald (hW _ _ _ hv0 22 _ rfl) z9 dX6_turn_32 ?_
    refine g_iload_n (ps := 1) dX6_turn_33 rfl rfl ?_
    refine g_ishr dX6_turn_34 ?_
    refine g_iconst (v := 1) dX6_turn_35 (by decide +kernel) ?_
    refine g_iand dX6_turn_36 ?_
    have hf := Option.some.inj hf
    subst hf
    exact g_iret dX6_turn_37
  · have hf := if_t hf c3
    refine g_ldc (v := (-1000000001)) mX6_turn_176 dX6_turn_8 ?_
    have hf := Option.some.inj hf
    subst hf
    exact g_iret dX6_turn_10
theorem kX6_turn {S : Shp} {n : Nat} {r : Rf} {v0 : Nat} {v1 : Int32} {h : Hp} {o : (Int32 × Hp)} (hW : WF S r) (hv0 : S[v0]? = some (6, 38)) (hf : fX6_turn n r v0 v1 h = some o) : CTi yX6_turn wsX6_turn rmX6_turn S r [.ref v0, .int v1] h r o.1 o.2 :=
  cti_of rfl (by decide +kernel) rfl (Nat.le_of_ble_eq_true rfl) rfl (uX6_turn hW hv0 hf)
/-! X6_mend mend -/
def rmX6_mend : Room := { frames := 2, cells := 0, slots := 0, locals := 43 }
abbrev GX6_mend (S : Shp) (r r' : Rf) (out : Option Int32 × Hp) (pc : Nat) (L : List (Nat × Value)) (st : List Value) (h : Hp) : Prop := G RX6 cX6_mend 2 (some .int) wsX6_mend rmX6_mend S r r' out pc L st h
theorem nX6_mend_X6 : ∀ w ∈ wsX60, w ∈ wsX6_mend := by decide +kernel
theorem mX6_mend_176 : Cond.constant RX6 176 (-1000000001) ∈ wsX6_mend := by decide +kernel
theorem mX6_mend_181 : Cond.constant RX6 181 (-1000000003) ∈ wsX6_mend := by decide +kernel
theorem mX6_mend_47 : Cond.fieldLink RX6 47 "LinkedIslesModel" "now" "[I" ∈ wsX6_mend := by decide +kernel
theorem hdX6_mend : yX6_mend.cls ≠ "java/lang/invoke/MethodHandle" ∧ yX6_mend.cls ≠ "java/lang/invoke/VarHandle" ∧ (parseMethodDescriptor yX6_mend.desc).map (fun d => d.parameters.length) = some 1 := by decide +kernel
def fX6_mend (n : Nat) (r : Rf) (v0 : Nat) (v1 : Int32) (h : Hp) : Option (Int32 × Hp) :=
  (fX6_isLink n r v0 v1 h).bind (fun (x2 : Int32) => if x2 = 0 then (some ((-1000000001), h)) else (ck 4 16 (if (h.1 (r v0 22) (Int32.toNatClampNeg 4)) = 0 then (some ((-1000000003), h)) else ((fX6_remember n r v0 h).bind (fun (h7 : Hp) => ck (6 + v1) 16 (lE (pI h7 (r v0 22) (Int32.toNatClampNeg (6 + v1)) 0) (fun (h9 : Hp) => ck 4 16 (ck 4 16 (lE (pI h9 (r v0 22) (Int32.toNatClampNeg 4) ((h9.1 (r v0 22) (Int32.toNatClampNeg 4)) - 1)) (fun (h12 : Hp) => ck 4 16 (some ((h12.1 (r v0 22) (Int32.toNatClampNeg 4)), h12))))))))))))
set_option maxHeartbeats 4000000 in
set_option maxRecDepth 100000 in
theorem uX6_mend {S : Shp} {n : Nat} {r : Rf} {v0 : Nat} {v1 : Int32} {h : Hp} {o : (Int32 × Hp)} (hW : WF S r) (hv0 : S[v0]? = some (6, 38)) (hf : fX6_mend n r v0 v1 h = some o) : GX6_mend S r r (some o.1, o.2) 0 [(0, .ref v0), (1, .int v1)] [] h := by
  unfold fX6_mend at hf
  refine g_aload_n (ps := 0) dX6_mend_0 rfl rfl ?_
  refine g_iload_n (ps := 1) dX6_mend_1 rfl rfl ?_
  obtain ⟨x2, e1, hf⟩ := bd_s hf
  refine g_callVi (As := [.int v1]) (n := 1) (kX6_isLink hW hv0 e1) gX6_mend_X6_isLink rfl ⟨rfl, rfl⟩ ⟨rfl, hdX6_isLink⟩ ⟨Nat.le_of_ble_eq_true rfl, Nat.le_of_ble_eq_true rfl⟩ cf6 hv0 rfl rfl (Nat.le_of_ble_eq_true rfl) dX6_mend_2 ?_
  refine g_if_ne (tgt := 11) dX6_mend_5 (by decide) (fun c3 => ?_) (fun c3 => ?_)
  · have hf := if_f hf c3
    refine g_aload_n (ps := 0) dX6_mend_11 rfl rfl ?_
    refine g_getR cf6 hv0 nX6_mend_X6 (j := 22) (by decide) rfl mX6_mend_47 dX6_mend_12 ?_
    refine g_iconst (v := 4) dX6_mend_15 (by decide +kernel) ?_
    obtain ⟨z4, hf⟩ := ck_s hf
    refine g_iald (hW _ _ _ hv0 22 _ rfl) z4 dX6_mend_16 ?_
    refine g_if_ne (tgt := 23) dX6_mend_17 (by decide) (fun c5 => ?_) (fun c5 => ?_)
    · have hf := if_f hf c5
      refine g_aload_n (ps := 0) dX6_mend_23 rfl rfl ?_
      obtain ⟨h7, e6, hf⟩ := bd_s hf
      refine g_callVv (As := []) (n := 0) (kX6_remember hW hv0 e6) gX6_mend_X6_remember rfl ⟨rfl, rfl⟩ ⟨rfl, hdX6_remember⟩ ⟨Nat.le_of_ble_eq_true rfl, Nat.le_of_ble_eq_true rfl⟩ cf6 hv0 rfl rfl (Nat.le_of_ble_eq_true rfl) dX6_mend_24 ?_
      refine g_aload_n (ps := 0) dX6_mend_27 rfl rfl ?_
      refine g_getR cf6 hv0 nX6_mend_X6 (j := 22) (by decide) rfl mX6_mend_47 dX6_mend_28 ?_
      refine g_bipush (v := 6) dX6_mend_31 (by decide +kernel) ?_
      refine g_iload_n (ps := 1) dX6_mend_33 rfl rfl ?_
      refine g_iadd dX6_mend_34 ?_
      refine g_iconst (v := 0) dX6_mend_35 (by decide +kernel) ?_
      obtain ⟨z8, hf⟩ := ck_s hf
      refine g_iast (hW _ _ _ hv0 22 _ rfl) z8 dX6_mend_36 ?_
      refine g_topH (fun h9 eh9 => ?_)
      have hf := lE_s hf eh9
      refine g_aload_n (ps := 0) dX6_mend_37 rfl rfl ?_
      refine g_getR cf6 hv0 nX6_mend_X6 (j := 22) (by decide) rfl mX6_mend_47 dX6_mend_38 ?_
      refine g_iconst (v := 4) dX6_mend_41 (by decide +kernel) ?_
      refine g_dup2 dX6_mend_42 rfl rfl ?_
      obtain ⟨z10, hf⟩ := ck_s hf
      refine g_iald (hW _ _ _ hv0 22 _ rfl) z10 dX6_mend_43 ?_
      refine g_iconst (v := 1) dX6_mend_44 (by decide +kernel) ?_
      refine g_isub dX6_mend_45 ?_
      obtain ⟨z11, hf⟩ := ck_s hf
      refine g_iast (hW _ _ _ hv0 22 _ rfl) z11 dX6_mend_46 ?_
      refine g_topH (fun h12 eh12 => ?_)
      have hf := lE_s hf eh12
      refine g_aload_n (ps := 0) dX6_mend_47 rfl rfl ?_
      refine g_getR cf6 hv0 nX6_mend_X6 (j := 22) (by decide) rfl mX6_mend_47 dX6_mend_48 ?_
      refine g_iconst (v := 4) dX6_mend_51 (by decide +kernel) ?_
      obtain ⟨z13, hf⟩ := ck_s hf
      refine g_iald (hW _ _ _ hv0 22 _ rfl) z13 dX6_mend_52 ?_
      have hf := Option.some.inj hf
      subst hf
      exact g_iret dX6_mend_53
    · have hf := if_t hf c5
      refine g_ldc (v := (-1000000003)) mX6_mend_181 dX6_mend_20 ?_
      have hf := Option.some.inj hf
      subst hf
      exact g_iret dX6_mend_22
  · have hf := if_t hf c3
    refine g_ldc (v := (-1000000001)) mX6_mend_176 dX6_mend_8 ?_
    have hf := Option.some.inj hf
    subst hf
    exact g_iret dX6_mend_10
theorem kX6_mend {S : Shp} {n : Nat} {r : Rf} {v0 : Nat} {v1 : Int32} {h : Hp} {o : (Int32 × Hp)} (hW : WF S r) (hv0 : S[v0]? = some (6, 38)) (hf : fX6_mend n r v0 v1 h = some o) : CTi yX6_mend wsX6_mend rmX6_mend S r [.ref v0, .int v1] h r o.1 o.2 :=
  cti_of rfl (by decide +kernel) rfl (Nat.le_of_ble_eq_true rfl) rfl (uX6_mend hW hv0 hf)
/-! X6_hold hold -/
def rmX6_hold : Room := { frames := 2, cells := 0, slots := 0, locals := 43 }
abbrev GX6_hold (S : Shp) (r r' : Rf) (out : Option Int32 × Hp) (pc : Nat) (L : List (Nat × Value)) (st : List Value) (h : Hp) : Prop := G RX6 cX6_hold 4 (some .int) wsX6_hold rmX6_hold S r r' out pc L st h
theorem nX6_hold_X6 : ∀ w ∈ wsX60, w ∈ wsX6_hold := by decide +kernel
theorem mX6_hold_176 : Cond.constant RX6 176 (-1000000001) ∈ wsX6_hold := by decide +kernel
theorem mX6_hold_181 : Cond.constant RX6 181 (-1000000003) ∈ wsX6_hold := by decide +kernel
theorem mX6_hold_35 : Cond.fieldLink RX6 35 "LinkedIslesModel" "kinds" "[I" ∈ wsX6_hold := by decide +kernel
theorem mX6_hold_47 : Cond.fieldLink RX6 47 "LinkedIslesModel" "now" "[I" ∈ wsX6_hold := by decide +kernel
theorem hdX6_hold : yX6_hold.cls ≠ "java/lang/invoke/MethodHandle" ∧ yX6_hold.cls ≠ "java/lang/invoke/VarHandle" ∧ (parseMethodDescriptor yX6_hold.desc).map (fun d => d.parameters.length) = some 2 := by decide +kernel
def jX6_hold_73 (n : Nat) (r : Rf) (v0 : Nat) (v3 : Int32) (s0 : Int32) (s1 : Int32) (h : Hp) : Option (Int32 × Hp) :=
  ck s1 16 (lE (pI h (r v0 22) (Int32.toNatClampNeg s1) s0) (fun (h13 : Hp) => some (v3, h13)))
def fX6_hold (n : Nat) (r : Rf) (v0 : Nat) (v1 : Int32) (v2 : Int32) (h : Hp) : Option (Int32 × Hp) :=
  (fX6_isLink n r v0 v1 h).bind (fun (x2 : Int32) => if x2 = 0 then (some ((-1000000001), h)) else (ck v1 10 (if (h.1 (r v0 18) (Int32.toNatClampNeg v1)) = 3 then ((fX6_remember n r v0 h).bind (fun (h7 : Hp) => ck 2 16 (lE ((((h7.1 (r v0 22) (Int32.toNatClampNeg 2)) >>> (v1 &&& 31)) &&& 1)) (fun (x9 : Int32) => if v2 = 0 then (ck 2 16 (jX6_hold_73 n r v0 x9 ((h7.1 (r v0 22) (Int32.toNatClampNeg 2)) &&& ((1 <<< (v1 &&& 31)) ^^^ (-1))) 2 h7)) else (ck 2 16 (jX6_hold_73 n r v0 x9 ((h7.1 (r v0 22) (Int32.toNatClampNeg 2)) ||| (1 <<< (v1 &&& 31))) 2 h7)))))) else (some ((-1000000003), h)))))
set_option maxHeartbeats 4000000 in
set_option maxRecDepth 100000 in
theorem ujX6_hold_73 {S : Shp} {n : Nat} {r : Rf} {v0 : Nat} {v3 : Int32} {s0 : Int32} {s1 : Int32} {h : Hp} {o : (Int32 × Hp)} (hW : WF S r) (hv0 : S[v0]? = some (6, 38)) (hf : jX6_hold_73 n r v0 v3 s0 s1 h = some o)  : GX6_hold S r r (some o.1, o.2) 73 [(0, .ref v0), (3, .int v3)] [.int s0, .int s1, .ref (r v0 22)] h := by
  unfold jX6_hold_73 at hf
  obtain ⟨z12, hf⟩ := ck_s hf
  refine g_iast (hW _ _ _ hv0 22 _ rfl) z12 dX6_hold_73 ?_
  refine g_topH (fun h13 eh13 => ?_)
  have hf := lE_s hf eh13
  refine g_iload_n (ps := 1) dX6_hold_74 rfl rfl ?_
  have hf := Option.some.inj hf
  subst hf
  exact g_iret dX6_hold_75
set_option maxHeartbeats 4000000 in
set_option maxRecDepth 100000 in
theorem uX6_hold {S : Shp} {n : Nat} {r : Rf} {v0 : Nat} {v1 : Int32} {v2 : Int32} {h : Hp} {o : (Int32 × Hp)} (hW : WF S r) (hv0 : S[v0]? = some (6, 38)) (hf : fX6_hold n r v0 v1 v2 h = some o) : GX6_hold S r r (some o.1, o.2) 0 [(0, .ref v0), (1, .int v1), (2, .int v2)] [] h := by
  unfold fX6_hold at hf
  refine g_aload_n (ps := 0) dX6_hold_0 rfl rfl ?_
  refine g_iload_n (ps := 1) dX6_hold_1 rfl rfl ?_
  obtain ⟨x2, e1, hf⟩ := bd_s hf
  refine g_callVi (As := [.int v1]) (n := 1) (kX6_isLink hW hv0 e1) gX6_hold_X6_isLink rfl ⟨rfl, rfl⟩ ⟨rfl, hdX6_isLink⟩ ⟨Nat.le_of_ble_eq_true rfl, Nat.le_of_ble_eq_true rfl⟩ cf6 hv0 rfl rfl (Nat.le_of_ble_eq_true rfl) dX6_hold_2 ?_
  refine g_if_ne (tgt := 11) dX6_hold_5 (by decide) (fun c3 => ?_) (fun c3 => ?_)
  · have hf := if_f hf c3
    refine g_aload_n (ps := 0) dX6_hold_11 rfl rfl ?_
    refine g_getR cf6 hv0 nX6_hold_X6 (j := 18) (by decide) rfl mX6_hold_35 dX6_hold_12 ?_
    refine g_iload_n (ps := 1) dX6_hold_15 rfl rfl ?_
    obtain ⟨z4, hf⟩ := ck_s hf
    refine g_iald (hW _ _ _ hv0 18 _ rfl) z4 dX6_hold_16 ?_
    refine g_iconst (v := 3) dX6_hold_17 (by decide +kernel) ?_
    refine g_icmp_eq (tgt := 24) dX6_hold_18 (by decide) (fun c5 => ?_) (fun c5 => ?_)
    · have hf := if_t hf c5
      refine g_aload_n (ps := 0) dX6_hold_24 rfl rfl ?_
      obtain ⟨h7, e6, hf⟩ := bd_s hf
      refine g_callVv (As := []) (n := 0) (kX6_remember hW hv0 e6) gX6_hold_X6_remember rfl ⟨rfl, rfl⟩ ⟨rfl, hdX6_remember⟩ ⟨Nat.le_of_ble_eq_true rfl, Nat.le_of_ble_eq_true rfl⟩ cf6 hv0 rfl rfl (Nat.le_of_ble_eq_true rfl) dX6_hold_25 ?_
      refine g_aload_n (ps := 0) dX6_hold_28 rfl rfl ?_
      refine g_getR cf6 hv0 nX6_hold_X6 (j := 22) (by decide) rfl mX6_hold_47 dX6_hold_29 ?_
      refine g_iconst (v := 2) dX6_hold_32 (by decide +kernel) ?_
      obtain ⟨z8, hf⟩ := ck_s hf
      refine g_iald (hW _ _ _ hv0 22 _ rfl) z8 dX6_hold_33 ?_
      refine g_iload_n (ps := 1) dX6_hold_34 rfl rfl ?_
      refine g_ishr dX6_hold_35 ?_
      refine g_iconst (v := 1) dX6_hold_36 (by decide +kernel) ?_
      refine g_iand dX6_hold_37 ?_
      refine g_topi (fun x9 ex9 => ?_)
      have hf := lE_s hf ex9
      refine g_istore_n (L' := [(3, .int x9), (0, .ref v0), (1, .int v1), (2, .int v2)]) dX6_hold_38 rfl (by decide) rfl ?_
      refine g_aload_n (ps := 1) dX6_hold_39 rfl rfl ?_
      refine g_getR cf6 hv0 nX6_hold_X6 (j := 22) (by decide) rfl mX6_hold_47 dX6_hold_40 ?_
      refine g_iconst (v := 2) dX6_hold_43 (by decide +kernel) ?_
      refine g_iload_n (ps := 3) dX6_hold_44 rfl rfl ?_
      refine g_if_eq (tgt := 61) dX6_hold_45 (by decide) (fun c10 => ?_) (fun c10 => ?_)
      · have hf := if_t hf c10
        refine g_aload_n (ps := 1) dX6_hold_61 rfl rfl ?_
        refine g_getR cf6 hv0 nX6_hold_X6 (j := 22) (by decide) rfl mX6_hold_47 dX6_hold_62 ?_
        refine g_iconst (v := 2) dX6_hold_65 (by decide +kernel) ?_
        obtain ⟨z11, hf⟩ := ck_s hf
        refine g_iald (hW _ _ _ hv0 22 _ rfl) z11 dX6_hold_66 ?_
        refine g_iconst (v := 1) dX6_hold_67 (by decide +kernel) ?_
        refine g_iload_n (ps := 2) dX6_hold_68 rfl rfl ?_
        refine g_ishl dX6_hold_69 ?_
        refine g_iconst (v := (-1)) dX6_hold_70 (by decide +kernel) ?_
        refine g_ixor dX6_hold_71 ?_
        refine g_iand dX6_hold_72 ?_
        exact g_pick [1, 0] rfl (ujX6_hold_73 hW hv0 hf)
      · have hf := if_f hf c10
        refine g_aload_n (ps := 1) dX6_hold_48 rfl rfl ?_
        refine g_getR cf6 hv0 nX6_hold_X6 (j := 22) (by decide) rfl mX6_hold_47 dX6_hold_49 ?_
        refine g_iconst (v := 2) dX6_hold_52 (by decide +kernel) ?_
        obtain ⟨z14, hf⟩ := ck_s hf
        refine g_iald (hW _ _ _ hv0 22 _ rfl) z14 dX6_hold_53 ?_
        refine g_iconst (v := 1) dX6_hold_54 (by decide +kernel) ?_
        refine g_iload_n (ps := 2) dX6_hold_55 rfl rfl ?_
        refine g_ishl dX6_hold_56 ?_
        refine g_ior dX6_hold_57 ?_
        refine g_goto (tgt := 73) dX6_hold_58 (by decide) ?_
        exact g_pick [1, 0] rfl (ujX6_hold_73 hW hv0 hf)
    · have hf := if_f hf c5
      refine g_ldc (v := (-1000000003)) mX6_hold_181 dX6_hold_21 ?_
      have hf := Option.some.inj hf
      subst hf
      exact g_iret dX6_hold_23
  · have hf := if_t hf c3
    refine g_ldc (v := (-1000000001)) mX6_hold_176 dX6_hold_8 ?_
    have hf := Option.some.inj hf
    subst hf
    exact g_iret dX6_hold_10
theorem kX6_hold {S : Shp} {n : Nat} {r : Rf} {v0 : Nat} {v1 : Int32} {v2 : Int32} {h : Hp} {o : (Int32 × Hp)} (hW : WF S r) (hv0 : S[v0]? = some (6, 38)) (hf : fX6_hold n r v0 v1 v2 h = some o) : CTi yX6_hold wsX6_hold rmX6_hold S r [.ref v0, .int v1, .int v2] h r o.1 o.2 :=
  cti_of rfl (by decide +kernel) rfl (Nat.le_of_ble_eq_true rfl) rfl (uX6_hold hW hv0 hf)
/-! X6_earn earn -/
def rmX6_earn : Room := { frames := 1, cells := 0, slots := 0, locals := 22 }
abbrev GX6_earn (S : Shp) (r r' : Rf) (out : Option Int32 × Hp) (pc : Nat) (L : List (Nat × Value)) (st : List Value) (h : Hp) : Prop := G RX6 cX6_earn 3 (some .int) wsX6_earn rmX6_earn S r r' out pc L st h
theorem nX6_earn_X6 : ∀ w ∈ wsX60, w ∈ wsX6_earn := by decide +kernel
theorem mX6_earn_181 : Cond.constant RX6 181 (-1000000003) ∈ wsX6_earn := by decide +kernel
theorem mX6_earn_86 : Cond.constant RX6 86 (-1000000002) ∈ wsX6_earn := by decide +kernel
theorem mX6_earn_141 : Cond.fieldLink RX6 141 "LinkedIslesModel" "n" "I" ∈ wsX6_earn := by decide +kernel
theorem mX6_earn_47 : Cond.fieldLink RX6 47 "LinkedIslesModel" "now" "[I" ∈ wsX6_earn := by decide +kernel
theorem hdX6_earn : yX6_earn.cls ≠ "java/lang/invoke/MethodHandle" ∧ yX6_earn.cls ≠ "java/lang/invoke/VarHandle" ∧ (parseMethodDescriptor yX6_earn.desc).map (fun d => d.parameters.length) = some 1 := by decide +kernel
def jX6_earn_53 (n : Nat) (r : Rf) (v0 : Nat) (s0 : Int32) (s1 : Int32) (h : Hp) : Option (Int32 × Hp) :=
  ck s1 16 (lE (pI h (r v0 22) (Int32.toNatClampNeg s1) s0) (fun (h11 : Hp) => ck 4 16 (some ((h11.1 (r v0 22) (Int32.toNatClampNeg 4)), h11))))
def fX6_earn (n : Nat) (r : Rf) (v0 : Nat) (v1 : Int32) (h : Hp) : Option (Int32 × Hp) :=
  (fX6_in n r v1 1 99 h).bind (fun (x2 : Int32) => if x2 = 0 then (some ((-1000000002), h)) else (if (h.1 v0 14) = 0 then (some ((-1000000003), h)) else ((fX6_remember n r v0 h).bind (fun (h6 : Hp) => ck 4 16 (lE (((h6.1 (r v0 22) (Int32.toNatClampNeg 4)) + v1)) (fun (x8 : Int32) => if x8 ≤ 99 then (jX6_earn_53 n r v0 x8 4 h6) else (jX6_earn_53 n r v0 99 4 h6)))))))
set_option maxHeartbeats 4000000 in
set_option maxRecDepth 100000 in
theorem ujX6_earn_53 {S : Shp} {n : Nat} {r : Rf} {v0 : Nat} {s0 : Int32} {s1 : Int32} {h : Hp} {o : (Int32 × Hp)} (hW : WF S r) (hv0 : S[v0]? = some (6, 38)) (hf : jX6_earn_53 n r v0 s0 s1 h = some o)  : GX6_earn S r r (some o.1, o.2) 53 [(0, .ref v0)] [.int s0, .int s1, .ref (r v0 22)] h := by
  unfold jX6_earn_53 at hf
  obtain ⟨z10, hf⟩ := ck_s hf
  refine g_iast (hW _ _ _ hv0 22 _ rfl) z10 dX6_earn_53 ?_
  refine g_topH (fun h11 eh11 => ?_)
  have hf := lE_s hf eh11
  refine g_aload_n (ps := 0) dX6_earn_54 rfl rfl ?_
  refine g_getR cf6 hv0 nX6_earn_X6 (j := 22) (by decide) rfl mX6_earn_47 dX6_earn_55 ?_
  refine g_iconst (v := 4) dX6_earn_58 (by decide +kernel) ?_
  obtain ⟨z12, hf⟩ := ck_s hf
  refine g_iald (hW _ _ _ hv0 22 _ rfl) z12 dX6_earn_59 ?_
  have hf := Option.some.inj hf
  subst hf
  exact g_iret dX6_earn_60
set_option maxHeartbeats 4000000 in
set_option maxRecDepth 100000 in
theorem uX6_earn {S : Shp} {n : Nat} {r : Rf} {v0 : Nat} {v1 : Int32} {h : Hp} {o : (Int32 × Hp)} (hW : WF S r) (hv0 : S[v0]? = some (6, 38)) (hf : fX6_earn n r v0 v1 h = some o) : GX6_earn S r r (some o.1, o.2) 0 [(0, .ref v0), (1, .int v1)] [] h := by
  unfold fX6_earn at hf
  refine g_iload_n (ps := 1) dX6_earn_0 rfl rfl ?_
  refine g_iconst (v := 1) dX6_earn_1 (by decide +kernel) ?_
  refine g_bipush (v := 99) dX6_earn_2 (by decide +kernel) ?_
  obtain ⟨x2, e1, hf⟩ := bd_s hf
  refine g_callSi (As := [.int v1, .int 1, .int 99]) (n := 3) (kX6_in hW  e1) gX6_earn_X6_in rfl ⟨rfl, rfl⟩ hdX6_in ⟨Nat.le_of_ble_eq_true rfl, Nat.le_of_ble_eq_true rfl⟩ rfl rfl (Nat.le_of_ble_eq_true rfl) dX6_earn_4 ?_
  refine g_if_ne (tgt := 13) dX6_earn_7 (by decide) (fun c3 => ?_) (fun c3 => ?_)
  · have hf := if_f hf c3
    refine g_aload_n (ps := 0) dX6_earn_13 rfl rfl ?_
    refine g_getI cf6 hv0 nX6_earn_X6 (j := 14) (by decide) rfl mX6_earn_141 dX6_earn_14 ?_
    refine g_if_ne (tgt := 23) dX6_earn_17 (by decide) (fun c4 => ?_) (fun c4 => ?_)
    · have hf := if_f hf c4
      refine g_aload_n (ps := 0) dX6_earn_23 rfl rfl ?_
      obtain ⟨h6, e5, hf⟩ := bd_s hf
      refine g_callVv (As := []) (n := 0) (kX6_remember hW hv0 e5) gX6_earn_X6_remember rfl ⟨rfl, rfl⟩ ⟨rfl, hdX6_remember⟩ ⟨Nat.le_of_ble_eq_true rfl, Nat.le_of_ble_eq_true rfl⟩ cf6 hv0 rfl rfl (Nat.le_of_ble_eq_true rfl) dX6_earn_24 ?_
      refine g_aload_n (ps := 0) dX6_earn_27 rfl rfl ?_
      refine g_getR cf6 hv0 nX6_earn_X6 (j := 22) (by decide) rfl mX6_earn_47 dX6_earn_28 ?_
      refine g_iconst (v := 4) dX6_earn_31 (by decide +kernel) ?_
      obtain ⟨z7, hf⟩ := ck_s hf
      refine g_iald (hW _ _ _ hv0 22 _ rfl) z7 dX6_earn_32 ?_
      refine g_iload_n (ps := 1) dX6_earn_33 rfl rfl ?_
      refine g_iadd dX6_earn_34 ?_
      refine g_topi (fun x8 ex8 => ?_)
      have hf := lE_s hf ex8
      refine g_istore_n (L' := [(2, .int x8), (0, .ref v0), (1, .int v1)]) dX6_earn_35 rfl (by decide) rfl ?_
      refine g_aload_n (ps := 1) dX6_earn_36 rfl rfl ?_
      refine g_getR cf6 hv0 nX6_earn_X6 (j := 22) (by decide) rfl mX6_earn_47 dX6_earn_37 ?_
      refine g_iconst (v := 4) dX6_earn_40 (by decide +kernel) ?_
      refine g_iload_n (ps := 0) dX6_earn_41 rfl rfl ?_
      refine g_bipush (v := 99) dX6_earn_42 (by decide +kernel) ?_
      refine g_icmp_le (tgt := 52) dX6_earn_44 (by decide) (fun c9 => ?_) (fun c9 => ?_)
      · have hf := if_t hf c9
        refine g_iload_n (ps := 0) dX6_earn_52 rfl rfl ?_
        exact g_pick [1] rfl (ujX6_earn_53 hW hv0 hf)
      · have hf := if_f hf c9
        refine g_bipush (v := 99) dX6_earn_47 (by decide +kernel) ?_
        refine g_goto (tgt := 53) dX6_earn_49 (by decide) ?_
        exact g_pick [1] rfl (ujX6_earn_53 hW hv0 hf)
    · have hf := if_t hf c4
      refine g_ldc (v := (-1000000003)) mX6_earn_181 dX6_earn_20 ?_
      have hf := Option.some.inj hf
      subst hf
      exact g_iret dX6_earn_22
  · have hf := if_t hf c3
    refine g_ldc (v := (-1000000002)) mX6_earn_86 dX6_earn_10 ?_
    have hf := Option.some.inj hf
    subst hf
    exact g_iret dX6_earn_12
theorem kX6_earn {S : Shp} {n : Nat} {r : Rf} {v0 : Nat} {v1 : Int32} {h : Hp} {o : (Int32 × Hp)} (hW : WF S r) (hv0 : S[v0]? = some (6, 38)) (hf : fX6_earn n r v0 v1 h = some o) : CTi yX6_earn wsX6_earn rmX6_earn S r [.ref v0, .int v1] h r o.1 o.2 :=
  cti_of rfl (by decide +kernel) rfl (Nat.le_of_ble_eq_true rfl) rfl (uX6_earn hW hv0 hf)
/-! X6_draw draw -/
def rmX6_draw : Room := { frames := 0, cells := 0, slots := 0, locals := 0 }
abbrev GX6_draw (S : Shp) (r r' : Rf) (out : Option Int32 × Hp) (pc : Nat) (L : List (Nat × Value)) (st : List Value) (h : Hp) : Prop := G RX6 cX6_draw 2 (some .int) wsX6_draw rmX6_draw S r r' out pc L st h
theorem nX6_draw_X6 : ∀ w ∈ wsX60, w ∈ wsX6_draw := by decide +kernel
theorem mX6_draw_221 : Cond.constantLong RX6 221 (1103515245) ∈ wsX6_draw := by decide +kernel
theorem mX6_draw_223 : Cond.constantLong RX6 223 (12345) ∈ wsX6_draw := by decide +kernel
theorem mX6_draw_225 : Cond.constantLong RX6 225 (2147483648) ∈ wsX6_draw := by decide +kernel
theorem mX6_draw_227 : Cond.constantLong RX6 227 (65536) ∈ wsX6_draw := by decide +kernel
theorem mX6_draw_217 : Cond.fieldLink RX6 217 "LinkedIslesModel" "seeded" "J" ∈ wsX6_draw := by decide +kernel
theorem hdX6_draw : yX6_draw.cls ≠ "java/lang/invoke/MethodHandle" ∧ yX6_draw.cls ≠ "java/lang/invoke/VarHandle" ∧ (parseMethodDescriptor yX6_draw.desc).map (fun d => d.parameters.length) = some 1 := by decide +kernel
def fX6_draw (n : Nat) (r : Rf) (v0 : Nat) (v1 : Int32) (h : Hp) : Option (Int32 × Hp) :=
  lE (pL h v0 27 ((((h.2 v0 27) * 1103515245) + 12345) - (((h.2 v0 27) * 1103515245) + 12345) / 2147483648 * 2147483648)) (fun (h1 : Hp) => czL (Int32.toInt64 v1) (some ((Int64.toInt32 (((h1.2 v0 27) / 65536) - ((h1.2 v0 27) / 65536) / (Int32.toInt64 v1) * (Int32.toInt64 v1))), h1)))
set_option maxHeartbeats 4000000 in
set_option maxRecDepth 100000 in
theorem uX6_draw {S : Shp} {n : Nat} {r : Rf} {v0 : Nat} {v1 : Int32} {h : Hp} {o : (Int32 × Hp)} (hW : WF S r) (hv0 : S[v0]? = some (6, 38)) (hf : fX6_draw n r v0 v1 h = some o) : GX6_draw S r r (some o.1, o.2) 0 [(0, .ref v0), (1, .int v1)] [] h := by
  unfold fX6_draw at hf
  refine g_aload_n (ps := 0) dX6_draw_0 rfl rfl ?_
  refine g_aload_n (ps := 0) dX6_draw_1 rfl rfl ?_
  refine g_getL cf6 hv0 nX6_draw_X6 (j := 27) (by decide) rfl mX6_draw_217 dX6_draw_2 ?_
  refine g_ldc2 (v := 1103515245) mX6_draw_221 dX6_draw_5 ?_
  refine g_lmul dX6_draw_8 ?_
  refine g_ldc2 (v := 12345) mX6_draw_223 dX6_draw_9 ?_
  refine g_ladd dX6_draw_12 ?_
  refine g_ldc2 (v := 2147483648) mX6_draw_225 dX6_draw_13 ?_
  refine g_lrem dX6_draw_16 (by decide +kernel) ?_
  refine g_putL cf6 hv0 nX6_draw_X6 (j := 27) (by decide) rfl mX6_draw_217 rfl dX6_draw_17 ?_
  refine g_topH (fun h1 eh1 => ?_)
  have hf := lE_s hf eh1
  refine g_aload_n (ps := 0) dX6_draw_20 rfl rfl ?_
  refine g_getL cf6 hv0 nX6_draw_X6 (j := 27) (by decide) rfl mX6_draw_217 dX6_draw_21 ?_
  refine g_ldc2 (v := 65536) mX6_draw_227 dX6_draw_24 ?_
  refine g_ldiv dX6_draw_27 (by decide +kernel) ?_
  refine g_iload_n (ps := 1) dX6_draw_28 rfl rfl ?_
  refine g_i2l dX6_draw_29 ?_
  obtain ⟨z2, hf⟩ := czL_s hf
  refine g_lrem dX6_draw_30 z2 ?_
  refine g_l2i dX6_draw_31 ?_
  have hf := Option.some.inj hf
  subst hf
  exact g_iret dX6_draw_32
theorem kX6_draw {S : Shp} {n : Nat} {r : Rf} {v0 : Nat} {v1 : Int32} {h : Hp} {o : (Int32 × Hp)} (hW : WF S r) (hv0 : S[v0]? = some (6, 38)) (hf : fX6_draw n r v0 v1 h = some o) : CTi yX6_draw wsX6_draw rmX6_draw S r [.ref v0, .int v1] h r o.1 o.2 :=
  cti_of rfl (by decide +kernel) rfl (Nat.le_of_ble_eq_true rfl) rfl (uX6_draw hW hv0 hf)
/-! X6_draws draws -/
def rmX6_draws : Room := { frames := 2, cells := 0, slots := 0, locals := 42 }
abbrev GX6_draws (S : Shp) (r r' : Rf) (out : Option Int32 × Hp) (pc : Nat) (L : List (Nat × Value)) (st : List Value) (h : Hp) : Prop := G RX6 cX6_draws 3 none wsX6_draws rmX6_draws S r r' out pc L st h
theorem nX6_draws_X6 : ∀ w ∈ wsX60, w ∈ wsX6_draws := by decide +kernel
theorem mX6_draws_144 : Cond.fieldLink RX6 144 "LinkedIslesModel" "m" "I" ∈ wsX6_draws := by decide +kernel
theorem mX6_draws_47 : Cond.fieldLink RX6 47 "LinkedIslesModel" "now" "[I" ∈ wsX6_draws := by decide +kernel
theorem hdX6_draws : yX6_draws.cls ≠ "java/lang/invoke/MethodHandle" ∧ yX6_draws.cls ≠ "java/lang/invoke/VarHandle" ∧ (parseMethodDescriptor yX6_draws.desc).map (fun d => d.parameters.length) = some 0 := by decide +kernel
def jX6_draws_73 (n : Nat) (r : Rf) (v0 : Nat) (s0 : Int32) (s1 : Int32) (s2 : Int32) (h : Hp) : Option Hp :=
  ck s2 16 (lE (pI h (r v0 22) (Int32.toNatClampNeg s2) (s1 ||| s0)) (fun (h16 : Hp) => some h16))
def jX6_draws_24 (n : Nat) (r : Rf) (v0 : Nat) (v1 : Int32) (s0 : Int32) (h : Hp) : Option Hp :=
  if v1 = 0 then (ck 0 16 (ck 0 16 (lE (pI h (r v0 22) (Int32.toNatClampNeg 0) ((h.1 (r v0 22) (Int32.toNatClampNeg 0)) &&& ((1 <<< (s0 &&& 31)) ^^^ (-1)))) (fun (h19 : Hp) => some h19)))) else (if v1 = 1 then (ck 0 16 ((fX6_isUpable n r v0 s0 h).bind (fun (x13 : Int32) => if x13 = 0 then (jX6_draws_73 n r v0 0 (h.1 (r v0 22) (Int32.toNatClampNeg 0)) 0 h) else (jX6_draws_73 n r v0 (1 <<< (s0 &&& 31)) (h.1 (r v0 22) (Int32.toNatClampNeg 0)) 0 h)))) else (if v1 = 2 then (ck 1 16 (ck 1 16 (lE (pI h (r v0 22) (Int32.toNatClampNeg 1) ((h.1 (r v0 22) (Int32.toNatClampNeg 1)) ^^^ (1 <<< (s0 &&& 31)))) (fun (h10 : Hp) => some h10)))) else (some h)))
def fX6_draws (n : Nat) (r : Rf) (v0 : Nat) (h : Hp) : Option Hp :=
  bd2 (fX6_draw n r v0 6 h) (fun (x2 : Int32) (h3 : Hp) => if 3 ≤ x2 then (jX6_draws_24 n r v0 x2 0 h3) else (bd2 (fX6_draw n r v0 (h3.1 v0 15) h3) (fun (x21 : Int32) (h22 : Hp) => jX6_draws_24 n r v0 x2 x21 h22)))
set_option maxHeartbeats 4000000 in
set_option maxRecDepth 100000 in
theorem ujX6_draws_73 {S : Shp} {n : Nat} {r : Rf} {v0 : Nat} {s0 : Int32} {s1 : Int32} {s2 : Int32} {h : Hp} {o : Hp} (hW : WF S r) (hv0 : S[v0]? = some (6, 38)) (hf : jX6_draws_73 n r v0 s0 s1 s2 h = some o)  : GX6_draws S r r (none, o) 73 [(0, .ref v0)] [.int s0, .int s1, .int s2, .ref (r v0 22)] h := by
  unfold jX6_draws_73 at hf
  refine g_ior dX6_draws_73 ?_
  obtain ⟨z15, hf⟩ := ck_s hf
  refine g_iast (hW _ _ _ hv0 22 _ rfl) z15 dX6_draws_74 ?_
  refine g_topH (fun h16 eh16 => ?_)
  have hf := lE_s hf eh16
  refine g_goto (tgt := 95) dX6_draws_75 (by decide) ?_
  have hf := Option.some.inj hf
  subst hf
  exact g_vret dX6_draws_95
set_option maxHeartbeats 4000000 in
set_option maxRecDepth 100000 in
theorem ujX6_draws_24 {S : Shp} {n : Nat} {r : Rf} {v0 : Nat} {v1 : Int32} {s0 : Int32} {h : Hp} {o : Hp} (hW : WF S r) (hv0 : S[v0]? = some (6, 38)) (hf : jX6_draws_24 n r v0 v1 s0 h = some o)  : GX6_draws S r r (none, o) 24 [(0, .ref v0), (1, .int v1)] [.int s0] h := by
  unfold jX6_draws_24 at hf
  refine g_istore_n (L' := [(2, .int s0), (0, .ref v0), (1, .int v1)]) dX6_draws_24 rfl (by decide) rfl ?_
  refine g_iload_n (ps := 2) dX6_draws_25 rfl rfl ?_
  refine g_if_ne (tgt := 46) dX6_draws_26 (by decide) (fun c5 => ?_) (fun c5 => ?_)
  · have hf := if_f hf c5
    refine g_iload_n (ps := 2) dX6_draws_46 rfl rfl ?_
    refine g_iconst (v := 1) dX6_draws_47 (by decide +kernel) ?_
    refine g_icmp_ne (tgt := 78) dX6_draws_48 (by decide) (fun c6 => ?_) (fun c6 => ?_)
    · have hf := if_f hf c6
      refine g_iload_n (ps := 2) dX6_draws_78 rfl rfl ?_
      refine g_iconst (v := 2) dX6_draws_79 (by decide +kernel) ?_
      refine g_icmp_ne (tgt := 95) dX6_draws_80 (by decide) (fun c7 => ?_) (fun c7 => ?_)
      · have hf := if_f hf c7
        have hf := Option.some.inj hf
        subst hf
        exact g_vret dX6_draws_95
      · have hf := if_t hf c7
        refine g_aload_n (ps := 1) dX6_draws_83 rfl rfl ?_
        refine g_getR cf6 hv0 nX6_draws_X6 (j := 22) (by decide) rfl mX6_draws_47 dX6_draws_84 ?_
        refine g_iconst (v := 1) dX6_draws_87 (by decide +kernel) ?_
        refine g_dup2 dX6_draws_88 rfl rfl ?_
        obtain ⟨z8, hf⟩ := ck_s hf
        refine g_iald (hW _ _ _ hv0 22 _ rfl) z8 dX6_draws_89 ?_
        refine g_iconst (v := 1) dX6_draws_90 (by decide +kernel) ?_
        refine g_iload_n (ps := 0) dX6_draws_91 rfl rfl ?_
        refine g_ishl dX6_draws_92 ?_
        refine g_ixor dX6_draws_93 ?_
        obtain ⟨z9, hf⟩ := ck_s hf
        refine g_iast (hW _ _ _ hv0 22 _ rfl) z9 dX6_draws_94 ?_
        refine g_topH (fun h10 eh10 => ?_)
        have hf := lE_s hf eh10
        have hf := Option.some.inj hf
        subst hf
        exact g_vret dX6_draws_95
    · have hf := if_t hf c6
      refine g_aload_n (ps := 1) dX6_draws_51 rfl rfl ?_
      refine g_getR cf6 hv0 nX6_draws_X6 (j := 22) (by decide) rfl mX6_draws_47 dX6_draws_52 ?_
      refine g_iconst (v := 0) dX6_draws_55 (by decide +kernel) ?_
      refine g_dup2 dX6_draws_56 rfl rfl ?_
      obtain ⟨z11, hf⟩ := ck_s hf
      refine g_iald (hW _ _ _ hv0 22 _ rfl) z11 dX6_draws_57 ?_
      refine g_aload_n (ps := 1) dX6_draws_58 rfl rfl ?_
      refine g_iload_n (ps := 0) dX6_draws_59 rfl rfl ?_
      obtain ⟨x13, e12, hf⟩ := bd_s hf
      refine g_callVi (As := [.int s0]) (n := 1) (kX6_isUpable hW hv0 e12) gX6_draws_X6_isUpable rfl ⟨rfl, rfl⟩ ⟨rfl, hdX6_isUpable⟩ ⟨Nat.le_of_ble_eq_true rfl, Nat.le_of_ble_eq_true rfl⟩ cf6 hv0 rfl rfl (Nat.le_of_ble_eq_true rfl) dX6_draws_60 ?_
      refine g_if_eq (tgt := 72) dX6_draws_63 (by decide) (fun c14 => ?_) (fun c14 => ?_)
      · have hf := if_t hf c14
        refine g_iconst (v := 0) dX6_draws_72 (by decide +kernel) ?_
        exact g_pick [1] rfl (ujX6_draws_73 hW hv0 hf)
      · have hf := if_f hf c14
        refine g_iconst (v := 1) dX6_draws_66 (by decide +kernel) ?_
        refine g_iload_n (ps := 0) dX6_draws_67 rfl rfl ?_
        refine g_ishl dX6_draws_68 ?_
        refine g_goto (tgt := 73) dX6_draws_69 (by decide) ?_
        exact g_pick [1] rfl (ujX6_draws_73 hW hv0 hf)
  · have hf := if_t hf c5
    refine g_aload_n (ps := 1) dX6_draws_29 rfl rfl ?_
    refine g_getR cf6 hv0 nX6_draws_X6 (j := 22) (by decide) rfl mX6_draws_47 dX6_draws_30 ?_
    refine g_iconst (v := 0) dX6_draws_33 (by decide +kernel) ?_
    refine g_dup2 dX6_draws_34 rfl rfl ?_
    obtain ⟨z17, hf⟩ := ck_s hf
    refine g_iald (hW _ _ _ hv0 22 _ rfl) z17 dX6_draws_35 ?_
    refine g_iconst (v := 1) dX6_draws_36 (by decide +kernel) ?_
    refine g_iload_n (ps := 0) dX6_draws_37 rfl rfl ?_
    refine g_ishl dX6_draws_38 ?_
    refine g_iconst (v := (-1)) dX6_draws_39 (by decide +kernel) ?_
    refine g_ixor dX6_draws_40 ?_
    refine g_iand dX6_draws_41 ?_
    obtain ⟨z18, hf⟩ := ck_s hf
    refine g_iast (hW _ _ _ hv0 22 _ rfl) z18 dX6_draws_42 ?_
    refine g_topH (fun h19 eh19 => ?_)
    have hf := lE_s hf eh19
    refine g_goto (tgt := 95) dX6_draws_43 (by decide) ?_
    have hf := Option.some.inj hf
    subst hf
    exact g_vret dX6_draws_95
set_option maxHeartbeats 4000000 in
set_option maxRecDepth 100000 in
theorem uX6_draws {S : Shp} {n : Nat} {r : Rf} {v0 : Nat} {h : Hp} {o : Hp} (hW : WF S r) (hv0 : S[v0]? = some (6, 38)) (hf : fX6_draws n r v0 h = some o) : GX6_draws S r r (none, o) 0 [(0, .ref v0)] [] h := by
  unfold fX6_draws at hf
  refine g_aload_n (ps := 0) dX6_draws_0 rfl rfl ?_
  refine g_bipush (v := 6) dX6_draws_1 (by decide +kernel) ?_
  obtain ⟨x2, h3, e1, hf⟩ := bd2_s hf
  refine g_callVi (As := [.int 6]) (n := 1) (kX6_draw hW hv0 e1) gX6_draws_X6_draw rfl ⟨rfl, rfl⟩ ⟨rfl, hdX6_draw⟩ ⟨Nat.le_of_ble_eq_true rfl, Nat.le_of_ble_eq_true rfl⟩ cf6 hv0 rfl rfl (Nat.le_of_ble_eq_true rfl) dX6_draws_3 ?_
  refine g_istore_n (L' := [(1, .int x2), (0, .ref v0)]) dX6_draws_6 rfl (by decide) rfl ?_
  refine g_iload_n (ps := 0) dX6_draws_7 rfl rfl ?_
  refine g_iconst (v := 3) dX6_draws_8 (by decide +kernel) ?_
  refine g_icmp_ge (tgt := 23) dX6_draws_9 (by decide) (fun c4 => ?_) (fun c4 => ?_)
  · have hf := if_t hf c4
    refine g_iconst (v := 0) dX6_draws_23 (by decide +kernel) ?_
    exact g_pick [1, 0] rfl (ujX6_draws_24 hW hv0 hf)
  · have hf := if_f hf c4
    refine g_aload_n (ps := 1) dX6_draws_12 rfl rfl ?_
    refine g_aload_n (ps := 1) dX6_draws_13 rfl rfl ?_
    refine g_getI cf6 hv0 nX6_draws_X6 (j := 15) (by decide) rfl mX6_draws_144 dX6_draws_14 ?_
    obtain ⟨x21, h22, e20, hf⟩ := bd2_s hf
    refine g_callVi (As := [.int (h3.1 v0 15)]) (n := 1) (kX6_draw hW hv0 e20) gX6_draws_X6_draw rfl ⟨rfl, rfl⟩ ⟨rfl, hdX6_draw⟩ ⟨Nat.le_of_ble_eq_true rfl, Nat.le_of_ble_eq_true rfl⟩ cf6 hv0 rfl rfl (Nat.le_of_ble_eq_true rfl) dX6_draws_17 ?_
    refine g_goto (tgt := 24) dX6_draws_20 (by decide) ?_
    exact g_pick [1, 0] rfl (ujX6_draws_24 hW hv0 hf)
theorem kX6_draws {S : Shp} {n : Nat} {r : Rf} {v0 : Nat} {h : Hp} {o : Hp} (hW : WF S r) (hv0 : S[v0]? = some (6, 38)) (hf : fX6_draws n r v0 h = some o) : CTv yX6_draws wsX6_draws rmX6_draws S r [.ref v0] h r o :=
  ctv_of rfl (by decide +kernel) rfl (Nat.le_of_ble_eq_true rfl) rfl (uX6_draws hW hv0 hf)
