/-! X1_clashing clashing -/
def rmX1_clashing : Room := { frames := 1, cells := 0, slots := 0, locals := 23 }
abbrev GX1_clashing (S : Shp) (r r' : Rf) (out : Option Int32 × Hp) (pc : Nat) (L : List (Nat × Value)) (st : List Value) (h : Hp) : Prop := G RX1 cX1_clashing 5 (some .int) wsX1_clashing rmX1_clashing S r r' out pc L st h
theorem nX1_clashing_X1 : ∀ w ∈ wsX10, w ∈ wsX1_clashing := by decide +kernel
theorem mX1_clashing_49_i : Cond.initialized RX5 ∈ wsX1_clashing := by decide +kernel
theorem mX1_clashing_49_s : Cond.static yX5_has ∈ wsX1_clashing := by decide +kernel
theorem mX1_clashing_15 : Cond.fieldLink RX1 15 "LinkedIsles$Chart" "endB" "[I" ∈ wsX1_clashing := by decide +kernel
theorem mX1_clashing_36 : Cond.fieldLink RX1 36 "LinkedIsles$Chart" "numbers" "[I" ∈ wsX1_clashing := by decide +kernel
theorem mX1_clashing_39 : Cond.fieldLink RX1 39 "LinkedIsles$Chart" "islands" "I" ∈ wsX1_clashing := by decide +kernel
theorem mX1_clashing_43 : Cond.fieldLink RX1 43 "LinkedIsles$Chart" "links" "I" ∈ wsX1_clashing := by decide +kernel
theorem mX1_clashing_9 : Cond.fieldLink RX1 9 "LinkedIsles$Chart" "endA" "[I" ∈ wsX1_clashing := by decide +kernel
theorem hdX1_clashing : yX1_clashing.cls ≠ "java/lang/invoke/MethodHandle" ∧ yX1_clashing.cls ≠ "java/lang/invoke/VarHandle" ∧ (parseMethodDescriptor yX1_clashing.desc).map (fun d => d.parameters.length) = some 2 := by decide +kernel
def bX1_clashing_2 (n : Nat) (r : Rf) (v0 : Nat) (v1 : Int32) (v2 : Int32) (v3 : Int32) (h : Hp) : Option ((Int32 × Hp) ⊕ (Hp)) :=
  if (h.1 v0 9) ≤ v3 then (some (.inr h)) else (ck v3 8 (lE (pI h (r v0 8) (Int32.toNatClampNeg v3) 0) (fun (h3 : Hp) => lE (v3 + 1) (fun (x4 : Int32) => some (.inl (x4, h3))))))
def bX1_clashing_25 (n : Nat) (r : Rf) (v0 : Nat) (v1 : Int32) (v2 : Int32) (v3 : Int32) (h : Hp) : Option ((Int32 × Hp) ⊕ (Hp)) :=
  if (h.1 v0 10) ≤ v3 then (some (.inr h)) else ((fX5_has n r v1 v3 h).bind (fun (x7 : Int32) => if x7 = 0 then (lE (v3 + 1) (fun (x9 : Int32) => some (.inl (x9, h)))) else (ck v3 10 (ck (h.1 (r v0 0) (Int32.toNatClampNeg v3)) 8 ((fX5_has n r v2 v3 h).bind (fun (x13 : Int32) => (fX1_sideRead n r v0 v3 1 x13 h).bind (fun (x15 : Int32) => ck (h.1 (r v0 0) (Int32.toNatClampNeg v3)) 8 (lE (pI h (r v0 8) (Int32.toNatClampNeg (h.1 (r v0 0) (Int32.toNatClampNeg v3))) ((h.1 (r v0 8) (Int32.toNatClampNeg (h.1 (r v0 0) (Int32.toNatClampNeg v3)))) ||| (1 <<< (x15 &&& 31)))) (fun (h17 : Hp) => ck v3 10 (ck (h17.1 (r v0 1) (Int32.toNatClampNeg v3)) 8 ((fX5_has n r v2 v3 h17).bind (fun (x21 : Int32) => (fX1_sideRead n r v0 v3 0 x21 h17).bind (fun (x23 : Int32) => ck (h17.1 (r v0 1) (Int32.toNatClampNeg v3)) 8 (lE (pI h17 (r v0 8) (Int32.toNatClampNeg (h17.1 (r v0 1) (Int32.toNatClampNeg v3))) ((h17.1 (r v0 8) (Int32.toNatClampNeg (h17.1 (r v0 1) (Int32.toNatClampNeg v3)))) ||| (1 <<< (x23 &&& 31)))) (fun (h25 : Hp) => lE (v3 + 1) (fun (x26 : Int32) => some (.inl (x26, h25))))))))))))))))))
def bX1_clashing_106 (n : Nat) (r : Rf) (v0 : Nat) (v3 : Int32) (v4 : Int32) (h : Hp) : Option ((Int32 × Int32) ⊕ (Int32)) :=
  if (h.1 v0 9) ≤ v4 then (some (.inr v3)) else (ck v4 8 ((fJ6_bitCount_0f7a4 n r (h.1 (r v0 8) (Int32.toNatClampNeg v4)) h).bind (fun (x30 : Int32) => if x30 ≤ 1 then (lE (v4 + 1) (fun (x32 : Int32) => some (.inl (v3, x32)))) else (lE ((v3 ||| (1 <<< (v4 &&& 31)))) (fun (x33 : Int32) => lE (v4 + 1) (fun (x34 : Int32) => some (.inl (x33, x34))))))))
def lX1_clashing_106 (n : Nat) (r : Rf) (v0 : Nat) (v3 : Int32) (v4 : Int32) (h : Hp) : Option (Int32 × Hp) :=
  (it (fun (s : Int32 × Int32) => bX1_clashing_106 n r v0 s.1 s.2 h) n (v3, v4)).bind (fun z => some (z, h))
def lX1_clashing_25 (n : Nat) (r : Rf) (v0 : Nat) (v1 : Int32) (v2 : Int32) (v3 : Int32) (h : Hp) : Option (Int32 × Hp) :=
  (it (fun (s : Int32 × Hp) => bX1_clashing_25 n r v0 v1 v2 s.1 s.2) n (v3, h)).bind (fun z => lX1_clashing_106 n r v0 0 0 z)
def lX1_clashing_2 (n : Nat) (r : Rf) (v0 : Nat) (v1 : Int32) (v2 : Int32) (v3 : Int32) (h : Hp) : Option (Int32 × Hp) :=
  (it (fun (s : Int32 × Hp) => bX1_clashing_2 n r v0 v1 v2 s.1 s.2) n (v3, h)).bind (fun z => lX1_clashing_25 n r v0 v1 v2 0 z)
def fX1_clashing (n : Nat) (r : Rf) (v0 : Nat) (v1 : Int32) (v2 : Int32) (h : Hp) : Option (Int32 × Hp) :=
  lX1_clashing_2 n r v0 v1 v2 0 h
set_option maxHeartbeats 4000000 in
set_option maxRecDepth 100000 in
theorem ubX1_clashing_2 {S : Shp} {n : Nat} {r : Rf} {out : Option Int32 × Hp} {r' : Rf} {v0 : Nat} {v1 : Int32} {v2 : Int32} {v3 : Int32}  {h : Hp} {w : (Int32 × Hp) ⊕ (Hp)} (hW : WF S r) (hv0 : S[v0]? = some (1, 12)) (hf : bX1_clashing_2 n r v0 v1 v2 v3 h = some w) (hk : ∀ y, w = .inl y → GX1_clashing S r r' out 2 [(0, .ref v0), (1, .int v1), (2, .int v2), (3, .int (y.1))] [] (y.2)) (he : ∀ z, w = .inr z → GX1_clashing S r r' out 23 [(0, .ref v0), (1, .int v1), (2, .int v2)] [] (z)) : GX1_clashing S r r' out 2 [(0, .ref v0), (1, .int v1), (2, .int v2), (3, .int v3)] [] h := by
  unfold bX1_clashing_2 at hf
  refine g_iload_n (ps := 3) dX1_clashing_2 rfl rfl ?_
  refine g_aload_n (ps := 0) dX1_clashing_3 rfl rfl ?_
  refine g_getI cf1 hv0 nX1_clashing_X1 (j := 9) (by decide) rfl mX1_clashing_39 dX1_clashing_4 ?_
  refine g_icmp_ge (tgt := 23) dX1_clashing_7 (by decide) (fun c1 => ?_) (fun c1 => ?_)
  · have hf := if_t hf c1
    exact g_pick [0, 1, 2] rfl (he _ (Option.some.inj hf).symm)
  · have hf := if_f hf c1
    refine g_aload_n (ps := 0) dX1_clashing_10 rfl rfl ?_
    refine g_getR cf1 hv0 nX1_clashing_X1 (j := 8) (by decide) rfl mX1_clashing_36 dX1_clashing_11 ?_
    refine g_iload_n (ps := 3) dX1_clashing_14 rfl rfl ?_
    refine g_iconst (v := 0) dX1_clashing_15 (by decide +kernel) ?_
    obtain ⟨z2, hf⟩ := ck_s hf
    refine g_iast (hW _ _ _ hv0 8 _ rfl) z2 dX1_clashing_16 ?_
    refine g_topH (fun h3 eh3 => ?_)
    have hf := lE_s hf eh3
    obtain ⟨x4, ex4⟩ : ∃ y : Int32, y = v3 + 1 := ⟨_, rfl⟩
    have hf := lE_s hf ex4
    refine g_iinc (ps := 3) (v := x4) (L' := [(3, .int x4), (0, .ref v0), (1, .int v1), (2, .int v2)]) dX1_clashing_17 rfl (by rw [ex4]; rfl) (by decide) rfl ?_
    refine g_goto (tgt := 2) dX1_clashing_20 (by decide) ?_
    exact g_pick [1, 2, 3, 0] rfl (hk _ (Option.some.inj hf).symm)
set_option maxHeartbeats 4000000 in
set_option maxRecDepth 100000 in
theorem ubX1_clashing_25 {S : Shp} {n : Nat} {r : Rf} {out : Option Int32 × Hp} {r' : Rf} {v0 : Nat} {v1 : Int32} {v2 : Int32} {v3 : Int32}  {h : Hp} {w : (Int32 × Hp) ⊕ (Hp)} (hW : WF S r) (hv0 : S[v0]? = some (1, 12)) (hf : bX1_clashing_25 n r v0 v1 v2 v3 h = some w) (hk : ∀ y, w = .inl y → GX1_clashing S r r' out 25 [(0, .ref v0), (1, .int v1), (2, .int v2), (3, .int (y.1))] [] (y.2)) (he : ∀ z, w = .inr z → GX1_clashing S r r' out 101 [(0, .ref v0)] [] (z)) : GX1_clashing S r r' out 25 [(0, .ref v0), (1, .int v1), (2, .int v2), (3, .int v3)] [] h := by
  unfold bX1_clashing_25 at hf
  refine g_iload_n (ps := 3) dX1_clashing_25 rfl rfl ?_
  refine g_aload_n (ps := 0) dX1_clashing_26 rfl rfl ?_
  refine g_getI cf1 hv0 nX1_clashing_X1 (j := 10) (by decide) rfl mX1_clashing_43 dX1_clashing_27 ?_
  refine g_icmp_ge (tgt := 101) dX1_clashing_30 (by decide) (fun c5 => ?_) (fun c5 => ?_)
  · have hf := if_t hf c5
    exact g_pick [0] rfl (he _ (Option.some.inj hf).symm)
  · have hf := if_f hf c5
    refine g_iload_n (ps := 1) dX1_clashing_33 rfl rfl ?_
    refine g_iload_n (ps := 3) dX1_clashing_34 rfl rfl ?_
    obtain ⟨x7, e6, hf⟩ := bd_s hf
    refine g_callNi (As := [.int v1, .int v3]) (n := 2) (kX5_has hW  e6) gX1_clashing_X5_has_n49 (fun _ h => h.2.1) mX1_clashing_49_i mX1_clashing_49_s rfl ⟨rfl, rfl⟩ hdX5_has ⟨Nat.le_of_ble_eq_true rfl, Nat.le_of_ble_eq_true rfl⟩ rfl rfl (Nat.le_of_ble_eq_true rfl) dX1_clashing_35 ?_
    refine g_if_eq (tgt := 95) dX1_clashing_38 (by decide) (fun c8 => ?_) (fun c8 => ?_)
    · have hf := if_t hf c8
      obtain ⟨x9, ex9⟩ : ∃ y : Int32, y = v3 + 1 := ⟨_, rfl⟩
      have hf := lE_s hf ex9
      refine g_iinc (ps := 3) (v := x9) (L' := [(3, .int x9), (0, .ref v0), (1, .int v1), (2, .int v2)]) dX1_clashing_95 rfl (by rw [ex9]; rfl) (by decide) rfl ?_
      refine g_goto (tgt := 25) dX1_clashing_98 (by decide) ?_
      exact g_pick [1, 2, 3, 0] rfl (hk _ (Option.some.inj hf).symm)
    · have hf := if_f hf c8
      refine g_aload_n (ps := 0) dX1_clashing_41 rfl rfl ?_
      refine g_getR cf1 hv0 nX1_clashing_X1 (j := 8) (by decide) rfl mX1_clashing_36 dX1_clashing_42 ?_
      refine g_aload_n (ps := 0) dX1_clashing_45 rfl rfl ?_
      refine g_getR cf1 hv0 nX1_clashing_X1 (j := 0) (by decide) rfl mX1_clashing_9 dX1_clashing_46 ?_
      refine g_iload_n (ps := 3) dX1_clashing_49 rfl rfl ?_
      obtain ⟨z10, hf⟩ := ck_s hf
      refine g_iald (hW _ _ _ hv0 0 _ rfl) z10 dX1_clashing_50 ?_
      refine g_dup2 dX1_clashing_51 rfl rfl ?_
      obtain ⟨z11, hf⟩ := ck_s hf
      refine g_iald (hW _ _ _ hv0 8 _ rfl) z11 dX1_clashing_52 ?_
      refine g_iconst (v := 1) dX1_clashing_53 (by decide +kernel) ?_
      refine g_aload_n (ps := 0) dX1_clashing_54 rfl rfl ?_
      refine g_iload_n (ps := 3) dX1_clashing_55 rfl rfl ?_
      refine g_iconst (v := 1) dX1_clashing_56 (by decide +kernel) ?_
      refine g_iload_n (ps := 2) dX1_clashing_57 rfl rfl ?_
      refine g_iload_n (ps := 3) dX1_clashing_58 rfl rfl ?_
      obtain ⟨x13, e12, hf⟩ := bd_s hf
      refine g_callNi (As := [.int v2, .int v3]) (n := 2) (kX5_has hW  e12) gX1_clashing_X5_has_n49 (fun _ h => h.2.1) mX1_clashing_49_i mX1_clashing_49_s rfl ⟨rfl, rfl⟩ hdX5_has ⟨Nat.le_of_ble_eq_true rfl, Nat.le_of_ble_eq_true rfl⟩ rfl rfl (Nat.le_of_ble_eq_true rfl) dX1_clashing_59 ?_
      obtain ⟨x15, e14, hf⟩ := bd_s hf
      refine g_callVi (As := [.int v3, .int 1, .int x13]) (n := 3) (kX1_sideRead hW hv0 e14) gX1_clashing_X1_sideRead rfl ⟨rfl, rfl⟩ ⟨rfl, hdX1_sideRead⟩ ⟨Nat.le_of_ble_eq_true rfl, Nat.le_of_ble_eq_true rfl⟩ cf1 hv0 rfl rfl (Nat.le_of_ble_eq_true rfl) dX1_clashing_62 ?_
      refine g_ishl dX1_clashing_65 ?_
      refine g_ior dX1_clashing_66 ?_
      obtain ⟨z16, hf⟩ := ck_s hf
      refine g_iast (hW _ _ _ hv0 8 _ rfl) z16 dX1_clashing_67 ?_
      refine g_topH (fun h17 eh17 => ?_)
      have hf := lE_s hf eh17
      refine g_aload_n (ps := 0) dX1_clashing_68 rfl rfl ?_
      refine g_getR cf1 hv0 nX1_clashing_X1 (j := 8) (by decide) rfl mX1_clashing_36 dX1_clashing_69 ?_
      refine g_aload_n (ps := 0) dX1_clashing_72 rfl rfl ?_
      refine g_getR cf1 hv0 nX1_clashing_X1 (j := 1) (by decide) rfl mX1_clashing_15 dX1_clashing_73 ?_
      refine g_iload_n (ps := 3) dX1_clashing_76 rfl rfl ?_
      obtain ⟨z18, hf⟩ := ck_s hf
      refine g_iald (hW _ _ _ hv0 1 _ rfl) z18 dX1_clashing_77 ?_
      refine g_dup2 dX1_clashing_78 rfl rfl ?_
      obtain ⟨z19, hf⟩ := ck_s hf
      refine g_iald (hW _ _ _ hv0 8 _ rfl) z19 dX1_clashing_79 ?_
      refine g_iconst (v := 1) dX1_clashing_80 (by decide +kernel) ?_
      refine g_aload_n (ps := 0) dX1_clashing_81 rfl rfl ?_
      refine g_iload_n (ps := 3) dX1_clashing_82 rfl rfl ?_
      refine g_iconst (v := 0) dX1_clashing_83 (by decide +kernel) ?_
      refine g_iload_n (ps := 2) dX1_clashing_84 rfl rfl ?_
      refine g_iload_n (ps := 3) dX1_clashing_85 rfl rfl ?_
      obtain ⟨x21, e20, hf⟩ := bd_s hf
      refine g_callNi (As := [.int v2, .int v3]) (n := 2) (kX5_has hW  e20) gX1_clashing_X5_has_n49 (fun _ h => h.2.1) mX1_clashing_49_i mX1_clashing_49_s rfl ⟨rfl, rfl⟩ hdX5_has ⟨Nat.le_of_ble_eq_true rfl, Nat.le_of_ble_eq_true rfl⟩ rfl rfl (Nat.le_of_ble_eq_true rfl) dX1_clashing_86 ?_
      obtain ⟨x23, e22, hf⟩ := bd_s hf
      refine g_callVi (As := [.int v3, .int 0, .int x21]) (n := 3) (kX1_sideRead hW hv0 e22) gX1_clashing_X1_sideRead rfl ⟨rfl, rfl⟩ ⟨rfl, hdX1_sideRead⟩ ⟨Nat.le_of_ble_eq_true rfl, Nat.le_of_ble_eq_true rfl⟩ cf1 hv0 rfl rfl (Nat.le_of_ble_eq_true rfl) dX1_clashing_89 ?_
      refine g_ishl dX1_clashing_92 ?_
      refine g_ior dX1_clashing_93 ?_
      obtain ⟨z24, hf⟩ := ck_s hf
      refine g_iast (hW _ _ _ hv0 8 _ rfl) z24 dX1_clashing_94 ?_
      refine g_topH (fun h25 eh25 => ?_)
      have hf := lE_s hf eh25
      obtain ⟨x26, ex26⟩ : ∃ y : Int32, y = v3 + 1 := ⟨_, rfl⟩
      have hf := lE_s hf ex26
      refine g_iinc (ps := 3) (v := x26) (L' := [(3, .int x26), (0, .ref v0), (1, .int v1), (2, .int v2)]) dX1_clashing_95 rfl (by rw [ex26]; rfl) (by decide) rfl ?_
      refine g_goto (tgt := 25) dX1_clashing_98 (by decide) ?_
      exact g_pick [1, 2, 3, 0] rfl (hk _ (Option.some.inj hf).symm)
set_option maxHeartbeats 4000000 in
set_option maxRecDepth 100000 in
theorem ubX1_clashing_106 {S : Shp} {n : Nat} {r : Rf} {out : Option Int32 × Hp} {r' : Rf} {v0 : Nat} {v3 : Int32} {v4 : Int32}  {h : Hp} {w : (Int32 × Int32) ⊕ (Int32)} (hW : WF S r) (hv0 : S[v0]? = some (1, 12)) (hf : bX1_clashing_106 n r v0 v3 v4 h = some w) (hk : ∀ y, w = .inl y → GX1_clashing S r r' out 106 [(0, .ref v0), (3, .int (y.1)), (4, .int (y.2))] [] h) (he : ∀ z, w = .inr z → GX1_clashing S r r' out 142 [(0, .ref v0), (3, .int (z))] [] h) : GX1_clashing S r r' out 106 [(0, .ref v0), (3, .int v3), (4, .int v4)] [] h := by
  unfold bX1_clashing_106 at hf
  refine g_iload (ps := 2) dX1_clashing_106 rfl ?_
  refine g_aload_n (ps := 0) dX1_clashing_108 rfl rfl ?_
  refine g_getI cf1 hv0 nX1_clashing_X1 (j := 9) (by decide) rfl mX1_clashing_39 dX1_clashing_109 ?_
  refine g_icmp_ge (tgt := 142) dX1_clashing_112 (by decide) (fun c27 => ?_) (fun c27 => ?_)
  · have hf := if_t hf c27
    exact g_pick [0, 1] rfl (he _ (Option.some.inj hf).symm)
  · have hf := if_f hf c27
    refine g_aload_n (ps := 0) dX1_clashing_115 rfl rfl ?_
    refine g_getR cf1 hv0 nX1_clashing_X1 (j := 8) (by decide) rfl mX1_clashing_36 dX1_clashing_116 ?_
    refine g_iload (ps := 2) dX1_clashing_119 rfl ?_
    obtain ⟨z28, hf⟩ := ck_s hf
    refine g_iald (hW _ _ _ hv0 8 _ rfl) z28 dX1_clashing_121 ?_
    obtain ⟨x30, e29, hf⟩ := bd_s hf
    refine g_callSi (As := [.int (h.1 (r v0 8) (Int32.toNatClampNeg v4))]) (n := 1) (kJ6_bitCount_0f7a4 hW  e29) gX1_clashing_J6_bitCount_0f7a4 rfl ⟨rfl, rfl⟩ hdJ6_bitCount_0f7a4 ⟨Nat.le_of_ble_eq_true rfl, Nat.le_of_ble_eq_true rfl⟩ rfl rfl (Nat.le_of_ble_eq_true rfl) dX1_clashing_122 ?_
    refine g_iconst (v := 1) dX1_clashing_125 (by decide +kernel) ?_
    refine g_icmp_le (tgt := 136) dX1_clashing_126 (by decide) (fun c31 => ?_) (fun c31 => ?_)
    · have hf := if_t hf c31
      obtain ⟨x32, ex32⟩ : ∃ y : Int32, y = v4 + 1 := ⟨_, rfl⟩
      have hf := lE_s hf ex32
      refine g_iinc (ps := 2) (v := x32) (L' := [(4, .int x32), (0, .ref v0), (3, .int v3)]) dX1_clashing_136 rfl (by rw [ex32]; rfl) (by decide) rfl ?_
      refine g_goto (tgt := 106) dX1_clashing_139 (by decide) ?_
      exact g_pick [1, 2, 0] rfl (hk _ (Option.some.inj hf).symm)
    · have hf := if_f hf c31
      refine g_iload_n (ps := 1) dX1_clashing_129 rfl rfl ?_
      refine g_iconst (v := 1) dX1_clashing_130 (by decide +kernel) ?_
      refine g_iload (ps := 2) dX1_clashing_131 rfl ?_
      refine g_ishl dX1_clashing_133 ?_
      refine g_ior dX1_clashing_134 ?_
      refine g_topi (fun x33 ex33 => ?_)
      have hf := lE_s hf ex33
      refine g_istore_n (L' := [(3, .int x33), (0, .ref v0), (4, .int v4)]) dX1_clashing_135 rfl (by decide) rfl ?_
      obtain ⟨x34, ex34⟩ : ∃ y : Int32, y = v4 + 1 := ⟨_, rfl⟩
      have hf := lE_s hf ex34
      refine g_iinc (ps := 2) (v := x34) (L' := [(4, .int x34), (3, .int x33), (0, .ref v0)]) dX1_clashing_136 rfl (by rw [ex34]; rfl) (by decide) rfl ?_
      refine g_goto (tgt := 106) dX1_clashing_139 (by decide) ?_
      exact g_pick [2, 1, 0] rfl (hk _ (Option.some.inj hf).symm)
set_option maxHeartbeats 4000000 in
set_option maxRecDepth 100000 in
theorem ulX1_clashing_106 {S : Shp} {n : Nat} {r : Rf} {v0 : Nat} {v3 : Int32} {v4 : Int32}  {h : Hp} {o : (Int32 × Hp)} (hW : WF S r) (hv0 : S[v0]? = some (1, 12)) (hf : lX1_clashing_106 n r v0 v3 v4 h = some o)  : GX1_clashing S r r (some o.1, o.2) 106 [(0, .ref v0), (3, .int v3), (4, .int v4)] [] h := by
  unfold lX1_clashing_106 at hf
  obtain ⟨z0, ei, hf⟩ := bd_s hf
  refine it_ind (P := fun (s : Int32 × Int32) => GX1_clashing S r r (some o.1, o.2) 106 [(0, .ref v0), (3, .int (s.1)), (4, .int (s.2))] [] h) (fun s w hb hk2 he2 => ?_) n _ ei
  refine ubX1_clashing_106 (out := (some o.1, o.2)) (r' := r) hW hv0 hb hk2 (fun z hz => ?_)
  have hz := he2 z hz
  subst hz
  refine g_iload_n (ps := 1) dX1_clashing_142 rfl rfl ?_
  have hf := Option.some.inj hf
  subst hf
  exact g_iret dX1_clashing_143
set_option maxHeartbeats 4000000 in
set_option maxRecDepth 100000 in
theorem ulX1_clashing_25 {S : Shp} {n : Nat} {r : Rf} {v0 : Nat} {v1 : Int32} {v2 : Int32} {v3 : Int32}  {h : Hp} {o : (Int32 × Hp)} (hW : WF S r) (hv0 : S[v0]? = some (1, 12)) (hf : lX1_clashing_25 n r v0 v1 v2 v3 h = some o)  : GX1_clashing S r r (some o.1, o.2) 25 [(0, .ref v0), (1, .int v1), (2, .int v2), (3, .int v3)] [] h := by
  unfold lX1_clashing_25 at hf
  obtain ⟨z0, ei, hf⟩ := bd_s hf
  refine it_ind (P := fun (s : Int32 × Hp) => GX1_clashing S r r (some o.1, o.2) 25 [(0, .ref v0), (1, .int v1), (2, .int v2), (3, .int (s.1))] [] (s.2)) (fun s w hb hk2 he2 => ?_) n _ ei
  refine ubX1_clashing_25 (out := (some o.1, o.2)) (r' := r) hW hv0 hb hk2 (fun z hz => ?_)
  have hz := he2 z hz
  subst hz
  refine g_iconst (v := 0) dX1_clashing_101 (by decide +kernel) ?_
  refine g_istore_n (L' := [(3, .int 0), (0, .ref v0)]) dX1_clashing_102 rfl (by decide) rfl ?_
  refine g_iconst (v := 0) dX1_clashing_103 (by decide +kernel) ?_
  refine g_istore (L' := [(4, .int 0), (3, .int 0), (0, .ref v0)]) dX1_clashing_104 (by decide) rfl ?_
  exact g_pick [2, 1, 0] rfl (ulX1_clashing_106 hW hv0 hf)
set_option maxHeartbeats 4000000 in
set_option maxRecDepth 100000 in
theorem ulX1_clashing_2 {S : Shp} {n : Nat} {r : Rf} {v0 : Nat} {v1 : Int32} {v2 : Int32} {v3 : Int32}  {h : Hp} {o : (Int32 × Hp)} (hW : WF S r) (hv0 : S[v0]? = some (1, 12)) (hf : lX1_clashing_2 n r v0 v1 v2 v3 h = some o)  : GX1_clashing S r r (some o.1, o.2) 2 [(0, .ref v0), (1, .int v1), (2, .int v2), (3, .int v3)] [] h := by
  unfold lX1_clashing_2 at hf
  obtain ⟨z0, ei, hf⟩ := bd_s hf
  refine it_ind (P := fun (s : Int32 × Hp) => GX1_clashing S r r (some o.1, o.2) 2 [(0, .ref v0), (1, .int v1), (2, .int v2), (3, .int (s.1))] [] (s.2)) (fun s w hb hk2 he2 => ?_) n _ ei
  refine ubX1_clashing_2 (out := (some o.1, o.2)) (r' := r) hW hv0 hb hk2 (fun z hz => ?_)
  have hz := he2 z hz
  subst hz
  refine g_iconst (v := 0) dX1_clashing_23 (by decide +kernel) ?_
  refine g_istore_n (L' := [(3, .int 0), (0, .ref v0), (1, .int v1), (2, .int v2)]) dX1_clashing_24 rfl (by decide) rfl ?_
  exact g_pick [1, 2, 3, 0] rfl (ulX1_clashing_25 hW hv0 hf)
set_option maxHeartbeats 4000000 in
set_option maxRecDepth 100000 in
theorem uX1_clashing {S : Shp} {n : Nat} {r : Rf} {v0 : Nat} {v1 : Int32} {v2 : Int32} {h : Hp} {o : (Int32 × Hp)} (hW : WF S r) (hv0 : S[v0]? = some (1, 12)) (hf : fX1_clashing n r v0 v1 v2 h = some o) : GX1_clashing S r r (some o.1, o.2) 0 [(0, .ref v0), (1, .int v1), (2, .int v2)] [] h := by
  unfold fX1_clashing at hf
  refine g_iconst (v := 0) dX1_clashing_0 (by decide +kernel) ?_
  refine g_istore_n (L' := [(3, .int 0), (0, .ref v0), (1, .int v1), (2, .int v2)]) dX1_clashing_1 rfl (by decide) rfl ?_
  exact g_pick [1, 2, 3, 0] rfl (ulX1_clashing_2 hW hv0 hf)
theorem kX1_clashing {S : Shp} {n : Nat} {r : Rf} {v0 : Nat} {v1 : Int32} {v2 : Int32} {h : Hp} {o : (Int32 × Hp)} (hW : WF S r) (hv0 : S[v0]? = some (1, 12)) (hf : fX1_clashing n r v0 v1 v2 h = some o) : CTi yX1_clashing wsX1_clashing rmX1_clashing S r [.ref v0, .int v1, .int v2] h r o.1 o.2 :=
  cti_of rfl (by decide +kernel) rfl (Nat.le_of_ble_eq_true rfl) rfl (uX1_clashing hW hv0 hf)
/-! X2_forget forget -/
def rmX2_forget : Room := { frames := 0, cells := 0, slots := 0, locals := 0 }
abbrev GX2_forget (S : Shp) (r r' : Rf) (out : Option Int32 × Hp) (pc : Nat) (L : List (Nat × Value)) (st : List Value) (h : Hp) : Prop := G RX2 cX2_forget 1 none wsX2_forget rmX2_forget S r r' out pc L st h
theorem nX2_forget_X2 : ∀ w ∈ wsX20, w ∈ wsX2_forget := by decide +kernel
theorem mX2_forget_17 : Cond.fieldLink RX2 17 "LinkedIsles$Log" "next" "I" ∈ wsX2_forget := by decide +kernel
theorem mX2_forget_21 : Cond.fieldLink RX2 21 "LinkedIsles$Log" "count" "I" ∈ wsX2_forget := by decide +kernel
theorem hdX2_forget : yX2_forget.cls ≠ "java/lang/invoke/MethodHandle" ∧ yX2_forget.cls ≠ "java/lang/invoke/VarHandle" ∧ (parseMethodDescriptor yX2_forget.desc).map (fun d => d.parameters.length) = some 0 := by decide +kernel
def fX2_forget (n : Nat) (r : Rf) (v0 : Nat) (h : Hp) : Option Hp :=
  lE (pI h v0 1 0) (fun (h1 : Hp) => lE (pI h1 v0 2 0) (fun (h2 : Hp) => some h2))
set_option maxHeartbeats 4000000 in
set_option maxRecDepth 100000 in
theorem uX2_forget {S : Shp} {n : Nat} {r : Rf} {v0 : Nat} {h : Hp} {o : Hp} (hW : WF S r) (hv0 : S[v0]? = some (2, 3)) (hf : fX2_forget n r v0 h = some o) : GX2_forget S r r (none, o) 0 [(0, .ref v0)] [] h := by
  unfold fX2_forget at hf
  refine g_aload_n (ps := 0) dX2_forget_0 rfl rfl ?_
  refine g_iconst (v := 0) dX2_forget_1 (by decide +kernel) ?_
  refine g_putI cf2 hv0 nX2_forget_X2 (j := 1) (by decide) rfl mX2_forget_17 rfl dX2_forget_2 ?_
  refine g_topH (fun h1 eh1 => ?_)
  have hf := lE_s hf eh1
  refine g_aload_n (ps := 0) dX2_forget_5 rfl rfl ?_
  refine g_iconst (v := 0) dX2_forget_6 (by decide +kernel) ?_
  refine g_putI cf2 hv0 nX2_forget_X2 (j := 2) (by decide) rfl mX2_forget_21 rfl dX2_forget_7 ?_
  refine g_topH (fun h2 eh2 => ?_)
  have hf := lE_s hf eh2
  have hf := Option.some.inj hf
  subst hf
  exact g_vret dX2_forget_10
theorem kX2_forget {S : Shp} {n : Nat} {r : Rf} {v0 : Nat} {h : Hp} {o : Hp} (hW : WF S r) (hv0 : S[v0]? = some (2, 3)) (hf : fX2_forget n r v0 h = some o) : CTv yX2_forget wsX2_forget rmX2_forget S r [.ref v0] h r o :=
  ctv_of rfl (by decide +kernel) rfl (Nat.le_of_ble_eq_true rfl) rfl (uX2_forget hW hv0 hf)
/-! X2_note note -/
def rmX2_note : Room := { frames := 2, cells := 0, slots := 0, locals := 63 }
abbrev GX2_note (S : Shp) (r r' : Rf) (out : Option Int32 × Hp) (pc : Nat) (L : List (Nat × Value)) (st : List Value) (h : Hp) : Prop := G RX2 cX2_note 2 none wsX2_note rmX2_note S r r' out pc L st h
theorem nX2_note_X2 : ∀ w ∈ wsX20, w ∈ wsX2_note := by decide +kernel
theorem mX2_note_28 : Cond.methodLink RX2 28 Lib.Math.min.name ∈ wsX2_note := by decide +kernel
theorem mX2_note_28_s : Cond.static Lib.Math.min.name ∈ wsX2_note := by decide +kernel
theorem mX2_note_28_c : Cond.code Lib.Math.min.name Lib.Math.min.code 2 (some .int) ∈ wsX2_note := by decide +kernel
theorem mX2_note_i : Cond.initialized "java/lang/Math" ∈ wsX2_note := by decide +kernel
theorem mX2_note_11 : Cond.fieldLink RX2 11 "LinkedIsles$Log" "rows" "[I" ∈ wsX2_note := by decide +kernel
theorem mX2_note_17 : Cond.fieldLink RX2 17 "LinkedIsles$Log" "next" "I" ∈ wsX2_note := by decide +kernel
theorem mX2_note_21 : Cond.fieldLink RX2 21 "LinkedIsles$Log" "count" "I" ∈ wsX2_note := by decide +kernel
theorem hdX2_note : yX2_note.cls ≠ "java/lang/invoke/MethodHandle" ∧ yX2_note.cls ≠ "java/lang/invoke/VarHandle" ∧ (parseMethodDescriptor yX2_note.desc).map (fun d => d.parameters.length) = some 1 := by decide +kernel
def fX2_note (n : Nat) (r : Rf) (v0 : Nat) (v1 : Nat) (h : Hp) : Option Hp :=
  (fX0_store n r v1 (r v0 0) 480 (h.1 v0 1) h).bind (fun (h2 : Hp) => lE (pI h2 v0 1 (((h2.1 v0 1) + 1) - ((h2.1 v0 1) + 1) / 30 * 30)) (fun (h3 : Hp) => lE (pI h3 v0 2 (if 30 < ((h3.1 v0 2) + 1) then 30 else ((h3.1 v0 2) + 1))) (fun (h4 : Hp) => some h4)))
set_option maxHeartbeats 4000000 in
set_option maxRecDepth 100000 in
theorem uX2_note {S : Shp} {n : Nat} {r : Rf} {v0 : Nat} {v1 : Nat} {h : Hp} {o : Hp} (hW : WF S r) (hv0 : S[v0]? = some (2, 3)) (hv1 : S[v1]? = some (0, 7)) (hf : fX2_note n r v0 v1 h = some o) : GX2_note S r r (none, o) 0 [(0, .ref v0), (1, .ref v1)] [] h := by
  unfold fX2_note at hf
  refine g_aload_n (ps := 1) dX2_note_0 rfl rfl ?_
  refine g_aload_n (ps := 0) dX2_note_1 rfl rfl ?_
  refine g_getR cf2 hv0 nX2_note_X2 (j := 0) (by decide) rfl mX2_note_11 dX2_note_2 ?_
  refine g_aload_n (ps := 0) dX2_note_5 rfl rfl ?_
  refine g_getI cf2 hv0 nX2_note_X2 (j := 1) (by decide) rfl mX2_note_17 dX2_note_6 ?_
  obtain ⟨h2, e1, hf⟩ := bd_s hf
  refine g_callVv (As := [.ref (r v0 0), .int (h.1 v0 1)]) (n := 2) (kX0_store hW hv1 (hW _ _ _ hv0 0 _ rfl) e1) gX2_note_X0_store rfl ⟨rfl, rfl⟩ ⟨rfl, hdX0_store⟩ ⟨Nat.le_of_ble_eq_true rfl, Nat.le_of_ble_eq_true rfl⟩ cf0 hv1 rfl rfl (Nat.le_of_ble_eq_true rfl) dX2_note_9 ?_
  refine g_aload_n (ps := 0) dX2_note_12 rfl rfl ?_
  refine g_aload_n (ps := 0) dX2_note_13 rfl rfl ?_
  refine g_getI cf2 hv0 nX2_note_X2 (j := 1) (by decide) rfl mX2_note_17 dX2_note_14 ?_
  refine g_iconst (v := 1) dX2_note_17 (by decide +kernel) ?_
  refine g_iadd dX2_note_18 ?_
  refine g_bipush (v := 30) dX2_note_19 (by decide +kernel) ?_
  refine g_irem dX2_note_21 (by decide +kernel) ?_
  refine g_putI cf2 hv0 nX2_note_X2 (j := 1) (by decide) rfl mX2_note_17 rfl dX2_note_22 ?_
  refine g_topH (fun h3 eh3 => ?_)
  have hf := lE_s hf eh3
  refine g_aload_n (ps := 0) dX2_note_25 rfl rfl ?_
  refine g_aload_n (ps := 0) dX2_note_26 rfl rfl ?_
  refine g_getI cf2 hv0 nX2_note_X2 (j := 2) (by decide) rfl mX2_note_21 dX2_note_27 ?_
  refine g_iconst (v := 1) dX2_note_30 (by decide +kernel) ?_
  refine g_iadd dX2_note_31 ?_
  refine g_bipush (v := 30) dX2_note_32 (by decide +kernel) ?_
  refine g_min mX2_note_28 mX2_note_28_s mX2_note_i mX2_note_28_c (by decide) (Nat.le_of_ble_eq_true rfl) dX2_note_34 ?_
  refine g_putI cf2 hv0 nX2_note_X2 (j := 2) (by decide) rfl mX2_note_21 rfl dX2_note_37 ?_
  refine g_topH (fun h4 eh4 => ?_)
  have hf := lE_s hf eh4
  have hf := Option.some.inj hf
  subst hf
  exact g_vret dX2_note_40
theorem kX2_note {S : Shp} {n : Nat} {r : Rf} {v0 : Nat} {v1 : Nat} {h : Hp} {o : Hp} (hW : WF S r) (hv0 : S[v0]? = some (2, 3)) (hv1 : S[v1]? = some (0, 7)) (hf : fX2_note n r v0 v1 h = some o) : CTv yX2_note wsX2_note rmX2_note S r [.ref v0, .ref v1] h r o :=
  ctv_of rfl (by decide +kernel) rfl (Nat.le_of_ble_eq_true rfl) rfl (uX2_note hW hv0 hv1 hf)
/-! X2_takeBack takeBack -/
def rmX2_takeBack : Room := { frames := 2, cells := 0, slots := 0, locals := 63 }
abbrev GX2_takeBack (S : Shp) (r r' : Rf) (out : Option Int32 × Hp) (pc : Nat) (L : List (Nat × Value)) (st : List Value) (h : Hp) : Prop := G RX2 cX2_takeBack 3 none wsX2_takeBack rmX2_takeBack S r r' out pc L st h
theorem nX2_takeBack_X2 : ∀ w ∈ wsX20, w ∈ wsX2_takeBack := by decide +kernel
theorem mX2_takeBack_11 : Cond.fieldLink RX2 11 "LinkedIsles$Log" "rows" "[I" ∈ wsX2_takeBack := by decide +kernel
theorem mX2_takeBack_17 : Cond.fieldLink RX2 17 "LinkedIsles$Log" "next" "I" ∈ wsX2_takeBack := by decide +kernel
theorem mX2_takeBack_21 : Cond.fieldLink RX2 21 "LinkedIsles$Log" "count" "I" ∈ wsX2_takeBack := by decide +kernel
theorem hdX2_takeBack : yX2_takeBack.cls ≠ "java/lang/invoke/MethodHandle" ∧ yX2_takeBack.cls ≠ "java/lang/invoke/VarHandle" ∧ (parseMethodDescriptor yX2_takeBack.desc).map (fun d => d.parameters.length) = some 2 := by decide +kernel
def fX2_takeBack (n : Nat) (r : Rf) (v0 : Nat) (v1 : Int32) (v2 : Nat) (h : Hp) : Option Hp :=
  lE (pI h v0 1 ((((h.1 v0 1) + 30) - v1) - (((h.1 v0 1) + 30) - v1) / 30 * 30)) (fun (h1 : Hp) => lE (pI h1 v0 2 ((h1.1 v0 2) - v1)) (fun (h2 : Hp) => (fX0_restore n r v2 (r v0 0) 480 (h2.1 v0 1) h2).bind (fun (h4 : Hp) => some h4)))
set_option maxHeartbeats 4000000 in
set_option maxRecDepth 100000 in
theorem uX2_takeBack {S : Shp} {n : Nat} {r : Rf} {v0 : Nat} {v1 : Int32} {v2 : Nat} {h : Hp} {o : Hp} (hW : WF S r) (hv0 : S[v0]? = some (2, 3)) (hv2 : S[v2]? = some (0, 7)) (hf : fX2_takeBack n r v0 v1 v2 h = some o) : GX2_takeBack S r r (none, o) 0 [(0, .ref v0), (1, .int v1), (2, .ref v2)] [] h := by
  unfold fX2_takeBack at hf
  refine g_aload_n (ps := 0) dX2_takeBack_0 rfl rfl ?_
  refine g_aload_n (ps := 0) dX2_takeBack_1 rfl rfl ?_
  refine g_getI cf2 hv0 nX2_takeBack_X2 (j := 1) (by decide) rfl mX2_takeBack_17 dX2_takeBack_2 ?_
  refine g_bipush (v := 30) dX2_takeBack_5 (by decide +kernel) ?_
  refine g_iadd dX2_takeBack_7 ?_
  refine g_iload_n (ps := 1) dX2_takeBack_8 rfl rfl ?_
  refine g_isub dX2_takeBack_9 ?_
  refine g_bipush (v := 30) dX2_takeBack_10 (by decide +kernel) ?_
  refine g_irem dX2_takeBack_12 (by decide +kernel) ?_
  refine g_putI cf2 hv0 nX2_takeBack_X2 (j := 1) (by decide) rfl mX2_takeBack_17 rfl dX2_takeBack_13 ?_
  refine g_topH (fun h1 eh1 => ?_)
  have hf := lE_s hf eh1
  refine g_aload_n (ps := 0) dX2_takeBack_16 rfl rfl ?_
  refine g_dup dX2_takeBack_17 rfl ?_
  refine g_getI cf2 hv0 nX2_takeBack_X2 (j := 2) (by decide) rfl mX2_takeBack_21 dX2_takeBack_18 ?_
  refine g_iload_n (ps := 1) dX2_takeBack_21 rfl rfl ?_
  refine g_isub dX2_takeBack_22 ?_
  refine g_putI cf2 hv0 nX2_takeBack_X2 (j := 2) (by decide) rfl mX2_takeBack_21 rfl dX2_takeBack_23 ?_
  refine g_topH (fun h2 eh2 => ?_)
  have hf := lE_s hf eh2
  refine g_aload_n (ps := 2) dX2_takeBack_26 rfl rfl ?_
  refine g_aload_n (ps := 0) dX2_takeBack_27 rfl rfl ?_
  refine g_getR cf2 hv0 nX2_takeBack_X2 (j := 0) (by decide) rfl mX2_takeBack_11 dX2_takeBack_28 ?_
  refine g_aload_n (ps := 0) dX2_takeBack_31 rfl rfl ?_
  refine g_getI cf2 hv0 nX2_takeBack_X2 (j := 1) (by decide) rfl mX2_takeBack_17 dX2_takeBack_32 ?_
  obtain ⟨h4, e3, hf⟩ := bd_s hf
  refine g_callVv (As := [.ref (r v0 0), .int (h2.1 v0 1)]) (n := 2) (kX0_restore hW hv2 (hW _ _ _ hv0 0 _ rfl) e3) gX2_takeBack_X0_restore rfl ⟨rfl, rfl⟩ ⟨rfl, hdX0_restore⟩ ⟨Nat.le_of_ble_eq_true rfl, Nat.le_of_ble_eq_true rfl⟩ cf0 hv2 rfl rfl (Nat.le_of_ble_eq_true rfl) dX2_takeBack_35 ?_
  have hf := Option.some.inj hf
  subst hf
  exact g_vret dX2_takeBack_38
theorem kX2_takeBack {S : Shp} {n : Nat} {r : Rf} {v0 : Nat} {v1 : Int32} {v2 : Nat} {h : Hp} {o : Hp} (hW : WF S r) (hv0 : S[v0]? = some (2, 3)) (hv2 : S[v2]? = some (0, 7)) (hf : fX2_takeBack n r v0 v1 v2 h = some o) : CTv yX2_takeBack wsX2_takeBack rmX2_takeBack S r [.ref v0, .int v1, .ref v2] h r o :=
  ctv_of rfl (by decide +kernel) rfl (Nat.le_of_ble_eq_true rfl) rfl (uX2_takeBack hW hv0 hv2 hf)
/-! X3_forget forget -/
def rmX3_forget : Room := { frames := 0, cells := 0, slots := 0, locals := 0 }
abbrev GX3_forget (S : Shp) (r r' : Rf) (out : Option Int32 × Hp) (pc : Nat) (L : List (Nat × Value)) (st : List Value) (h : Hp) : Prop := G RX3 cX3_forget 1 none wsX3_forget rmX3_forget S r r' out pc L st h
theorem nX3_forget_X3 : ∀ w ∈ wsX30, w ∈ wsX3_forget := by decide +kernel
theorem mX3_forget_21 : Cond.fieldLink RX3 21 "LinkedIsles$Talk" "heardCount" "I" ∈ wsX3_forget := by decide +kernel
theorem mX3_forget_25 : Cond.fieldLink RX3 25 "LinkedIsles$Talk" "entryCount" "I" ∈ wsX3_forget := by decide +kernel
theorem mX3_forget_28 : Cond.fieldLink RX3 28 "LinkedIsles$Talk" "hanging" "I" ∈ wsX3_forget := by decide +kernel
theorem mX3_forget_31 : Cond.fieldLink RX3 31 "LinkedIsles$Talk" "toldUp" "I" ∈ wsX3_forget := by decide +kernel
theorem hdX3_forget : yX3_forget.cls ≠ "java/lang/invoke/MethodHandle" ∧ yX3_forget.cls ≠ "java/lang/invoke/VarHandle" ∧ (parseMethodDescriptor yX3_forget.desc).map (fun d => d.parameters.length) = some 0 := by decide +kernel
def fX3_forget (n : Nat) (r : Rf) (v0 : Nat) (h : Hp) : Option Hp :=
  lE (pI h v0 3 0) (fun (h1 : Hp) => lE (pI h1 v0 4 0) (fun (h2 : Hp) => lE (pI h2 v0 5 0) (fun (h3 : Hp) => lE (pI h3 v0 6 0) (fun (h4 : Hp) => some h4))))
set_option maxHeartbeats 4000000 in
set_option maxRecDepth 100000 in
theorem uX3_forget {S : Shp} {n : Nat} {r : Rf} {v0 : Nat} {h : Hp} {o : Hp} (hW : WF S r) (hv0 : S[v0]? = some (3, 7)) (hf : fX3_forget n r v0 h = some o) : GX3_forget S r r (none, o) 0 [(0, .ref v0)] [] h := by
  unfold fX3_forget at hf
  refine g_aload_n (ps := 0) dX3_forget_0 rfl rfl ?_
  refine g_iconst (v := 0) dX3_forget_1 (by decide +kernel) ?_
  refine g_putI cf3 hv0 nX3_forget_X3 (j := 3) (by decide) rfl mX3_forget_21 rfl dX3_forget_2 ?_
  refine g_topH (fun h1 eh1 => ?_)
  have hf := lE_s hf eh1
  refine g_aload_n (ps := 0) dX3_forget_5 rfl rfl ?_
  refine g_iconst (v := 0) dX3_forget_6 (by decide +kernel) ?_
  refine g_putI cf3 hv0 nX3_forget_X3 (j := 4) (by decide) rfl mX3_forget_25 rfl dX3_forget_7 ?_
  refine g_topH (fun h2 eh2 => ?_)
  have hf := lE_s hf eh2
  refine g_aload_n (ps := 0) dX3_forget_10 rfl rfl ?_
  refine g_iconst (v := 0) dX3_forget_11 (by decide +kernel) ?_
  refine g_putI cf3 hv0 nX3_forget_X3 (j := 5) (by decide) rfl mX3_forget_28 rfl dX3_forget_12 ?_
  refine g_topH (fun h3 eh3 => ?_)
  have hf := lE_s hf eh3
  refine g_aload_n (ps := 0) dX3_forget_15 rfl rfl ?_
  refine g_iconst (v := 0) dX3_forget_16 (by decide +kernel) ?_
  refine g_putI cf3 hv0 nX3_forget_X3 (j := 6) (by decide) rfl mX3_forget_31 rfl dX3_forget_17 ?_
  refine g_topH (fun h4 eh4 => ?_)
  have hf := lE_s hf eh4
  have hf := Option.some.inj hf
  subst hf
  exact g_vret dX3_forget_20
theorem kX3_forget {S : Shp} {n : Nat} {r : Rf} {v0 : Nat} {h : Hp} {o : Hp} (hW : WF S r) (hv0 : S[v0]? = some (3, 7)) (hf : fX3_forget n r v0 h = some o) : CTv yX3_forget wsX3_forget rmX3_forget S r [.ref v0] h r o :=
  ctv_of rfl (by decide +kernel) rfl (Nat.le_of_ble_eq_true rfl) rfl (uX3_forget hW hv0 hf)
/-! X3_addHeard addHeard -/
def rmX3_addHeard : Room := { frames := 0, cells := 0, slots := 0, locals := 0 }
abbrev GX3_addHeard (S : Shp) (r r' : Rf) (out : Option Int32 × Hp) (pc : Nat) (L : List (Nat × Value)) (st : List Value) (h : Hp) : Prop := G RX3 cX3_addHeard 4 (some .int) wsX3_addHeard rmX3_addHeard S r r' out pc L st h
theorem nX3_addHeard_X3 : ∀ w ∈ wsX30, w ∈ wsX3_addHeard := by decide +kernel
theorem mX3_addHeard_15 : Cond.fieldLink RX3 15 "LinkedIsles$Talk" "heardB" "[I" ∈ wsX3_addHeard := by decide +kernel
theorem mX3_addHeard_21 : Cond.fieldLink RX3 21 "LinkedIsles$Talk" "heardCount" "I" ∈ wsX3_addHeard := by decide +kernel
theorem mX3_addHeard_28 : Cond.fieldLink RX3 28 "LinkedIsles$Talk" "hanging" "I" ∈ wsX3_addHeard := by decide +kernel
theorem mX3_addHeard_9 : Cond.fieldLink RX3 9 "LinkedIsles$Talk" "heardA" "[I" ∈ wsX3_addHeard := by decide +kernel
theorem hdX3_addHeard : yX3_addHeard.cls ≠ "java/lang/invoke/MethodHandle" ∧ yX3_addHeard.cls ≠ "java/lang/invoke/VarHandle" ∧ (parseMethodDescriptor yX3_addHeard.desc).map (fun d => d.parameters.length) = some 3 := by decide +kernel
def jX3_addHeard_48 (n : Nat) (r : Rf) (v0 : Nat) (s0 : Int32) (s1 : Int32) (h : Hp) : Option (Int32 × Hp) :=
  lE (pI h v0 5 (s1 ||| s0)) (fun (h7 : Hp) => lE (pI h7 v0 3 ((h7.1 v0 3) + 1)) (fun (h8 : Hp) => some ((h8.1 v0 3), h8)))
def fX3_addHeard (n : Nat) (r : Rf) (v0 : Nat) (v1 : Int32) (v2 : Int32) (v3 : Int32) (h : Hp) : Option (Int32 × Hp) :=
  if 6 ≤ (h.1 v0 3) then (some ((h.1 v0 3), h)) else (ck (h.1 v0 3) 6 (lE (pI h (r v0 0) (Int32.toNatClampNeg (h.1 v0 3)) v1) (fun (h3 : Hp) => ck (h3.1 v0 3) 6 (lE (pI h3 (r v0 1) (Int32.toNatClampNeg (h3.1 v0 3)) v2) (fun (h5 : Hp) => if v3 = 0 then (jX3_addHeard_48 n r v0 0 (h5.1 v0 5) h5) else (jX3_addHeard_48 n r v0 (1 <<< ((h5.1 v0 3) &&& 31)) (h5.1 v0 5) h5))))))
set_option maxHeartbeats 4000000 in
set_option maxRecDepth 100000 in
theorem ujX3_addHeard_48 {S : Shp} {n : Nat} {r : Rf} {v0 : Nat} {s0 : Int32} {s1 : Int32} {h : Hp} {o : (Int32 × Hp)} (hW : WF S r) (hv0 : S[v0]? = some (3, 7)) (hf : jX3_addHeard_48 n r v0 s0 s1 h = some o)  : GX3_addHeard S r r (some o.1, o.2) 48 [(0, .ref v0)] [.int s0, .int s1, .ref v0] h := by
  unfold jX3_addHeard_48 at hf
  refine g_ior dX3_addHeard_48 ?_
  refine g_putI cf3 hv0 nX3_addHeard_X3 (j := 5) (by decide) rfl mX3_addHeard_28 rfl dX3_addHeard_49 ?_
  refine g_topH (fun h7 eh7 => ?_)
  have hf := lE_s hf eh7
  refine g_aload_n (ps := 0) dX3_addHeard_52 rfl rfl ?_
  refine g_dup dX3_addHeard_53 rfl ?_
  refine g_getI cf3 hv0 nX3_addHeard_X3 (j := 3) (by decide) rfl mX3_addHeard_21 dX3_addHeard_54 ?_
  refine g_iconst (v := 1) dX3_addHeard_57 (by decide +kernel) ?_
  refine g_iadd dX3_addHeard_58 ?_
  refine g_putI cf3 hv0 nX3_addHeard_X3 (j := 3) (by decide) rfl mX3_addHeard_21 rfl dX3_addHeard_59 ?_
  refine g_topH (fun h8 eh8 => ?_)
  have hf := lE_s hf eh8
  refine g_aload_n (ps := 0) dX3_addHeard_62 rfl rfl ?_
  refine g_getI cf3 hv0 nX3_addHeard_X3 (j := 3) (by decide) rfl mX3_addHeard_21 dX3_addHeard_63 ?_
  have hf := Option.some.inj hf
  subst hf
  exact g_iret dX3_addHeard_66
set_option maxHeartbeats 4000000 in
set_option maxRecDepth 100000 in
theorem uX3_addHeard {S : Shp} {n : Nat} {r : Rf} {v0 : Nat} {v1 : Int32} {v2 : Int32} {v3 : Int32} {h : Hp} {o : (Int32 × Hp)} (hW : WF S r) (hv0 : S[v0]? = some (3, 7)) (hf : fX3_addHeard n r v0 v1 v2 v3 h = some o) : GX3_addHeard S r r (some o.1, o.2) 0 [(0, .ref v0), (1, .int v1), (2, .int v2), (3, .int v3)] [] h := by
  unfold fX3_addHeard at hf
  refine g_aload_n (ps := 0) dX3_addHeard_0 rfl rfl ?_
  refine g_getI cf3 hv0 nX3_addHeard_X3 (j := 3) (by decide) rfl mX3_addHeard_21 dX3_addHeard_1 ?_
  refine g_bipush (v := 6) dX3_addHeard_4 (by decide +kernel) ?_
  refine g_icmp_ge (tgt := 62) dX3_addHeard_6 (by decide) (fun c1 => ?_) (fun c1 => ?_)
  · have hf := if_t hf c1
    refine g_aload_n (ps := 0) dX3_addHeard_62 rfl rfl ?_
    refine g_getI cf3 hv0 nX3_addHeard_X3 (j := 3) (by decide) rfl mX3_addHeard_21 dX3_addHeard_63 ?_
    have hf := Option.some.inj hf
    subst hf
    exact g_iret dX3_addHeard_66
  · have hf := if_f hf c1
    refine g_aload_n (ps := 0) dX3_addHeard_9 rfl rfl ?_
    refine g_getR cf3 hv0 nX3_addHeard_X3 (j := 0) (by decide) rfl mX3_addHeard_9 dX3_addHeard_10 ?_
    refine g_aload_n (ps := 0) dX3_addHeard_13 rfl rfl ?_
    refine g_getI cf3 hv0 nX3_addHeard_X3 (j := 3) (by decide) rfl mX3_addHeard_21 dX3_addHeard_14 ?_
    refine g_iload_n (ps := 1) dX3_addHeard_17 rfl rfl ?_
    obtain ⟨z2, hf⟩ := ck_s hf
    refine g_iast (hW _ _ _ hv0 0 _ rfl) z2 dX3_addHeard_18 ?_
    refine g_topH (fun h3 eh3 => ?_)
    have hf := lE_s hf eh3
    refine g_aload_n (ps := 0) dX3_addHeard_19 rfl rfl ?_
    refine g_getR cf3 hv0 nX3_addHeard_X3 (j := 1) (by decide) rfl mX3_addHeard_15 dX3_addHeard_20 ?_
    refine g_aload_n (ps := 0) dX3_addHeard_23 rfl rfl ?_
    refine g_getI cf3 hv0 nX3_addHeard_X3 (j := 3) (by decide) rfl mX3_addHeard_21 dX3_addHeard_24 ?_
    refine g_iload_n (ps := 2) dX3_addHeard_27 rfl rfl ?_
    obtain ⟨z4, hf⟩ := ck_s hf
    refine g_iast (hW _ _ _ hv0 1 _ rfl) z4 dX3_addHeard_28 ?_
    refine g_topH (fun h5 eh5 => ?_)
    have hf := lE_s hf eh5
    refine g_aload_n (ps := 0) dX3_addHeard_29 rfl rfl ?_
    refine g_dup dX3_addHeard_30 rfl ?_
    refine g_getI cf3 hv0 nX3_addHeard_X3 (j := 5) (by decide) rfl mX3_addHeard_28 dX3_addHeard_31 ?_
    refine g_iload_n (ps := 3) dX3_addHeard_34 rfl rfl ?_
    refine g_if_eq (tgt := 47) dX3_addHeard_35 (by decide) (fun c6 => ?_) (fun c6 => ?_)
    · have hf := if_t hf c6
      refine g_iconst (v := 0) dX3_addHeard_47 (by decide +kernel) ?_
      exact g_pick [0] rfl (ujX3_addHeard_48 hW hv0 hf)
    · have hf := if_f hf c6
      refine g_iconst (v := 1) dX3_addHeard_38 (by decide +kernel) ?_
      refine g_aload_n (ps := 0) dX3_addHeard_39 rfl rfl ?_
      refine g_getI cf3 hv0 nX3_addHeard_X3 (j := 3) (by decide) rfl mX3_addHeard_21 dX3_addHeard_40 ?_
      refine g_ishl dX3_addHeard_43 ?_
      refine g_goto (tgt := 48) dX3_addHeard_44 (by decide) ?_
      exact g_pick [0] rfl (ujX3_addHeard_48 hW hv0 hf)
theorem kX3_addHeard {S : Shp} {n : Nat} {r : Rf} {v0 : Nat} {v1 : Int32} {v2 : Int32} {v3 : Int32} {h : Hp} {o : (Int32 × Hp)} (hW : WF S r) (hv0 : S[v0]? = some (3, 7)) (hf : fX3_addHeard n r v0 v1 v2 v3 h = some o) : CTi yX3_addHeard wsX3_addHeard rmX3_addHeard S r [.ref v0, .int v1, .int v2, .int v3] h r o.1 o.2 :=
  cti_of rfl (by decide +kernel) rfl (Nat.le_of_ble_eq_true rfl) rfl (uX3_addHeard hW hv0 hf)
/-! X3_addEntry addEntry -/
def rmX3_addEntry : Room := { frames := 0, cells := 0, slots := 0, locals := 0 }
abbrev GX3_addEntry (S : Shp) (r r' : Rf) (out : Option Int32 × Hp) (pc : Nat) (L : List (Nat × Value)) (st : List Value) (h : Hp) : Prop := G RX3 cX3_addEntry 3 (some .int) wsX3_addEntry rmX3_addEntry S r r' out pc L st h
theorem nX3_addEntry_X3 : ∀ w ∈ wsX30, w ∈ wsX3_addEntry := by decide +kernel
theorem mX3_addEntry_18 : Cond.fieldLink RX3 18 "LinkedIsles$Talk" "entryLink" "[I" ∈ wsX3_addEntry := by decide +kernel
theorem mX3_addEntry_25 : Cond.fieldLink RX3 25 "LinkedIsles$Talk" "entryCount" "I" ∈ wsX3_addEntry := by decide +kernel
theorem mX3_addEntry_31 : Cond.fieldLink RX3 31 "LinkedIsles$Talk" "toldUp" "I" ∈ wsX3_addEntry := by decide +kernel
theorem hdX3_addEntry : yX3_addEntry.cls ≠ "java/lang/invoke/MethodHandle" ∧ yX3_addEntry.cls ≠ "java/lang/invoke/VarHandle" ∧ (parseMethodDescriptor yX3_addEntry.desc).map (fun d => d.parameters.length) = some 2 := by decide +kernel
def fX3_addEntry (n : Nat) (r : Rf) (v0 : Nat) (v1 : Int32) (v2 : Int32) (h : Hp) : Option (Int32 × Hp) :=
  if 20 ≤ (h.1 v0 4) then (some ((h.1 v0 4), h)) else (ck (h.1 v0 4) 20 (lE (pI h (r v0 2) (Int32.toNatClampNeg (h.1 v0 4)) v1) (fun (h3 : Hp) => lE (pI h3 v0 6 ((h3.1 v0 6) ||| (v2 <<< ((h3.1 v0 4) &&& 31)))) (fun (h4 : Hp) => lE (pI h4 v0 4 ((h4.1 v0 4) + 1)) (fun (h5 : Hp) => some ((h5.1 v0 4), h5))))))
set_option maxHeartbeats 4000000 in
set_option maxRecDepth 100000 in
theorem uX3_addEntry {S : Shp} {n : Nat} {r : Rf} {v0 : Nat} {v1 : Int32} {v2 : Int32} {h : Hp} {o : (Int32 × Hp)} (hW : WF S r) (hv0 : S[v0]? = some (3, 7)) (hf : fX3_addEntry n r v0 v1 v2 h = some o) : GX3_addEntry S r r (some o.1, o.2) 0 [(0, .ref v0), (1, .int v1), (2, .int v2)] [] h := by
  unfold fX3_addEntry at hf
  refine g_aload_n (ps := 0) dX3_addEntry_0 rfl rfl ?_
  refine g_getI cf3 hv0 nX3_addEntry_X3 (j := 4) (by decide) rfl mX3_addEntry_25 dX3_addEntry_1 ?_
  refine g_bipush (v := 20) dX3_addEntry_4 (by decide +kernel) ?_
  refine g_icmp_ge (tgt := 44) dX3_addEntry_6 (by decide) (fun c1 => ?_) (fun c1 => ?_)
  · have hf := if_t hf c1
    refine g_aload_n (ps := 0) dX3_addEntry_44 rfl rfl ?_
    refine g_getI cf3 hv0 nX3_addEntry_X3 (j := 4) (by decide) rfl mX3_addEntry_25 dX3_addEntry_45 ?_
    have hf := Option.some.inj hf
    subst hf
    exact g_iret dX3_addEntry_48
  · have hf := if_f hf c1
    refine g_aload_n (ps := 0) dX3_addEntry_9 rfl rfl ?_
    refine g_getR cf3 hv0 nX3_addEntry_X3 (j := 2) (by decide) rfl mX3_addEntry_18 dX3_addEntry_10 ?_
    refine g_aload_n (ps := 0) dX3_addEntry_13 rfl rfl ?_
    refine g_getI cf3 hv0 nX3_addEntry_X3 (j := 4) (by decide) rfl mX3_addEntry_25 dX3_addEntry_14 ?_
    refine g_iload_n (ps := 1) dX3_addEntry_17 rfl rfl ?_
    obtain ⟨z2, hf⟩ := ck_s hf
    refine g_iast (hW _ _ _ hv0 2 _ rfl) z2 dX3_addEntry_18 ?_
    refine g_topH (fun h3 eh3 => ?_)
    have hf := lE_s hf eh3
    refine g_aload_n (ps := 0) dX3_addEntry_19 rfl rfl ?_
    refine g_dup dX3_addEntry_20 rfl ?_
    refine g_getI cf3 hv0 nX3_addEntry_X3 (j := 6) (by decide) rfl mX3_addEntry_31 dX3_addEntry_21 ?_
    refine g_iload_n (ps := 2) dX3_addEntry_24 rfl rfl ?_
    refine g_aload_n (ps := 0) dX3_addEntry_25 rfl rfl ?_
    refine g_getI cf3 hv0 nX3_addEntry_X3 (j := 4) (by decide) rfl mX3_addEntry_25 dX3_addEntry_26 ?_
    refine g_ishl dX3_addEntry_29 ?_
    refine g_ior dX3_addEntry_30 ?_
    refine g_putI cf3 hv0 nX3_addEntry_X3 (j := 6) (by decide) rfl mX3_addEntry_31 rfl dX3_addEntry_31 ?_
    refine g_topH (fun h4 eh4 => ?_)
    have hf := lE_s hf eh4
    refine g_aload_n (ps := 0) dX3_addEntry_34 rfl rfl ?_
    refine g_dup dX3_addEntry_35 rfl ?_
    refine g_getI cf3 hv0 nX3_addEntry_X3 (j := 4) (by decide) rfl mX3_addEntry_25 dX3_addEntry_36 ?_
    refine g_iconst (v := 1) dX3_addEntry_39 (by decide +kernel) ?_
    refine g_iadd dX3_addEntry_40 ?_
    refine g_putI cf3 hv0 nX3_addEntry_X3 (j := 4) (by decide) rfl mX3_addEntry_25 rfl dX3_addEntry_41 ?_
    refine g_topH (fun h5 eh5 => ?_)
    have hf := lE_s hf eh5
    refine g_aload_n (ps := 0) dX3_addEntry_44 rfl rfl ?_
    refine g_getI cf3 hv0 nX3_addEntry_X3 (j := 4) (by decide) rfl mX3_addEntry_25 dX3_addEntry_45 ?_
    have hf := Option.some.inj hf
    subst hf
    exact g_iret dX3_addEntry_48
theorem kX3_addEntry {S : Shp} {n : Nat} {r : Rf} {v0 : Nat} {v1 : Int32} {v2 : Int32} {h : Hp} {o : (Int32 × Hp)} (hW : WF S r) (hv0 : S[v0]? = some (3, 7)) (hf : fX3_addEntry n r v0 v1 v2 h = some o) : CTi yX3_addEntry wsX3_addEntry rmX3_addEntry S r [.ref v0, .int v1, .int v2] h r o.1 o.2 :=
  cti_of rfl (by decide +kernel) rfl (Nat.le_of_ble_eq_true rfl) rfl (uX3_addEntry hW hv0 hf)
/-! X3_fits fits -/
def rmX3_fits : Room := { frames := 4, cells := 0, slots := 0, locals := 93 }
abbrev GX3_fits (S : Shp) (r r' : Rf) (out : Option Int32 × Hp) (pc : Nat) (L : List (Nat × Value)) (st : List Value) (h : Hp) : Prop := G RX3 cX3_fits 4 (some .boolean) wsX3_fits rmX3_fits S r r' out pc L st h
theorem nX3_fits_X3 : ∀ w ∈ wsX30, w ∈ wsX3_fits := by decide +kernel
theorem mX3_fits_40_i : Cond.initialized RX5 ∈ wsX3_fits := by decide +kernel
theorem mX3_fits_40_s : Cond.static yX5_has ∈ wsX3_fits := by decide +kernel
theorem mX3_fits_15 : Cond.fieldLink RX3 15 "LinkedIsles$Talk" "heardB" "[I" ∈ wsX3_fits := by decide +kernel
theorem mX3_fits_21 : Cond.fieldLink RX3 21 "LinkedIsles$Talk" "heardCount" "I" ∈ wsX3_fits := by decide +kernel
theorem mX3_fits_28 : Cond.fieldLink RX3 28 "LinkedIsles$Talk" "hanging" "I" ∈ wsX3_fits := by decide +kernel
theorem mX3_fits_9 : Cond.fieldLink RX3 9 "LinkedIsles$Talk" "heardA" "[I" ∈ wsX3_fits := by decide +kernel
theorem hdX3_fits : yX3_fits.cls ≠ "java/lang/invoke/MethodHandle" ∧ yX3_fits.cls ≠ "java/lang/invoke/VarHandle" ∧ (parseMethodDescriptor yX3_fits.desc).map (fun d => d.parameters.length) = some 2 := by decide +kernel
def bX3_fits_2 (n : Nat) (r : Rf) (v0 : Nat) (v1 : Nat) (v2 : Int32) (v3 : Int32) (h : Hp) : Option ((Int32) ⊕ ((Unit) ⊕ (Unit))) :=
  if (h.1 v0 3) ≤ v3 then (some (.inr (.inr ()))) else (ck v3 6 (ck v3 6 ((fX1_hang n r v1 (h.1 (r v0 0) (Int32.toNatClampNeg v3)) (h.1 (r v0 1) (Int32.toNatClampNeg v3)) v2 h).bind (fun (x5 : Int32) => (fX5_has n r (h.1 v0 5) v3 h).bind (fun (x7 : Int32) => if x5 = x7 then (lE (v3 + 1) (fun (x9 : Int32) => some (.inl x9))) else (some (.inr (.inl ()))))))))
def lX3_fits_2 (n : Nat) (r : Rf) (v0 : Nat) (v1 : Nat) (v2 : Int32) (v3 : Int32) (h : Hp) : Option Int32 :=
  (it (fun (s : Int32) => bX3_fits_2 n r v0 v1 v2 s h) n v3).bind (fun z => match z with | .inl z => some 0 | .inr z => some 1)
def fX3_fits (n : Nat) (r : Rf) (v0 : Nat) (v1 : Nat) (v2 : Int32) (h : Hp) : Option Int32 :=
  lX3_fits_2 n r v0 v1 v2 0 h
set_option maxHeartbeats 4000000 in
set_option maxRecDepth 100000 in
theorem ubX3_fits_2 {S : Shp} {n : Nat} {r : Rf} {out : Option Int32 × Hp} {r' : Rf} {v0 : Nat} {v1 : Nat} {v2 : Int32} {v3 : Int32}  {h : Hp} {w : (Int32) ⊕ ((Unit) ⊕ (Unit))} (hW : WF S r) (hv0 : S[v0]? = some (3, 7)) (hv1 : S[v1]? = some (1, 12)) (hf : bX3_fits_2 n r v0 v1 v2 v3 h = some w) (hk : ∀ y, w = .inl y → GX3_fits S r r' out 2 [(0, .ref v0), (1, .ref v1), (2, .int v2), (3, .int (y))] [] h) (he : ∀ z, w = .inr z → (match z with | .inl z => GX3_fits S r r' out 38 [(0, .ref v0), (1, .ref v1)] [] h | .inr z => GX3_fits S r r' out 46 [(0, .ref v0), (1, .ref v1)] [] h)) : GX3_fits S r r' out 2 [(0, .ref v0), (1, .ref v1), (2, .int v2), (3, .int v3)] [] h := by
  unfold bX3_fits_2 at hf
  refine g_iload_n (ps := 3) dX3_fits_2 rfl rfl ?_
  refine g_aload_n (ps := 0) dX3_fits_3 rfl rfl ?_
  refine g_getI cf3 hv0 nX3_fits_X3 (j := 3) (by decide) rfl mX3_fits_21 dX3_fits_4 ?_
  refine g_icmp_ge (tgt := 46) dX3_fits_7 (by decide) (fun c1 => ?_) (fun c1 => ?_)
  · have hf := if_t hf c1
    exact g_pick [0, 1] rfl (he _ (Option.some.inj hf).symm)
  · have hf := if_f hf c1
    refine g_aload_n (ps := 1) dX3_fits_10 rfl rfl ?_
    refine g_aload_n (ps := 0) dX3_fits_11 rfl rfl ?_
    refine g_getR cf3 hv0 nX3_fits_X3 (j := 0) (by decide) rfl mX3_fits_9 dX3_fits_12 ?_
    refine g_iload_n (ps := 3) dX3_fits_15 rfl rfl ?_
    obtain ⟨z2, hf⟩ := ck_s hf
    refine g_iald (hW _ _ _ hv0 0 _ rfl) z2 dX3_fits_16 ?_
    refine g_aload_n (ps := 0) dX3_fits_17 rfl rfl ?_
    refine g_getR cf3 hv0 nX3_fits_X3 (j := 1) (by decide) rfl mX3_fits_15 dX3_fits_18 ?_
    refine g_iload_n (ps := 3) dX3_fits_21 rfl rfl ?_
    obtain ⟨z3, hf⟩ := ck_s hf
    refine g_iald (hW _ _ _ hv0 1 _ rfl) z3 dX3_fits_22 ?_
    refine g_iload_n (ps := 2) dX3_fits_23 rfl rfl ?_
    obtain ⟨x5, e4, hf⟩ := bd_s hf
    refine g_callVi (As := [.int (h.1 (r v0 0) (Int32.toNatClampNeg v3)), .int (h.1 (r v0 1) (Int32.toNatClampNeg v3)), .int v2]) (n := 3) (kX1_hang hW hv1 e4) gX3_fits_X1_hang rfl ⟨rfl, rfl⟩ ⟨rfl, hdX1_hang⟩ ⟨Nat.le_of_ble_eq_true rfl, Nat.le_of_ble_eq_true rfl⟩ cf1 hv1 rfl rfl (Nat.le_of_ble_eq_true rfl) dX3_fits_24 ?_
    refine g_aload_n (ps := 0) dX3_fits_27 rfl rfl ?_
    refine g_getI cf3 hv0 nX3_fits_X3 (j := 5) (by decide) rfl mX3_fits_28 dX3_fits_28 ?_
    refine g_iload_n (ps := 3) dX3_fits_31 rfl rfl ?_
    obtain ⟨x7, e6, hf⟩ := bd_s hf
    refine g_callNi (As := [.int (h.1 v0 5), .int v3]) (n := 2) (kX5_has hW  e6) gX3_fits_X5_has_n40 (fun _ h => h.2.2.1) mX3_fits_40_i mX3_fits_40_s rfl ⟨rfl, rfl⟩ hdX5_has ⟨Nat.le_of_ble_eq_true rfl, Nat.le_of_ble_eq_true rfl⟩ rfl rfl (Nat.le_of_ble_eq_true rfl) dX3_fits_32 ?_
    refine g_icmp_eq (tgt := 40) dX3_fits_35 (by decide) (fun c8 => ?_) (fun c8 => ?_)
    · have hf := if_t hf c8
      obtain ⟨x9, ex9⟩ : ∃ y : Int32, y = v3 + 1 := ⟨_, rfl⟩
      have hf := lE_s hf ex9
      refine g_iinc (ps := 3) (v := x9) (L' := [(3, .int x9), (0, .ref v0), (1, .ref v1), (2, .int v2)]) dX3_fits_40 rfl (by rw [ex9]; rfl) (by decide) rfl ?_
      refine g_goto (tgt := 2) dX3_fits_43 (by decide) ?_
      exact g_pick [1, 2, 3, 0] rfl (hk _ (Option.some.inj hf).symm)
    · have hf := if_f hf c8
      exact g_pick [0, 1] rfl (he _ (Option.some.inj hf).symm)
set_option maxHeartbeats 4000000 in
set_option maxRecDepth 100000 in
theorem ulX3_fits_2 {S : Shp} {n : Nat} {r : Rf} {v0 : Nat} {v1 : Nat} {v2 : Int32} {v3 : Int32}  {h : Hp} {o : Int32} (hW : WF S r) (hv0 : S[v0]? = some (3, 7)) (hv1 : S[v1]? = some (1, 12)) (hf : lX3_fits_2 n r v0 v1 v2 v3 h = some o)  : GX3_fits S r r (some o, h) 2 [(0, .ref v0), (1, .ref v1), (2, .int v2), (3, .int v3)] [] h := by
  unfold lX3_fits_2 at hf
  obtain ⟨z0, ei, hf⟩ := bd_s hf
  refine it_ind (P := fun (s : Int32) => GX3_fits S r r (some o, h) 2 [(0, .ref v0), (1, .ref v1), (2, .int v2), (3, .int s)] [] h) (fun s w hb hk2 he2 => ?_) n _ ei
  refine ubX3_fits_2 (out := (some o, h)) (r' := r) hW hv0 hv1 hb hk2 (fun z hz => ?_)
  have hz := he2 z hz
  subst hz
  rcases z with z | z
  · refine g_iconst (v := 0) dX3_fits_38 (by decide +kernel) ?_
    have hf := Option.some.inj hf
    subst hf
    exact g_zret (Or.inl rfl) dX3_fits_39
  · refine g_iconst (v := 1) dX3_fits_46 (by decide +kernel) ?_
    have hf := Option.some.inj hf
    subst hf
    exact g_zret (Or.inr rfl) dX3_fits_47
set_option maxHeartbeats 4000000 in
set_option maxRecDepth 100000 in
theorem uX3_fits {S : Shp} {n : Nat} {r : Rf} {v0 : Nat} {v1 : Nat} {v2 : Int32} {h : Hp} {o : Int32} (hW : WF S r) (hv0 : S[v0]? = some (3, 7)) (hv1 : S[v1]? = some (1, 12)) (hf : fX3_fits n r v0 v1 v2 h = some o) : GX3_fits S r r (some o, h) 0 [(0, .ref v0), (1, .ref v1), (2, .int v2)] [] h := by
  unfold fX3_fits at hf
  refine g_iconst (v := 0) dX3_fits_0 (by decide +kernel) ?_
  refine g_istore_n (L' := [(3, .int 0), (0, .ref v0), (1, .ref v1), (2, .int v2)]) dX3_fits_1 rfl (by decide) rfl ?_
  exact g_pick [1, 2, 3, 0] rfl (ulX3_fits_2 hW hv0 hv1 hf)
theorem kX3_fits {S : Shp} {n : Nat} {r : Rf} {v0 : Nat} {v1 : Nat} {v2 : Int32} {h : Hp} {o : Int32} (hW : WF S r) (hv0 : S[v0]? = some (3, 7)) (hv1 : S[v1]? = some (1, 12)) (hf : fX3_fits n r v0 v1 v2 h = some o) : CTi yX3_fits wsX3_fits rmX3_fits S r [.ref v0, .ref v1, .int v2] h r o h :=
  cti_of rfl (by decide +kernel) rfl (Nat.le_of_ble_eq_true rfl) rfl (uX3_fits hW hv0 hv1 hf)
/-! X3_firstWrong firstWrong -/
def rmX3_firstWrong : Room := { frames := 1, cells := 0, slots := 0, locals := 21 }
abbrev GX3_firstWrong (S : Shp) (r r' : Rf) (out : Option Int32 × Hp) (pc : Nat) (L : List (Nat × Value)) (st : List Value) (h : Hp) : Prop := G RX3 cX3_firstWrong 3 (some .int) wsX3_firstWrong rmX3_firstWrong S r r' out pc L st h
theorem nX3_firstWrong_X3 : ∀ w ∈ wsX30, w ∈ wsX3_firstWrong := by decide +kernel
theorem mX3_firstWrong_40_i : Cond.initialized RX5 ∈ wsX3_firstWrong := by decide +kernel
theorem mX3_firstWrong_40_s : Cond.static yX5_has ∈ wsX3_firstWrong := by decide +kernel
theorem mX3_firstWrong_18 : Cond.fieldLink RX3 18 "LinkedIsles$Talk" "entryLink" "[I" ∈ wsX3_firstWrong := by decide +kernel
theorem mX3_firstWrong_25 : Cond.fieldLink RX3 25 "LinkedIsles$Talk" "entryCount" "I" ∈ wsX3_firstWrong := by decide +kernel
theorem mX3_firstWrong_31 : Cond.fieldLink RX3 31 "LinkedIsles$Talk" "toldUp" "I" ∈ wsX3_firstWrong := by decide +kernel
theorem hdX3_firstWrong : yX3_firstWrong.cls ≠ "java/lang/invoke/MethodHandle" ∧ yX3_firstWrong.cls ≠ "java/lang/invoke/VarHandle" ∧ (parseMethodDescriptor yX3_firstWrong.desc).map (fun d => d.parameters.length) = some 1 := by decide +kernel
def bX3_firstWrong_2 (n : Nat) (r : Rf) (v0 : Nat) (v1 : Int32) (v2 : Int32) (h : Hp) : Option ((Int32) ⊕ ((Int32) ⊕ (Unit))) :=
  if (h.1 v0 4) ≤ v2 then (some (.inr (.inr ()))) else (ck v2 20 ((fX5_has n r v1 (h.1 (r v0 2) (Int32.toNatClampNeg v2)) h).bind (fun (x4 : Int32) => (fX5_has n r (h.1 v0 6) v2 h).bind (fun (x6 : Int32) => if x4 = x6 then (lE (v2 + 1) (fun (x8 : Int32) => some (.inl x8))) else (some (.inr (.inl v2)))))))
def lX3_firstWrong_2 (n : Nat) (r : Rf) (v0 : Nat) (v1 : Int32) (v2 : Int32) (h : Hp) : Option Int32 :=
  (it (fun (s : Int32) => bX3_firstWrong_2 n r v0 v1 s h) n v2).bind (fun z => match z with | .inl z => some z | .inr z => some (-1))
def fX3_firstWrong (n : Nat) (r : Rf) (v0 : Nat) (v1 : Int32) (h : Hp) : Option Int32 :=
  lX3_firstWrong_2 n r v0 v1 0 h
set_option maxHeartbeats 4000000 in
set_option maxRecDepth 100000 in
theorem ubX3_firstWrong_2 {S : Shp} {n : Nat} {r : Rf} {out : Option Int32 × Hp} {r' : Rf} {v0 : Nat} {v1 : Int32} {v2 : Int32}  {h : Hp} {w : (Int32) ⊕ ((Int32) ⊕ (Unit))} (hW : WF S r) (hv0 : S[v0]? = some (3, 7)) (hf : bX3_firstWrong_2 n r v0 v1 v2 h = some w) (hk : ∀ y, w = .inl y → GX3_firstWrong S r r' out 2 [(0, .ref v0), (1, .int v1), (2, .int (y))] [] h) (he : ∀ z, w = .inr z → (match z with | .inl z => GX3_firstWrong S r r' out 31 [(0, .ref v0), (2, .int (z))] [] h | .inr z => GX3_firstWrong S r r' out 39 [(0, .ref v0)] [] h)) : GX3_firstWrong S r r' out 2 [(0, .ref v0), (1, .int v1), (2, .int v2)] [] h := by
  unfold bX3_firstWrong_2 at hf
  refine g_iload_n (ps := 2) dX3_firstWrong_2 rfl rfl ?_
  refine g_aload_n (ps := 0) dX3_firstWrong_3 rfl rfl ?_
  refine g_getI cf3 hv0 nX3_firstWrong_X3 (j := 4) (by decide) rfl mX3_firstWrong_25 dX3_firstWrong_4 ?_
  refine g_icmp_ge (tgt := 39) dX3_firstWrong_7 (by decide) (fun c1 => ?_) (fun c1 => ?_)
  · have hf := if_t hf c1
    exact g_pick [0] rfl (he _ (Option.some.inj hf).symm)
  · have hf := if_f hf c1
    refine g_iload_n (ps := 1) dX3_firstWrong_10 rfl rfl ?_
    refine g_aload_n (ps := 0) dX3_firstWrong_11 rfl rfl ?_
    refine g_getR cf3 hv0 nX3_firstWrong_X3 (j := 2) (by decide) rfl mX3_firstWrong_18 dX3_firstWrong_12 ?_
    refine g_iload_n (ps := 2) dX3_firstWrong_15 rfl rfl ?_
    obtain ⟨z2, hf⟩ := ck_s hf
    refine g_iald (hW _ _ _ hv0 2 _ rfl) z2 dX3_firstWrong_16 ?_
    obtain ⟨x4, e3, hf⟩ := bd_s hf
    refine g_callNi (As := [.int v1, .int (h.1 (r v0 2) (Int32.toNatClampNeg v2))]) (n := 2) (kX5_has hW  e3) gX3_firstWrong_X5_has_n40 (fun _ h => h.2.2.1) mX3_firstWrong_40_i mX3_firstWrong_40_s rfl ⟨rfl, rfl⟩ hdX5_has ⟨Nat.le_of_ble_eq_true rfl, Nat.le_of_ble_eq_true rfl⟩ rfl rfl (Nat.le_of_ble_eq_true rfl) dX3_firstWrong_17 ?_
    refine g_aload_n (ps := 0) dX3_firstWrong_20 rfl rfl ?_
    refine g_getI cf3 hv0 nX3_firstWrong_X3 (j := 6) (by decide) rfl mX3_firstWrong_31 dX3_firstWrong_21 ?_
    refine g_iload_n (ps := 2) dX3_firstWrong_24 rfl rfl ?_
    obtain ⟨x6, e5, hf⟩ := bd_s hf
    refine g_callNi (As := [.int (h.1 v0 6), .int v2]) (n := 2) (kX5_has hW  e5) gX3_firstWrong_X5_has_n40 (fun _ h => h.2.2.1) mX3_firstWrong_40_i mX3_firstWrong_40_s rfl ⟨rfl, rfl⟩ hdX5_has ⟨Nat.le_of_ble_eq_true rfl, Nat.le_of_ble_eq_true rfl⟩ rfl rfl (Nat.le_of_ble_eq_true rfl) dX3_firstWrong_25 ?_
    refine g_icmp_eq (tgt := 33) dX3_firstWrong_28 (by decide) (fun c7 => ?_) (fun c7 => ?_)
    · have hf := if_t hf c7
      obtain ⟨x8, ex8⟩ : ∃ y : Int32, y = v2 + 1 := ⟨_, rfl⟩
      have hf := lE_s hf ex8
      refine g_iinc (ps := 2) (v := x8) (L' := [(2, .int x8), (0, .ref v0), (1, .int v1)]) dX3_firstWrong_33 rfl (by rw [ex8]; rfl) (by decide) rfl ?_
      refine g_goto (tgt := 2) dX3_firstWrong_36 (by decide) ?_
      exact g_pick [1, 2, 0] rfl (hk _ (Option.some.inj hf).symm)
    · have hf := if_f hf c7
      exact g_pick [0, 2] rfl (he _ (Option.some.inj hf).symm)
set_option maxHeartbeats 4000000 in
set_option maxRecDepth 100000 in
theorem ulX3_firstWrong_2 {S : Shp} {n : Nat} {r : Rf} {v0 : Nat} {v1 : Int32} {v2 : Int32}  {h : Hp} {o : Int32} (hW : WF S r) (hv0 : S[v0]? = some (3, 7)) (hf : lX3_firstWrong_2 n r v0 v1 v2 h = some o)  : GX3_firstWrong S r r (some o, h) 2 [(0, .ref v0), (1, .int v1), (2, .int v2)] [] h := by
  unfold lX3_firstWrong_2 at hf
  obtain ⟨z0, ei, hf⟩ := bd_s hf
  refine it_ind (P := fun (s : Int32) => GX3_firstWrong S r r (some o, h) 2 [(0, .ref v0), (1, .int v1), (2, .int s)] [] h) (fun s w hb hk2 he2 => ?_) n _ ei
  refine ubX3_firstWrong_2 (out := (some o, h)) (r' := r) hW hv0 hb hk2 (fun z hz => ?_)
  have hz := he2 z hz
  subst hz
  rcases z with z | z
  · refine g_iload_n (ps := 1) dX3_firstWrong_31 rfl rfl ?_
    have hf := Option.some.inj hf
    subst hf
    exact g_iret dX3_firstWrong_32
  · refine g_iconst (v := (-1)) dX3_firstWrong_39 (by decide +kernel) ?_
    have hf := Option.some.inj hf
    subst hf
    exact g_iret dX3_firstWrong_40
set_option maxHeartbeats 4000000 in
set_option maxRecDepth 100000 in
theorem uX3_firstWrong {S : Shp} {n : Nat} {r : Rf} {v0 : Nat} {v1 : Int32} {h : Hp} {o : Int32} (hW : WF S r) (hv0 : S[v0]? = some (3, 7)) (hf : fX3_firstWrong n r v0 v1 h = some o) : GX3_firstWrong S r r (some o, h) 0 [(0, .ref v0), (1, .int v1)] [] h := by
  unfold fX3_firstWrong at hf
  refine g_iconst (v := 0) dX3_firstWrong_0 (by decide +kernel) ?_
  refine g_istore_n (L' := [(2, .int 0), (0, .ref v0), (1, .int v1)]) dX3_firstWrong_1 rfl (by decide) rfl ?_
  exact g_pick [1, 2, 0] rfl (ulX3_firstWrong_2 hW hv0 hf)
theorem kX3_firstWrong {S : Shp} {n : Nat} {r : Rf} {v0 : Nat} {v1 : Int32} {h : Hp} {o : Int32} (hW : WF S r) (hv0 : S[v0]? = some (3, 7)) (hf : fX3_firstWrong n r v0 v1 h = some o) : CTi yX3_firstWrong wsX3_firstWrong rmX3_firstWrong S r [.ref v0, .int v1] h r o h :=
  cti_of rfl (by decide +kernel) rfl (Nat.le_of_ble_eq_true rfl) rfl (uX3_firstWrong hW hv0 hf)
/-! X4_add add -/
def rmX4_add : Room := { frames := 0, cells := 0, slots := 0, locals := 0 }
abbrev GX4_add (S : Shp) (r r' : Rf) (out : Option Int32 × Hp) (pc : Nat) (L : List (Nat × Value)) (st : List Value) (h : Hp) : Prop := G RX4 cX4_add 2 (some .int) wsX4_add rmX4_add S r r' out pc L st h
theorem nX4_add_X4 : ∀ w ∈ wsX40, w ∈ wsX4_add := by decide +kernel
theorem mX4_add_15 : Cond.fieldLink RX4 15 "LinkedIsles$Text" "count" "I" ∈ wsX4_add := by decide +kernel
theorem mX4_add_9 : Cond.fieldLink RX4 9 "LinkedIsles$Text" "letters" "[I" ∈ wsX4_add := by decide +kernel
theorem hdX4_add : yX4_add.cls ≠ "java/lang/invoke/MethodHandle" ∧ yX4_add.cls ≠ "java/lang/invoke/VarHandle" ∧ (parseMethodDescriptor yX4_add.desc).map (fun d => d.parameters.length) = some 1 := by decide +kernel
def fX4_add (n : Nat) (r : Rf) (v0 : Nat) (v1 : Int32) (h : Hp) : Option (Int32 × Hp) :=
  if 240 ≤ (h.1 v0 1) then (some ((h.1 v0 1), h)) else (ck (h.1 v0 1) 240 (lE (pI h (r v0 0) (Int32.toNatClampNeg (h.1 v0 1)) v1) (fun (h3 : Hp) => lE (pI h3 v0 1 ((h3.1 v0 1) + 1)) (fun (h4 : Hp) => some ((h4.1 v0 1), h4)))))
set_option maxHeartbeats 4000000 in
set_option maxRecDepth 100000 in
theorem uX4_add {S : Shp} {n : Nat} {r : Rf} {v0 : Nat} {v1 : Int32} {h : Hp} {o : (Int32 × Hp)} (hW : WF S r) (hv0 : S[v0]? = some (4, 5)) (hf : fX4_add n r v0 v1 h = some o) : GX4_add S r r (some o.1, o.2) 0 [(0, .ref v0), (1, .int v1)] [] h := by
  unfold fX4_add at hf
  refine g_aload_n (ps := 0) dX4_add_0 rfl rfl ?_
  refine g_getI cf4 hv0 nX4_add_X4 (j := 1) (by decide) rfl mX4_add_15 dX4_add_1 ?_
  refine g_sipush (v := 240) dX4_add_4 (by decide +kernel) ?_
  refine g_icmp_ge (tgt := 30) dX4_add_7 (by decide) (fun c1 => ?_) (fun c1 => ?_)
  · have hf := if_t hf c1
    refine g_aload_n (ps := 0) dX4_add_30 rfl rfl ?_
    refine g_getI cf4 hv0 nX4_add_X4 (j := 1) (by decide) rfl mX4_add_15 dX4_add_31 ?_
    have hf := Option.some.inj hf
    subst hf
    exact g_iret dX4_add_34
  · have hf := if_f hf c1
    refine g_aload_n (ps := 0) dX4_add_10 rfl rfl ?_
    refine g_getR cf4 hv0 nX4_add_X4 (j := 0) (by decide) rfl mX4_add_9 dX4_add_11 ?_
    refine g_aload_n (ps := 0) dX4_add_14 rfl rfl ?_
    refine g_getI cf4 hv0 nX4_add_X4 (j := 1) (by decide) rfl mX4_add_15 dX4_add_15 ?_
    refine g_iload_n (ps := 1) dX4_add_18 rfl rfl ?_
    obtain ⟨z2, hf⟩ := ck_s hf
    refine g_iast (hW _ _ _ hv0 0 _ rfl) z2 dX4_add_19 ?_
    refine g_topH (fun h3 eh3 => ?_)
    have hf := lE_s hf eh3
    refine g_aload_n (ps := 0) dX4_add_20 rfl rfl ?_
    refine g_dup dX4_add_21 rfl ?_
    refine g_getI cf4 hv0 nX4_add_X4 (j := 1) (by decide) rfl mX4_add_15 dX4_add_22 ?_
    refine g_iconst (v := 1) dX4_add_25 (by decide +kernel) ?_
    refine g_iadd dX4_add_26 ?_
    refine g_putI cf4 hv0 nX4_add_X4 (j := 1) (by decide) rfl mX4_add_15 rfl dX4_add_27 ?_
    refine g_topH (fun h4 eh4 => ?_)
    have hf := lE_s hf eh4
    refine g_aload_n (ps := 0) dX4_add_30 rfl rfl ?_
    refine g_getI cf4 hv0 nX4_add_X4 (j := 1) (by decide) rfl mX4_add_15 dX4_add_31 ?_
    have hf := Option.some.inj hf
    subst hf
    exact g_iret dX4_add_34
theorem kX4_add {S : Shp} {n : Nat} {r : Rf} {v0 : Nat} {v1 : Int32} {h : Hp} {o : (Int32 × Hp)} (hW : WF S r) (hv0 : S[v0]? = some (4, 5)) (hf : fX4_add n r v0 v1 h = some o) : CTi yX4_add wsX4_add rmX4_add S r [.ref v0, .int v1] h r o.1 o.2 :=
  cti_of rfl (by decide +kernel) rfl (Nat.le_of_ble_eq_true rfl) rfl (uX4_add hW hv0 hf)
/-! X4_skipBlanks skipBlanks -/
def rmX4_skipBlanks : Room := { frames := 0, cells := 0, slots := 0, locals := 0 }
abbrev GX4_skipBlanks (S : Shp) (r r' : Rf) (out : Option Int32 × Hp) (pc : Nat) (L : List (Nat × Value)) (st : List Value) (h : Hp) : Prop := G RX4 cX4_skipBlanks 1 none wsX4_skipBlanks rmX4_skipBlanks S r r' out pc L st h
theorem nX4_skipBlanks_X4 : ∀ w ∈ wsX40, w ∈ wsX4_skipBlanks := by decide +kernel
theorem mX4_skipBlanks_15 : Cond.fieldLink RX4 15 "LinkedIsles$Text" "count" "I" ∈ wsX4_skipBlanks := by decide +kernel
theorem mX4_skipBlanks_19 : Cond.fieldLink RX4 19 "LinkedIsles$Text" "at" "I" ∈ wsX4_skipBlanks := by decide +kernel
theorem mX4_skipBlanks_9 : Cond.fieldLink RX4 9 "LinkedIsles$Text" "letters" "[I" ∈ wsX4_skipBlanks := by decide +kernel
theorem hdX4_skipBlanks : yX4_skipBlanks.cls ≠ "java/lang/invoke/MethodHandle" ∧ yX4_skipBlanks.cls ≠ "java/lang/invoke/VarHandle" ∧ (parseMethodDescriptor yX4_skipBlanks.desc).map (fun d => d.parameters.length) = some 0 := by decide +kernel
def bX4_skipBlanks_0 (n : Nat) (r : Rf) (v0 : Nat) (h : Hp) : Option ((Hp) ⊕ (Hp)) :=
  if (h.1 v0 1) ≤ (h.1 v0 2) then (some (.inr h)) else (ck (h.1 v0 2) 240 (if (h.1 (r v0 0) (Int32.toNatClampNeg (h.1 v0 2))) = 32 then (lE (pI h v0 2 ((h.1 v0 2) + 1)) (fun (h4 : Hp) => some (.inl h4))) else (some (.inr h))))
def lX4_skipBlanks_0 (n : Nat) (r : Rf) (v0 : Nat) (h : Hp) : Option Hp :=
  (it (fun (s : Hp) => bX4_skipBlanks_0 n r v0 s) n h).bind (fun z => some z)
def fX4_skipBlanks (n : Nat) (r : Rf) (v0 : Nat) (h : Hp) : Option Hp :=
  lX4_skipBlanks_0 n r v0 h
set_option maxHeartbeats 4000000 in
set_option maxRecDepth 100000 in
theorem ubX4_skipBlanks_0 {S : Shp} {n : Nat} {r : Rf} {out : Option Int32 × Hp} {r' : Rf} {v0 : Nat}  {h : Hp} {w : (Hp) ⊕ (Hp)} (hW : WF S r) (hv0 : S[v0]? = some (4, 5)) (hf : bX4_skipBlanks_0 n r v0 h = some w) (hk : ∀ y, w = .inl y → GX4_skipBlanks S r r' out 0 [(0, .ref v0)] [] (y)) (he : ∀ z, w = .inr z → GX4_skipBlanks S r r' out 38 [(0, .ref v0)] [] (z)) : GX4_skipBlanks S r r' out 0 [(0, .ref v0)] [] h := by
  unfold bX4_skipBlanks_0 at hf
  refine g_aload_n (ps := 0) dX4_skipBlanks_0 rfl rfl ?_
  refine g_getI cf4 hv0 nX4_skipBlanks_X4 (j := 2) (by decide) rfl mX4_skipBlanks_19 dX4_skipBlanks_1 ?_
  refine g_aload_n (ps := 0) dX4_skipBlanks_4 rfl rfl ?_
  refine g_getI cf4 hv0 nX4_skipBlanks_X4 (j := 1) (by decide) rfl mX4_skipBlanks_15 dX4_skipBlanks_5 ?_
  refine g_icmp_ge (tgt := 38) dX4_skipBlanks_8 (by decide) (fun c1 => ?_) (fun c1 => ?_)
  · have hf := if_t hf c1
    exact g_pick [0] rfl (he _ (Option.some.inj hf).symm)
  · have hf := if_f hf c1
    refine g_aload_n (ps := 0) dX4_skipBlanks_11 rfl rfl ?_
    refine g_getR cf4 hv0 nX4_skipBlanks_X4 (j := 0) (by decide) rfl mX4_skipBlanks_9 dX4_skipBlanks_12 ?_
    refine g_aload_n (ps := 0) dX4_skipBlanks_15 rfl rfl ?_
    refine g_getI cf4 hv0 nX4_skipBlanks_X4 (j := 2) (by decide) rfl mX4_skipBlanks_19 dX4_skipBlanks_16 ?_
    obtain ⟨z2, hf⟩ := ck_s hf
    refine g_iald (hW _ _ _ hv0 0 _ rfl) z2 dX4_skipBlanks_19 ?_
    refine g_bipush (v := 32) dX4_skipBlanks_20 (by decide +kernel) ?_
    refine g_icmp_ne (tgt := 38) dX4_skipBlanks_22 (by decide) (fun c3 => ?_) (fun c3 => ?_)
    · have hf := if_f hf c3
      exact g_pick [0] rfl (he _ (Option.some.inj hf).symm)
    · have hf := if_t hf c3
      refine g_aload_n (ps := 0) dX4_skipBlanks_25 rfl rfl ?_
      refine g_dup dX4_skipBlanks_26 rfl ?_
      refine g_getI cf4 hv0 nX4_skipBlanks_X4 (j := 2) (by decide) rfl mX4_skipBlanks_19 dX4_skipBlanks_27 ?_
      refine g_iconst (v := 1) dX4_skipBlanks_30 (by decide +kernel) ?_
      refine g_iadd dX4_skipBlanks_31 ?_
      refine g_putI cf4 hv0 nX4_skipBlanks_X4 (j := 2) (by decide) rfl mX4_skipBlanks_19 rfl dX4_skipBlanks_32 ?_
      refine g_topH (fun h4 eh4 => ?_)
      have hf := lE_s hf eh4
      refine g_goto (tgt := 0) dX4_skipBlanks_35 (by decide) ?_
      exact g_pick [0] rfl (hk _ (Option.some.inj hf).symm)
set_option maxHeartbeats 4000000 in
set_option maxRecDepth 100000 in
theorem ulX4_skipBlanks_0 {S : Shp} {n : Nat} {r : Rf} {v0 : Nat}  {h : Hp} {o : Hp} (hW : WF S r) (hv0 : S[v0]? = some (4, 5)) (hf : lX4_skipBlanks_0 n r v0 h = some o)  : GX4_skipBlanks S r r (none, o) 0 [(0, .ref v0)] [] h := by
  unfold lX4_skipBlanks_0 at hf
  obtain ⟨z0, ei, hf⟩ := bd_s hf
  refine it_ind (P := fun (s : Hp) => GX4_skipBlanks S r r (none, o) 0 [(0, .ref v0)] [] s) (fun s w hb hk2 he2 => ?_) n _ ei
  refine ubX4_skipBlanks_0 (out := (none, o)) (r' := r) hW hv0 hb hk2 (fun z hz => ?_)
  have hz := he2 z hz
  subst hz
  have hf := Option.some.inj hf
  subst hf
  exact g_vret dX4_skipBlanks_38
set_option maxHeartbeats 4000000 in
set_option maxRecDepth 100000 in
theorem uX4_skipBlanks {S : Shp} {n : Nat} {r : Rf} {v0 : Nat} {h : Hp} {o : Hp} (hW : WF S r) (hv0 : S[v0]? = some (4, 5)) (hf : fX4_skipBlanks n r v0 h = some o) : GX4_skipBlanks S r r (none, o) 0 [(0, .ref v0)] [] h := by
  unfold fX4_skipBlanks at hf
  exact g_pick [0] rfl (ulX4_skipBlanks_0 hW hv0 hf)
theorem kX4_skipBlanks {S : Shp} {n : Nat} {r : Rf} {v0 : Nat} {h : Hp} {o : Hp} (hW : WF S r) (hv0 : S[v0]? = some (4, 5)) (hf : fX4_skipBlanks n r v0 h = some o) : CTv yX4_skipBlanks wsX4_skipBlanks rmX4_skipBlanks S r [.ref v0] h r o :=
  ctv_of rfl (by decide +kernel) rfl (Nat.le_of_ble_eq_true rfl) rfl (uX4_skipBlanks hW hv0 hf)
/-! X4_fail fail -/
def rmX4_fail : Room := { frames := 0, cells := 0, slots := 0, locals := 0 }
abbrev GX4_fail (S : Shp) (r r' : Rf) (out : Option Int32 × Hp) (pc : Nat) (L : List (Nat × Value)) (st : List Value) (h : Hp) : Prop := G RX4 cX4_fail 3 none wsX4_fail rmX4_fail S r r' out pc L st h
theorem nX4_fail_X4 : ∀ w ∈ wsX40, w ∈ wsX4_fail := by decide +kernel
theorem mX4_fail_22 : Cond.fieldLink RX4 22 "LinkedIsles$Text" "fault" "I" ∈ wsX4_fail := by decide +kernel
theorem mX4_fail_25 : Cond.fieldLink RX4 25 "LinkedIsles$Text" "faultAt" "I" ∈ wsX4_fail := by decide +kernel
theorem hdX4_fail : yX4_fail.cls ≠ "java/lang/invoke/MethodHandle" ∧ yX4_fail.cls ≠ "java/lang/invoke/VarHandle" ∧ (parseMethodDescriptor yX4_fail.desc).map (fun d => d.parameters.length) = some 2 := by decide +kernel
def fX4_fail (n : Nat) (r : Rf) (v0 : Nat) (v1 : Int32) (v2 : Int32) (h : Hp) : Option Hp :=
  if (h.1 v0 3) = 0 then (lE (pI h v0 3 v1) (fun (h2 : Hp) => lE (pI h2 v0 4 v2) (fun (h3 : Hp) => some h3))) else (some h)
set_option maxHeartbeats 4000000 in
set_option maxRecDepth 100000 in
theorem uX4_fail {S : Shp} {n : Nat} {r : Rf} {v0 : Nat} {v1 : Int32} {v2 : Int32} {h : Hp} {o : Hp} (hW : WF S r) (hv0 : S[v0]? = some (4, 5)) (hf : fX4_fail n r v0 v1 v2 h = some o) : GX4_fail S r r (none, o) 0 [(0, .ref v0), (1, .int v1), (2, .int v2)] [] h := by
  unfold fX4_fail at hf
  refine g_aload_n (ps := 0) dX4_fail_0 rfl rfl ?_
  refine g_getI cf4 hv0 nX4_fail_X4 (j := 3) (by decide) rfl mX4_fail_22 dX4_fail_1 ?_
  refine g_if_ne (tgt := 17) dX4_fail_4 (by decide) (fun c1 => ?_) (fun c1 => ?_)
  · have hf := if_f hf c1
    have hf := Option.some.inj hf
    subst hf
    exact g_vret dX4_fail_17
  · have hf := if_t hf c1
    refine g_aload_n (ps := 0) dX4_fail_7 rfl rfl ?_
    refine g_iload_n (ps := 1) dX4_fail_8 rfl rfl ?_
    refine g_putI cf4 hv0 nX4_fail_X4 (j := 3) (by decide) rfl mX4_fail_22 rfl dX4_fail_9 ?_
    refine g_topH (fun h2 eh2 => ?_)
    have hf := lE_s hf eh2
    refine g_aload_n (ps := 0) dX4_fail_12 rfl rfl ?_
    refine g_iload_n (ps := 2) dX4_fail_13 rfl rfl ?_
    refine g_putI cf4 hv0 nX4_fail_X4 (j := 4) (by decide) rfl mX4_fail_25 rfl dX4_fail_14 ?_
    refine g_topH (fun h3 eh3 => ?_)
    have hf := lE_s hf eh3
    have hf := Option.some.inj hf
    subst hf
    exact g_vret dX4_fail_17
theorem kX4_fail {S : Shp} {n : Nat} {r : Rf} {v0 : Nat} {v1 : Int32} {v2 : Int32} {h : Hp} {o : Hp} (hW : WF S r) (hv0 : S[v0]? = some (4, 5)) (hf : fX4_fail n r v0 v1 v2 h = some o) : CTv yX4_fail wsX4_fail rmX4_fail S r [.ref v0, .int v1, .int v2] h r o :=
  ctv_of rfl (by decide +kernel) rfl (Nat.le_of_ble_eq_true rfl) rfl (uX4_fail hW hv0 hf)
/-! X5_isWithin isWithin -/
def rmX5_isWithin : Room := { frames := 0, cells := 0, slots := 0, locals := 0 }
abbrev GX5_isWithin (S : Shp) (r r' : Rf) (out : Option Int32 × Hp) (pc : Nat) (L : List (Nat × Value)) (st : List Value) (h : Hp) : Prop := G RX5 cX5_isWithin 3 (some .boolean) wsX5_isWithin rmX5_isWithin S r r' out pc L st h
theorem hdX5_isWithin : yX5_isWithin.cls ≠ "java/lang/invoke/MethodHandle" ∧ yX5_isWithin.cls ≠ "java/lang/invoke/VarHandle" ∧ (parseMethodDescriptor yX5_isWithin.desc).map (fun d => d.parameters.length) = some 3 := by decide +kernel
def fX5_isWithin (n : Nat) (r : Rf) (v0 : Int32) (v1 : Int32) (v2 : Int32) (h : Hp) : Option Int32 :=
  if v0 < v1 then (some 0) else (if v2 < v0 then (some 0) else (some 1))
set_option maxHeartbeats 4000000 in
set_option maxRecDepth 100000 in
theorem uX5_isWithin {S : Shp} {n : Nat} {r : Rf} {v0 : Int32} {v1 : Int32} {v2 : Int32} {h : Hp} {o : Int32} (hW : WF S r)  (hf : fX5_isWithin n r v0 v1 v2 h = some o) : GX5_isWithin S r r (some o, h) 0 [(0, .int v0), (1, .int v1), (2, .int v2)] [] h := by
  unfold fX5_isWithin at hf
  refine g_iload_n (ps := 0) dX5_isWithin_0 rfl rfl ?_
  refine g_iload_n (ps := 1) dX5_isWithin_1 rfl rfl ?_
  refine g_icmp_lt (tgt := 14) dX5_isWithin_2 (by decide) (fun c1 => ?_) (fun c1 => ?_)
  · have hf := if_t hf c1
    refine g_iconst (v := 0) dX5_isWithin_14 (by decide +kernel) ?_
    have hf := Option.some.inj hf
    subst hf
    exact g_zret (Or.inl rfl) dX5_isWithin_15
  · have hf := if_f hf c1
    refine g_iload_n (ps := 0) dX5_isWithin_5 rfl rfl ?_
    refine g_iload_n (ps := 2) dX5_isWithin_6 rfl rfl ?_
    refine g_icmp_gt (tgt := 14) dX5_isWithin_7 (by decide) (fun c2 => ?_) (fun c2 => ?_)
    · have hf := if_t hf c2
      refine g_iconst (v := 0) dX5_isWithin_14 (by decide +kernel) ?_
      have hf := Option.some.inj hf
      subst hf
      exact g_zret (Or.inl rfl) dX5_isWithin_15
    · have hf := if_f hf c2
      refine g_iconst (v := 1) dX5_isWithin_10 (by decide +kernel) ?_
      refine g_goto (tgt := 15) dX5_isWithin_11 (by decide) ?_
      have hf := Option.some.inj hf
      subst hf
      exact g_zret (Or.inr rfl) dX5_isWithin_15
theorem kX5_isWithin {S : Shp} {n : Nat} {r : Rf} {v0 : Int32} {v1 : Int32} {v2 : Int32} {h : Hp} {o : Int32} (hW : WF S r)  (hf : fX5_isWithin n r v0 v1 v2 h = some o) : CTi yX5_isWithin wsX5_isWithin rmX5_isWithin S r [.int v0, .int v1, .int v2] h r o h :=
  cti_of rfl (by decide +kernel) rfl (Nat.le_of_ble_eq_true rfl) rfl (uX5_isWithin hW  hf)
/-! X4_number number -/
def rmX4_number : Room := { frames := 1, cells := 0, slots := 0, locals := 22 }
abbrev GX4_number (S : Shp) (r r' : Rf) (out : Option Int32 × Hp) (pc : Nat) (L : List (Nat × Value)) (st : List Value) (h : Hp) : Prop := G RX4 cX4_number 5 (some .int) wsX4_number rmX4_number S r r' out pc L st h
theorem nX4_number_X4 : ∀ w ∈ wsX40, w ∈ wsX4_number := by decide +kernel
theorem mX4_number_102_i : Cond.initialized RX5 ∈ wsX4_number := by decide +kernel
theorem mX4_number_102_s : Cond.static yX5_isWithin ∈ wsX4_number := by decide +kernel
theorem mX4_number_15 : Cond.fieldLink RX4 15 "LinkedIsles$Text" "count" "I" ∈ wsX4_number := by decide +kernel
theorem mX4_number_19 : Cond.fieldLink RX4 19 "LinkedIsles$Text" "at" "I" ∈ wsX4_number := by decide +kernel
theorem mX4_number_9 : Cond.fieldLink RX4 9 "LinkedIsles$Text" "letters" "[I" ∈ wsX4_number := by decide +kernel
theorem hdX4_number : yX4_number.cls ≠ "java/lang/invoke/MethodHandle" ∧ yX4_number.cls ≠ "java/lang/invoke/VarHandle" ∧ (parseMethodDescriptor yX4_number.desc).map (fun d => d.parameters.length) = some 2 := by decide +kernel
def jX4_number_81 (n : Nat) (r : Rf) (v0 : Nat) (v1 : Int32) (v2 : Int32) (v3 : Int32) (v4 : Int32)  (h : Hp) : Option ((Int32 × Hp) ⊕ (Int32 × Hp)) :=
  lE (pI h v0 2 ((h.1 v0 2) + 1)) (fun (h10 : Hp) => some (.inl (v4, h10)))
def bX4_number_12 (n : Nat) (r : Rf) (v0 : Nat) (v1 : Int32) (v2 : Int32) (v3 : Int32) (v4 : Int32) (h : Hp) : Option ((Int32 × Hp) ⊕ (Int32 × Hp)) :=
  if (h.1 v0 1) ≤ (h.1 v0 2) then (some (.inr (v4, h))) else (ck (h.1 v0 2) 240 (if (h.1 (r v0 0) (Int32.toNatClampNeg (h.1 v0 2))) < 48 then (some (.inr (v4, h))) else (ck (h.1 v0 2) 240 (if 57 < (h.1 (r v0 0) (Int32.toNatClampNeg (h.1 v0 2))) then (some (.inr (v4, h))) else (if 3 ≤ ((h.1 v0 2) - v3) then (jX4_number_81 n r v0 v1 v2 v3 v4  h) else (ck (h.1 v0 2) 240 (lE ((((v4 * 10) + (h.1 (r v0 0) (Int32.toNatClampNeg (h.1 v0 2)))) - 48)) (fun (x12 : Int32) => jX4_number_81 n r v0 v1 v2 v3 x12  h))))))))
def jX4_number_131 (n : Nat) (r : Rf) (v0 : Nat) (v3 : Int32) (v4 : Int32)  (h : Hp) : Option (Int32 × Hp) :=
  (fX4_fail n r v0 2 v3 h).bind (fun (h16 : Hp) => some (v4, h16))
def jX4_number_94 (n : Nat) (r : Rf) (v0 : Nat) (v1 : Int32) (v2 : Int32) (v3 : Int32) (v4 : Int32)  (h : Hp) : Option (Int32 × Hp) :=
  if (h.1 v0 2) = v3 then ((fX4_fail n r v0 1 v3 h).bind (fun (h21 : Hp) => some (v4, h21))) else (if 3 < ((h.1 v0 2) - v3) then (jX4_number_131 n r v0 v3 v4  h) else ((fX5_isWithin n r v4 v1 v2 h).bind (fun (x18 : Int32) => if x18 = 0 then (jX4_number_131 n r v0 v3 v4  h) else (some (v4, h)))))
def lX4_number_12 (n : Nat) (r : Rf) (v0 : Nat) (v1 : Int32) (v2 : Int32) (v3 : Int32) (v4 : Int32) (h : Hp) : Option (Int32 × Hp) :=
  (it (fun (s : Int32 × Hp) => bX4_number_12 n r v0 v1 v2 v3 s.1 s.2) n (v4, h)).bind (fun z => jX4_number_94 n r v0 v1 v2 v3 (z.1)  (z.2))
def fX4_number (n : Nat) (r : Rf) (v0 : Nat) (v1 : Int32) (v2 : Int32) (h : Hp) : Option (Int32 × Hp) :=
  (fX4_skipBlanks n r v0 h).bind (fun (h2 : Hp) => lE ((h2.1 v0 2)) (fun (x3 : Int32) => lX4_number_12 n r v0 v1 v2 x3 0 h2))
set_option maxHeartbeats 4000000 in
set_option maxRecDepth 100000 in
theorem ujX4_number_81 {S : Shp} {n : Nat} {r : Rf} {out : Option Int32 × Hp} {r' : Rf} {v0 : Nat} {v1 : Int32} {v2 : Int32} {v3 : Int32} {v4 : Int32}  {h : Hp} {w : (Int32 × Hp) ⊕ (Int32 × Hp)} (hW : WF S r) (hv0 : S[v0]? = some (4, 5)) (hf : jX4_number_81 n r v0 v1 v2 v3 v4  h = some w) (hk : ∀ y, w = .inl y → GX4_number S r r' out 12 [(0, .ref v0), (1, .int v1), (2, .int v2), (3, .int v3), (4, .int (y.1))] [] (y.2)) (he : ∀ z, w = .inr z → GX4_number S r r' out 94 [(0, .ref v0), (1, .int v1), (2, .int v2), (3, .int v3), (4, .int (z.1))] [] (z.2)) : GX4_number S r r' out 81 [(0, .ref v0), (1, .int v1), (2, .int v2), (3, .int v3), (4, .int v4)] [] h := by
  unfold jX4_number_81 at hf
  refine g_aload_n (ps := 0) dX4_number_81 rfl rfl ?_
  refine g_dup dX4_number_82 rfl ?_
  refine g_getI cf4 hv0 nX4_number_X4 (j := 2) (by decide) rfl mX4_number_19 dX4_number_83 ?_
  refine g_iconst (v := 1) dX4_number_86 (by decide +kernel) ?_
  refine g_iadd dX4_number_87 ?_
  refine g_putI cf4 hv0 nX4_number_X4 (j := 2) (by decide) rfl mX4_number_19 rfl dX4_number_88 ?_
  refine g_topH (fun h10 eh10 => ?_)
  have hf := lE_s hf eh10
  refine g_goto (tgt := 12) dX4_number_91 (by decide) ?_
  exact g_pick [0, 1, 2, 3, 4] rfl (hk _ (Option.some.inj hf).symm)
set_option maxHeartbeats 4000000 in
set_option maxRecDepth 100000 in
theorem ubX4_number_12 {S : Shp} {n : Nat} {r : Rf} {out : Option Int32 × Hp} {r' : Rf} {v0 : Nat} {v1 : Int32} {v2 : Int32} {v3 : Int32} {v4 : Int32}  {h : Hp} {w : (Int32 × Hp) ⊕ (Int32 × Hp)} (hW : WF S r) (hv0 : S[v0]? = some (4, 5)) (hf : bX4_number_12 n r v0 v1 v2 v3 v4 h = some w) (hk : ∀ y, w = .inl y → GX4_number S r r' out 12 [(0, .ref v0), (1, .int v1), (2, .int v2), (3, .int v3), (4, .int (y.1))] [] (y.2)) (he : ∀ z, w = .inr z → GX4_number S r r' out 94 [(0, .ref v0), (1, .int v1), (2, .int v2), (3, .int v3), (4, .int (z.1))] [] (z.2)) : GX4_number S r r' out 12 [(0, .ref v0), (1, .int v1), (2, .int v2), (3, .int v3), (4, .int v4)] [] h := by
  unfold bX4_number_12 at hf
  refine g_aload_n (ps := 0) dX4_number_12 rfl rfl ?_
  refine g_getI cf4 hv0 nX4_number_X4 (j := 2) (by decide) rfl mX4_number_19 dX4_number_13 ?_
  refine g_aload_n (ps := 0) dX4_number_16 rfl rfl ?_
  refine g_getI cf4 hv0 nX4_number_X4 (j := 1) (by decide) rfl mX4_number_15 dX4_number_17 ?_
  refine g_icmp_ge (tgt := 94) dX4_number_20 (by decide) (fun c4 => ?_) (fun c4 => ?_)
  · have hf := if_t hf c4
    exact g_pick [0, 1, 2, 3, 4] rfl (he _ (Option.some.inj hf).symm)
  · have hf := if_f hf c4
    refine g_aload_n (ps := 0) dX4_number_23 rfl rfl ?_
    refine g_getR cf4 hv0 nX4_number_X4 (j := 0) (by decide) rfl mX4_number_9 dX4_number_24 ?_
    refine g_aload_n (ps := 0) dX4_number_27 rfl rfl ?_
    refine g_getI cf4 hv0 nX4_number_X4 (j := 2) (by decide) rfl mX4_number_19 dX4_number_28 ?_
    obtain ⟨z5, hf⟩ := ck_s hf
    refine g_iald (hW _ _ _ hv0 0 _ rfl) z5 dX4_number_31 ?_
    refine g_bipush (v := 48) dX4_number_32 (by decide +kernel) ?_
    refine g_icmp_lt (tgt := 94) dX4_number_34 (by decide) (fun c6 => ?_) (fun c6 => ?_)
    · have hf := if_t hf c6
      exact g_pick [0, 1, 2, 3, 4] rfl (he _ (Option.some.inj hf).symm)
    · have hf := if_f hf c6
      refine g_aload_n (ps := 0) dX4_number_37 rfl rfl ?_
      refine g_getR cf4 hv0 nX4_number_X4 (j := 0) (by decide) rfl mX4_number_9 dX4_number_38 ?_
      refine g_aload_n (ps := 0) dX4_number_41 rfl rfl ?_
      refine g_getI cf4 hv0 nX4_number_X4 (j := 2) (by decide) rfl mX4_number_19 dX4_number_42 ?_
      obtain ⟨z7, hf⟩ := ck_s hf
      refine g_iald (hW _ _ _ hv0 0 _ rfl) z7 dX4_number_45 ?_
      refine g_bipush (v := 57) dX4_number_46 (by decide +kernel) ?_
      refine g_icmp_gt (tgt := 94) dX4_number_48 (by decide) (fun c8 => ?_) (fun c8 => ?_)
      · have hf := if_t hf c8
        exact g_pick [0, 1, 2, 3, 4] rfl (he _ (Option.some.inj hf).symm)
      · have hf := if_f hf c8
        refine g_aload_n (ps := 0) dX4_number_51 rfl rfl ?_
        refine g_getI cf4 hv0 nX4_number_X4 (j := 2) (by decide) rfl mX4_number_19 dX4_number_52 ?_
        refine g_iload_n (ps := 3) dX4_number_55 rfl rfl ?_
        refine g_isub dX4_number_56 ?_
        refine g_iconst (v := 3) dX4_number_57 (by decide +kernel) ?_
        refine g_icmp_ge (tgt := 81) dX4_number_58 (by decide) (fun c9 => ?_) (fun c9 => ?_)
        · have hf := if_t hf c9
          exact g_pick [0, 1, 2, 3, 4] rfl (ujX4_number_81 hW hv0 hf hk he)
        · have hf := if_f hf c9
          refine g_iload (ps := 4) dX4_number_61 rfl ?_
          refine g_bipush (v := 10) dX4_number_63 (by decide +kernel) ?_
          refine g_imul dX4_number_65 ?_
          refine g_aload_n (ps := 0) dX4_number_66 rfl rfl ?_
          refine g_getR cf4 hv0 nX4_number_X4 (j := 0) (by decide) rfl mX4_number_9 dX4_number_67 ?_
          refine g_aload_n (ps := 0) dX4_number_70 rfl rfl ?_
          refine g_getI cf4 hv0 nX4_number_X4 (j := 2) (by decide) rfl mX4_number_19 dX4_number_71 ?_
          obtain ⟨z11, hf⟩ := ck_s hf
          refine g_iald (hW _ _ _ hv0 0 _ rfl) z11 dX4_number_74 ?_
          refine g_iadd dX4_number_75 ?_
          refine g_bipush (v := 48) dX4_number_76 (by decide +kernel) ?_
          refine g_isub dX4_number_78 ?_
          refine g_topi (fun x12 ex12 => ?_)
          have hf := lE_s hf ex12
          refine g_istore (L' := [(4, .int x12), (0, .ref v0), (1, .int v1), (2, .int v2), (3, .int v3)]) dX4_number_79 (by decide) rfl ?_
          exact g_pick [1, 2, 3, 4, 0] rfl (ujX4_number_81 hW hv0 hf hk he)
set_option maxHeartbeats 4000000 in
set_option maxRecDepth 100000 in
theorem ujX4_number_131 {S : Shp} {n : Nat} {r : Rf} {v0 : Nat} {v3 : Int32} {v4 : Int32}  {h : Hp} {o : (Int32 × Hp)} (hW : WF S r) (hv0 : S[v0]? = some (4, 5)) (hf : jX4_number_131 n r v0 v3 v4  h = some o)  : GX4_number S r r (some o.1, o.2) 131 [(0, .ref v0), (3, .int v3), (4, .int v4)] [] h := by
  unfold jX4_number_131 at hf
  refine g_aload_n (ps := 0) dX4_number_131 rfl rfl ?_
  refine g_iconst (v := 2) dX4_number_132 (by decide +kernel) ?_
  refine g_iload_n (ps := 1) dX4_number_133 rfl rfl ?_
  obtain ⟨h16, e15, hf⟩ := bd_s hf
  refine g_callVv (As := [.int 2, .int v3]) (n := 2) (kX4_fail hW hv0 e15) gX4_number_X4_fail rfl ⟨rfl, rfl⟩ ⟨rfl, hdX4_fail⟩ ⟨Nat.le_of_ble_eq_true rfl, Nat.le_of_ble_eq_true rfl⟩ cf4 hv0 rfl rfl (Nat.le_of_ble_eq_true rfl) dX4_number_134 ?_
  refine g_iload (ps := 2) dX4_number_137 rfl ?_
  have hf := Option.some.inj hf
  subst hf
  exact g_iret dX4_number_139
set_option maxHeartbeats 4000000 in
set_option maxRecDepth 100000 in
theorem ujX4_number_94 {S : Shp} {n : Nat} {r : Rf} {v0 : Nat} {v1 : Int32} {v2 : Int32} {v3 : Int32} {v4 : Int32}  {h : Hp} {o : (Int32 × Hp)} (hW : WF S r) (hv0 : S[v0]? = some (4, 5)) (hf : jX4_number_94 n r v0 v1 v2 v3 v4  h = some o)  : GX4_number S r r (some o.1, o.2) 94 [(0, .ref v0), (1, .int v1), (2, .int v2), (3, .int v3), (4, .int v4)] [] h := by
  unfold jX4_number_94 at hf
  refine g_aload_n (ps := 0) dX4_number_94 rfl rfl ?_
  refine g_getI cf4 hv0 nX4_number_X4 (j := 2) (by decide) rfl mX4_number_19 dX4_number_95 ?_
  refine g_iload_n (ps := 3) dX4_number_98 rfl rfl ?_
  refine g_icmp_ne (tgt := 111) dX4_number_99 (by decide) (fun c13 => ?_) (fun c13 => ?_)
  · have hf := if_f hf c13
    refine g_aload_n (ps := 0) dX4_number_111 rfl rfl ?_
    refine g_getI cf4 hv0 nX4_number_X4 (j := 2) (by decide) rfl mX4_number_19 dX4_number_112 ?_
    refine g_iload_n (ps := 3) dX4_number_115 rfl rfl ?_
    refine g_isub dX4_number_116 ?_
    refine g_iconst (v := 3) dX4_number_117 (by decide +kernel) ?_
    refine g_icmp_gt (tgt := 131) dX4_number_118 (by decide) (fun c14 => ?_) (fun c14 => ?_)
    · have hf := if_t hf c14
      exact g_pick [0, 3, 4] rfl (ujX4_number_131 hW hv0 hf)
    · have hf := if_f hf c14
      refine g_iload (ps := 4) dX4_number_121 rfl ?_
      refine g_iload_n (ps := 1) dX4_number_123 rfl rfl ?_
      refine g_iload_n (ps := 2) dX4_number_124 rfl rfl ?_
      obtain ⟨x18, e17, hf⟩ := bd_s hf
      refine g_callNi (As := [.int v4, .int v1, .int v2]) (n := 3) (kX5_isWithin hW  e17) gX4_number_X5_isWithin_n102 (fun _ h => h.2.2.2) mX4_number_102_i mX4_number_102_s rfl ⟨rfl, rfl⟩ hdX5_isWithin ⟨Nat.le_of_ble_eq_true rfl, Nat.le_of_ble_eq_true rfl⟩ rfl rfl (Nat.le_of_ble_eq_true rfl) dX4_number_125 ?_
      refine g_if_ne (tgt := 137) dX4_number_128 (by decide) (fun c19 => ?_) (fun c19 => ?_)
      · have hf := if_f hf c19
        refine g_iload (ps := 4) dX4_number_137 rfl ?_
        have hf := Option.some.inj hf
        subst hf
        exact g_iret dX4_number_139
      · have hf := if_t hf c19
        exact g_pick [0, 3, 4] rfl (ujX4_number_131 hW hv0 hf)
  · have hf := if_t hf c13
    refine g_aload_n (ps := 0) dX4_number_102 rfl rfl ?_
    refine g_iconst (v := 1) dX4_number_103 (by decide +kernel) ?_
    refine g_iload_n (ps := 3) dX4_number_104 rfl rfl ?_
    obtain ⟨h21, e20, hf⟩ := bd_s hf
    refine g_callVv (As := [.int 1, .int v3]) (n := 2) (kX4_fail hW hv0 e20) gX4_number_X4_fail rfl ⟨rfl, rfl⟩ ⟨rfl, hdX4_fail⟩ ⟨Nat.le_of_ble_eq_true rfl, Nat.le_of_ble_eq_true rfl⟩ cf4 hv0 rfl rfl (Nat.le_of_ble_eq_true rfl) dX4_number_105 ?_
    refine g_goto (tgt := 137) dX4_number_108 (by decide) ?_
    refine g_iload (ps := 4) dX4_number_137 rfl ?_
    have hf := Option.some.inj hf
    subst hf
    exact g_iret dX4_number_139
set_option maxHeartbeats 4000000 in
set_option maxRecDepth 100000 in
theorem ulX4_number_12 {S : Shp} {n : Nat} {r : Rf} {v0 : Nat} {v1 : Int32} {v2 : Int32} {v3 : Int32} {v4 : Int32}  {h : Hp} {o : (Int32 × Hp)} (hW : WF S r) (hv0 : S[v0]? = some (4, 5)) (hf : lX4_number_12 n r v0 v1 v2 v3 v4 h = some o)  : GX4_number S r r (some o.1, o.2) 12 [(0, .ref v0), (1, .int v1), (2, .int v2), (3, .int v3), (4, .int v4)] [] h := by
  unfold lX4_number_12 at hf
  obtain ⟨z0, ei, hf⟩ := bd_s hf
  refine it_ind (P := fun (s : Int32 × Hp) => GX4_number S r r (some o.1, o.2) 12 [(0, .ref v0), (1, .int v1), (2, .int v2), (3, .int v3), (4, .int (s.1))] [] (s.2)) (fun s w hb hk2 he2 => ?_) n _ ei
  refine ubX4_number_12 (out := (some o.1, o.2)) (r' := r) hW hv0 hb hk2 (fun z hz => ?_)
  have hz := he2 z hz
  subst hz
  exact g_pick [0, 1, 2, 3, 4] rfl (ujX4_number_94 hW hv0 hf)
set_option maxHeartbeats 4000000 in
set_option maxRecDepth 100000 in
theorem uX4_number {S : Shp} {n : Nat} {r : Rf} {v0 : Nat} {v1 : Int32} {v2 : Int32} {h : Hp} {o : (Int32 × Hp)} (hW : WF S r) (hv0 : S[v0]? = some (4, 5)) (hf : fX4_number n r v0 v1 v2 h = some o) : GX4_number S r r (some o.1, o.2) 0 [(0, .ref v0), (1, .int v1), (2, .int v2)] [] h := by
  unfold fX4_number at hf
  refine g_aload_n (ps := 0) dX4_number_0 rfl rfl ?_
  obtain ⟨h2, e1, hf⟩ := bd_s hf
  refine g_callVv (As := []) (n := 0) (kX4_skipBlanks hW hv0 e1) gX4_number_X4_skipBlanks rfl ⟨rfl, rfl⟩ ⟨rfl, hdX4_skipBlanks⟩ ⟨Nat.le_of_ble_eq_true rfl, Nat.le_of_ble_eq_true rfl⟩ cf4 hv0 rfl rfl (Nat.le_of_ble_eq_true rfl) dX4_number_1 ?_
  refine g_aload_n (ps := 0) dX4_number_4 rfl rfl ?_
  refine g_getI cf4 hv0 nX4_number_X4 (j := 2) (by decide) rfl mX4_number_19 dX4_number_5 ?_
  refine g_topi (fun x3 ex3 => ?_)
  have hf := lE_s hf ex3
  refine g_istore_n (L' := [(3, .int x3), (0, .ref v0), (1, .int v1), (2, .int v2)]) dX4_number_8 rfl (by decide) rfl ?_
  refine g_iconst (v := 0) dX4_number_9 (by decide +kernel) ?_
  refine g_istore (L' := [(4, .int 0), (3, .int x3), (0, .ref v0), (1, .int v1), (2, .int v2)]) dX4_number_10 (by decide) rfl ?_
  exact g_pick [2, 3, 4, 1, 0] rfl (ulX4_number_12 hW hv0 hf)
theorem kX4_number {S : Shp} {n : Nat} {r : Rf} {v0 : Nat} {v1 : Int32} {v2 : Int32} {h : Hp} {o : (Int32 × Hp)} (hW : WF S r) (hv0 : S[v0]? = some (4, 5)) (hf : fX4_number n r v0 v1 v2 h = some o) : CTi yX4_number wsX4_number rmX4_number S r [.ref v0, .int v1, .int v2] h r o.1 o.2 :=
  cti_of rfl (by decide +kernel) rfl (Nat.le_of_ble_eq_true rfl) rfl (uX4_number hW hv0 hf)
/-! X4_take take -/
def rmX4_take : Room := { frames := 1, cells := 0, slots := 0, locals := 20 }
abbrev GX4_take (S : Shp) (r r' : Rf) (out : Option Int32 × Hp) (pc : Nat) (L : List (Nat × Value)) (st : List Value) (h : Hp) : Prop := G RX4 cX4_take 2 (some .boolean) wsX4_take rmX4_take S r r' out pc L st h
theorem nX4_take_X4 : ∀ w ∈ wsX40, w ∈ wsX4_take := by decide +kernel
theorem mX4_take_15 : Cond.fieldLink RX4 15 "LinkedIsles$Text" "count" "I" ∈ wsX4_take := by decide +kernel
theorem mX4_take_19 : Cond.fieldLink RX4 19 "LinkedIsles$Text" "at" "I" ∈ wsX4_take := by decide +kernel
theorem mX4_take_9 : Cond.fieldLink RX4 9 "LinkedIsles$Text" "letters" "[I" ∈ wsX4_take := by decide +kernel
theorem hdX4_take : yX4_take.cls ≠ "java/lang/invoke/MethodHandle" ∧ yX4_take.cls ≠ "java/lang/invoke/VarHandle" ∧ (parseMethodDescriptor yX4_take.desc).map (fun d => d.parameters.length) = some 1 := by decide +kernel
def fX4_take (n : Nat) (r : Rf) (v0 : Nat) (v1 : Int32) (h : Hp) : Option (Int32 × Hp) :=
  (fX4_skipBlanks n r v0 h).bind (fun (h2 : Hp) => if (h2.1 v0 1) ≤ (h2.1 v0 2) then (some (0, h2)) else (ck (h2.1 v0 2) 240 (if (h2.1 (r v0 0) (Int32.toNatClampNeg (h2.1 v0 2))) = v1 then (lE (pI h2 v0 2 ((h2.1 v0 2) + 1)) (fun (h6 : Hp) => some (1, h6))) else (some (0, h2)))))
set_option maxHeartbeats 4000000 in
set_option maxRecDepth 100000 in
theorem uX4_take {S : Shp} {n : Nat} {r : Rf} {v0 : Nat} {v1 : Int32} {h : Hp} {o : (Int32 × Hp)} (hW : WF S r) (hv0 : S[v0]? = some (4, 5)) (hf : fX4_take n r v0 v1 h = some o) : GX4_take S r r (some o.1, o.2) 0 [(0, .ref v0), (1, .int v1)] [] h := by
  unfold fX4_take at hf
  refine g_aload_n (ps := 0) dX4_take_0 rfl rfl ?_
  obtain ⟨h2, e1, hf⟩ := bd_s hf
  refine g_callVv (As := []) (n := 0) (kX4_skipBlanks hW hv0 e1) gX4_take_X4_skipBlanks rfl ⟨rfl, rfl⟩ ⟨rfl, hdX4_skipBlanks⟩ ⟨Nat.le_of_ble_eq_true rfl, Nat.le_of_ble_eq_true rfl⟩ cf4 hv0 rfl rfl (Nat.le_of_ble_eq_true rfl) dX4_take_1 ?_
  refine g_aload_n (ps := 0) dX4_take_4 rfl rfl ?_
  refine g_getI cf4 hv0 nX4_take_X4 (j := 2) (by decide) rfl mX4_take_19 dX4_take_5 ?_
  refine g_aload_n (ps := 0) dX4_take_8 rfl rfl ?_
  refine g_getI cf4 hv0 nX4_take_X4 (j := 1) (by decide) rfl mX4_take_15 dX4_take_9 ?_
  refine g_icmp_ge (tgt := 40) dX4_take_12 (by decide) (fun c3 => ?_) (fun c3 => ?_)
  · have hf := if_t hf c3
    refine g_iconst (v := 0) dX4_take_40 (by decide +kernel) ?_
    have hf := Option.some.inj hf
    subst hf
    exact g_zret (Or.inl rfl) dX4_take_41
  · have hf := if_f hf c3
    refine g_aload_n (ps := 0) dX4_take_15 rfl rfl ?_
    refine g_getR cf4 hv0 nX4_take_X4 (j := 0) (by decide) rfl mX4_take_9 dX4_take_16 ?_
    refine g_aload_n (ps := 0) dX4_take_19 rfl rfl ?_
    refine g_getI cf4 hv0 nX4_take_X4 (j := 2) (by decide) rfl mX4_take_19 dX4_take_20 ?_
    obtain ⟨z4, hf⟩ := ck_s hf
    refine g_iald (hW _ _ _ hv0 0 _ rfl) z4 dX4_take_23 ?_
    refine g_iload_n (ps := 1) dX4_take_24 rfl rfl ?_
    refine g_icmp_ne (tgt := 40) dX4_take_25 (by decide) (fun c5 => ?_) (fun c5 => ?_)
    · have hf := if_f hf c5
      refine g_iconst (v := 0) dX4_take_40 (by decide +kernel) ?_
      have hf := Option.some.inj hf
      subst hf
      exact g_zret (Or.inl rfl) dX4_take_41
    · have hf := if_t hf c5
      refine g_aload_n (ps := 0) dX4_take_28 rfl rfl ?_
      refine g_dup dX4_take_29 rfl ?_
      refine g_getI cf4 hv0 nX4_take_X4 (j := 2) (by decide) rfl mX4_take_19 dX4_take_30 ?_
      refine g_iconst (v := 1) dX4_take_33 (by decide +kernel) ?_
      refine g_iadd dX4_take_34 ?_
      refine g_putI cf4 hv0 nX4_take_X4 (j := 2) (by decide) rfl mX4_take_19 rfl dX4_take_35 ?_
      refine g_topH (fun h6 eh6 => ?_)
      have hf := lE_s hf eh6
      refine g_iconst (v := 1) dX4_take_38 (by decide +kernel) ?_
      have hf := Option.some.inj hf
      subst hf
      exact g_zret (Or.inr rfl) dX4_take_39
theorem kX4_take {S : Shp} {n : Nat} {r : Rf} {v0 : Nat} {v1 : Int32} {h : Hp} {o : (Int32 × Hp)} (hW : WF S r) (hv0 : S[v0]? = some (4, 5)) (hf : fX4_take n r v0 v1 h = some o) : CTi yX4_take wsX4_take rmX4_take S r [.ref v0, .int v1] h r o.1 o.2 :=
  cti_of rfl (by decide +kernel) rfl (Nat.le_of_ble_eq_true rfl) rfl (uX4_take hW hv0 hf)
/-! X4_expect expect -/
def rmX4_expect : Room := { frames := 2, cells := 0, slots := 0, locals := 41 }
abbrev GX4_expect (S : Shp) (r r' : Rf) (out : Option Int32 × Hp) (pc : Nat) (L : List (Nat × Value)) (st : List Value) (h : Hp) : Prop := G RX4 cX4_expect 2 none wsX4_expect rmX4_expect S r r' out pc L st h
theorem nX4_expect_X4 : ∀ w ∈ wsX40, w ∈ wsX4_expect := by decide +kernel
theorem mX4_expect_19 : Cond.fieldLink RX4 19 "LinkedIsles$Text" "at" "I" ∈ wsX4_expect := by decide +kernel
theorem hdX4_expect : yX4_expect.cls ≠ "java/lang/invoke/MethodHandle" ∧ yX4_expect.cls ≠ "java/lang/invoke/VarHandle" ∧ (parseMethodDescriptor yX4_expect.desc).map (fun d => d.parameters.length) = some 1 := by decide +kernel
def fX4_expect (n : Nat) (r : Rf) (v0 : Nat) (v1 : Int32) (h : Hp) : Option Hp :=
  bd2 (fX4_take n r v0 v1 h) (fun (x2 : Int32) (h3 : Hp) => if x2 = 0 then ((fX4_fail n r v0 1 (h3.1 v0 2) h3).bind (fun (h6 : Hp) => some h6)) else (some h3))
set_option maxHeartbeats 4000000 in
set_option maxRecDepth 100000 in
theorem uX4_expect {S : Shp} {n : Nat} {r : Rf} {v0 : Nat} {v1 : Int32} {h : Hp} {o : Hp} (hW : WF S r) (hv0 : S[v0]? = some (4, 5)) (hf : fX4_expect n r v0 v1 h = some o) : GX4_expect S r r (none, o) 0 [(0, .ref v0), (1, .int v1)] [] h := by
  unfold fX4_expect at hf
  refine g_aload_n (ps := 0) dX4_expect_0 rfl rfl ?_
  refine g_iload_n (ps := 1) dX4_expect_1 rfl rfl ?_
  obtain ⟨x2, h3, e1, hf⟩ := bd2_s hf
  refine g_callVi (As := [.int v1]) (n := 1) (kX4_take hW hv0 e1) gX4_expect_X4_take rfl ⟨rfl, rfl⟩ ⟨rfl, hdX4_take⟩ ⟨Nat.le_of_ble_eq_true rfl, Nat.le_of_ble_eq_true rfl⟩ cf4 hv0 rfl rfl (Nat.le_of_ble_eq_true rfl) dX4_expect_2 ?_
  refine g_if_ne (tgt := 17) dX4_expect_5 (by decide) (fun c4 => ?_) (fun c4 => ?_)
  · have hf := if_f hf c4
    have hf := Option.some.inj hf
    subst hf
    exact g_vret dX4_expect_17
  · have hf := if_t hf c4
    refine g_aload_n (ps := 0) dX4_expect_8 rfl rfl ?_
    refine g_iconst (v := 1) dX4_expect_9 (by decide +kernel) ?_
    refine g_aload_n (ps := 0) dX4_expect_10 rfl rfl ?_
    refine g_getI cf4 hv0 nX4_expect_X4 (j := 2) (by decide) rfl mX4_expect_19 dX4_expect_11 ?_
    obtain ⟨h6, e5, hf⟩ := bd_s hf
    refine g_callVv (As := [.int 1, .int (h3.1 v0 2)]) (n := 2) (kX4_fail hW hv0 e5) gX4_expect_X4_fail rfl ⟨rfl, rfl⟩ ⟨rfl, hdX4_fail⟩ ⟨Nat.le_of_ble_eq_true rfl, Nat.le_of_ble_eq_true rfl⟩ cf4 hv0 rfl rfl (Nat.le_of_ble_eq_true rfl) dX4_expect_14 ?_
    have hf := Option.some.inj hf
    subst hf
    exact g_vret dX4_expect_17
theorem kX4_expect {S : Shp} {n : Nat} {r : Rf} {v0 : Nat} {v1 : Int32} {h : Hp} {o : Hp} (hW : WF S r) (hv0 : S[v0]? = some (4, 5)) (hf : fX4_expect n r v0 v1 h = some o) : CTv yX4_expect wsX4_expect rmX4_expect S r [.ref v0, .int v1] h r o :=
  ctv_of rfl (by decide +kernel) rfl (Nat.le_of_ble_eq_true rfl) rfl (uX4_expect hW hv0 hf)
/-! X4_readIslands readIslands -/
def rmX4_readIslands : Room := { frames := 3, cells := 0, slots := 0, locals := 62 }
abbrev GX4_readIslands (S : Shp) (r r' : Rf) (out : Option Int32 × Hp) (pc : Nat) (L : List (Nat × Value)) (st : List Value) (h : Hp) : Prop := G RX4 cX4_readIslands 3 none wsX4_readIslands rmX4_readIslands S r r' out pc L st h
theorem nX4_readIslands_X1 : ∀ w ∈ wsX10, w ∈ wsX4_readIslands := by decide +kernel
theorem nX4_readIslands_X4 : ∀ w ∈ wsX40, w ∈ wsX4_readIslands := by decide +kernel
theorem mX4_readIslands_22 : Cond.fieldLink RX4 22 "LinkedIsles$Text" "fault" "I" ∈ wsX4_readIslands := by decide +kernel
theorem mX4_readIslands_71 : Cond.fieldLink RX4 71 "LinkedIsles$Chart" "islands" "I" ∈ wsX4_readIslands := by decide +kernel
theorem hdX4_readIslands : yX4_readIslands.cls ≠ "java/lang/invoke/MethodHandle" ∧ yX4_readIslands.cls ≠ "java/lang/invoke/VarHandle" ∧ (parseMethodDescriptor yX4_readIslands.desc).map (fun d => d.parameters.length) = some 1 := by decide +kernel
def fX4_readIslands (n : Nat) (r : Rf) (v0 : Nat) (v1 : Nat) (h : Hp) : Option Hp :=
  bd2 (fX4_number n r v0 2 8 h) (fun (x2 : Int32) (h3 : Hp) => (fX4_expect n r v0 59 h3).bind (fun (h5 : Hp) => if (h5.1 v0 3) = 0 then (lE (pI h5 v1 9 x2) (fun (h7 : Hp) => some h7)) else (some h5)))
set_option maxHeartbeats 4000000 in
set_option maxRecDepth 100000 in
theorem uX4_readIslands {S : Shp} {n : Nat} {r : Rf} {v0 : Nat} {v1 : Nat} {h : Hp} {o : Hp} (hW : WF S r) (hv0 : S[v0]? = some (4, 5)) (hv1 : S[v1]? = some (1, 12)) (hf : fX4_readIslands n r v0 v1 h = some o) : GX4_readIslands S r r (none, o) 0 [(0, .ref v0), (1, .ref v1)] [] h := by
  unfold fX4_readIslands at hf
  refine g_aload_n (ps := 0) dX4_readIslands_0 rfl rfl ?_
  refine g_iconst (v := 2) dX4_readIslands_1 (by decide +kernel) ?_
  refine g_bipush (v := 8) dX4_readIslands_2 (by decide +kernel) ?_
  obtain ⟨x2, h3, e1, hf⟩ := bd2_s hf
  refine g_callVi (As := [.int 2, .int 8]) (n := 2) (kX4_number hW hv0 e1) gX4_readIslands_X4_number rfl ⟨rfl, rfl⟩ ⟨rfl, hdX4_number⟩ ⟨Nat.le_of_ble_eq_true rfl, Nat.le_of_ble_eq_true rfl⟩ cf4 hv0 rfl rfl (Nat.le_of_ble_eq_true rfl) dX4_readIslands_4 ?_
  refine g_istore_n (L' := [(2, .int x2), (0, .ref v0), (1, .ref v1)]) dX4_readIslands_7 rfl (by decide) rfl ?_
  refine g_aload_n (ps := 1) dX4_readIslands_8 rfl rfl ?_
  refine g_bipush (v := 59) dX4_readIslands_9 (by decide +kernel) ?_
  obtain ⟨h5, e4, hf⟩ := bd_s hf
  refine g_callVv (As := [.int 59]) (n := 1) (kX4_expect hW hv0 e4) gX4_readIslands_X4_expect rfl ⟨rfl, rfl⟩ ⟨rfl, hdX4_expect⟩ ⟨Nat.le_of_ble_eq_true rfl, Nat.le_of_ble_eq_true rfl⟩ cf4 hv0 rfl rfl (Nat.le_of_ble_eq_true rfl) dX4_readIslands_11 ?_
  refine g_aload_n (ps := 1) dX4_readIslands_14 rfl rfl ?_
  refine g_getI cf4 hv0 nX4_readIslands_X4 (j := 3) (by decide) rfl mX4_readIslands_22 dX4_readIslands_15 ?_
  refine g_if_ne (tgt := 26) dX4_readIslands_18 (by decide) (fun c6 => ?_) (fun c6 => ?_)
  · have hf := if_f hf c6
    have hf := Option.some.inj hf
    subst hf
    exact g_vret dX4_readIslands_26
  · have hf := if_t hf c6
    refine g_aload_n (ps := 2) dX4_readIslands_21 rfl rfl ?_
    refine g_iload_n (ps := 0) dX4_readIslands_22 rfl rfl ?_
    refine g_putI cf1 hv1 nX4_readIslands_X1 (j := 9) (by decide) rfl mX4_readIslands_71 rfl dX4_readIslands_23 ?_
    refine g_topH (fun h7 eh7 => ?_)
    have hf := lE_s hf eh7
    have hf := Option.some.inj hf
    subst hf
    exact g_vret dX4_readIslands_26
theorem kX4_readIslands {S : Shp} {n : Nat} {r : Rf} {v0 : Nat} {v1 : Nat} {h : Hp} {o : Hp} (hW : WF S r) (hv0 : S[v0]? = some (4, 5)) (hv1 : S[v1]? = some (1, 12)) (hf : fX4_readIslands n r v0 v1 h = some o) : CTv yX4_readIslands wsX4_readIslands rmX4_readIslands S r [.ref v0, .ref v1] h r o :=
  ctv_of rfl (by decide +kernel) rfl (Nat.le_of_ble_eq_true rfl) rfl (uX4_readIslands hW hv0 hv1 hf)
/-! X4_readLink readLink -/
def rmX4_readLink : Room := { frames := 3, cells := 0, slots := 0, locals := 62 }
abbrev GX4_readLink (S : Shp) (r r' : Rf) (out : Option Int32 × Hp) (pc : Nat) (L : List (Nat × Value)) (st : List Value) (h : Hp) : Prop := G RX4 cX4_readLink 10 none wsX4_readLink rmX4_readLink S r r' out pc L st h
theorem nX4_readLink_X1 : ∀ w ∈ wsX10, w ∈ wsX4_readLink := by decide +kernel
theorem nX4_readLink_X4 : ∀ w ∈ wsX40, w ∈ wsX4_readLink := by decide +kernel
theorem mX4_readLink_19 : Cond.fieldLink RX4 19 "LinkedIsles$Text" "at" "I" ∈ wsX4_readLink := by decide +kernel
theorem mX4_readLink_22 : Cond.fieldLink RX4 22 "LinkedIsles$Text" "fault" "I" ∈ wsX4_readLink := by decide +kernel
theorem mX4_readLink_51 : Cond.fieldLink RX4 51 "LinkedIsles$Chart" "links" "I" ∈ wsX4_readLink := by decide +kernel
theorem mX4_readLink_71 : Cond.fieldLink RX4 71 "LinkedIsles$Chart" "islands" "I" ∈ wsX4_readLink := by decide +kernel
theorem mX4_readLink_74 : Cond.fieldLink RX4 74 "LinkedIsles$Chart" "endA" "[I" ∈ wsX4_readLink := by decide +kernel
theorem mX4_readLink_77 : Cond.fieldLink RX4 77 "LinkedIsles$Chart" "endB" "[I" ∈ wsX4_readLink := by decide +kernel
theorem mX4_readLink_80 : Cond.fieldLink RX4 80 "LinkedIsles$Chart" "ends" "[I" ∈ wsX4_readLink := by decide +kernel
theorem mX4_readLink_83 : Cond.fieldLink RX4 83 "LinkedIsles$Chart" "kind" "[I" ∈ wsX4_readLink := by decide +kernel
theorem mX4_readLink_86 : Cond.fieldLink RX4 86 "LinkedIsles$Chart" "strength" "[I" ∈ wsX4_readLink := by decide +kernel
theorem mX4_readLink_89 : Cond.fieldLink RX4 89 "LinkedIsles$Chart" "sideA" "[I" ∈ wsX4_readLink := by decide +kernel
theorem mX4_readLink_92 : Cond.fieldLink RX4 92 "LinkedIsles$Chart" "sideB" "[I" ∈ wsX4_readLink := by decide +kernel
theorem hdX4_readLink : yX4_readLink.cls ≠ "java/lang/invoke/MethodHandle" ∧ yX4_readLink.cls ≠ "java/lang/invoke/VarHandle" ∧ (parseMethodDescriptor yX4_readLink.desc).map (fun d => d.parameters.length) = some 1 := by decide +kernel
def jX4_readLink_46 (n : Nat) (r : Rf) (v0 : Nat) (v1 : Nat) (v2 : Int32) (v4 : Int32)  (h : Hp) : Option Hp :=
  bd2 (fX4_number n r v0 0 3 h) (fun (x12 : Int32) (h13 : Hp) => bd2 (fX4_number n r v0 1 99 h13) (fun (x15 : Int32) (h16 : Hp) => bd2 (fX4_number n r v0 0 9 h16) (fun (x18 : Int32) (h19 : Hp) => bd2 (fX4_number n r v0 0 9 h19) (fun (x21 : Int32) (h22 : Hp) => (fX4_expect n r v0 59 h22).bind (fun (h24 : Hp) => if (h24.1 v0 3) = 0 then (lE ((h24.1 v1 10)) (fun (x26 : Int32) => ck x26 10 (lE (pI h24 (r v1 0) (Int32.toNatClampNeg x26) v2) (fun (h28 : Hp) => ck x26 10 (lE (pI h28 (r v1 1) (Int32.toNatClampNeg x26) v4) (fun (h30 : Hp) => ck x26 10 (lE (pI h30 (r v1 2) (Int32.toNatClampNeg x26) ((1 <<< (v2 &&& 31)) ||| (1 <<< (v4 &&& 31)))) (fun (h32 : Hp) => ck x26 10 (lE (pI h32 (r v1 3) (Int32.toNatClampNeg x26) x12) (fun (h34 : Hp) => ck x26 10 (lE (pI h34 (r v1 4) (Int32.toNatClampNeg x26) x15) (fun (h36 : Hp) => ck x26 10 (lE (pI h36 (r v1 5) (Int32.toNatClampNeg x26) x18) (fun (h38 : Hp) => ck x26 10 (lE (pI h38 (r v1 6) (Int32.toNatClampNeg x26) x21) (fun (h40 : Hp) => lE (pI h40 v1 10 ((h40.1 v1 10) + 1)) (fun (h41 : Hp) => some h41))))))))))))))))) else (some h24))))))
def fX4_readLink (n : Nat) (r : Rf) (v0 : Nat) (v1 : Nat) (h : Hp) : Option Hp :=
  bd2 (fX4_number n r v0 0 ((h.1 v1 9) - 1) h) (fun (x2 : Int32) (h3 : Hp) => (fX4_skipBlanks n r v0 h3).bind (fun (h5 : Hp) => lE ((h5.1 v0 2)) (fun (x6 : Int32) => bd2 (fX4_number n r v0 0 ((h5.1 v1 9) - 1) h5) (fun (x8 : Int32) (h9 : Hp) => if x2 = x8 then ((fX4_fail n r v0 4 x6 h9).bind (fun (h43 : Hp) => jX4_readLink_46 n r v0 v1 x2 x8  h43)) else (jX4_readLink_46 n r v0 v1 x2 x8  h9)))))
set_option maxHeartbeats 4000000 in
set_option maxRecDepth 100000 in
theorem ujX4_readLink_46 {S : Shp} {n : Nat} {r : Rf} {v0 : Nat} {v1 : Nat} {v2 : Int32} {v4 : Int32}  {h : Hp} {o : Hp} (hW : WF S r) (hv0 : S[v0]? = some (4, 5)) (hv1 : S[v1]? = some (1, 12)) (hf : jX4_readLink_46 n r v0 v1 v2 v4  h = some o)  : GX4_readLink S r r (none, o) 46 [(0, .ref v0), (1, .ref v1), (2, .int v2), (4, .int v4)] [] h := by
  unfold jX4_readLink_46 at hf
  refine g_aload_n (ps := 0) dX4_readLink_46 rfl rfl ?_
  refine g_iconst (v := 0) dX4_readLink_47 (by decide +kernel) ?_
  refine g_iconst (v := 3) dX4_readLink_48 (by decide +kernel) ?_
  obtain ⟨x12, h13, e11, hf⟩ := bd2_s hf
  refine g_callVi (As := [.int 0, .int 3]) (n := 2) (kX4_number hW hv0 e11) gX4_readLink_X4_number rfl ⟨rfl, rfl⟩ ⟨rfl, hdX4_number⟩ ⟨Nat.le_of_ble_eq_true rfl, Nat.le_of_ble_eq_true rfl⟩ cf4 hv0 rfl rfl (Nat.le_of_ble_eq_true rfl) dX4_readLink_49 ?_
  refine g_istore (L' := [(5, .int x12), (0, .ref v0), (1, .ref v1), (2, .int v2), (4, .int v4)]) dX4_readLink_52 (by decide) rfl ?_
  refine g_aload_n (ps := 1) dX4_readLink_54 rfl rfl ?_
  refine g_iconst (v := 1) dX4_readLink_55 (by decide +kernel) ?_
  refine g_bipush (v := 99) dX4_readLink_56 (by decide +kernel) ?_
  obtain ⟨x15, h16, e14, hf⟩ := bd2_s hf
  refine g_callVi (As := [.int 1, .int 99]) (n := 2) (kX4_number hW hv0 e14) gX4_readLink_X4_number rfl ⟨rfl, rfl⟩ ⟨rfl, hdX4_number⟩ ⟨Nat.le_of_ble_eq_true rfl, Nat.le_of_ble_eq_true rfl⟩ cf4 hv0 rfl rfl (Nat.le_of_ble_eq_true rfl) dX4_readLink_58 ?_
  refine g_istore (L' := [(6, .int x15), (5, .int x12), (0, .ref v0), (1, .ref v1), (2, .int v2), (4, .int v4)]) dX4_readLink_61 (by decide) rfl ?_
  refine g_aload_n (ps := 2) dX4_readLink_63 rfl rfl ?_
  refine g_iconst (v := 0) dX4_readLink_64 (by decide +kernel) ?_
  refine g_bipush (v := 9) dX4_readLink_65 (by decide +kernel) ?_
  obtain ⟨x18, h19, e17, hf⟩ := bd2_s hf
  refine g_callVi (As := [.int 0, .int 9]) (n := 2) (kX4_number hW hv0 e17) gX4_readLink_X4_number rfl ⟨rfl, rfl⟩ ⟨rfl, hdX4_number⟩ ⟨Nat.le_of_ble_eq_true rfl, Nat.le_of_ble_eq_true rfl⟩ cf4 hv0 rfl rfl (Nat.le_of_ble_eq_true rfl) dX4_readLink_67 ?_
  refine g_istore (L' := [(7, .int x18), (6, .int x15), (5, .int x12), (0, .ref v0), (1, .ref v1), (2, .int v2), (4, .int v4)]) dX4_readLink_70 (by decide) rfl ?_
  refine g_aload_n (ps := 3) dX4_readLink_72 rfl rfl ?_
  refine g_iconst (v := 0) dX4_readLink_73 (by decide +kernel) ?_
  refine g_bipush (v := 9) dX4_readLink_74 (by decide +kernel) ?_
  obtain ⟨x21, h22, e20, hf⟩ := bd2_s hf
  refine g_callVi (As := [.int 0, .int 9]) (n := 2) (kX4_number hW hv0 e20) gX4_readLink_X4_number rfl ⟨rfl, rfl⟩ ⟨rfl, hdX4_number⟩ ⟨Nat.le_of_ble_eq_true rfl, Nat.le_of_ble_eq_true rfl⟩ cf4 hv0 rfl rfl (Nat.le_of_ble_eq_true rfl) dX4_readLink_76 ?_
  refine g_istore (L' := [(8, .int x21), (7, .int x18), (6, .int x15), (5, .int x12), (0, .ref v0), (1, .ref v1), (2, .int v2), (4, .int v4)]) dX4_readLink_79 (by decide) rfl ?_
  refine g_aload_n (ps := 4) dX4_readLink_81 rfl rfl ?_
  refine g_bipush (v := 59) dX4_readLink_82 (by decide +kernel) ?_
  obtain ⟨h24, e23, hf⟩ := bd_s hf
  refine g_callVv (As := [.int 59]) (n := 1) (kX4_expect hW hv0 e23) gX4_readLink_X4_expect rfl ⟨rfl, rfl⟩ ⟨rfl, hdX4_expect⟩ ⟨Nat.le_of_ble_eq_true rfl, Nat.le_of_ble_eq_true rfl⟩ cf4 hv0 rfl rfl (Nat.le_of_ble_eq_true rfl) dX4_readLink_84 ?_
  refine g_aload_n (ps := 4) dX4_readLink_87 rfl rfl ?_
  refine g_getI cf4 hv0 nX4_readLink_X4 (j := 3) (by decide) rfl mX4_readLink_22 dX4_readLink_88 ?_
  refine g_if_ne (tgt := 178) dX4_readLink_91 (by decide) (fun c25 => ?_) (fun c25 => ?_)
  · have hf := if_f hf c25
    have hf := Option.some.inj hf
    subst hf
    exact g_vret dX4_readLink_178
  · have hf := if_t hf c25
    refine g_aload_n (ps := 5) dX4_readLink_94 rfl rfl ?_
    refine g_getI cf1 hv1 nX4_readLink_X1 (j := 10) (by decide) rfl mX4_readLink_51 dX4_readLink_95 ?_
    refine g_topi (fun x26 ex26 => ?_)
    have hf := lE_s hf ex26
    refine g_istore (L' := [(9, .int x26), (8, .int x21), (7, .int x18), (6, .int x15), (5, .int x12), (0, .ref v0), (1, .ref v1), (2, .int v2), (4, .int v4)]) dX4_readLink_98 (by decide) rfl ?_
    refine g_aload_n (ps := 6) dX4_readLink_100 rfl rfl ?_
    refine g_getR cf1 hv1 nX4_readLink_X1 (j := 0) (by decide) rfl mX4_readLink_74 dX4_readLink_101 ?_
    refine g_iload (ps := 0) dX4_readLink_104 rfl ?_
    refine g_iload_n (ps := 7) dX4_readLink_106 rfl rfl ?_
    obtain ⟨z27, hf⟩ := ck_s hf
    refine g_iast (hW _ _ _ hv1 0 _ rfl) z27 dX4_readLink_107 ?_
    refine g_topH (fun h28 eh28 => ?_)
    have hf := lE_s hf eh28
    refine g_aload_n (ps := 6) dX4_readLink_108 rfl rfl ?_
    refine g_getR cf1 hv1 nX4_readLink_X1 (j := 1) (by decide) rfl mX4_readLink_77 dX4_readLink_109 ?_
    refine g_iload (ps := 0) dX4_readLink_112 rfl ?_
    refine g_iload (ps := 8) dX4_readLink_114 rfl ?_
    obtain ⟨z29, hf⟩ := ck_s hf
    refine g_iast (hW _ _ _ hv1 1 _ rfl) z29 dX4_readLink_116 ?_
    refine g_topH (fun h30 eh30 => ?_)
    have hf := lE_s hf eh30
    refine g_aload_n (ps := 6) dX4_readLink_117 rfl rfl ?_
    refine g_getR cf1 hv1 nX4_readLink_X1 (j := 2) (by decide) rfl mX4_readLink_80 dX4_readLink_118 ?_
    refine g_iload (ps := 0) dX4_readLink_121 rfl ?_
    refine g_iconst (v := 1) dX4_readLink_123 (by decide +kernel) ?_
    refine g_iload_n (ps := 7) dX4_readLink_124 rfl rfl ?_
    refine g_ishl dX4_readLink_125 ?_
    refine g_iconst (v := 1) dX4_readLink_126 (by decide +kernel) ?_
    refine g_iload (ps := 8) dX4_readLink_127 rfl ?_
    refine g_ishl dX4_readLink_129 ?_
    refine g_ior dX4_readLink_130 ?_
    obtain ⟨z31, hf⟩ := ck_s hf
    refine g_iast (hW _ _ _ hv1 2 _ rfl) z31 dX4_readLink_131 ?_
    refine g_topH (fun h32 eh32 => ?_)
    have hf := lE_s hf eh32
    refine g_aload_n (ps := 6) dX4_readLink_132 rfl rfl ?_
    refine g_getR cf1 hv1 nX4_readLink_X1 (j := 3) (by decide) rfl mX4_readLink_83 dX4_readLink_133 ?_
    refine g_iload (ps := 0) dX4_readLink_136 rfl ?_
    refine g_iload (ps := 4) dX4_readLink_138 rfl ?_
    obtain ⟨z33, hf⟩ := ck_s hf
    refine g_iast (hW _ _ _ hv1 3 _ rfl) z33 dX4_readLink_140 ?_
    refine g_topH (fun h34 eh34 => ?_)
    have hf := lE_s hf eh34
    refine g_aload_n (ps := 6) dX4_readLink_141 rfl rfl ?_
    refine g_getR cf1 hv1 nX4_readLink_X1 (j := 4) (by decide) rfl mX4_readLink_86 dX4_readLink_142 ?_
    refine g_iload (ps := 0) dX4_readLink_145 rfl ?_
    refine g_iload (ps := 3) dX4_readLink_147 rfl ?_
    obtain ⟨z35, hf⟩ := ck_s hf
    refine g_iast (hW _ _ _ hv1 4 _ rfl) z35 dX4_readLink_149 ?_
    refine g_topH (fun h36 eh36 => ?_)
    have hf := lE_s hf eh36
    refine g_aload_n (ps := 6) dX4_readLink_150 rfl rfl ?_
    refine g_getR cf1 hv1 nX4_readLink_X1 (j := 5) (by decide) rfl mX4_readLink_89 dX4_readLink_151 ?_
    refine g_iload (ps := 0) dX4_readLink_154 rfl ?_
    refine g_iload (ps := 2) dX4_readLink_156 rfl ?_
    obtain ⟨z37, hf⟩ := ck_s hf
    refine g_iast (hW _ _ _ hv1 5 _ rfl) z37 dX4_readLink_158 ?_
    refine g_topH (fun h38 eh38 => ?_)
    have hf := lE_s hf eh38
    refine g_aload_n (ps := 6) dX4_readLink_159 rfl rfl ?_
    refine g_getR cf1 hv1 nX4_readLink_X1 (j := 6) (by decide) rfl mX4_readLink_92 dX4_readLink_160 ?_
    refine g_iload (ps := 0) dX4_readLink_163 rfl ?_
    refine g_iload (ps := 1) dX4_readLink_165 rfl ?_
    obtain ⟨z39, hf⟩ := ck_s hf
    refine g_iast (hW _ _ _ hv1 6 _ rfl) z39 dX4_readLink_167 ?_
    refine g_topH (fun h40 eh40 => ?_)
    have hf := lE_s hf eh40
    refine g_aload_n (ps := 6) dX4_readLink_168 rfl rfl ?_
    refine g_dup dX4_readLink_169 rfl ?_
    refine g_getI cf1 hv1 nX4_readLink_X1 (j := 10) (by decide) rfl mX4_readLink_51 dX4_readLink_170 ?_
    refine g_iconst (v := 1) dX4_readLink_173 (by decide +kernel) ?_
    refine g_iadd dX4_readLink_174 ?_
    refine g_putI cf1 hv1 nX4_readLink_X1 (j := 10) (by decide) rfl mX4_readLink_51 rfl dX4_readLink_175 ?_
    refine g_topH (fun h41 eh41 => ?_)
    have hf := lE_s hf eh41
    have hf := Option.some.inj hf
    subst hf
    exact g_vret dX4_readLink_178
set_option maxHeartbeats 4000000 in
set_option maxRecDepth 100000 in
theorem uX4_readLink {S : Shp} {n : Nat} {r : Rf} {v0 : Nat} {v1 : Nat} {h : Hp} {o : Hp} (hW : WF S r) (hv0 : S[v0]? = some (4, 5)) (hv1 : S[v1]? = some (1, 12)) (hf : fX4_readLink n r v0 v1 h = some o) : GX4_readLink S r r (none, o) 0 [(0, .ref v0), (1, .ref v1)] [] h := by
  unfold fX4_readLink at hf
  refine g_aload_n (ps := 0) dX4_readLink_0 rfl rfl ?_
  refine g_iconst (v := 0) dX4_readLink_1 (by decide +kernel) ?_
  refine g_aload_n (ps := 1) dX4_readLink_2 rfl rfl ?_
  refine g_getI cf1 hv1 nX4_readLink_X1 (j := 9) (by decide) rfl mX4_readLink_71 dX4_readLink_3 ?_
  refine g_iconst (v := 1) dX4_readLink_6 (by decide +kernel) ?_
  refine g_isub dX4_readLink_7 ?_
  obtain ⟨x2, h3, e1, hf⟩ := bd2_s hf
  refine g_callVi (As := [.int 0, .int ((h.1 v1 9) - 1)]) (n := 2) (kX4_number hW hv0 e1) gX4_readLink_X4_number rfl ⟨rfl, rfl⟩ ⟨rfl, hdX4_number⟩ ⟨Nat.le_of_ble_eq_true rfl, Nat.le_of_ble_eq_true rfl⟩ cf4 hv0 rfl rfl (Nat.le_of_ble_eq_true rfl) dX4_readLink_8 ?_
  refine g_istore_n (L' := [(2, .int x2), (0, .ref v0), (1, .ref v1)]) dX4_readLink_11 rfl (by decide) rfl ?_
  refine g_aload_n (ps := 1) dX4_readLink_12 rfl rfl ?_
  obtain ⟨h5, e4, hf⟩ := bd_s hf
  refine g_callVv (As := []) (n := 0) (kX4_skipBlanks hW hv0 e4) gX4_readLink_X4_skipBlanks rfl ⟨rfl, rfl⟩ ⟨rfl, hdX4_skipBlanks⟩ ⟨Nat.le_of_ble_eq_true rfl, Nat.le_of_ble_eq_true rfl⟩ cf4 hv0 rfl rfl (Nat.le_of_ble_eq_true rfl) dX4_readLink_13 ?_
  refine g_aload_n (ps := 1) dX4_readLink_16 rfl rfl ?_
  refine g_getI cf4 hv0 nX4_readLink_X4 (j := 2) (by decide) rfl mX4_readLink_19 dX4_readLink_17 ?_
  refine g_topi (fun x6 ex6 => ?_)
  have hf := lE_s hf ex6
  refine g_istore_n (L' := [(3, .int x6), (2, .int x2), (0, .ref v0), (1, .ref v1)]) dX4_readLink_20 rfl (by decide) rfl ?_
  refine g_aload_n (ps := 2) dX4_readLink_21 rfl rfl ?_
  refine g_iconst (v := 0) dX4_readLink_22 (by decide +kernel) ?_
  refine g_aload_n (ps := 3) dX4_readLink_23 rfl rfl ?_
  refine g_getI cf1 hv1 nX4_readLink_X1 (j := 9) (by decide) rfl mX4_readLink_71 dX4_readLink_24 ?_
  refine g_iconst (v := 1) dX4_readLink_27 (by decide +kernel) ?_
  refine g_isub dX4_readLink_28 ?_
  obtain ⟨x8, h9, e7, hf⟩ := bd2_s hf
  refine g_callVi (As := [.int 0, .int ((h5.1 v1 9) - 1)]) (n := 2) (kX4_number hW hv0 e7) gX4_readLink_X4_number rfl ⟨rfl, rfl⟩ ⟨rfl, hdX4_number⟩ ⟨Nat.le_of_ble_eq_true rfl, Nat.le_of_ble_eq_true rfl⟩ cf4 hv0 rfl rfl (Nat.le_of_ble_eq_true rfl) dX4_readLink_29 ?_
  refine g_istore (L' := [(4, .int x8), (3, .int x6), (2, .int x2), (0, .ref v0), (1, .ref v1)]) dX4_readLink_32 (by decide) rfl ?_
  refine g_iload_n (ps := 2) dX4_readLink_34 rfl rfl ?_
  refine g_iload (ps := 0) dX4_readLink_35 rfl ?_
  refine g_icmp_ne (tgt := 46) dX4_readLink_37 (by decide) (fun c10 => ?_) (fun c10 => ?_)
  · have hf := if_f hf c10
    exact g_pick [3, 4, 2, 0] rfl (ujX4_readLink_46 hW hv0 hv1 hf)
  · have hf := if_t hf c10
    refine g_aload_n (ps := 3) dX4_readLink_40 rfl rfl ?_
    refine g_iconst (v := 4) dX4_readLink_41 (by decide +kernel) ?_
    refine g_iload_n (ps := 1) dX4_readLink_42 rfl rfl ?_
    obtain ⟨h43, e42, hf⟩ := bd_s hf
    refine g_callVv (As := [.int 4, .int x6]) (n := 2) (kX4_fail hW hv0 e42) gX4_readLink_X4_fail rfl ⟨rfl, rfl⟩ ⟨rfl, hdX4_fail⟩ ⟨Nat.le_of_ble_eq_true rfl, Nat.le_of_ble_eq_true rfl⟩ cf4 hv0 rfl rfl (Nat.le_of_ble_eq_true rfl) dX4_readLink_43 ?_
    exact g_pick [3, 4, 2, 0] rfl (ujX4_readLink_46 hW hv0 hv1 hf)
theorem kX4_readLink {S : Shp} {n : Nat} {r : Rf} {v0 : Nat} {v1 : Nat} {h : Hp} {o : Hp} (hW : WF S r) (hv0 : S[v0]? = some (4, 5)) (hv1 : S[v1]? = some (1, 12)) (hf : fX4_readLink n r v0 v1 h = some o) : CTv yX4_readLink wsX4_readLink rmX4_readLink S r [.ref v0, .ref v1] h r o :=
  ctv_of rfl (by decide +kernel) rfl (Nat.le_of_ble_eq_true rfl) rfl (uX4_readLink hW hv0 hv1 hf)
