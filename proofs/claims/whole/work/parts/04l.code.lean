/-! X6_traitor traitor -/
def rmX6_traitor : Room := { frames := 5, cells := 0, slots := 0, locals := 116 }
abbrev GX6_traitor (S : Shp) (r r' : Rf) (out : Option Int32 × Hp) (pc : Nat) (L : List (Nat × Value)) (st : List Value) (h : Hp) : Prop := G RX6 cX6_traitor 1 (some .int) wsX6_traitor rmX6_traitor S r r' out pc L st h
theorem hdX6_traitor : yX6_traitor.cls ≠ "java/lang/invoke/MethodHandle" ∧ yX6_traitor.cls ≠ "java/lang/invoke/VarHandle" ∧ (parseMethodDescriptor yX6_traitor.desc).map (fun d => d.parameters.length) = some 0 := by decide +kernel
def fX6_traitor (n : Nat) (r : Rf) (v0 : Nat) (h : Hp) : Option Int32 :=
  (fX6_suspects n r v0 h).bind (fun (x2 : Int32) => some x2)
set_option maxHeartbeats 4000000 in
set_option maxRecDepth 100000 in
theorem uX6_traitor {S : Shp} {n : Nat} {r : Rf} {v0 : Nat} {h : Hp} {o : Int32} (hW : WF S r) (hv0 : S[v0]? = some (6, 38)) (hf : fX6_traitor n r v0 h = some o) : GX6_traitor S r r (some o, h) 0 [(0, .ref v0)] [] h := by
  unfold fX6_traitor at hf
  refine g_aload_n (ps := 0) dX6_traitor_0 rfl rfl ?_
  obtain ⟨x2, e1, hf⟩ := bd_s hf
  refine g_callVi (As := []) (n := 0) (kX6_suspects hW hv0 e1) gX6_traitor_X6_suspects rfl ⟨rfl, rfl⟩ ⟨rfl, hdX6_suspects⟩ ⟨Nat.le_of_ble_eq_true rfl, Nat.le_of_ble_eq_true rfl⟩ cf6 hv0 rfl rfl (Nat.le_of_ble_eq_true rfl) dX6_traitor_1 ?_
  have hf := Option.some.inj hf
  subst hf
  exact g_iret dX6_traitor_4
theorem kX6_traitor {S : Shp} {n : Nat} {r : Rf} {v0 : Nat} {h : Hp} {o : Int32} (hW : WF S r) (hv0 : S[v0]? = some (6, 38)) (hf : fX6_traitor n r v0 h = some o) : CTi yX6_traitor wsX6_traitor rmX6_traitor S r [.ref v0] h r o h :=
  cti_of rfl (by decide +kernel) rfl (Nat.le_of_ble_eq_true rfl) rfl (uX6_traitor hW hv0 hf)
/-! X6_ask ask -/
def rmX6_ask : Room := { frames := 5, cells := 0, slots := 0, locals := 116 }
abbrev GX6_ask (S : Shp) (r r' : Rf) (out : Option Int32 × Hp) (pc : Nat) (L : List (Nat × Value)) (st : List Value) (h : Hp) : Prop := G RX6 cX6_ask 9 (some .int) wsX6_ask rmX6_ask S r r' out pc L st h
theorem nX6_ask_X6 : ∀ w ∈ wsX60, w ∈ wsX6_ask := by decide +kernel
theorem mX6_ask_141 : Cond.fieldLink RX6 141 "LinkedIslesModel" "n" "I" ∈ wsX6_ask := by decide +kernel
theorem hdX6_ask : yX6_ask.cls ≠ "java/lang/invoke/MethodHandle" ∧ yX6_ask.cls ≠ "java/lang/invoke/VarHandle" ∧ (parseMethodDescriptor yX6_ask.desc).map (fun d => d.parameters.length) = some 0 := by decide +kernel
def bX6_ask_48 (n : Nat) (r : Rf) (v0 : Nat) (v1 : Int32) (v2 : Int32) (v3 : Int32) (v4 : Int32) (v5 : Int32) (v6 : Int32) (v7 : Int32) (v8 : Int32) (h : Hp) : Option ((Int32 × Int32) ⊕ (Int32)) :=
  if 10 < v8 then (some (.inr v7)) else ((fX6_has n r v1 v8 h).bind (fun (x10 : Int32) => if x10 = 0 then (lE ((v7 + 0)) (fun (x12 : Int32) => lE (v8 + 1) (fun (x13 : Int32) => some (.inl (x12, x13))))) else ((fX6_hangs n r v0 v5 v6 v8 h).bind (fun (x15 : Int32) => if x15 = 0 then (lE ((v7 + 0)) (fun (x17 : Int32) => lE (v8 + 1) (fun (x18 : Int32) => some (.inl (x17, x18))))) else (lE ((v7 + 1)) (fun (x19 : Int32) => lE (v8 + 1) (fun (x20 : Int32) => some (.inl (x19, x20)))))))))
def jX6_ask_132 (n : Nat) (r : Rf) (v0 : Nat) (v1 : Int32) (v2 : Int32) (v4 : Int32) (v5 : Int32) (v6 : Int32) (v8 : Int32) (s0 : Int32) (h : Hp) : Option ((Int32 × Int32 × Int32) ⊕ (Int32 × Int32)) :=
  if v4 ≤ v8 then (lE (v6 + 1) (fun (x24 : Int32) => some (.inl (s0, v4, x24)))) else (lE (v6 + 1) (fun (x25 : Int32) => some (.inl (s0, v8, x25))))
def jX6_ask_111 (n : Nat) (r : Rf) (v0 : Nat) (v1 : Int32) (v2 : Int32) (v3 : Int32) (v4 : Int32) (v5 : Int32) (v6 : Int32) (s0 : Int32) (h : Hp) : Option ((Int32 × Int32 × Int32) ⊕ (Int32 × Int32)) :=
  if v4 ≤ s0 then (jX6_ask_132 n r v0 v1 v2 v4 v5 v6 s0 v3 h) else (jX6_ask_132 n r v0 v1 v2 v4 v5 v6 s0 ((10 * v5) + v6) h)
def lX6_ask_48 (n : Nat) (r : Rf) (v0 : Nat) (v1 : Int32) (v2 : Int32) (v3 : Int32) (v4 : Int32) (v5 : Int32) (v6 : Int32) (v7 : Int32) (v8 : Int32) (h : Hp) : Option ((Int32 × Int32 × Int32) ⊕ (Int32 × Int32)) :=
  (it (fun (s : Int32 × Int32) => bX6_ask_48 n r v0 v1 v2 v3 v4 v5 v6 s.1 s.2 h) n (v7, v8)).bind (fun z => if z ≤ (v2 - z) then (jX6_ask_111 n r v0 v1 v2 v3 v4 v5 v6 (v2 - z) h) else (jX6_ask_111 n r v0 v1 v2 v3 v4 v5 v6 z h))
def bX6_ask_33 (n : Nat) (r : Rf) (v0 : Nat) (v1 : Int32) (v2 : Int32) (v3 : Int32) (v4 : Int32) (v5 : Int32) (v6 : Int32) (h : Hp) : Option ((Int32 × Int32 × Int32) ⊕ (Int32 × Int32)) :=
  if (h.1 v0 14) ≤ v6 then (some (.inr (v3, v4))) else (lX6_ask_48 n r v0 v1 v2 v3 v4 v5 v6 0 0 h)
def lX6_ask_33 (n : Nat) (r : Rf) (v0 : Nat) (v1 : Int32) (v2 : Int32) (v3 : Int32) (v4 : Int32) (v5 : Int32) (v6 : Int32) (h : Hp) : Option ((Int32 × Int32 × Int32) ⊕ (Int32)) :=
  (it (fun (s : Int32 × Int32 × Int32) => bX6_ask_33 n r v0 v1 v2 s.1 s.2.1 v5 s.2.2 h) n (v3, v4, v6)).bind (fun z => lE (v5 + 1) (fun (x26 : Int32) => some (.inl ((z.1), (z.2), x26))))
def bX6_ask_18 (n : Nat) (r : Rf) (v0 : Nat) (v1 : Int32) (v2 : Int32) (v3 : Int32) (v4 : Int32) (v5 : Int32) (h : Hp) : Option ((Int32 × Int32 × Int32) ⊕ (Int32)) :=
  if (h.1 v0 14) ≤ v5 then (some (.inr v3)) else (lE ((v5 + 1)) (fun (x6 : Int32) => lX6_ask_33 n r v0 v1 v2 v3 v4 v5 x6 h))
def lX6_ask_18 (n : Nat) (r : Rf) (v0 : Nat) (v1 : Int32) (v2 : Int32) (v3 : Int32) (v4 : Int32) (v5 : Int32) (h : Hp) : Option Int32 :=
  (it (fun (s : Int32 × Int32 × Int32) => bX6_ask_18 n r v0 v1 v2 s.1 s.2.1 s.2.2 h) n (v3, v4, v5)).bind (fun z => some z)
def fX6_ask (n : Nat) (r : Rf) (v0 : Nat) (h : Hp) : Option Int32 :=
  (fX6_suspects n r v0 h).bind (fun (x2 : Int32) => (fX6_bits n r x2 h).bind (fun (x4 : Int32) => lX6_ask_18 n r v0 x2 x4 (-1) x4 0 h))
set_option maxHeartbeats 4000000 in
set_option maxRecDepth 100000 in
theorem ubX6_ask_48 {S : Shp} {n : Nat} {r : Rf} {out : Option Int32 × Hp} {r' : Rf} {v0 : Nat} {v1 : Int32} {v2 : Int32} {v3 : Int32} {v4 : Int32} {v5 : Int32} {v6 : Int32} {v7 : Int32} {v8 : Int32}  {h : Hp} {w : (Int32 × Int32) ⊕ (Int32)} (hW : WF S r) (hv0 : S[v0]? = some (6, 38)) (hf : bX6_ask_48 n r v0 v1 v2 v3 v4 v5 v6 v7 v8 h = some w) (hk : ∀ y, w = .inl y → GX6_ask S r r' out 48 [(0, .ref v0), (1, .int v1), (2, .int v2), (3, .int v3), (4, .int v4), (5, .int v5), (6, .int v6), (7, .int (y.1)), (8, .int (y.2))] [] h) (he : ∀ z, w = .inr z → GX6_ask S r r' out 93 [(0, .ref v0), (1, .int v1), (2, .int v2), (3, .int v3), (4, .int v4), (5, .int v5), (6, .int v6), (7, .int (z))] [] h) : GX6_ask S r r' out 48 [(0, .ref v0), (1, .int v1), (2, .int v2), (3, .int v3), (4, .int v4), (5, .int v5), (6, .int v6), (7, .int v7), (8, .int v8)] [] h := by
  unfold bX6_ask_48 at hf
  refine g_iload (ps := 8) dX6_ask_48 rfl ?_
  refine g_bipush (v := 10) dX6_ask_50 (by decide +kernel) ?_
  refine g_icmp_gt (tgt := 93) dX6_ask_52 (by decide) (fun c8 => ?_) (fun c8 => ?_)
  · have hf := if_t hf c8
    exact g_pick [0, 1, 2, 3, 4, 5, 6, 7] rfl (he _ (Option.some.inj hf).symm)
  · have hf := if_f hf c8
    refine g_iload (ps := 7) dX6_ask_55 rfl ?_
    refine g_iload_n (ps := 1) dX6_ask_57 rfl rfl ?_
    refine g_iload (ps := 8) dX6_ask_58 rfl ?_
    obtain ⟨x10, e9, hf⟩ := bd_s hf
    refine g_callSi (As := [.int v1, .int v8]) (n := 2) (kX6_has hW  e9) gX6_ask_X6_has rfl ⟨rfl, rfl⟩ hdX6_has ⟨Nat.le_of_ble_eq_true rfl, Nat.le_of_ble_eq_true rfl⟩ rfl rfl (Nat.le_of_ble_eq_true rfl) dX6_ask_60 ?_
    refine g_if_eq (tgt := 83) dX6_ask_63 (by decide) (fun c11 => ?_) (fun c11 => ?_)
    · have hf := if_t hf c11
      refine g_iconst (v := 0) dX6_ask_83 (by decide +kernel) ?_
      refine g_iadd dX6_ask_84 ?_
      refine g_topi (fun x12 ex12 => ?_)
      have hf := lE_s hf ex12
      refine g_istore (L' := [(7, .int x12), (0, .ref v0), (1, .int v1), (2, .int v2), (3, .int v3), (4, .int v4), (5, .int v5), (6, .int v6), (8, .int v8)]) dX6_ask_85 (by decide) rfl ?_
      obtain ⟨x13, ex13⟩ : ∃ y : Int32, y = v8 + 1 := ⟨_, rfl⟩
      have hf := lE_s hf ex13
      refine g_iinc (ps := 8) (v := x13) (L' := [(8, .int x13), (7, .int x12), (0, .ref v0), (1, .int v1), (2, .int v2), (3, .int v3), (4, .int v4), (5, .int v5), (6, .int v6)]) dX6_ask_87 rfl (by rw [ex13]; rfl) (by decide) rfl ?_
      refine g_goto (tgt := 48) dX6_ask_90 (by decide) ?_
      exact g_pick [2, 3, 4, 5, 6, 7, 8, 1, 0] rfl (hk _ (Option.some.inj hf).symm)
    · have hf := if_f hf c11
      refine g_aload_n (ps := 0) dX6_ask_66 rfl rfl ?_
      refine g_iload (ps := 5) dX6_ask_67 rfl ?_
      refine g_iload (ps := 6) dX6_ask_69 rfl ?_
      refine g_iload (ps := 8) dX6_ask_71 rfl ?_
      obtain ⟨x15, e14, hf⟩ := bd_s hf
      refine g_callVi (As := [.int v5, .int v6, .int v8]) (n := 3) (kX6_hangs hW hv0 e14) gX6_ask_X6_hangs rfl ⟨rfl, rfl⟩ ⟨rfl, hdX6_hangs⟩ ⟨Nat.le_of_ble_eq_true rfl, Nat.le_of_ble_eq_true rfl⟩ cf6 hv0 rfl rfl (Nat.le_of_ble_eq_true rfl) dX6_ask_73 ?_
      refine g_if_eq (tgt := 83) dX6_ask_76 (by decide) (fun c16 => ?_) (fun c16 => ?_)
      · have hf := if_t hf c16
        refine g_iconst (v := 0) dX6_ask_83 (by decide +kernel) ?_
        refine g_iadd dX6_ask_84 ?_
        refine g_topi (fun x17 ex17 => ?_)
        have hf := lE_s hf ex17
        refine g_istore (L' := [(7, .int x17), (0, .ref v0), (1, .int v1), (2, .int v2), (3, .int v3), (4, .int v4), (5, .int v5), (6, .int v6), (8, .int v8)]) dX6_ask_85 (by decide) rfl ?_
        obtain ⟨x18, ex18⟩ : ∃ y : Int32, y = v8 + 1 := ⟨_, rfl⟩
        have hf := lE_s hf ex18
        refine g_iinc (ps := 8) (v := x18) (L' := [(8, .int x18), (7, .int x17), (0, .ref v0), (1, .int v1), (2, .int v2), (3, .int v3), (4, .int v4), (5, .int v5), (6, .int v6)]) dX6_ask_87 rfl (by rw [ex18]; rfl) (by decide) rfl ?_
        refine g_goto (tgt := 48) dX6_ask_90 (by decide) ?_
        exact g_pick [2, 3, 4, 5, 6, 7, 8, 1, 0] rfl (hk _ (Option.some.inj hf).symm)
      · have hf := if_f hf c16
        refine g_iconst (v := 1) dX6_ask_79 (by decide +kernel) ?_
        refine g_goto (tgt := 84) dX6_ask_80 (by decide) ?_
        refine g_iadd dX6_ask_84 ?_
        refine g_topi (fun x19 ex19 => ?_)
        have hf := lE_s hf ex19
        refine g_istore (L' := [(7, .int x19), (0, .ref v0), (1, .int v1), (2, .int v2), (3, .int v3), (4, .int v4), (5, .int v5), (6, .int v6), (8, .int v8)]) dX6_ask_85 (by decide) rfl ?_
        obtain ⟨x20, ex20⟩ : ∃ y : Int32, y = v8 + 1 := ⟨_, rfl⟩
        have hf := lE_s hf ex20
        refine g_iinc (ps := 8) (v := x20) (L' := [(8, .int x20), (7, .int x19), (0, .ref v0), (1, .int v1), (2, .int v2), (3, .int v3), (4, .int v4), (5, .int v5), (6, .int v6)]) dX6_ask_87 rfl (by rw [ex20]; rfl) (by decide) rfl ?_
        refine g_goto (tgt := 48) dX6_ask_90 (by decide) ?_
        exact g_pick [2, 3, 4, 5, 6, 7, 8, 1, 0] rfl (hk _ (Option.some.inj hf).symm)
set_option maxHeartbeats 4000000 in
set_option maxRecDepth 100000 in
theorem ujX6_ask_132 {S : Shp} {n : Nat} {r : Rf} {out : Option Int32 × Hp} {r' : Rf} {v0 : Nat} {v1 : Int32} {v2 : Int32} {v4 : Int32} {v5 : Int32} {v6 : Int32} {v8 : Int32} {s0 : Int32} {h : Hp} {w : (Int32 × Int32 × Int32) ⊕ (Int32 × Int32)} (hW : WF S r) (hv0 : S[v0]? = some (6, 38)) (hf : jX6_ask_132 n r v0 v1 v2 v4 v5 v6 v8 s0 h = some w) (hk : ∀ y, w = .inl y → GX6_ask S r r' out 33 [(0, .ref v0), (1, .int v1), (2, .int v2), (3, .int (y.1)), (4, .int (y.2.1)), (5, .int v5), (6, .int (y.2.2))] [] h) (he : ∀ z, w = .inr z → GX6_ask S r r' out 155 [(0, .ref v0), (1, .int v1), (2, .int v2), (3, .int (z.1)), (4, .int (z.2)), (5, .int v5)] [] h) : GX6_ask S r r' out 132 [(0, .ref v0), (1, .int v1), (2, .int v2), (4, .int v4), (5, .int v5), (6, .int v6), (8, .int v8)] [.int s0] h := by
  unfold jX6_ask_132 at hf
  refine g_istore_n (L' := [(3, .int s0), (0, .ref v0), (1, .int v1), (2, .int v2), (4, .int v4), (5, .int v5), (6, .int v6), (8, .int v8)]) dX6_ask_132 rfl (by decide) rfl ?_
  refine g_iload (ps := 7) dX6_ask_133 rfl ?_
  refine g_iload (ps := 4) dX6_ask_135 rfl ?_
  refine g_icmp_ge (tgt := 145) dX6_ask_137 (by decide) (fun c23 => ?_) (fun c23 => ?_)
  · have hf := if_t hf c23
    refine g_iload (ps := 4) dX6_ask_145 rfl ?_
    refine g_istore (L' := [(4, .int v4), (3, .int s0), (0, .ref v0), (1, .int v1), (2, .int v2), (5, .int v5), (6, .int v6), (8, .int v8)]) dX6_ask_147 (by decide) rfl ?_
    obtain ⟨x24, ex24⟩ : ∃ y : Int32, y = v6 + 1 := ⟨_, rfl⟩
    have hf := lE_s hf ex24
    refine g_iinc (ps := 6) (v := x24) (L' := [(6, .int x24), (4, .int v4), (3, .int s0), (0, .ref v0), (1, .int v1), (2, .int v2), (5, .int v5), (8, .int v8)]) dX6_ask_149 rfl (by rw [ex24]; rfl) (by decide) rfl ?_
    refine g_goto (tgt := 33) dX6_ask_152 (by decide) ?_
    exact g_pick [3, 4, 5, 2, 1, 6, 0] rfl (hk _ (Option.some.inj hf).symm)
  · have hf := if_f hf c23
    refine g_iload (ps := 7) dX6_ask_140 rfl ?_
    refine g_goto (tgt := 147) dX6_ask_142 (by decide) ?_
    refine g_istore (L' := [(4, .int v8), (3, .int s0), (0, .ref v0), (1, .int v1), (2, .int v2), (5, .int v5), (6, .int v6), (8, .int v8)]) dX6_ask_147 (by decide) rfl ?_
    obtain ⟨x25, ex25⟩ : ∃ y : Int32, y = v6 + 1 := ⟨_, rfl⟩
    have hf := lE_s hf ex25
    refine g_iinc (ps := 6) (v := x25) (L' := [(6, .int x25), (4, .int v8), (3, .int s0), (0, .ref v0), (1, .int v1), (2, .int v2), (5, .int v5), (8, .int v8)]) dX6_ask_149 rfl (by rw [ex25]; rfl) (by decide) rfl ?_
    refine g_goto (tgt := 33) dX6_ask_152 (by decide) ?_
    exact g_pick [3, 4, 5, 2, 1, 6, 0] rfl (hk _ (Option.some.inj hf).symm)
set_option maxHeartbeats 4000000 in
set_option maxRecDepth 100000 in
theorem ujX6_ask_111 {S : Shp} {n : Nat} {r : Rf} {out : Option Int32 × Hp} {r' : Rf} {v0 : Nat} {v1 : Int32} {v2 : Int32} {v3 : Int32} {v4 : Int32} {v5 : Int32} {v6 : Int32} {s0 : Int32} {h : Hp} {w : (Int32 × Int32 × Int32) ⊕ (Int32 × Int32)} (hW : WF S r) (hv0 : S[v0]? = some (6, 38)) (hf : jX6_ask_111 n r v0 v1 v2 v3 v4 v5 v6 s0 h = some w) (hk : ∀ y, w = .inl y → GX6_ask S r r' out 33 [(0, .ref v0), (1, .int v1), (2, .int v2), (3, .int (y.1)), (4, .int (y.2.1)), (5, .int v5), (6, .int (y.2.2))] [] h) (he : ∀ z, w = .inr z → GX6_ask S r r' out 155 [(0, .ref v0), (1, .int v1), (2, .int v2), (3, .int (z.1)), (4, .int (z.2)), (5, .int v5)] [] h) : GX6_ask S r r' out 111 [(0, .ref v0), (1, .int v1), (2, .int v2), (3, .int v3), (4, .int v4), (5, .int v5), (6, .int v6)] [.int s0] h := by
  unfold jX6_ask_111 at hf
  refine g_istore (L' := [(8, .int s0), (0, .ref v0), (1, .int v1), (2, .int v2), (3, .int v3), (4, .int v4), (5, .int v5), (6, .int v6)]) dX6_ask_111 (by decide) rfl ?_
  refine g_iload (ps := 0) dX6_ask_113 rfl ?_
  refine g_iload (ps := 5) dX6_ask_115 rfl ?_
  refine g_icmp_ge (tgt := 131) dX6_ask_117 (by decide) (fun c22 => ?_) (fun c22 => ?_)
  · have hf := if_t hf c22
    refine g_iload_n (ps := 4) dX6_ask_131 rfl rfl ?_
    exact g_pick [1, 2, 3, 5, 6, 7, 0] rfl (ujX6_ask_132 hW hv0 hf hk he)
  · have hf := if_f hf c22
    refine g_bipush (v := 10) dX6_ask_120 (by decide +kernel) ?_
    refine g_iload (ps := 6) dX6_ask_122 rfl ?_
    refine g_imul dX6_ask_124 ?_
    refine g_iload (ps := 7) dX6_ask_125 rfl ?_
    refine g_iadd dX6_ask_127 ?_
    refine g_goto (tgt := 132) dX6_ask_128 (by decide) ?_
    exact g_pick [1, 2, 3, 5, 6, 7, 0] rfl (ujX6_ask_132 hW hv0 hf hk he)
set_option maxHeartbeats 4000000 in
set_option maxRecDepth 100000 in
theorem ulX6_ask_48 {S : Shp} {n : Nat} {r : Rf} {out : Option Int32 × Hp} {r' : Rf} {v0 : Nat} {v1 : Int32} {v2 : Int32} {v3 : Int32} {v4 : Int32} {v5 : Int32} {v6 : Int32} {v7 : Int32} {v8 : Int32}  {h : Hp} {w : (Int32 × Int32 × Int32) ⊕ (Int32 × Int32)} (hW : WF S r) (hv0 : S[v0]? = some (6, 38)) (hf : lX6_ask_48 n r v0 v1 v2 v3 v4 v5 v6 v7 v8 h = some w) (hk : ∀ y, w = .inl y → GX6_ask S r r' out 33 [(0, .ref v0), (1, .int v1), (2, .int v2), (3, .int (y.1)), (4, .int (y.2.1)), (5, .int v5), (6, .int (y.2.2))] [] h) (he : ∀ z, w = .inr z → GX6_ask S r r' out 155 [(0, .ref v0), (1, .int v1), (2, .int v2), (3, .int (z.1)), (4, .int (z.2)), (5, .int v5)] [] h) : GX6_ask S r r' out 48 [(0, .ref v0), (1, .int v1), (2, .int v2), (3, .int v3), (4, .int v4), (5, .int v5), (6, .int v6), (7, .int v7), (8, .int v8)] [] h := by
  unfold lX6_ask_48 at hf
  obtain ⟨z0, ei, hf⟩ := bd_s hf
  refine it_ind (P := fun (s : Int32 × Int32) => GX6_ask S r r' out 48 [(0, .ref v0), (1, .int v1), (2, .int v2), (3, .int v3), (4, .int v4), (5, .int v5), (6, .int v6), (7, .int (s.1)), (8, .int (s.2))] [] h) (fun s w hb hk2 he2 => ?_) n _ ei
  refine ubX6_ask_48 (out := out) (r' := r') hW hv0 hb hk2 (fun z hz => ?_)
  have hz := he2 z hz
  subst hz
  refine g_iload (ps := 7) dX6_ask_93 rfl ?_
  refine g_iload_n (ps := 2) dX6_ask_95 rfl rfl ?_
  refine g_iload (ps := 7) dX6_ask_96 rfl ?_
  refine g_isub dX6_ask_98 ?_
  refine g_icmp_le (tgt := 107) dX6_ask_99 (by decide) (fun c21 => ?_) (fun c21 => ?_)
  · have hf := if_t hf c21
    refine g_iload_n (ps := 2) dX6_ask_107 rfl rfl ?_
    refine g_iload (ps := 7) dX6_ask_108 rfl ?_
    refine g_isub dX6_ask_110 ?_
    exact g_pick [0, 1, 2, 3, 4, 5, 6] rfl (ujX6_ask_111 hW hv0 hf hk he)
  · have hf := if_f hf c21
    refine g_iload (ps := 7) dX6_ask_102 rfl ?_
    refine g_goto (tgt := 111) dX6_ask_104 (by decide) ?_
    exact g_pick [0, 1, 2, 3, 4, 5, 6] rfl (ujX6_ask_111 hW hv0 hf hk he)
set_option maxHeartbeats 4000000 in
set_option maxRecDepth 100000 in
theorem ubX6_ask_33 {S : Shp} {n : Nat} {r : Rf} {out : Option Int32 × Hp} {r' : Rf} {v0 : Nat} {v1 : Int32} {v2 : Int32} {v3 : Int32} {v4 : Int32} {v5 : Int32} {v6 : Int32}  {h : Hp} {w : (Int32 × Int32 × Int32) ⊕ (Int32 × Int32)} (hW : WF S r) (hv0 : S[v0]? = some (6, 38)) (hf : bX6_ask_33 n r v0 v1 v2 v3 v4 v5 v6 h = some w) (hk : ∀ y, w = .inl y → GX6_ask S r r' out 33 [(0, .ref v0), (1, .int v1), (2, .int v2), (3, .int (y.1)), (4, .int (y.2.1)), (5, .int v5), (6, .int (y.2.2))] [] h) (he : ∀ z, w = .inr z → GX6_ask S r r' out 155 [(0, .ref v0), (1, .int v1), (2, .int v2), (3, .int (z.1)), (4, .int (z.2)), (5, .int v5)] [] h) : GX6_ask S r r' out 33 [(0, .ref v0), (1, .int v1), (2, .int v2), (3, .int v3), (4, .int v4), (5, .int v5), (6, .int v6)] [] h := by
  unfold bX6_ask_33 at hf
  refine g_iload (ps := 6) dX6_ask_33 rfl ?_
  refine g_aload_n (ps := 0) dX6_ask_35 rfl rfl ?_
  refine g_getI cf6 hv0 nX6_ask_X6 (j := 14) (by decide) rfl mX6_ask_141 dX6_ask_36 ?_
  refine g_icmp_ge (tgt := 155) dX6_ask_39 (by decide) (fun c7 => ?_) (fun c7 => ?_)
  · have hf := if_t hf c7
    exact g_pick [0, 1, 2, 3, 4, 5] rfl (he _ (Option.some.inj hf).symm)
  · have hf := if_f hf c7
    refine g_iconst (v := 0) dX6_ask_42 (by decide +kernel) ?_
    refine g_istore (L' := [(7, .int 0), (0, .ref v0), (1, .int v1), (2, .int v2), (3, .int v3), (4, .int v4), (5, .int v5), (6, .int v6)]) dX6_ask_43 (by decide) rfl ?_
    refine g_iconst (v := 0) dX6_ask_45 (by decide +kernel) ?_
    refine g_istore (L' := [(8, .int 0), (7, .int 0), (0, .ref v0), (1, .int v1), (2, .int v2), (3, .int v3), (4, .int v4), (5, .int v5), (6, .int v6)]) dX6_ask_46 (by decide) rfl ?_
    exact g_pick [2, 3, 4, 5, 6, 7, 8, 1, 0] rfl (ulX6_ask_48 hW hv0 hf hk he)
set_option maxHeartbeats 4000000 in
set_option maxRecDepth 100000 in
theorem ulX6_ask_33 {S : Shp} {n : Nat} {r : Rf} {out : Option Int32 × Hp} {r' : Rf} {v0 : Nat} {v1 : Int32} {v2 : Int32} {v3 : Int32} {v4 : Int32} {v5 : Int32} {v6 : Int32}  {h : Hp} {w : (Int32 × Int32 × Int32) ⊕ (Int32)} (hW : WF S r) (hv0 : S[v0]? = some (6, 38)) (hf : lX6_ask_33 n r v0 v1 v2 v3 v4 v5 v6 h = some w) (hk : ∀ y, w = .inl y → GX6_ask S r r' out 18 [(0, .ref v0), (1, .int v1), (2, .int v2), (3, .int (y.1)), (4, .int (y.2.1)), (5, .int (y.2.2))] [] h) (he : ∀ z, w = .inr z → GX6_ask S r r' out 161 [(0, .ref v0), (3, .int (z))] [] h) : GX6_ask S r r' out 33 [(0, .ref v0), (1, .int v1), (2, .int v2), (3, .int v3), (4, .int v4), (5, .int v5), (6, .int v6)] [] h := by
  unfold lX6_ask_33 at hf
  obtain ⟨z0, ei, hf⟩ := bd_s hf
  refine it_ind (P := fun (s : Int32 × Int32 × Int32) => GX6_ask S r r' out 33 [(0, .ref v0), (1, .int v1), (2, .int v2), (3, .int (s.1)), (4, .int (s.2.1)), (5, .int v5), (6, .int (s.2.2))] [] h) (fun s w hb hk2 he2 => ?_) n _ ei
  refine ubX6_ask_33 (out := out) (r' := r') hW hv0 hb hk2 (fun z hz => ?_)
  have hz := he2 z hz
  subst hz
  obtain ⟨x26, ex26⟩ : ∃ y : Int32, y = v5 + 1 := ⟨_, rfl⟩
  have hf := lE_s hf ex26
  refine g_iinc (ps := 5) (v := x26) (L' := [(5, .int x26), (0, .ref v0), (1, .int v1), (2, .int v2), (3, .int (z.1)), (4, .int (z.2))]) dX6_ask_155 rfl (by rw [ex26]; rfl) (by decide) rfl ?_
  refine g_goto (tgt := 18) dX6_ask_158 (by decide) ?_
  exact g_pick [1, 2, 3, 4, 5, 0] rfl (hk _ (Option.some.inj hf).symm)
set_option maxHeartbeats 4000000 in
set_option maxRecDepth 100000 in
theorem ubX6_ask_18 {S : Shp} {n : Nat} {r : Rf} {out : Option Int32 × Hp} {r' : Rf} {v0 : Nat} {v1 : Int32} {v2 : Int32} {v3 : Int32} {v4 : Int32} {v5 : Int32}  {h : Hp} {w : (Int32 × Int32 × Int32) ⊕ (Int32)} (hW : WF S r) (hv0 : S[v0]? = some (6, 38)) (hf : bX6_ask_18 n r v0 v1 v2 v3 v4 v5 h = some w) (hk : ∀ y, w = .inl y → GX6_ask S r r' out 18 [(0, .ref v0), (1, .int v1), (2, .int v2), (3, .int (y.1)), (4, .int (y.2.1)), (5, .int (y.2.2))] [] h) (he : ∀ z, w = .inr z → GX6_ask S r r' out 161 [(0, .ref v0), (3, .int (z))] [] h) : GX6_ask S r r' out 18 [(0, .ref v0), (1, .int v1), (2, .int v2), (3, .int v3), (4, .int v4), (5, .int v5)] [] h := by
  unfold bX6_ask_18 at hf
  refine g_iload (ps := 5) dX6_ask_18 rfl ?_
  refine g_aload_n (ps := 0) dX6_ask_20 rfl rfl ?_
  refine g_getI cf6 hv0 nX6_ask_X6 (j := 14) (by decide) rfl mX6_ask_141 dX6_ask_21 ?_
  refine g_icmp_ge (tgt := 161) dX6_ask_24 (by decide) (fun c5 => ?_) (fun c5 => ?_)
  · have hf := if_t hf c5
    exact g_pick [0, 3] rfl (he _ (Option.some.inj hf).symm)
  · have hf := if_f hf c5
    refine g_iload (ps := 5) dX6_ask_27 rfl ?_
    refine g_iconst (v := 1) dX6_ask_29 (by decide +kernel) ?_
    refine g_iadd dX6_ask_30 ?_
    refine g_topi (fun x6 ex6 => ?_)
    have hf := lE_s hf ex6
    refine g_istore (L' := [(6, .int x6), (0, .ref v0), (1, .int v1), (2, .int v2), (3, .int v3), (4, .int v4), (5, .int v5)]) dX6_ask_31 (by decide) rfl ?_
    exact g_pick [1, 2, 3, 4, 5, 6, 0] rfl (ulX6_ask_33 hW hv0 hf hk he)
set_option maxHeartbeats 4000000 in
set_option maxRecDepth 100000 in
theorem ulX6_ask_18 {S : Shp} {n : Nat} {r : Rf} {v0 : Nat} {v1 : Int32} {v2 : Int32} {v3 : Int32} {v4 : Int32} {v5 : Int32}  {h : Hp} {o : Int32} (hW : WF S r) (hv0 : S[v0]? = some (6, 38)) (hf : lX6_ask_18 n r v0 v1 v2 v3 v4 v5 h = some o)  : GX6_ask S r r (some o, h) 18 [(0, .ref v0), (1, .int v1), (2, .int v2), (3, .int v3), (4, .int v4), (5, .int v5)] [] h := by
  unfold lX6_ask_18 at hf
  obtain ⟨z0, ei, hf⟩ := bd_s hf
  refine it_ind (P := fun (s : Int32 × Int32 × Int32) => GX6_ask S r r (some o, h) 18 [(0, .ref v0), (1, .int v1), (2, .int v2), (3, .int (s.1)), (4, .int (s.2.1)), (5, .int (s.2.2))] [] h) (fun s w hb hk2 he2 => ?_) n _ ei
  refine ubX6_ask_18 (out := (some o, h)) (r' := r) hW hv0 hb hk2 (fun z hz => ?_)
  have hz := he2 z hz
  subst hz
  refine g_iload_n (ps := 1) dX6_ask_161 rfl rfl ?_
  have hf := Option.some.inj hf
  subst hf
  exact g_iret dX6_ask_162
set_option maxHeartbeats 4000000 in
set_option maxRecDepth 100000 in
theorem uX6_ask {S : Shp} {n : Nat} {r : Rf} {v0 : Nat} {h : Hp} {o : Int32} (hW : WF S r) (hv0 : S[v0]? = some (6, 38)) (hf : fX6_ask n r v0 h = some o) : GX6_ask S r r (some o, h) 0 [(0, .ref v0)] [] h := by
  unfold fX6_ask at hf
  refine g_aload_n (ps := 0) dX6_ask_0 rfl rfl ?_
  obtain ⟨x2, e1, hf⟩ := bd_s hf
  refine g_callVi (As := []) (n := 0) (kX6_suspects hW hv0 e1) gX6_ask_X6_suspects rfl ⟨rfl, rfl⟩ ⟨rfl, hdX6_suspects⟩ ⟨Nat.le_of_ble_eq_true rfl, Nat.le_of_ble_eq_true rfl⟩ cf6 hv0 rfl rfl (Nat.le_of_ble_eq_true rfl) dX6_ask_1 ?_
  refine g_istore_n (L' := [(1, .int x2), (0, .ref v0)]) dX6_ask_4 rfl (by decide) rfl ?_
  refine g_iload_n (ps := 0) dX6_ask_5 rfl rfl ?_
  obtain ⟨x4, e3, hf⟩ := bd_s hf
  refine g_callSi (As := [.int x2]) (n := 1) (kX6_bits hW  e3) gX6_ask_X6_bits rfl ⟨rfl, rfl⟩ hdX6_bits ⟨Nat.le_of_ble_eq_true rfl, Nat.le_of_ble_eq_true rfl⟩ rfl rfl (Nat.le_of_ble_eq_true rfl) dX6_ask_6 ?_
  refine g_istore_n (L' := [(2, .int x4), (1, .int x2), (0, .ref v0)]) dX6_ask_9 rfl (by decide) rfl ?_
  refine g_iconst (v := (-1)) dX6_ask_10 (by decide +kernel) ?_
  refine g_istore_n (L' := [(3, .int (-1)), (2, .int x4), (1, .int x2), (0, .ref v0)]) dX6_ask_11 rfl (by decide) rfl ?_
  refine g_iload_n (ps := 1) dX6_ask_12 rfl rfl ?_
  refine g_istore (L' := [(4, .int x4), (3, .int (-1)), (2, .int x4), (1, .int x2), (0, .ref v0)]) dX6_ask_13 (by decide) rfl ?_
  refine g_iconst (v := 0) dX6_ask_15 (by decide +kernel) ?_
  refine g_istore (L' := [(5, .int 0), (4, .int x4), (3, .int (-1)), (2, .int x4), (1, .int x2), (0, .ref v0)]) dX6_ask_16 (by decide) rfl ?_
  exact g_pick [5, 4, 3, 2, 1, 0] rfl (ulX6_ask_18 hW hv0 hf)
theorem kX6_ask {S : Shp} {n : Nat} {r : Rf} {v0 : Nat} {h : Hp} {o : Int32} (hW : WF S r) (hv0 : S[v0]? = some (6, 38)) (hf : fX6_ask n r v0 h = some o) : CTi yX6_ask wsX6_ask rmX6_ask S r [.ref v0] h r o h :=
  cti_of rfl (by decide +kernel) rfl (Nat.le_of_ble_eq_true rfl) rfl (uX6_ask hW hv0 hf)
/-! X6_write write -/
def rmX6_write : Room := { frames := 2, cells := 0, slots := 0, locals := 43 }
abbrev GX6_write (S : Shp) (r r' : Rf) (out : Option Int32 × Hp) (pc : Nat) (L : List (Nat × Value)) (st : List Value) (h : Hp) : Prop := G RX6 cX6_write 3 (some .int) wsX6_write rmX6_write S r r' out pc L st h
theorem nX6_write_X6 : ∀ w ∈ wsX60, w ∈ wsX6_write := by decide +kernel
theorem mX6_write_176 : Cond.constant RX6 176 (-1000000001) ∈ wsX6_write := by decide +kernel
theorem mX6_write_86 : Cond.constant RX6 86 (-1000000002) ∈ wsX6_write := by decide +kernel
theorem mX6_write_90 : Cond.constant RX6 90 (-1000000004) ∈ wsX6_write := by decide +kernel
theorem mX6_write_156 : Cond.fieldLink RX6 156 "LinkedIslesModel" "bookMany" "I" ∈ wsX6_write := by decide +kernel
theorem mX6_write_66 : Cond.fieldLink RX6 66 "LinkedIslesModel" "bookLink" "[I" ∈ wsX6_write := by decide +kernel
theorem mX6_write_69 : Cond.fieldLink RX6 69 "LinkedIslesModel" "bookIs" "[I" ∈ wsX6_write := by decide +kernel
theorem hdX6_write : yX6_write.cls ≠ "java/lang/invoke/MethodHandle" ∧ yX6_write.cls ≠ "java/lang/invoke/VarHandle" ∧ (parseMethodDescriptor yX6_write.desc).map (fun d => d.parameters.length) = some 2 := by decide +kernel
def fX6_write (n : Nat) (r : Rf) (v0 : Nat) (v1 : Int32) (v2 : Int32) (h : Hp) : Option (Int32 × Hp) :=
  (fX6_isLink n r v0 v1 h).bind (fun (x2 : Int32) => if x2 = 0 then (some ((-1000000001), h)) else ((fX6_in n r v2 0 1 h).bind (fun (x5 : Int32) => if x5 = 0 then (some ((-1000000002), h)) else (if (h.1 v0 32) = 20 then (some ((-1000000004), h)) else (ck (h.1 v0 32) 20 (lE (pI h (r v0 33) (Int32.toNatClampNeg (h.1 v0 32)) v1) (fun (h9 : Hp) => ck (h9.1 v0 32) 20 (lE (pI h9 (r v0 34) (Int32.toNatClampNeg (h9.1 v0 32)) v2) (fun (h11 : Hp) => lE (pI h11 v0 32 ((h11.1 v0 32) + 1)) (fun (h12 : Hp) => some ((h12.1 v0 32), h12)))))))))))
set_option maxHeartbeats 4000000 in
set_option maxRecDepth 100000 in
theorem uX6_write {S : Shp} {n : Nat} {r : Rf} {v0 : Nat} {v1 : Int32} {v2 : Int32} {h : Hp} {o : (Int32 × Hp)} (hW : WF S r) (hv0 : S[v0]? = some (6, 38)) (hf : fX6_write n r v0 v1 v2 h = some o) : GX6_write S r r (some o.1, o.2) 0 [(0, .ref v0), (1, .int v1), (2, .int v2)] [] h := by
  unfold fX6_write at hf
  refine g_aload_n (ps := 0) dX6_write_0 rfl rfl ?_
  refine g_iload_n (ps := 1) dX6_write_1 rfl rfl ?_
  obtain ⟨x2, e1, hf⟩ := bd_s hf
  refine g_callVi (As := [.int v1]) (n := 1) (kX6_isLink hW hv0 e1) gX6_write_X6_isLink rfl ⟨rfl, rfl⟩ ⟨rfl, hdX6_isLink⟩ ⟨Nat.le_of_ble_eq_true rfl, Nat.le_of_ble_eq_true rfl⟩ cf6 hv0 rfl rfl (Nat.le_of_ble_eq_true rfl) dX6_write_2 ?_
  refine g_if_ne (tgt := 11) dX6_write_5 (by decide) (fun c3 => ?_) (fun c3 => ?_)
  · have hf := if_f hf c3
    refine g_iload_n (ps := 2) dX6_write_11 rfl rfl ?_
    refine g_iconst (v := 0) dX6_write_12 (by decide +kernel) ?_
    refine g_iconst (v := 1) dX6_write_13 (by decide +kernel) ?_
    obtain ⟨x5, e4, hf⟩ := bd_s hf
    refine g_callSi (As := [.int v2, .int 0, .int 1]) (n := 3) (kX6_in hW  e4) gX6_write_X6_in rfl ⟨rfl, rfl⟩ hdX6_in ⟨Nat.le_of_ble_eq_true rfl, Nat.le_of_ble_eq_true rfl⟩ rfl rfl (Nat.le_of_ble_eq_true rfl) dX6_write_14 ?_
    refine g_if_ne (tgt := 23) dX6_write_17 (by decide) (fun c6 => ?_) (fun c6 => ?_)
    · have hf := if_f hf c6
      refine g_aload_n (ps := 0) dX6_write_23 rfl rfl ?_
      refine g_getI cf6 hv0 nX6_write_X6 (j := 32) (by decide) rfl mX6_write_156 dX6_write_24 ?_
      refine g_bipush (v := 20) dX6_write_27 (by decide +kernel) ?_
      refine g_icmp_ne (tgt := 35) dX6_write_29 (by decide) (fun c7 => ?_) (fun c7 => ?_)
      · have hf := if_f hf c7
        refine g_aload_n (ps := 0) dX6_write_35 rfl rfl ?_
        refine g_getR cf6 hv0 nX6_write_X6 (j := 33) (by decide) rfl mX6_write_66 dX6_write_36 ?_
        refine g_aload_n (ps := 0) dX6_write_39 rfl rfl ?_
        refine g_getI cf6 hv0 nX6_write_X6 (j := 32) (by decide) rfl mX6_write_156 dX6_write_40 ?_
        refine g_iload_n (ps := 1) dX6_write_43 rfl rfl ?_
        obtain ⟨z8, hf⟩ := ck_s hf
        refine g_iast (hW _ _ _ hv0 33 _ rfl) z8 dX6_write_44 ?_
        refine g_topH (fun h9 eh9 => ?_)
        have hf := lE_s hf eh9
        refine g_aload_n (ps := 0) dX6_write_45 rfl rfl ?_
        refine g_getR cf6 hv0 nX6_write_X6 (j := 34) (by decide) rfl mX6_write_69 dX6_write_46 ?_
        refine g_aload_n (ps := 0) dX6_write_49 rfl rfl ?_
        refine g_getI cf6 hv0 nX6_write_X6 (j := 32) (by decide) rfl mX6_write_156 dX6_write_50 ?_
        refine g_iload_n (ps := 2) dX6_write_53 rfl rfl ?_
        obtain ⟨z10, hf⟩ := ck_s hf
        refine g_iast (hW _ _ _ hv0 34 _ rfl) z10 dX6_write_54 ?_
        refine g_topH (fun h11 eh11 => ?_)
        have hf := lE_s hf eh11
        refine g_aload_n (ps := 0) dX6_write_55 rfl rfl ?_
        refine g_dup dX6_write_56 rfl ?_
        refine g_getI cf6 hv0 nX6_write_X6 (j := 32) (by decide) rfl mX6_write_156 dX6_write_57 ?_
        refine g_iconst (v := 1) dX6_write_60 (by decide +kernel) ?_
        refine g_iadd dX6_write_61 ?_
        refine g_putI cf6 hv0 nX6_write_X6 (j := 32) (by decide) rfl mX6_write_156 rfl dX6_write_62 ?_
        refine g_topH (fun h12 eh12 => ?_)
        have hf := lE_s hf eh12
        refine g_aload_n (ps := 0) dX6_write_65 rfl rfl ?_
        refine g_getI cf6 hv0 nX6_write_X6 (j := 32) (by decide) rfl mX6_write_156 dX6_write_66 ?_
        have hf := Option.some.inj hf
        subst hf
        exact g_iret dX6_write_69
      · have hf := if_t hf c7
        refine g_ldc (v := (-1000000004)) mX6_write_90 dX6_write_32 ?_
        have hf := Option.some.inj hf
        subst hf
        exact g_iret dX6_write_34
    · have hf := if_t hf c6
      refine g_ldc (v := (-1000000002)) mX6_write_86 dX6_write_20 ?_
      have hf := Option.some.inj hf
      subst hf
      exact g_iret dX6_write_22
  · have hf := if_t hf c3
    refine g_ldc (v := (-1000000001)) mX6_write_176 dX6_write_8 ?_
    have hf := Option.some.inj hf
    subst hf
    exact g_iret dX6_write_10
theorem kX6_write {S : Shp} {n : Nat} {r : Rf} {v0 : Nat} {v1 : Int32} {v2 : Int32} {h : Hp} {o : (Int32 × Hp)} (hW : WF S r) (hv0 : S[v0]? = some (6, 38)) (hf : fX6_write n r v0 v1 v2 h = some o) : CTi yX6_write wsX6_write rmX6_write S r [.ref v0, .int v1, .int v2] h r o.1 o.2 :=
  cti_of rfl (by decide +kernel) rfl (Nat.le_of_ble_eq_true rfl) rfl (uX6_write hW hv0 hf)
/-! X6_judge judge -/
def rmX6_judge : Room := { frames := 0, cells := 0, slots := 0, locals := 0 }
abbrev GX6_judge (S : Shp) (r r' : Rf) (out : Option Int32 × Hp) (pc : Nat) (L : List (Nat × Value)) (st : List Value) (h : Hp) : Prop := G RX6 cX6_judge 2 (some .int) wsX6_judge rmX6_judge S r r' out pc L st h
theorem nX6_judge_X6 : ∀ w ∈ wsX60, w ∈ wsX6_judge := by decide +kernel
theorem mX6_judge_156 : Cond.fieldLink RX6 156 "LinkedIslesModel" "bookMany" "I" ∈ wsX6_judge := by decide +kernel
theorem mX6_judge_47 : Cond.fieldLink RX6 47 "LinkedIslesModel" "now" "[I" ∈ wsX6_judge := by decide +kernel
theorem mX6_judge_66 : Cond.fieldLink RX6 66 "LinkedIslesModel" "bookLink" "[I" ∈ wsX6_judge := by decide +kernel
theorem mX6_judge_69 : Cond.fieldLink RX6 69 "LinkedIslesModel" "bookIs" "[I" ∈ wsX6_judge := by decide +kernel
theorem hdX6_judge : yX6_judge.cls ≠ "java/lang/invoke/MethodHandle" ∧ yX6_judge.cls ≠ "java/lang/invoke/VarHandle" ∧ (parseMethodDescriptor yX6_judge.desc).map (fun d => d.parameters.length) = some 0 := by decide +kernel
def bX6_judge_2 (n : Nat) (r : Rf) (v0 : Nat) (v1 : Int32) (h : Hp) : Option ((Int32) ⊕ ((Int32) ⊕ (Unit))) :=
  if (h.1 v0 32) ≤ v1 then (some (.inr (.inr ()))) else (ck 0 16 (ck v1 20 (ck v1 20 (if (((h.1 (r v0 22) (Int32.toNatClampNeg 0)) >>> ((h.1 (r v0 33) (Int32.toNatClampNeg v1)) &&& 31)) &&& 1) = (h.1 (r v0 34) (Int32.toNatClampNeg v1)) then (lE (v1 + 1) (fun (x6 : Int32) => some (.inl x6))) else (some (.inr (.inl v1)))))))
def lX6_judge_2 (n : Nat) (r : Rf) (v0 : Nat) (v1 : Int32) (h : Hp) : Option Int32 :=
  (it (fun (s : Int32) => bX6_judge_2 n r v0 s h) n v1).bind (fun z => match z with | .inl z => some z | .inr z => some (-1))
def fX6_judge (n : Nat) (r : Rf) (v0 : Nat) (h : Hp) : Option Int32 :=
  lX6_judge_2 n r v0 0 h
set_option maxHeartbeats 4000000 in
set_option maxRecDepth 100000 in
theorem ubX6_judge_2 {S : Shp} {n : Nat} {r : Rf} {out : Option Int32 × Hp} {r' : Rf} {v0 : Nat} {v1 : Int32}  {h : Hp} {w : (Int32) ⊕ ((Int32) ⊕ (Unit))} (hW : WF S r) (hv0 : S[v0]? = some (6, 38)) (hf : bX6_judge_2 n r v0 v1 h = some w) (hk : ∀ y, w = .inl y → GX6_judge S r r' out 2 [(0, .ref v0), (1, .int (y))] [] h) (he : ∀ z, w = .inr z → (match z with | .inl z => GX6_judge S r r' out 34 [(0, .ref v0), (1, .int (z))] [] h | .inr z => GX6_judge S r r' out 42 [(0, .ref v0)] [] h)) : GX6_judge S r r' out 2 [(0, .ref v0), (1, .int v1)] [] h := by
  unfold bX6_judge_2 at hf
  refine g_iload_n (ps := 1) dX6_judge_2 rfl rfl ?_
  refine g_aload_n (ps := 0) dX6_judge_3 rfl rfl ?_
  refine g_getI cf6 hv0 nX6_judge_X6 (j := 32) (by decide) rfl mX6_judge_156 dX6_judge_4 ?_
  refine g_icmp_ge (tgt := 42) dX6_judge_7 (by decide) (fun c1 => ?_) (fun c1 => ?_)
  · have hf := if_t hf c1
    exact g_pick [0] rfl (he _ (Option.some.inj hf).symm)
  · have hf := if_f hf c1
    refine g_aload_n (ps := 0) dX6_judge_10 rfl rfl ?_
    refine g_getR cf6 hv0 nX6_judge_X6 (j := 22) (by decide) rfl mX6_judge_47 dX6_judge_11 ?_
    refine g_iconst (v := 0) dX6_judge_14 (by decide +kernel) ?_
    obtain ⟨z2, hf⟩ := ck_s hf
    refine g_iald (hW _ _ _ hv0 22 _ rfl) z2 dX6_judge_15 ?_
    refine g_aload_n (ps := 0) dX6_judge_16 rfl rfl ?_
    refine g_getR cf6 hv0 nX6_judge_X6 (j := 33) (by decide) rfl mX6_judge_66 dX6_judge_17 ?_
    refine g_iload_n (ps := 1) dX6_judge_20 rfl rfl ?_
    obtain ⟨z3, hf⟩ := ck_s hf
    refine g_iald (hW _ _ _ hv0 33 _ rfl) z3 dX6_judge_21 ?_
    refine g_ishr dX6_judge_22 ?_
    refine g_iconst (v := 1) dX6_judge_23 (by decide +kernel) ?_
    refine g_iand dX6_judge_24 ?_
    refine g_aload_n (ps := 0) dX6_judge_25 rfl rfl ?_
    refine g_getR cf6 hv0 nX6_judge_X6 (j := 34) (by decide) rfl mX6_judge_69 dX6_judge_26 ?_
    refine g_iload_n (ps := 1) dX6_judge_29 rfl rfl ?_
    obtain ⟨z4, hf⟩ := ck_s hf
    refine g_iald (hW _ _ _ hv0 34 _ rfl) z4 dX6_judge_30 ?_
    refine g_icmp_eq (tgt := 36) dX6_judge_31 (by decide) (fun c5 => ?_) (fun c5 => ?_)
    · have hf := if_t hf c5
      obtain ⟨x6, ex6⟩ : ∃ y : Int32, y = v1 + 1 := ⟨_, rfl⟩
      have hf := lE_s hf ex6
      refine g_iinc (ps := 1) (v := x6) (L' := [(1, .int x6), (0, .ref v0)]) dX6_judge_36 rfl (by rw [ex6]; rfl) (by decide) rfl ?_
      refine g_goto (tgt := 2) dX6_judge_39 (by decide) ?_
      exact g_pick [1, 0] rfl (hk _ (Option.some.inj hf).symm)
    · have hf := if_f hf c5
      exact g_pick [0, 1] rfl (he _ (Option.some.inj hf).symm)
set_option maxHeartbeats 4000000 in
set_option maxRecDepth 100000 in
theorem ulX6_judge_2 {S : Shp} {n : Nat} {r : Rf} {v0 : Nat} {v1 : Int32}  {h : Hp} {o : Int32} (hW : WF S r) (hv0 : S[v0]? = some (6, 38)) (hf : lX6_judge_2 n r v0 v1 h = some o)  : GX6_judge S r r (some o, h) 2 [(0, .ref v0), (1, .int v1)] [] h := by
  unfold lX6_judge_2 at hf
  obtain ⟨z0, ei, hf⟩ := bd_s hf
  refine it_ind (P := fun (s : Int32) => GX6_judge S r r (some o, h) 2 [(0, .ref v0), (1, .int s)] [] h) (fun s w hb hk2 he2 => ?_) n _ ei
  refine ubX6_judge_2 (out := (some o, h)) (r' := r) hW hv0 hb hk2 (fun z hz => ?_)
  have hz := he2 z hz
  subst hz
  rcases z with z | z
  · refine g_iload_n (ps := 1) dX6_judge_34 rfl rfl ?_
    have hf := Option.some.inj hf
    subst hf
    exact g_iret dX6_judge_35
  · refine g_iconst (v := (-1)) dX6_judge_42 (by decide +kernel) ?_
    have hf := Option.some.inj hf
    subst hf
    exact g_iret dX6_judge_43
set_option maxHeartbeats 4000000 in
set_option maxRecDepth 100000 in
theorem uX6_judge {S : Shp} {n : Nat} {r : Rf} {v0 : Nat} {h : Hp} {o : Int32} (hW : WF S r) (hv0 : S[v0]? = some (6, 38)) (hf : fX6_judge n r v0 h = some o) : GX6_judge S r r (some o, h) 0 [(0, .ref v0)] [] h := by
  unfold fX6_judge at hf
  refine g_iconst (v := 0) dX6_judge_0 (by decide +kernel) ?_
  refine g_istore_n (L' := [(1, .int 0), (0, .ref v0)]) dX6_judge_1 rfl (by decide) rfl ?_
  exact g_pick [1, 0] rfl (ulX6_judge_2 hW hv0 hf)
theorem kX6_judge {S : Shp} {n : Nat} {r : Rf} {v0 : Nat} {h : Hp} {o : Int32} (hW : WF S r) (hv0 : S[v0]? = some (6, 38)) (hf : fX6_judge n r v0 h = some o) : CTi yX6_judge wsX6_judge rmX6_judge S r [.ref v0] h r o h :=
  cti_of rfl (by decide +kernel) rfl (Nat.le_of_ble_eq_true rfl) rfl (uX6_judge hW hv0 hf)
/-! X6_tear tear -/
def rmX6_tear : Room := { frames := 0, cells := 0, slots := 0, locals := 0 }
abbrev GX6_tear (S : Shp) (r r' : Rf) (out : Option Int32 × Hp) (pc : Nat) (L : List (Nat × Value)) (st : List Value) (h : Hp) : Prop := G RX6 cX6_tear 2 (some .int) wsX6_tear rmX6_tear S r r' out pc L st h
theorem nX6_tear_X6 : ∀ w ∈ wsX60, w ∈ wsX6_tear := by decide +kernel
theorem mX6_tear_153 : Cond.fieldLink RX6 153 "LinkedIslesModel" "heardMany" "I" ∈ wsX6_tear := by decide +kernel
theorem mX6_tear_156 : Cond.fieldLink RX6 156 "LinkedIslesModel" "bookMany" "I" ∈ wsX6_tear := by decide +kernel
theorem hdX6_tear : yX6_tear.cls ≠ "java/lang/invoke/MethodHandle" ∧ yX6_tear.cls ≠ "java/lang/invoke/VarHandle" ∧ (parseMethodDescriptor yX6_tear.desc).map (fun d => d.parameters.length) = some 0 := by decide +kernel
def fX6_tear (n : Nat) (r : Rf) (v0 : Nat) (h : Hp) : Option (Int32 × Hp) :=
  lE (((h.1 v0 28) + (h.1 v0 32))) (fun (x1 : Int32) => lE (pI h v0 28 0) (fun (h2 : Hp) => lE (pI h2 v0 32 0) (fun (h3 : Hp) => some (x1, h3))))
set_option maxHeartbeats 4000000 in
set_option maxRecDepth 100000 in
theorem uX6_tear {S : Shp} {n : Nat} {r : Rf} {v0 : Nat} {h : Hp} {o : (Int32 × Hp)} (hW : WF S r) (hv0 : S[v0]? = some (6, 38)) (hf : fX6_tear n r v0 h = some o) : GX6_tear S r r (some o.1, o.2) 0 [(0, .ref v0)] [] h := by
  unfold fX6_tear at hf
  refine g_aload_n (ps := 0) dX6_tear_0 rfl rfl ?_
  refine g_getI cf6 hv0 nX6_tear_X6 (j := 28) (by decide) rfl mX6_tear_153 dX6_tear_1 ?_
  refine g_aload_n (ps := 0) dX6_tear_4 rfl rfl ?_
  refine g_getI cf6 hv0 nX6_tear_X6 (j := 32) (by decide) rfl mX6_tear_156 dX6_tear_5 ?_
  refine g_iadd dX6_tear_8 ?_
  refine g_topi (fun x1 ex1 => ?_)
  have hf := lE_s hf ex1
  refine g_istore_n (L' := [(1, .int x1), (0, .ref v0)]) dX6_tear_9 rfl (by decide) rfl ?_
  refine g_aload_n (ps := 1) dX6_tear_10 rfl rfl ?_
  refine g_iconst (v := 0) dX6_tear_11 (by decide +kernel) ?_
  refine g_putI cf6 hv0 nX6_tear_X6 (j := 28) (by decide) rfl mX6_tear_153 rfl dX6_tear_12 ?_
  refine g_topH (fun h2 eh2 => ?_)
  have hf := lE_s hf eh2
  refine g_aload_n (ps := 1) dX6_tear_15 rfl rfl ?_
  refine g_iconst (v := 0) dX6_tear_16 (by decide +kernel) ?_
  refine g_putI cf6 hv0 nX6_tear_X6 (j := 32) (by decide) rfl mX6_tear_156 rfl dX6_tear_17 ?_
  refine g_topH (fun h3 eh3 => ?_)
  have hf := lE_s hf eh3
  refine g_iload_n (ps := 0) dX6_tear_20 rfl rfl ?_
  have hf := Option.some.inj hf
  subst hf
  exact g_iret dX6_tear_21
theorem kX6_tear {S : Shp} {n : Nat} {r : Rf} {v0 : Nat} {h : Hp} {o : (Int32 × Hp)} (hW : WF S r) (hv0 : S[v0]? = some (6, 38)) (hf : fX6_tear n r v0 h = some o) : CTi yX6_tear wsX6_tear rmX6_tear S r [.ref v0] h r o.1 o.2 :=
  cti_of rfl (by decide +kernel) rfl (Nat.le_of_ble_eq_true rfl) rfl (uX6_tear hW hv0 hf)
/-! X6_seed seed -/
def rmX6_seed : Room := { frames := 0, cells := 0, slots := 0, locals := 0 }
abbrev GX6_seed (S : Shp) (r r' : Rf) (out : Option Int32 × Hp) (pc : Nat) (L : List (Nat × Value)) (st : List Value) (h : Hp) : Prop := G RX6 cX6_seed 3 (some .int) wsX6_seed rmX6_seed S r r' out pc L st h
theorem nX6_seed_X6 : ∀ w ∈ wsX60, w ∈ wsX6_seed := by decide +kernel
theorem mX6_seed_86 : Cond.constant RX6 86 (-1000000002) ∈ wsX6_seed := by decide +kernel
theorem mX6_seed_217 : Cond.fieldLink RX6 217 "LinkedIslesModel" "seeded" "J" ∈ wsX6_seed := by decide +kernel
theorem hdX6_seed : yX6_seed.cls ≠ "java/lang/invoke/MethodHandle" ∧ yX6_seed.cls ≠ "java/lang/invoke/VarHandle" ∧ (parseMethodDescriptor yX6_seed.desc).map (fun d => d.parameters.length) = some 1 := by decide +kernel
def fX6_seed (n : Nat) (r : Rf) (v0 : Nat) (v1 : Int32) (h : Hp) : Option (Int32 × Hp) :=
  if 0 ≤ v1 then (lE ((Int64.toInt32 (h.2 v0 27))) (fun (x2 : Int32) => lE (pL h v0 27 (Int32.toInt64 v1)) (fun (h3 : Hp) => some (x2, h3)))) else (some ((-1000000002), h))
set_option maxHeartbeats 4000000 in
set_option maxRecDepth 100000 in
theorem uX6_seed {S : Shp} {n : Nat} {r : Rf} {v0 : Nat} {v1 : Int32} {h : Hp} {o : (Int32 × Hp)} (hW : WF S r) (hv0 : S[v0]? = some (6, 38)) (hf : fX6_seed n r v0 v1 h = some o) : GX6_seed S r r (some o.1, o.2) 0 [(0, .ref v0), (1, .int v1)] [] h := by
  unfold fX6_seed at hf
  refine g_iload_n (ps := 1) dX6_seed_0 rfl rfl ?_
  refine g_if_ge (tgt := 7) dX6_seed_1 (by decide) (fun c1 => ?_) (fun c1 => ?_)
  · have hf := if_t hf c1
    refine g_aload_n (ps := 0) dX6_seed_7 rfl rfl ?_
    refine g_getL cf6 hv0 nX6_seed_X6 (j := 27) (by decide) rfl mX6_seed_217 dX6_seed_8 ?_
    refine g_l2i dX6_seed_11 ?_
    refine g_topi (fun x2 ex2 => ?_)
    have hf := lE_s hf ex2
    refine g_istore_n (L' := [(2, .int x2), (0, .ref v0), (1, .int v1)]) dX6_seed_12 rfl (by decide) rfl ?_
    refine g_aload_n (ps := 1) dX6_seed_13 rfl rfl ?_
    refine g_iload_n (ps := 2) dX6_seed_14 rfl rfl ?_
    refine g_i2l dX6_seed_15 ?_
    refine g_putL cf6 hv0 nX6_seed_X6 (j := 27) (by decide) rfl mX6_seed_217 rfl dX6_seed_16 ?_
    refine g_topH (fun h3 eh3 => ?_)
    have hf := lE_s hf eh3
    refine g_iload_n (ps := 0) dX6_seed_19 rfl rfl ?_
    have hf := Option.some.inj hf
    subst hf
    exact g_iret dX6_seed_20
  · have hf := if_f hf c1
    refine g_ldc (v := (-1000000002)) mX6_seed_86 dX6_seed_4 ?_
    have hf := Option.some.inj hf
    subst hf
    exact g_iret dX6_seed_6
theorem kX6_seed {S : Shp} {n : Nat} {r : Rf} {v0 : Nat} {v1 : Int32} {h : Hp} {o : (Int32 × Hp)} (hW : WF S r) (hv0 : S[v0]? = some (6, 38)) (hf : fX6_seed n r v0 v1 h = some o) : CTi yX6_seed wsX6_seed rmX6_seed S r [.ref v0, .int v1] h r o.1 o.2 :=
  cti_of rfl (by decide +kernel) rfl (Nat.le_of_ble_eq_true rfl) rfl (uX6_seed hW hv0 hf)
/-! X6_keep keep -/
def rmX6_keep : Room := { frames := 1, cells := 0, slots := 0, locals := 22 }
abbrev GX6_keep (S : Shp) (r r' : Rf) (out : Option Int32 × Hp) (pc : Nat) (L : List (Nat × Value)) (st : List Value) (h : Hp) : Prop := G RX6 cX6_keep 3 (some .int) wsX6_keep rmX6_keep S r r' out pc L st h
theorem nX6_keep_X6 : ∀ w ∈ wsX60, w ∈ wsX6_keep := by decide +kernel
theorem mX6_keep_176 : Cond.constant RX6 176 (-1000000001) ∈ wsX6_keep := by decide +kernel
theorem mX6_keep_150 : Cond.fieldLink RX6 150 "LinkedIslesModel" "undoMany" "I" ∈ wsX6_keep := by decide +kernel
theorem mX6_keep_217 : Cond.fieldLink RX6 217 "LinkedIslesModel" "seeded" "J" ∈ wsX6_keep := by decide +kernel
theorem mX6_keep_47 : Cond.fieldLink RX6 47 "LinkedIslesModel" "now" "[I" ∈ wsX6_keep := by decide +kernel
theorem mX6_keep_72 : Cond.fieldLink RX6 72 "LinkedIslesModel" "isKept" "[Z" ∈ wsX6_keep := by decide +kernel
theorem mX6_keep_75 : Cond.fieldLink RX6 75 "LinkedIslesModel" "kept" "[I" ∈ wsX6_keep := by decide +kernel
theorem mX6_keep_78 : Cond.fieldLink RX6 78 "LinkedIslesModel" "keptSeed" "[J" ∈ wsX6_keep := by decide +kernel
theorem hdX6_keep : yX6_keep.cls ≠ "java/lang/invoke/MethodHandle" ∧ yX6_keep.cls ≠ "java/lang/invoke/VarHandle" ∧ (parseMethodDescriptor yX6_keep.desc).map (fun d => d.parameters.length) = some 1 := by decide +kernel
def bX6_keep_36 (n : Nat) (r : Rf) (v0 : Nat) (v1 : Int32) (v2 : Int32) (h : Hp) : Option ((Int32 × Hp) ⊕ (Hp)) :=
  if 16 ≤ v2 then (some (.inr h)) else (ck v2 16 (ck ((16 * v1) + v2) 32 (lE (pI h (r v0 36) (Int32.toNatClampNeg ((16 * v1) + v2)) (h.1 (r v0 22) (Int32.toNatClampNeg v2))) (fun (h12 : Hp) => lE (v2 + 1) (fun (x13 : Int32) => some (.inl (x13, h12)))))))
def lX6_keep_36 (n : Nat) (r : Rf) (v0 : Nat) (v1 : Int32) (v2 : Int32) (h : Hp) : Option (Int32 × Hp) :=
  (it (fun (s : Int32 × Hp) => bX6_keep_36 n r v0 v1 s.1 s.2) n (v2, h)).bind (fun z => some (1, z))
def fX6_keep (n : Nat) (r : Rf) (v0 : Nat) (v1 : Int32) (h : Hp) : Option (Int32 × Hp) :=
  (fX6_in n r v1 0 1 h).bind (fun (x2 : Int32) => if x2 = 0 then (some ((-1000000001), h)) else (ck v1 2 (lE (pI h (r v0 35) (Int32.toNatClampNeg v1) (vp_nar .boolean 1)) (fun (h5 : Hp) => ck v1 2 (lE (pL h5 (r v0 37) (Int32.toNatClampNeg v1) (h5.2 v0 27)) (fun (h7 : Hp) => lE (pI h7 v0 24 0) (fun (h8 : Hp) => lX6_keep_36 n r v0 v1 0 h8)))))))
set_option maxHeartbeats 4000000 in
set_option maxRecDepth 100000 in
theorem ubX6_keep_36 {S : Shp} {n : Nat} {r : Rf} {out : Option Int32 × Hp} {r' : Rf} {v0 : Nat} {v1 : Int32} {v2 : Int32}  {h : Hp} {w : (Int32 × Hp) ⊕ (Hp)} (hW : WF S r) (hv0 : S[v0]? = some (6, 38)) (hf : bX6_keep_36 n r v0 v1 v2 h = some w) (hk : ∀ y, w = .inl y → GX6_keep S r r' out 36 [(0, .ref v0), (1, .int v1), (2, .int (y.1))] [] (y.2)) (he : ∀ z, w = .inr z → GX6_keep S r r' out 65 [(0, .ref v0)] [] (z)) : GX6_keep S r r' out 36 [(0, .ref v0), (1, .int v1), (2, .int v2)] [] h := by
  unfold bX6_keep_36 at hf
  refine g_iload_n (ps := 2) dX6_keep_36 rfl rfl ?_
  refine g_bipush (v := 16) dX6_keep_37 (by decide +kernel) ?_
  refine g_icmp_ge (tgt := 65) dX6_keep_39 (by decide) (fun c9 => ?_) (fun c9 => ?_)
  · have hf := if_t hf c9
    exact g_pick [0] rfl (he _ (Option.some.inj hf).symm)
  · have hf := if_f hf c9
    refine g_aload_n (ps := 0) dX6_keep_42 rfl rfl ?_
    refine g_getR cf6 hv0 nX6_keep_X6 (j := 36) (by decide) rfl mX6_keep_75 dX6_keep_43 ?_
    refine g_bipush (v := 16) dX6_keep_46 (by decide +kernel) ?_
    refine g_iload_n (ps := 1) dX6_keep_48 rfl rfl ?_
    refine g_imul dX6_keep_49 ?_
    refine g_iload_n (ps := 2) dX6_keep_50 rfl rfl ?_
    refine g_iadd dX6_keep_51 ?_
    refine g_aload_n (ps := 0) dX6_keep_52 rfl rfl ?_
    refine g_getR cf6 hv0 nX6_keep_X6 (j := 22) (by decide) rfl mX6_keep_47 dX6_keep_53 ?_
    refine g_iload_n (ps := 2) dX6_keep_56 rfl rfl ?_
    obtain ⟨z10, hf⟩ := ck_s hf
    refine g_iald (hW _ _ _ hv0 22 _ rfl) z10 dX6_keep_57 ?_
    obtain ⟨z11, hf⟩ := ck_s hf
    refine g_iast (hW _ _ _ hv0 36 _ rfl) z11 dX6_keep_58 ?_
    refine g_topH (fun h12 eh12 => ?_)
    have hf := lE_s hf eh12
    obtain ⟨x13, ex13⟩ : ∃ y : Int32, y = v2 + 1 := ⟨_, rfl⟩
    have hf := lE_s hf ex13
    refine g_iinc (ps := 2) (v := x13) (L' := [(2, .int x13), (0, .ref v0), (1, .int v1)]) dX6_keep_59 rfl (by rw [ex13]; rfl) (by decide) rfl ?_
    refine g_goto (tgt := 36) dX6_keep_62 (by decide) ?_
    exact g_pick [1, 2, 0] rfl (hk _ (Option.some.inj hf).symm)
set_option maxHeartbeats 4000000 in
set_option maxRecDepth 100000 in
theorem ulX6_keep_36 {S : Shp} {n : Nat} {r : Rf} {v0 : Nat} {v1 : Int32} {v2 : Int32}  {h : Hp} {o : (Int32 × Hp)} (hW : WF S r) (hv0 : S[v0]? = some (6, 38)) (hf : lX6_keep_36 n r v0 v1 v2 h = some o)  : GX6_keep S r r (some o.1, o.2) 36 [(0, .ref v0), (1, .int v1), (2, .int v2)] [] h := by
  unfold lX6_keep_36 at hf
  obtain ⟨z0, ei, hf⟩ := bd_s hf
  refine it_ind (P := fun (s : Int32 × Hp) => GX6_keep S r r (some o.1, o.2) 36 [(0, .ref v0), (1, .int v1), (2, .int (s.1))] [] (s.2)) (fun s w hb hk2 he2 => ?_) n _ ei
  refine ubX6_keep_36 (out := (some o.1, o.2)) (r' := r) hW hv0 hb hk2 (fun z hz => ?_)
  have hz := he2 z hz
  subst hz
  refine g_iconst (v := 1) dX6_keep_65 (by decide +kernel) ?_
  have hf := Option.some.inj hf
  subst hf
  exact g_iret dX6_keep_66
set_option maxHeartbeats 4000000 in
set_option maxRecDepth 100000 in
theorem uX6_keep {S : Shp} {n : Nat} {r : Rf} {v0 : Nat} {v1 : Int32} {h : Hp} {o : (Int32 × Hp)} (hW : WF S r) (hv0 : S[v0]? = some (6, 38)) (hf : fX6_keep n r v0 v1 h = some o) : GX6_keep S r r (some o.1, o.2) 0 [(0, .ref v0), (1, .int v1)] [] h := by
  unfold fX6_keep at hf
  refine g_iload_n (ps := 1) dX6_keep_0 rfl rfl ?_
  refine g_iconst (v := 0) dX6_keep_1 (by decide +kernel) ?_
  refine g_iconst (v := 1) dX6_keep_2 (by decide +kernel) ?_
  obtain ⟨x2, e1, hf⟩ := bd_s hf
  refine g_callSi (As := [.int v1, .int 0, .int 1]) (n := 3) (kX6_in hW  e1) gX6_keep_X6_in rfl ⟨rfl, rfl⟩ hdX6_in ⟨Nat.le_of_ble_eq_true rfl, Nat.le_of_ble_eq_true rfl⟩ rfl rfl (Nat.le_of_ble_eq_true rfl) dX6_keep_3 ?_
  refine g_if_ne (tgt := 12) dX6_keep_6 (by decide) (fun c3 => ?_) (fun c3 => ?_)
  · have hf := if_f hf c3
    refine g_aload_n (ps := 0) dX6_keep_12 rfl rfl ?_
    refine g_getR cf6 hv0 nX6_keep_X6 (j := 35) (by decide) rfl mX6_keep_72 dX6_keep_13 ?_
    refine g_iload_n (ps := 1) dX6_keep_16 rfl rfl ?_
    refine g_iconst (v := 1) dX6_keep_17 (by decide +kernel) ?_
    obtain ⟨z4, hf⟩ := ck_s hf
    refine g_zast (hW _ _ _ hv0 35 _ rfl) z4 dX6_keep_18 ?_
    refine g_topH (fun h5 eh5 => ?_)
    have hf := lE_s hf eh5
    refine g_aload_n (ps := 0) dX6_keep_19 rfl rfl ?_
    refine g_getR cf6 hv0 nX6_keep_X6 (j := 37) (by decide) rfl mX6_keep_78 dX6_keep_20 ?_
    refine g_iload_n (ps := 1) dX6_keep_23 rfl rfl ?_
    refine g_aload_n (ps := 0) dX6_keep_24 rfl rfl ?_
    refine g_getL cf6 hv0 nX6_keep_X6 (j := 27) (by decide) rfl mX6_keep_217 dX6_keep_25 ?_
    obtain ⟨z6, hf⟩ := ck_s hf
    refine g_last (hW _ _ _ hv0 37 _ rfl) z6 dX6_keep_28 ?_
    refine g_topH (fun h7 eh7 => ?_)
    have hf := lE_s hf eh7
    refine g_aload_n (ps := 0) dX6_keep_29 rfl rfl ?_
    refine g_iconst (v := 0) dX6_keep_30 (by decide +kernel) ?_
    refine g_putI cf6 hv0 nX6_keep_X6 (j := 24) (by decide) rfl mX6_keep_150 rfl dX6_keep_31 ?_
    refine g_topH (fun h8 eh8 => ?_)
    have hf := lE_s hf eh8
    refine g_iconst (v := 0) dX6_keep_34 (by decide +kernel) ?_
    refine g_istore_n (L' := [(2, .int 0), (0, .ref v0), (1, .int v1)]) dX6_keep_35 rfl (by decide) rfl ?_
    exact g_pick [1, 2, 0] rfl (ulX6_keep_36 hW hv0 hf)
  · have hf := if_t hf c3
    refine g_ldc (v := (-1000000001)) mX6_keep_176 dX6_keep_9 ?_
    have hf := Option.some.inj hf
    subst hf
    exact g_iret dX6_keep_11
theorem kX6_keep {S : Shp} {n : Nat} {r : Rf} {v0 : Nat} {v1 : Int32} {h : Hp} {o : (Int32 × Hp)} (hW : WF S r) (hv0 : S[v0]? = some (6, 38)) (hf : fX6_keep n r v0 v1 h = some o) : CTi yX6_keep wsX6_keep rmX6_keep S r [.ref v0, .int v1] h r o.1 o.2 :=
  cti_of rfl (by decide +kernel) rfl (Nat.le_of_ble_eq_true rfl) rfl (uX6_keep hW hv0 hf)
/-! X6_goBack goBack -/
def rmX6_goBack : Room := { frames := 1, cells := 0, slots := 0, locals := 22 }
abbrev GX6_goBack (S : Shp) (r r' : Rf) (out : Option Int32 × Hp) (pc : Nat) (L : List (Nat × Value)) (st : List Value) (h : Hp) : Prop := G RX6 cX6_goBack 3 (some .int) wsX6_goBack rmX6_goBack S r r' out pc L st h
theorem nX6_goBack_X6 : ∀ w ∈ wsX60, w ∈ wsX6_goBack := by decide +kernel
theorem mX6_goBack_176 : Cond.constant RX6 176 (-1000000001) ∈ wsX6_goBack := by decide +kernel
theorem mX6_goBack_181 : Cond.constant RX6 181 (-1000000003) ∈ wsX6_goBack := by decide +kernel
theorem mX6_goBack_150 : Cond.fieldLink RX6 150 "LinkedIslesModel" "undoMany" "I" ∈ wsX6_goBack := by decide +kernel
theorem mX6_goBack_217 : Cond.fieldLink RX6 217 "LinkedIslesModel" "seeded" "J" ∈ wsX6_goBack := by decide +kernel
theorem mX6_goBack_47 : Cond.fieldLink RX6 47 "LinkedIslesModel" "now" "[I" ∈ wsX6_goBack := by decide +kernel
theorem mX6_goBack_72 : Cond.fieldLink RX6 72 "LinkedIslesModel" "isKept" "[Z" ∈ wsX6_goBack := by decide +kernel
theorem mX6_goBack_75 : Cond.fieldLink RX6 75 "LinkedIslesModel" "kept" "[I" ∈ wsX6_goBack := by decide +kernel
theorem mX6_goBack_78 : Cond.fieldLink RX6 78 "LinkedIslesModel" "keptSeed" "[J" ∈ wsX6_goBack := by decide +kernel
theorem hdX6_goBack : yX6_goBack.cls ≠ "java/lang/invoke/MethodHandle" ∧ yX6_goBack.cls ≠ "java/lang/invoke/VarHandle" ∧ (parseMethodDescriptor yX6_goBack.desc).map (fun d => d.parameters.length) = some 1 := by decide +kernel
def bX6_goBack_41 (n : Nat) (r : Rf) (v0 : Nat) (v1 : Int32) (v2 : Int32) (h : Hp) : Option ((Int32 × Hp) ⊕ (Hp)) :=
  if 16 ≤ v2 then (some (.inr h)) else (ck ((16 * v1) + v2) 32 (ck v2 16 (lE (pI h (r v0 22) (Int32.toNatClampNeg v2) (h.1 (r v0 36) (Int32.toNatClampNeg ((16 * v1) + v2)))) (fun (h12 : Hp) => lE (v2 + 1) (fun (x13 : Int32) => some (.inl (x13, h12)))))))
def lX6_goBack_41 (n : Nat) (r : Rf) (v0 : Nat) (v1 : Int32) (v2 : Int32) (h : Hp) : Option (Int32 × Hp) :=
  (it (fun (s : Int32 × Hp) => bX6_goBack_41 n r v0 v1 s.1 s.2) n (v2, h)).bind (fun z => some (1, z))
def fX6_goBack (n : Nat) (r : Rf) (v0 : Nat) (v1 : Int32) (h : Hp) : Option (Int32 × Hp) :=
  (fX6_in n r v1 0 1 h).bind (fun (x2 : Int32) => if x2 = 0 then (some ((-1000000001), h)) else (ck v1 2 (if (h.1 (r v0 35) (Int32.toNatClampNeg v1)) = 0 then (some ((-1000000003), h)) else (ck v1 2 (lE (pL h v0 27 (h.2 (r v0 37) (Int32.toNatClampNeg v1))) (fun (h7 : Hp) => lE (pI h7 v0 24 0) (fun (h8 : Hp) => lX6_goBack_41 n r v0 v1 0 h8)))))))
set_option maxHeartbeats 4000000 in
set_option maxRecDepth 100000 in
theorem ubX6_goBack_41 {S : Shp} {n : Nat} {r : Rf} {out : Option Int32 × Hp} {r' : Rf} {v0 : Nat} {v1 : Int32} {v2 : Int32}  {h : Hp} {w : (Int32 × Hp) ⊕ (Hp)} (hW : WF S r) (hv0 : S[v0]? = some (6, 38)) (hf : bX6_goBack_41 n r v0 v1 v2 h = some w) (hk : ∀ y, w = .inl y → GX6_goBack S r r' out 41 [(0, .ref v0), (1, .int v1), (2, .int (y.1))] [] (y.2)) (he : ∀ z, w = .inr z → GX6_goBack S r r' out 70 [(0, .ref v0)] [] (z)) : GX6_goBack S r r' out 41 [(0, .ref v0), (1, .int v1), (2, .int v2)] [] h := by
  unfold bX6_goBack_41 at hf
  refine g_iload_n (ps := 2) dX6_goBack_41 rfl rfl ?_
  refine g_bipush (v := 16) dX6_goBack_42 (by decide +kernel) ?_
  refine g_icmp_ge (tgt := 70) dX6_goBack_44 (by decide) (fun c9 => ?_) (fun c9 => ?_)
  · have hf := if_t hf c9
    exact g_pick [0] rfl (he _ (Option.some.inj hf).symm)
  · have hf := if_f hf c9
    refine g_aload_n (ps := 0) dX6_goBack_47 rfl rfl ?_
    refine g_getR cf6 hv0 nX6_goBack_X6 (j := 22) (by decide) rfl mX6_goBack_47 dX6_goBack_48 ?_
    refine g_iload_n (ps := 2) dX6_goBack_51 rfl rfl ?_
    refine g_aload_n (ps := 0) dX6_goBack_52 rfl rfl ?_
    refine g_getR cf6 hv0 nX6_goBack_X6 (j := 36) (by decide) rfl mX6_goBack_75 dX6_goBack_53 ?_
    refine g_bipush (v := 16) dX6_goBack_56 (by decide +kernel) ?_
    refine g_iload_n (ps := 1) dX6_goBack_58 rfl rfl ?_
    refine g_imul dX6_goBack_59 ?_
    refine g_iload_n (ps := 2) dX6_goBack_60 rfl rfl ?_
    refine g_iadd dX6_goBack_61 ?_
    obtain ⟨z10, hf⟩ := ck_s hf
    refine g_iald (hW _ _ _ hv0 36 _ rfl) z10 dX6_goBack_62 ?_
    obtain ⟨z11, hf⟩ := ck_s hf
    refine g_iast (hW _ _ _ hv0 22 _ rfl) z11 dX6_goBack_63 ?_
    refine g_topH (fun h12 eh12 => ?_)
    have hf := lE_s hf eh12
    obtain ⟨x13, ex13⟩ : ∃ y : Int32, y = v2 + 1 := ⟨_, rfl⟩
    have hf := lE_s hf ex13
    refine g_iinc (ps := 2) (v := x13) (L' := [(2, .int x13), (0, .ref v0), (1, .int v1)]) dX6_goBack_64 rfl (by rw [ex13]; rfl) (by decide) rfl ?_
    refine g_goto (tgt := 41) dX6_goBack_67 (by decide) ?_
    exact g_pick [1, 2, 0] rfl (hk _ (Option.some.inj hf).symm)
set_option maxHeartbeats 4000000 in
set_option maxRecDepth 100000 in
theorem ulX6_goBack_41 {S : Shp} {n : Nat} {r : Rf} {v0 : Nat} {v1 : Int32} {v2 : Int32}  {h : Hp} {o : (Int32 × Hp)} (hW : WF S r) (hv0 : S[v0]? = some (6, 38)) (hf : lX6_goBack_41 n r v0 v1 v2 h = some o)  : GX6_goBack S r r (some o.1, o.2) 41 [(0, .ref v0), (1, .int v1), (2, .int v2)] [] h := by
  unfold lX6_goBack_41 at hf
  obtain ⟨z0, ei, hf⟩ := bd_s hf
  refine it_ind (P := fun (s : Int32 × Hp) => GX6_goBack S r r (some o.1, o.2) 41 [(0, .ref v0), (1, .int v1), (2, .int (s.1))] [] (s.2)) (fun s w hb hk2 he2 => ?_) n _ ei
  refine ubX6_goBack_41 (out := (some o.1, o.2)) (r' := r) hW hv0 hb hk2 (fun z hz => ?_)
  have hz := he2 z hz
  subst hz
  refine g_iconst (v := 1) dX6_goBack_70 (by decide +kernel) ?_
  have hf := Option.some.inj hf
  subst hf
  exact g_iret dX6_goBack_71
set_option maxHeartbeats 4000000 in
set_option maxRecDepth 100000 in
theorem uX6_goBack {S : Shp} {n : Nat} {r : Rf} {v0 : Nat} {v1 : Int32} {h : Hp} {o : (Int32 × Hp)} (hW : WF S r) (hv0 : S[v0]? = some (6, 38)) (hf : fX6_goBack n r v0 v1 h = some o) : GX6_goBack S r r (some o.1, o.2) 0 [(0, .ref v0), (1, .int v1)] [] h := by
  unfold fX6_goBack at hf
  refine g_iload_n (ps := 1) dX6_goBack_0 rfl rfl ?_
  refine g_iconst (v := 0) dX6_goBack_1 (by decide +kernel) ?_
  refine g_iconst (v := 1) dX6_goBack_2 (by decide +kernel) ?_
  obtain ⟨x2, e1, hf⟩ := bd_s hf
  refine g_callSi (As := [.int v1, .int 0, .int 1]) (n := 3) (kX6_in hW  e1) gX6_goBack_X6_in rfl ⟨rfl, rfl⟩ hdX6_in ⟨Nat.le_of_ble_eq_true rfl, Nat.le_of_ble_eq_true rfl⟩ rfl rfl (Nat.le_of_ble_eq_true rfl) dX6_goBack_3 ?_
  refine g_if_ne (tgt := 12) dX6_goBack_6 (by decide) (fun c3 => ?_) (fun c3 => ?_)
  · have hf := if_f hf c3
    refine g_aload_n (ps := 0) dX6_goBack_12 rfl rfl ?_
    refine g_getR cf6 hv0 nX6_goBack_X6 (j := 35) (by decide) rfl mX6_goBack_72 dX6_goBack_13 ?_
    refine g_iload_n (ps := 1) dX6_goBack_16 rfl rfl ?_
    obtain ⟨z4, hf⟩ := ck_s hf
    refine g_zald (hW _ _ _ hv0 35 _ rfl) z4 dX6_goBack_17 ?_
    refine g_if_ne (tgt := 24) dX6_goBack_18 (by decide) (fun c5 => ?_) (fun c5 => ?_)
    · have hf := if_f hf c5
      refine g_aload_n (ps := 0) dX6_goBack_24 rfl rfl ?_
      refine g_aload_n (ps := 0) dX6_goBack_25 rfl rfl ?_
      refine g_getR cf6 hv0 nX6_goBack_X6 (j := 37) (by decide) rfl mX6_goBack_78 dX6_goBack_26 ?_
      refine g_iload_n (ps := 1) dX6_goBack_29 rfl rfl ?_
      obtain ⟨z6, hf⟩ := ck_s hf
      refine g_lald (hW _ _ _ hv0 37 _ rfl) z6 dX6_goBack_30 ?_
      refine g_putL cf6 hv0 nX6_goBack_X6 (j := 27) (by decide) rfl mX6_goBack_217 rfl dX6_goBack_31 ?_
      refine g_topH (fun h7 eh7 => ?_)
      have hf := lE_s hf eh7
      refine g_aload_n (ps := 0) dX6_goBack_34 rfl rfl ?_
      refine g_iconst (v := 0) dX6_goBack_35 (by decide +kernel) ?_
      refine g_putI cf6 hv0 nX6_goBack_X6 (j := 24) (by decide) rfl mX6_goBack_150 rfl dX6_goBack_36 ?_
      refine g_topH (fun h8 eh8 => ?_)
      have hf := lE_s hf eh8
      refine g_iconst (v := 0) dX6_goBack_39 (by decide +kernel) ?_
      refine g_istore_n (L' := [(2, .int 0), (0, .ref v0), (1, .int v1)]) dX6_goBack_40 rfl (by decide) rfl ?_
      exact g_pick [1, 2, 0] rfl (ulX6_goBack_41 hW hv0 hf)
    · have hf := if_t hf c5
      refine g_ldc (v := (-1000000003)) mX6_goBack_181 dX6_goBack_21 ?_
      have hf := Option.some.inj hf
      subst hf
      exact g_iret dX6_goBack_23
  · have hf := if_t hf c3
    refine g_ldc (v := (-1000000001)) mX6_goBack_176 dX6_goBack_9 ?_
    have hf := Option.some.inj hf
    subst hf
    exact g_iret dX6_goBack_11
theorem kX6_goBack {S : Shp} {n : Nat} {r : Rf} {v0 : Nat} {v1 : Int32} {h : Hp} {o : (Int32 × Hp)} (hW : WF S r) (hv0 : S[v0]? = some (6, 38)) (hf : fX6_goBack n r v0 v1 h = some o) : CTi yX6_goBack wsX6_goBack rmX6_goBack S r [.ref v0, .int v1] h r o.1 o.2 :=
  cti_of rfl (by decide +kernel) rfl (Nat.le_of_ble_eq_true rfl) rfl (uX6_goBack hW hv0 hf)
