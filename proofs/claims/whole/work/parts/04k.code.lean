/-! X6_keepUp keepUp -/
def rmX6_keepUp : Room := { frames := 4, cells := 0, slots := 0, locals := 93 }
abbrev GX6_keepUp (S : Shp) (r r' : Rf) (out : Option Int32 × Hp) (pc : Nat) (L : List (Nat × Value)) (st : List Value) (h : Hp) : Prop := G RX6 cX6_keepUp 6 (some .int) wsX6_keepUp rmX6_keepUp S r r' out pc L st h
theorem nX6_keepUp_X6 : ∀ w ∈ wsX60, w ∈ wsX6_keepUp := by decide +kernel
theorem mX6_keepUp_86 : Cond.constant RX6 86 (-1000000002) ∈ wsX6_keepUp := by decide +kernel
theorem mX6_keepUp_144 : Cond.fieldLink RX6 144 "LinkedIslesModel" "m" "I" ∈ wsX6_keepUp := by decide +kernel
theorem mX6_keepUp_47 : Cond.fieldLink RX6 47 "LinkedIslesModel" "now" "[I" ∈ wsX6_keepUp := by decide +kernel
theorem mX6_keepUp_50 : Cond.fieldLink RX6 50 "LinkedIslesModel" "tried" "[I" ∈ wsX6_keepUp := by decide +kernel
theorem hdX6_keepUp : yX6_keepUp.cls ≠ "java/lang/invoke/MethodHandle" ∧ yX6_keepUp.cls ≠ "java/lang/invoke/VarHandle" ∧ (parseMethodDescriptor yX6_keepUp.desc).map (fun d => d.parameters.length) = some 2 := by decide +kernel
def jX6_keepUp_117 (n : Nat) (r : Rf) (v0 : Nat) (v1 : Int32) (v2 : Int32) (v3 : Int32) (v4 : Int32) (v5 : Int32) (s0 : Int32) (s1 : Int32) (h : Hp) : Option ((Int32 × Hp) ⊕ (Hp)) :=
  ck s1 16 (lE (pI h (r v0 23) (Int32.toNatClampNeg s1) s0) (fun (h22 : Hp) => lE (v5 + 1) (fun (x23 : Int32) => some (.inl (x23, h22)))))
def bX6_keepUp_75 (n : Nat) (r : Rf) (v0 : Nat) (v1 : Int32) (v2 : Int32) (v3 : Int32) (v4 : Int32) (v5 : Int32) (h : Hp) : Option ((Int32 × Hp) ⊕ (Hp)) :=
  if (h.1 v0 15) ≤ v5 then (some (.inr h)) else ((fX6_has n r v4 v5 h).bind (fun (x18 : Int32) => if x18 = 0 then (ck (6 + v5) 16 (jX6_keepUp_117 n r v0 v1 v2 v3 v4 v5 (h.1 (r v0 23) (Int32.toNatClampNeg (6 + v5))) (6 + v5) h)) else (jX6_keepUp_117 n r v0 v1 v2 v3 v4 v5 0 (6 + v5) h)))
def bX6_keepUp_127 (n : Nat) (r : Rf) (v0 : Nat) (v1 : Int32) (v2 : Int32) (v3 : Int32) (v4 : Int32) (v5 : Int32) (h : Hp) : Option ((Int32 × Hp) ⊕ (Hp)) :=
  if v1 ≤ v5 then (some (.inr h)) else (bd2 (fX6_passes n r v0 (r v0 23) 16 h) (fun (x26 : Int32) (h27 : Hp) => lE (v5 + 1) (fun (x28 : Int32) => some (.inl (x28, h27)))))
def lX6_keepUp_127 (n : Nat) (r : Rf) (v0 : Nat) (v1 : Int32) (v2 : Int32) (v3 : Int32) (v4 : Int32) (v5 : Int32) (h : Hp) : Option ((Int32 × Int32 × Hp) ⊕ (Int32 × Hp)) :=
  (it (fun (s : Int32 × Hp) => bX6_keepUp_127 n r v0 v1 v2 v3 v4 s.1 s.2) n (v5, h)).bind (fun z => ck 0 16 ((fX6_partsOf n r v0 (z.1 (r v0 23) (Int32.toNatClampNeg 0)) z).bind (fun (x31 : Int32) => ck 0 16 ((fX6_partsOf n r v0 (z.1 (r v0 22) (Int32.toNatClampNeg 0)) z).bind (fun (x34 : Int32) => if x34 < x31 then (lE (v4 + (-1)) (fun (x36 : Int32) => some (.inl (v3, x36, z)))) else (lE (v4 + (-1)) (fun (x37 : Int32) => some (.inl (v4, x37, z)))))))))
def lX6_keepUp_75 (n : Nat) (r : Rf) (v0 : Nat) (v1 : Int32) (v2 : Int32) (v3 : Int32) (v4 : Int32) (v5 : Int32) (h : Hp) : Option ((Int32 × Int32 × Hp) ⊕ (Int32 × Hp)) :=
  (it (fun (s : Int32 × Hp) => bX6_keepUp_75 n r v0 v1 v2 v3 v4 s.1 s.2) n (v5, h)).bind (fun z => lX6_keepUp_127 n r v0 v1 v2 v3 v4 0 z)
def jX6_keepUp_68 (n : Nat) (r : Rf) (v0 : Nat) (v1 : Int32) (v2 : Int32) (v3 : Int32) (v4 : Int32)  (h : Hp) : Option ((Int32 × Int32 × Hp) ⊕ (Int32 × Hp)) :=
  (fX6_copyNow n r v0 h).bind (fun (h15 : Hp) => lX6_keepUp_75 n r v0 v1 v2 v3 v4 0 h15)
def bX6_keepUp_32 (n : Nat) (r : Rf) (v0 : Nat) (v1 : Int32) (v2 : Int32) (v3 : Int32) (v4 : Int32) (h : Hp) : Option ((Int32 × Int32 × Hp) ⊕ (Int32 × Hp)) :=
  if v4 < 0 then (some (.inr (v3, h))) else (ck 0 16 (if (v4 &&& ((h.1 (r v0 22) (Int32.toNatClampNeg 0)) ^^^ (-1))) = 0 then (if v3 = (-1) then (jX6_keepUp_68 n r v0 v1 v2 v3 v4  h) else ((fX6_bits n r v4 h).bind (fun (x39 : Int32) => (fX6_bits n r v3 h).bind (fun (x41 : Int32) => if x41 < x39 then (lE (v4 + (-1)) (fun (x43 : Int32) => some (.inl (v3, x43, h)))) else (jX6_keepUp_68 n r v0 v1 v2 v3 v4  h))))) else (lE (v4 + (-1)) (fun (x12 : Int32) => some (.inl (v3, x12, h))))))
def lX6_keepUp_32 (n : Nat) (r : Rf) (v0 : Nat) (v1 : Int32) (v2 : Int32) (v3 : Int32) (v4 : Int32) (h : Hp) : Option (Int32 × Hp) :=
  (it (fun (s : Int32 × Int32 × Hp) => bX6_keepUp_32 n r v0 v1 v2 s.1 s.2.1 s.2.2) n (v3, v4, h)).bind (fun z => if (z.1) = (-1) then (some ((-1), (z.2))) else (if v2 = 0 then ((fX6_bits n r (z.1) (z.2)).bind (fun (x47 : Int32) => some (x47, (z.2)))) else (some ((z.1), (z.2)))))
def fX6_keepUp (n : Nat) (r : Rf) (v0 : Nat) (v1 : Int32) (v2 : Int32) (h : Hp) : Option (Int32 × Hp) :=
  (fX6_in n r v1 0 60 h).bind (fun (x2 : Int32) => if x2 = 0 then (some ((-1000000002), h)) else ((fX6_in n r v2 0 1 h).bind (fun (x5 : Int32) => if x5 = 0 then (some ((-1000000002), h)) else (ck 0 16 (lE ((h.1 (r v0 22) (Int32.toNatClampNeg 0))) (fun (x8 : Int32) => lX6_keepUp_32 n r v0 v1 v2 (-1) x8 h))))))
set_option maxHeartbeats 4000000 in
set_option maxRecDepth 100000 in
theorem ujX6_keepUp_117 {S : Shp} {n : Nat} {r : Rf} {out : Option Int32 × Hp} {r' : Rf} {v0 : Nat} {v1 : Int32} {v2 : Int32} {v3 : Int32} {v4 : Int32} {v5 : Int32} {s0 : Int32} {s1 : Int32} {h : Hp} {w : (Int32 × Hp) ⊕ (Hp)} (hW : WF S r) (hv0 : S[v0]? = some (6, 38)) (hf : jX6_keepUp_117 n r v0 v1 v2 v3 v4 v5 s0 s1 h = some w) (hk : ∀ y, w = .inl y → GX6_keepUp S r r' out 75 [(0, .ref v0), (1, .int v1), (2, .int v2), (3, .int v3), (4, .int v4), (5, .int (y.1))] [] (y.2)) (he : ∀ z, w = .inr z → GX6_keepUp S r r' out 124 [(0, .ref v0), (1, .int v1), (2, .int v2), (3, .int v3), (4, .int v4)] [] (z)) : GX6_keepUp S r r' out 117 [(0, .ref v0), (1, .int v1), (2, .int v2), (3, .int v3), (4, .int v4), (5, .int v5)] [.int s0, .int s1, .ref (r v0 23)] h := by
  unfold jX6_keepUp_117 at hf
  obtain ⟨z21, hf⟩ := ck_s hf
  refine g_iast (hW _ _ _ hv0 23 _ rfl) z21 dX6_keepUp_117 ?_
  refine g_topH (fun h22 eh22 => ?_)
  have hf := lE_s hf eh22
  obtain ⟨x23, ex23⟩ : ∃ y : Int32, y = v5 + 1 := ⟨_, rfl⟩
  have hf := lE_s hf ex23
  refine g_iinc (ps := 5) (v := x23) (L' := [(5, .int x23), (0, .ref v0), (1, .int v1), (2, .int v2), (3, .int v3), (4, .int v4)]) dX6_keepUp_118 rfl (by rw [ex23]; rfl) (by decide) rfl ?_
  refine g_goto (tgt := 75) dX6_keepUp_121 (by decide) ?_
  exact g_pick [1, 2, 3, 4, 5, 0] rfl (hk _ (Option.some.inj hf).symm)
set_option maxHeartbeats 4000000 in
set_option maxRecDepth 100000 in
theorem ubX6_keepUp_75 {S : Shp} {n : Nat} {r : Rf} {out : Option Int32 × Hp} {r' : Rf} {v0 : Nat} {v1 : Int32} {v2 : Int32} {v3 : Int32} {v4 : Int32} {v5 : Int32}  {h : Hp} {w : (Int32 × Hp) ⊕ (Hp)} (hW : WF S r) (hv0 : S[v0]? = some (6, 38)) (hf : bX6_keepUp_75 n r v0 v1 v2 v3 v4 v5 h = some w) (hk : ∀ y, w = .inl y → GX6_keepUp S r r' out 75 [(0, .ref v0), (1, .int v1), (2, .int v2), (3, .int v3), (4, .int v4), (5, .int (y.1))] [] (y.2)) (he : ∀ z, w = .inr z → GX6_keepUp S r r' out 124 [(0, .ref v0), (1, .int v1), (2, .int v2), (3, .int v3), (4, .int v4)] [] (z)) : GX6_keepUp S r r' out 75 [(0, .ref v0), (1, .int v1), (2, .int v2), (3, .int v3), (4, .int v4), (5, .int v5)] [] h := by
  unfold bX6_keepUp_75 at hf
  refine g_iload (ps := 5) dX6_keepUp_75 rfl ?_
  refine g_aload_n (ps := 0) dX6_keepUp_77 rfl rfl ?_
  refine g_getI cf6 hv0 nX6_keepUp_X6 (j := 15) (by decide) rfl mX6_keepUp_144 dX6_keepUp_78 ?_
  refine g_icmp_ge (tgt := 124) dX6_keepUp_81 (by decide) (fun c16 => ?_) (fun c16 => ?_)
  · have hf := if_t hf c16
    exact g_pick [0, 1, 2, 3, 4] rfl (he _ (Option.some.inj hf).symm)
  · have hf := if_f hf c16
    refine g_aload_n (ps := 0) dX6_keepUp_84 rfl rfl ?_
    refine g_getR cf6 hv0 nX6_keepUp_X6 (j := 23) (by decide) rfl mX6_keepUp_50 dX6_keepUp_85 ?_
    refine g_bipush (v := 6) dX6_keepUp_88 (by decide +kernel) ?_
    refine g_iload (ps := 5) dX6_keepUp_90 rfl ?_
    refine g_iadd dX6_keepUp_92 ?_
    refine g_iload (ps := 4) dX6_keepUp_93 rfl ?_
    refine g_iload (ps := 5) dX6_keepUp_95 rfl ?_
    obtain ⟨x18, e17, hf⟩ := bd_s hf
    refine g_callSi (As := [.int v4, .int v5]) (n := 2) (kX6_has hW  e17) gX6_keepUp_X6_has rfl ⟨rfl, rfl⟩ hdX6_has ⟨Nat.le_of_ble_eq_true rfl, Nat.le_of_ble_eq_true rfl⟩ rfl rfl (Nat.le_of_ble_eq_true rfl) dX6_keepUp_97 ?_
    refine g_if_eq (tgt := 107) dX6_keepUp_100 (by decide) (fun c19 => ?_) (fun c19 => ?_)
    · have hf := if_t hf c19
      refine g_aload_n (ps := 0) dX6_keepUp_107 rfl rfl ?_
      refine g_getR cf6 hv0 nX6_keepUp_X6 (j := 23) (by decide) rfl mX6_keepUp_50 dX6_keepUp_108 ?_
      refine g_bipush (v := 6) dX6_keepUp_111 (by decide +kernel) ?_
      refine g_iload (ps := 5) dX6_keepUp_113 rfl ?_
      refine g_iadd dX6_keepUp_115 ?_
      obtain ⟨z20, hf⟩ := ck_s hf
      refine g_iald (hW _ _ _ hv0 23 _ rfl) z20 dX6_keepUp_116 ?_
      exact g_pick [0, 1, 2, 3, 4, 5] rfl (ujX6_keepUp_117 hW hv0 hf hk he)
    · have hf := if_f hf c19
      refine g_iconst (v := 0) dX6_keepUp_103 (by decide +kernel) ?_
      refine g_goto (tgt := 117) dX6_keepUp_104 (by decide) ?_
      exact g_pick [0, 1, 2, 3, 4, 5] rfl (ujX6_keepUp_117 hW hv0 hf hk he)
set_option maxHeartbeats 4000000 in
set_option maxRecDepth 100000 in
theorem ubX6_keepUp_127 {S : Shp} {n : Nat} {r : Rf} {out : Option Int32 × Hp} {r' : Rf} {v0 : Nat} {v1 : Int32} {v2 : Int32} {v3 : Int32} {v4 : Int32} {v5 : Int32}  {h : Hp} {w : (Int32 × Hp) ⊕ (Hp)} (hW : WF S r) (hv0 : S[v0]? = some (6, 38)) (hf : bX6_keepUp_127 n r v0 v1 v2 v3 v4 v5 h = some w) (hk : ∀ y, w = .inl y → GX6_keepUp S r r' out 127 [(0, .ref v0), (1, .int v1), (2, .int v2), (3, .int v3), (4, .int v4), (5, .int (y.1))] [] (y.2)) (he : ∀ z, w = .inr z → GX6_keepUp S r r' out 148 [(0, .ref v0), (1, .int v1), (2, .int v2), (3, .int v3), (4, .int v4)] [] (z)) : GX6_keepUp S r r' out 127 [(0, .ref v0), (1, .int v1), (2, .int v2), (3, .int v3), (4, .int v4), (5, .int v5)] [] h := by
  unfold bX6_keepUp_127 at hf
  refine g_iload (ps := 5) dX6_keepUp_127 rfl ?_
  refine g_iload_n (ps := 1) dX6_keepUp_129 rfl rfl ?_
  refine g_icmp_ge (tgt := 148) dX6_keepUp_130 (by decide) (fun c24 => ?_) (fun c24 => ?_)
  · have hf := if_t hf c24
    exact g_pick [0, 1, 2, 3, 4] rfl (he _ (Option.some.inj hf).symm)
  · have hf := if_f hf c24
    refine g_aload_n (ps := 0) dX6_keepUp_133 rfl rfl ?_
    refine g_aload_n (ps := 0) dX6_keepUp_134 rfl rfl ?_
    refine g_getR cf6 hv0 nX6_keepUp_X6 (j := 23) (by decide) rfl mX6_keepUp_50 dX6_keepUp_135 ?_
    obtain ⟨x26, h27, e25, hf⟩ := bd2_s hf
    refine g_callVi (As := [.ref (r v0 23)]) (n := 1) (kX6_passes hW hv0 (hW _ _ _ hv0 23 _ rfl) e25) gX6_keepUp_X6_passes rfl ⟨rfl, rfl⟩ ⟨rfl, hdX6_passes⟩ ⟨Nat.le_of_ble_eq_true rfl, Nat.le_of_ble_eq_true rfl⟩ cf6 hv0 rfl rfl (Nat.le_of_ble_eq_true rfl) dX6_keepUp_138 ?_
    refine g_pop dX6_keepUp_141 rfl ?_
    obtain ⟨x28, ex28⟩ : ∃ y : Int32, y = v5 + 1 := ⟨_, rfl⟩
    have hf := lE_s hf ex28
    refine g_iinc (ps := 5) (v := x28) (L' := [(5, .int x28), (0, .ref v0), (1, .int v1), (2, .int v2), (3, .int v3), (4, .int v4)]) dX6_keepUp_142 rfl (by rw [ex28]; rfl) (by decide) rfl ?_
    refine g_goto (tgt := 127) dX6_keepUp_145 (by decide) ?_
    exact g_pick [1, 2, 3, 4, 5, 0] rfl (hk _ (Option.some.inj hf).symm)
set_option maxHeartbeats 4000000 in
set_option maxRecDepth 100000 in
theorem ulX6_keepUp_127 {S : Shp} {n : Nat} {r : Rf} {out : Option Int32 × Hp} {r' : Rf} {v0 : Nat} {v1 : Int32} {v2 : Int32} {v3 : Int32} {v4 : Int32} {v5 : Int32}  {h : Hp} {w : (Int32 × Int32 × Hp) ⊕ (Int32 × Hp)} (hW : WF S r) (hv0 : S[v0]? = some (6, 38)) (hf : lX6_keepUp_127 n r v0 v1 v2 v3 v4 v5 h = some w) (hk : ∀ y, w = .inl y → GX6_keepUp S r r' out 32 [(0, .ref v0), (1, .int v1), (2, .int v2), (3, .int (y.1)), (4, .int (y.2.1))] [] (y.2.2)) (he : ∀ z, w = .inr z → GX6_keepUp S r r' out 184 [(0, .ref v0), (2, .int v2), (3, .int (z.1))] [] (z.2)) : GX6_keepUp S r r' out 127 [(0, .ref v0), (1, .int v1), (2, .int v2), (3, .int v3), (4, .int v4), (5, .int v5)] [] h := by
  unfold lX6_keepUp_127 at hf
  obtain ⟨z0, ei, hf⟩ := bd_s hf
  refine it_ind (P := fun (s : Int32 × Hp) => GX6_keepUp S r r' out 127 [(0, .ref v0), (1, .int v1), (2, .int v2), (3, .int v3), (4, .int v4), (5, .int (s.1))] [] (s.2)) (fun s w hb hk2 he2 => ?_) n _ ei
  refine ubX6_keepUp_127 (out := out) (r' := r') hW hv0 hb hk2 (fun z hz => ?_)
  have hz := he2 z hz
  subst hz
  refine g_aload_n (ps := 0) dX6_keepUp_148 rfl rfl ?_
  refine g_aload_n (ps := 0) dX6_keepUp_149 rfl rfl ?_
  refine g_getR cf6 hv0 nX6_keepUp_X6 (j := 23) (by decide) rfl mX6_keepUp_50 dX6_keepUp_150 ?_
  refine g_iconst (v := 0) dX6_keepUp_153 (by decide +kernel) ?_
  obtain ⟨z29, hf⟩ := ck_s hf
  refine g_iald (hW _ _ _ hv0 23 _ rfl) z29 dX6_keepUp_154 ?_
  obtain ⟨x31, e30, hf⟩ := bd_s hf
  refine g_callVi (As := [.int (z.1 (r v0 23) (Int32.toNatClampNeg 0))]) (n := 1) (kX6_partsOf hW hv0 e30) gX6_keepUp_X6_partsOf rfl ⟨rfl, rfl⟩ ⟨rfl, hdX6_partsOf⟩ ⟨Nat.le_of_ble_eq_true rfl, Nat.le_of_ble_eq_true rfl⟩ cf6 hv0 rfl rfl (Nat.le_of_ble_eq_true rfl) dX6_keepUp_155 ?_
  refine g_aload_n (ps := 0) dX6_keepUp_158 rfl rfl ?_
  refine g_aload_n (ps := 0) dX6_keepUp_159 rfl rfl ?_
  refine g_getR cf6 hv0 nX6_keepUp_X6 (j := 22) (by decide) rfl mX6_keepUp_47 dX6_keepUp_160 ?_
  refine g_iconst (v := 0) dX6_keepUp_163 (by decide +kernel) ?_
  obtain ⟨z32, hf⟩ := ck_s hf
  refine g_iald (hW _ _ _ hv0 22 _ rfl) z32 dX6_keepUp_164 ?_
  obtain ⟨x34, e33, hf⟩ := bd_s hf
  refine g_callVi (As := [.int (z.1 (r v0 22) (Int32.toNatClampNeg 0))]) (n := 1) (kX6_partsOf hW hv0 e33) gX6_keepUp_X6_partsOf rfl ⟨rfl, rfl⟩ ⟨rfl, hdX6_partsOf⟩ ⟨Nat.le_of_ble_eq_true rfl, Nat.le_of_ble_eq_true rfl⟩ cf6 hv0 rfl rfl (Nat.le_of_ble_eq_true rfl) dX6_keepUp_165 ?_
  refine g_icmp_gt (tgt := 176) dX6_keepUp_168 (by decide) (fun c35 => ?_) (fun c35 => ?_)
  · have hf := if_t hf c35
    refine g_iload_n (ps := 3) dX6_keepUp_176 rfl rfl ?_
    refine g_istore_n (L' := [(3, .int v3), (0, .ref v0), (1, .int v1), (2, .int v2), (4, .int v4)]) dX6_keepUp_177 rfl (by decide) rfl ?_
    obtain ⟨x36, ex36⟩ : ∃ y : Int32, y = v4 + (-1) := ⟨_, rfl⟩
    have hf := lE_s hf ex36
    refine g_iinc (ps := 4) (v := x36) (L' := [(4, .int x36), (3, .int v3), (0, .ref v0), (1, .int v1), (2, .int v2)]) dX6_keepUp_178 rfl (by rw [ex36]; rfl) (by decide) rfl ?_
    refine g_goto (tgt := 32) dX6_keepUp_181 (by decide) ?_
    exact g_pick [2, 3, 4, 1, 0] rfl (hk _ (Option.some.inj hf).symm)
  · have hf := if_f hf c35
    refine g_iload (ps := 4) dX6_keepUp_171 rfl ?_
    refine g_goto (tgt := 177) dX6_keepUp_173 (by decide) ?_
    refine g_istore_n (L' := [(3, .int v4), (0, .ref v0), (1, .int v1), (2, .int v2), (4, .int v4)]) dX6_keepUp_177 rfl (by decide) rfl ?_
    obtain ⟨x37, ex37⟩ : ∃ y : Int32, y = v4 + (-1) := ⟨_, rfl⟩
    have hf := lE_s hf ex37
    refine g_iinc (ps := 4) (v := x37) (L' := [(4, .int x37), (3, .int v4), (0, .ref v0), (1, .int v1), (2, .int v2)]) dX6_keepUp_178 rfl (by rw [ex37]; rfl) (by decide) rfl ?_
    refine g_goto (tgt := 32) dX6_keepUp_181 (by decide) ?_
    exact g_pick [2, 3, 4, 1, 0] rfl (hk _ (Option.some.inj hf).symm)
set_option maxHeartbeats 4000000 in
set_option maxRecDepth 100000 in
theorem ulX6_keepUp_75 {S : Shp} {n : Nat} {r : Rf} {out : Option Int32 × Hp} {r' : Rf} {v0 : Nat} {v1 : Int32} {v2 : Int32} {v3 : Int32} {v4 : Int32} {v5 : Int32}  {h : Hp} {w : (Int32 × Int32 × Hp) ⊕ (Int32 × Hp)} (hW : WF S r) (hv0 : S[v0]? = some (6, 38)) (hf : lX6_keepUp_75 n r v0 v1 v2 v3 v4 v5 h = some w) (hk : ∀ y, w = .inl y → GX6_keepUp S r r' out 32 [(0, .ref v0), (1, .int v1), (2, .int v2), (3, .int (y.1)), (4, .int (y.2.1))] [] (y.2.2)) (he : ∀ z, w = .inr z → GX6_keepUp S r r' out 184 [(0, .ref v0), (2, .int v2), (3, .int (z.1))] [] (z.2)) : GX6_keepUp S r r' out 75 [(0, .ref v0), (1, .int v1), (2, .int v2), (3, .int v3), (4, .int v4), (5, .int v5)] [] h := by
  unfold lX6_keepUp_75 at hf
  obtain ⟨z0, ei, hf⟩ := bd_s hf
  refine it_ind (P := fun (s : Int32 × Hp) => GX6_keepUp S r r' out 75 [(0, .ref v0), (1, .int v1), (2, .int v2), (3, .int v3), (4, .int v4), (5, .int (s.1))] [] (s.2)) (fun s w hb hk2 he2 => ?_) n _ ei
  refine ubX6_keepUp_75 (out := out) (r' := r') hW hv0 hb hk2 (fun z hz => ?_)
  have hz := he2 z hz
  subst hz
  refine g_iconst (v := 0) dX6_keepUp_124 (by decide +kernel) ?_
  refine g_istore (L' := [(5, .int 0), (0, .ref v0), (1, .int v1), (2, .int v2), (3, .int v3), (4, .int v4)]) dX6_keepUp_125 (by decide) rfl ?_
  exact g_pick [1, 2, 3, 4, 5, 0] rfl (ulX6_keepUp_127 hW hv0 hf hk he)
set_option maxHeartbeats 4000000 in
set_option maxRecDepth 100000 in
theorem ujX6_keepUp_68 {S : Shp} {n : Nat} {r : Rf} {out : Option Int32 × Hp} {r' : Rf} {v0 : Nat} {v1 : Int32} {v2 : Int32} {v3 : Int32} {v4 : Int32}  {h : Hp} {w : (Int32 × Int32 × Hp) ⊕ (Int32 × Hp)} (hW : WF S r) (hv0 : S[v0]? = some (6, 38)) (hf : jX6_keepUp_68 n r v0 v1 v2 v3 v4  h = some w) (hk : ∀ y, w = .inl y → GX6_keepUp S r r' out 32 [(0, .ref v0), (1, .int v1), (2, .int v2), (3, .int (y.1)), (4, .int (y.2.1))] [] (y.2.2)) (he : ∀ z, w = .inr z → GX6_keepUp S r r' out 184 [(0, .ref v0), (2, .int v2), (3, .int (z.1))] [] (z.2)) : GX6_keepUp S r r' out 68 [(0, .ref v0), (1, .int v1), (2, .int v2), (3, .int v3), (4, .int v4)] [] h := by
  unfold jX6_keepUp_68 at hf
  refine g_aload_n (ps := 0) dX6_keepUp_68 rfl rfl ?_
  obtain ⟨h15, e14, hf⟩ := bd_s hf
  refine g_callVv (As := []) (n := 0) (kX6_copyNow hW hv0 e14) gX6_keepUp_X6_copyNow rfl ⟨rfl, rfl⟩ ⟨rfl, hdX6_copyNow⟩ ⟨Nat.le_of_ble_eq_true rfl, Nat.le_of_ble_eq_true rfl⟩ cf6 hv0 rfl rfl (Nat.le_of_ble_eq_true rfl) dX6_keepUp_69 ?_
  refine g_iconst (v := 0) dX6_keepUp_72 (by decide +kernel) ?_
  refine g_istore (L' := [(5, .int 0), (0, .ref v0), (1, .int v1), (2, .int v2), (3, .int v3), (4, .int v4)]) dX6_keepUp_73 (by decide) rfl ?_
  exact g_pick [1, 2, 3, 4, 5, 0] rfl (ulX6_keepUp_75 hW hv0 hf hk he)
set_option maxHeartbeats 4000000 in
set_option maxRecDepth 100000 in
theorem ubX6_keepUp_32 {S : Shp} {n : Nat} {r : Rf} {out : Option Int32 × Hp} {r' : Rf} {v0 : Nat} {v1 : Int32} {v2 : Int32} {v3 : Int32} {v4 : Int32}  {h : Hp} {w : (Int32 × Int32 × Hp) ⊕ (Int32 × Hp)} (hW : WF S r) (hv0 : S[v0]? = some (6, 38)) (hf : bX6_keepUp_32 n r v0 v1 v2 v3 v4 h = some w) (hk : ∀ y, w = .inl y → GX6_keepUp S r r' out 32 [(0, .ref v0), (1, .int v1), (2, .int v2), (3, .int (y.1)), (4, .int (y.2.1))] [] (y.2.2)) (he : ∀ z, w = .inr z → GX6_keepUp S r r' out 184 [(0, .ref v0), (2, .int v2), (3, .int (z.1))] [] (z.2)) : GX6_keepUp S r r' out 32 [(0, .ref v0), (1, .int v1), (2, .int v2), (3, .int v3), (4, .int v4)] [] h := by
  unfold bX6_keepUp_32 at hf
  refine g_iload (ps := 4) dX6_keepUp_32 rfl ?_
  refine g_if_lt (tgt := 184) dX6_keepUp_34 (by decide) (fun c9 => ?_) (fun c9 => ?_)
  · have hf := if_t hf c9
    exact g_pick [0, 2, 3] rfl (he _ (Option.some.inj hf).symm)
  · have hf := if_f hf c9
    refine g_iload (ps := 4) dX6_keepUp_37 rfl ?_
    refine g_aload_n (ps := 0) dX6_keepUp_39 rfl rfl ?_
    refine g_getR cf6 hv0 nX6_keepUp_X6 (j := 22) (by decide) rfl mX6_keepUp_47 dX6_keepUp_40 ?_
    refine g_iconst (v := 0) dX6_keepUp_43 (by decide +kernel) ?_
    obtain ⟨z10, hf⟩ := ck_s hf
    refine g_iald (hW _ _ _ hv0 22 _ rfl) z10 dX6_keepUp_44 ?_
    refine g_iconst (v := (-1)) dX6_keepUp_45 (by decide +kernel) ?_
    refine g_ixor dX6_keepUp_46 ?_
    refine g_iand dX6_keepUp_47 ?_
    refine g_if_ne (tgt := 178) dX6_keepUp_48 (by decide) (fun c11 => ?_) (fun c11 => ?_)
    · have hf := if_f hf c11
      obtain ⟨x12, ex12⟩ : ∃ y : Int32, y = v4 + (-1) := ⟨_, rfl⟩
      have hf := lE_s hf ex12
      refine g_iinc (ps := 4) (v := x12) (L' := [(4, .int x12), (0, .ref v0), (1, .int v1), (2, .int v2), (3, .int v3)]) dX6_keepUp_178 rfl (by rw [ex12]; rfl) (by decide) rfl ?_
      refine g_goto (tgt := 32) dX6_keepUp_181 (by decide) ?_
      exact g_pick [1, 2, 3, 4, 0] rfl (hk _ (Option.some.inj hf).symm)
    · have hf := if_t hf c11
      refine g_iload_n (ps := 3) dX6_keepUp_51 rfl rfl ?_
      refine g_iconst (v := (-1)) dX6_keepUp_52 (by decide +kernel) ?_
      refine g_icmp_eq (tgt := 68) dX6_keepUp_53 (by decide) (fun c13 => ?_) (fun c13 => ?_)
      · have hf := if_t hf c13
        exact g_pick [0, 1, 2, 3, 4] rfl (ujX6_keepUp_68 hW hv0 hf hk he)
      · have hf := if_f hf c13
        refine g_iload (ps := 4) dX6_keepUp_56 rfl ?_
        obtain ⟨x39, e38, hf⟩ := bd_s hf
        refine g_callSi (As := [.int v4]) (n := 1) (kX6_bits hW  e38) gX6_keepUp_X6_bits rfl ⟨rfl, rfl⟩ hdX6_bits ⟨Nat.le_of_ble_eq_true rfl, Nat.le_of_ble_eq_true rfl⟩ rfl rfl (Nat.le_of_ble_eq_true rfl) dX6_keepUp_58 ?_
        refine g_iload_n (ps := 3) dX6_keepUp_61 rfl rfl ?_
        obtain ⟨x41, e40, hf⟩ := bd_s hf
        refine g_callSi (As := [.int v3]) (n := 1) (kX6_bits hW  e40) gX6_keepUp_X6_bits rfl ⟨rfl, rfl⟩ hdX6_bits ⟨Nat.le_of_ble_eq_true rfl, Nat.le_of_ble_eq_true rfl⟩ rfl rfl (Nat.le_of_ble_eq_true rfl) dX6_keepUp_62 ?_
        refine g_icmp_gt (tgt := 178) dX6_keepUp_65 (by decide) (fun c42 => ?_) (fun c42 => ?_)
        · have hf := if_t hf c42
          obtain ⟨x43, ex43⟩ : ∃ y : Int32, y = v4 + (-1) := ⟨_, rfl⟩
          have hf := lE_s hf ex43
          refine g_iinc (ps := 4) (v := x43) (L' := [(4, .int x43), (0, .ref v0), (1, .int v1), (2, .int v2), (3, .int v3)]) dX6_keepUp_178 rfl (by rw [ex43]; rfl) (by decide) rfl ?_
          refine g_goto (tgt := 32) dX6_keepUp_181 (by decide) ?_
          exact g_pick [1, 2, 3, 4, 0] rfl (hk _ (Option.some.inj hf).symm)
        · have hf := if_f hf c42
          exact g_pick [0, 1, 2, 3, 4] rfl (ujX6_keepUp_68 hW hv0 hf hk he)
set_option maxHeartbeats 4000000 in
set_option maxRecDepth 100000 in
theorem ulX6_keepUp_32 {S : Shp} {n : Nat} {r : Rf} {v0 : Nat} {v1 : Int32} {v2 : Int32} {v3 : Int32} {v4 : Int32}  {h : Hp} {o : (Int32 × Hp)} (hW : WF S r) (hv0 : S[v0]? = some (6, 38)) (hf : lX6_keepUp_32 n r v0 v1 v2 v3 v4 h = some o)  : GX6_keepUp S r r (some o.1, o.2) 32 [(0, .ref v0), (1, .int v1), (2, .int v2), (3, .int v3), (4, .int v4)] [] h := by
  unfold lX6_keepUp_32 at hf
  obtain ⟨z0, ei, hf⟩ := bd_s hf
  refine it_ind (P := fun (s : Int32 × Int32 × Hp) => GX6_keepUp S r r (some o.1, o.2) 32 [(0, .ref v0), (1, .int v1), (2, .int v2), (3, .int (s.1)), (4, .int (s.2.1))] [] (s.2.2)) (fun s w hb hk2 he2 => ?_) n _ ei
  refine ubX6_keepUp_32 (out := (some o.1, o.2)) (r' := r) hW hv0 hb hk2 (fun z hz => ?_)
  have hz := he2 z hz
  subst hz
  refine g_iload_n (ps := 2) dX6_keepUp_184 rfl rfl ?_
  refine g_iconst (v := (-1)) dX6_keepUp_185 (by decide +kernel) ?_
  refine g_icmp_ne (tgt := 193) dX6_keepUp_186 (by decide) (fun c44 => ?_) (fun c44 => ?_)
  · have hf := if_f hf c44
    refine g_iload_n (ps := 1) dX6_keepUp_193 rfl rfl ?_
    refine g_if_ne (tgt := 204) dX6_keepUp_194 (by decide) (fun c45 => ?_) (fun c45 => ?_)
    · have hf := if_f hf c45
      refine g_iload_n (ps := 2) dX6_keepUp_204 rfl rfl ?_
      have hf := Option.some.inj hf
      subst hf
      exact g_iret dX6_keepUp_205
    · have hf := if_t hf c45
      refine g_iload_n (ps := 2) dX6_keepUp_197 rfl rfl ?_
      obtain ⟨x47, e46, hf⟩ := bd_s hf
      refine g_callSi (As := [.int (z.1)]) (n := 1) (kX6_bits hW  e46) gX6_keepUp_X6_bits rfl ⟨rfl, rfl⟩ hdX6_bits ⟨Nat.le_of_ble_eq_true rfl, Nat.le_of_ble_eq_true rfl⟩ rfl rfl (Nat.le_of_ble_eq_true rfl) dX6_keepUp_198 ?_
      refine g_goto (tgt := 205) dX6_keepUp_201 (by decide) ?_
      have hf := Option.some.inj hf
      subst hf
      exact g_iret dX6_keepUp_205
  · have hf := if_t hf c44
    refine g_iconst (v := (-1)) dX6_keepUp_189 (by decide +kernel) ?_
    refine g_goto (tgt := 205) dX6_keepUp_190 (by decide) ?_
    have hf := Option.some.inj hf
    subst hf
    exact g_iret dX6_keepUp_205
set_option maxHeartbeats 4000000 in
set_option maxRecDepth 100000 in
theorem uX6_keepUp {S : Shp} {n : Nat} {r : Rf} {v0 : Nat} {v1 : Int32} {v2 : Int32} {h : Hp} {o : (Int32 × Hp)} (hW : WF S r) (hv0 : S[v0]? = some (6, 38)) (hf : fX6_keepUp n r v0 v1 v2 h = some o) : GX6_keepUp S r r (some o.1, o.2) 0 [(0, .ref v0), (1, .int v1), (2, .int v2)] [] h := by
  unfold fX6_keepUp at hf
  refine g_iload_n (ps := 1) dX6_keepUp_0 rfl rfl ?_
  refine g_iconst (v := 0) dX6_keepUp_1 (by decide +kernel) ?_
  refine g_bipush (v := 60) dX6_keepUp_2 (by decide +kernel) ?_
  obtain ⟨x2, e1, hf⟩ := bd_s hf
  refine g_callSi (As := [.int v1, .int 0, .int 60]) (n := 3) (kX6_in hW  e1) gX6_keepUp_X6_in rfl ⟨rfl, rfl⟩ hdX6_in ⟨Nat.le_of_ble_eq_true rfl, Nat.le_of_ble_eq_true rfl⟩ rfl rfl (Nat.le_of_ble_eq_true rfl) dX6_keepUp_4 ?_
  refine g_if_eq (tgt := 19) dX6_keepUp_7 (by decide) (fun c3 => ?_) (fun c3 => ?_)
  · have hf := if_t hf c3
    refine g_ldc (v := (-1000000002)) mX6_keepUp_86 dX6_keepUp_19 ?_
    have hf := Option.some.inj hf
    subst hf
    exact g_iret dX6_keepUp_21
  · have hf := if_f hf c3
    refine g_iload_n (ps := 2) dX6_keepUp_10 rfl rfl ?_
    refine g_iconst (v := 0) dX6_keepUp_11 (by decide +kernel) ?_
    refine g_iconst (v := 1) dX6_keepUp_12 (by decide +kernel) ?_
    obtain ⟨x5, e4, hf⟩ := bd_s hf
    refine g_callSi (As := [.int v2, .int 0, .int 1]) (n := 3) (kX6_in hW  e4) gX6_keepUp_X6_in rfl ⟨rfl, rfl⟩ hdX6_in ⟨Nat.le_of_ble_eq_true rfl, Nat.le_of_ble_eq_true rfl⟩ rfl rfl (Nat.le_of_ble_eq_true rfl) dX6_keepUp_13 ?_
    refine g_if_ne (tgt := 22) dX6_keepUp_16 (by decide) (fun c6 => ?_) (fun c6 => ?_)
    · have hf := if_f hf c6
      refine g_iconst (v := (-1)) dX6_keepUp_22 (by decide +kernel) ?_
      refine g_istore_n (L' := [(3, .int (-1)), (0, .ref v0), (1, .int v1), (2, .int v2)]) dX6_keepUp_23 rfl (by decide) rfl ?_
      refine g_aload_n (ps := 1) dX6_keepUp_24 rfl rfl ?_
      refine g_getR cf6 hv0 nX6_keepUp_X6 (j := 22) (by decide) rfl mX6_keepUp_47 dX6_keepUp_25 ?_
      refine g_iconst (v := 0) dX6_keepUp_28 (by decide +kernel) ?_
      obtain ⟨z7, hf⟩ := ck_s hf
      refine g_iald (hW _ _ _ hv0 22 _ rfl) z7 dX6_keepUp_29 ?_
      refine g_topi (fun x8 ex8 => ?_)
      have hf := lE_s hf ex8
      refine g_istore (L' := [(4, .int x8), (3, .int (-1)), (0, .ref v0), (1, .int v1), (2, .int v2)]) dX6_keepUp_30 (by decide) rfl ?_
      exact g_pick [2, 3, 4, 1, 0] rfl (ulX6_keepUp_32 hW hv0 hf)
    · have hf := if_t hf c6
      refine g_ldc (v := (-1000000002)) mX6_keepUp_86 dX6_keepUp_19 ?_
      have hf := Option.some.inj hf
      subst hf
      exact g_iret dX6_keepUp_21
theorem kX6_keepUp {S : Shp} {n : Nat} {r : Rf} {v0 : Nat} {v1 : Int32} {v2 : Int32} {h : Hp} {o : (Int32 × Hp)} (hW : WF S r) (hv0 : S[v0]? = some (6, 38)) (hf : fX6_keepUp n r v0 v1 v2 h = some o) : CTi yX6_keepUp wsX6_keepUp rmX6_keepUp S r [.ref v0, .int v1, .int v2] h r o.1 o.2 :=
  cti_of rfl (by decide +kernel) rfl (Nat.le_of_ble_eq_true rfl) rfl (uX6_keepUp hW hv0 hf)
/-! X6_agree agree -/
def rmX6_agree : Room := { frames := 3, cells := 0, slots := 0, locals := 73 }
abbrev GX6_agree (S : Shp) (r r' : Rf) (out : Option Int32 × Hp) (pc : Nat) (L : List (Nat × Value)) (st : List Value) (h : Hp) : Prop := G RX6 cX6_agree 7 (some .int) wsX6_agree rmX6_agree S r r' out pc L st h
theorem nX6_agree_X6 : ∀ w ∈ wsX60, w ∈ wsX6_agree := by decide +kernel
theorem mX6_agree_247 : Cond.constant RX6 247 (1000000) ∈ wsX6_agree := by decide +kernel
theorem mX6_agree_86 : Cond.constant RX6 86 (-1000000002) ∈ wsX6_agree := by decide +kernel
theorem mX6_agree_47 : Cond.fieldLink RX6 47 "LinkedIslesModel" "now" "[I" ∈ wsX6_agree := by decide +kernel
theorem hdX6_agree : yX6_agree.cls ≠ "java/lang/invoke/MethodHandle" ∧ yX6_agree.cls ≠ "java/lang/invoke/VarHandle" ∧ (parseMethodDescriptor yX6_agree.desc).map (fun d => d.parameters.length) = some 1 := by decide +kernel
def jX6_agree_111 (n : Nat) (r : Rf) (v0 : Nat) (v1 : Int32) (v3 : Int32) (v4 : Int32) (v5 : Int32) (v6 : Int32) (s0 : Int32) (h : Hp) : Option ((Int32 × Int32 × Int32) ⊕ (Int32 × Int32)) :=
  if v6 = 0 then (lE (v4 + 1) (fun (x18 : Int32) => some (.inl (s0, v3, x18)))) else (lE (v4 + 1) (fun (x19 : Int32) => some (.inl (s0, v5, x19))))
def jX6_agree_98 (n : Nat) (r : Rf) (v0 : Nat) (v1 : Int32) (v2 : Int32) (v3 : Int32) (v4 : Int32) (v5 : Int32) (s0 : Int32) (h : Hp) : Option ((Int32 × Int32 × Int32) ⊕ (Int32 × Int32)) :=
  if s0 = 0 then (jX6_agree_111 n r v0 v1 v3 v4 v5 s0 v2 h) else (jX6_agree_111 n r v0 v1 v3 v4 v5 s0 v4 h)
def bX6_agree_20 (n : Nat) (r : Rf) (v0 : Nat) (v1 : Int32) (v2 : Int32) (v3 : Int32) (v4 : Int32) (h : Hp) : Option ((Int32 × Int32 × Int32) ⊕ (Int32 × Int32)) :=
  ck 0 16 (if (h.1 (r v0 22) (Int32.toNatClampNeg 0)) < v4 then (some (.inr (v2, v3))) else (ck 0 16 (if (v4 &&& ((h.1 (r v0 22) (Int32.toNatClampNeg 0)) ^^^ (-1))) = 0 then (ck 0 16 (ck 1 16 ((fX6_clashesBy n r v0 (h.1 (r v0 22) (Int32.toNatClampNeg 0)) ((h.1 (r v0 22) (Int32.toNatClampNeg 1)) ^^^ v4) h).bind (fun (x12 : Int32) => (fX6_bits n r x12 h).bind (fun (x14 : Int32) => if x14 < v3 then (jX6_agree_98 n r v0 v1 v2 v3 v4 x14 1 h) else (if x14 = v3 then ((fX6_bits n r v4 h).bind (fun (x22 : Int32) => (fX6_bits n r v2 h).bind (fun (x24 : Int32) => if x24 ≤ x22 then (jX6_agree_98 n r v0 v1 v2 v3 v4 x14 0 h) else (jX6_agree_98 n r v0 v1 v2 v3 v4 x14 1 h)))) else (jX6_agree_98 n r v0 v1 v2 v3 v4 x14 0 h))))))) else (lE (v4 + 1) (fun (x8 : Int32) => some (.inl (v2, v3, x8)))))))
def lX6_agree_20 (n : Nat) (r : Rf) (v0 : Nat) (v1 : Int32) (v2 : Int32) (v3 : Int32) (v4 : Int32) (h : Hp) : Option Int32 :=
  (it (fun (s : Int32 × Int32 × Int32) => bX6_agree_20 n r v0 v1 s.1 s.2.1 s.2.2 h) n (v2, v3, v4)).bind (fun z => if v1 = 0 then (some (z.2)) else (some (z.1)))
def fX6_agree (n : Nat) (r : Rf) (v0 : Nat) (v1 : Int32) (h : Hp) : Option Int32 :=
  (fX6_in n r v1 0 1 h).bind (fun (x2 : Int32) => if x2 = 0 then (some (-1000000002)) else (lX6_agree_20 n r v0 v1 (-1) 1000000 0 h))
set_option maxHeartbeats 4000000 in
set_option maxRecDepth 100000 in
theorem ujX6_agree_111 {S : Shp} {n : Nat} {r : Rf} {out : Option Int32 × Hp} {r' : Rf} {v0 : Nat} {v1 : Int32} {v3 : Int32} {v4 : Int32} {v5 : Int32} {v6 : Int32} {s0 : Int32} {h : Hp} {w : (Int32 × Int32 × Int32) ⊕ (Int32 × Int32)} (hW : WF S r) (hv0 : S[v0]? = some (6, 38)) (hf : jX6_agree_111 n r v0 v1 v3 v4 v5 v6 s0 h = some w) (hk : ∀ y, w = .inl y → GX6_agree S r r' out 20 [(0, .ref v0), (1, .int v1), (2, .int (y.1)), (3, .int (y.2.1)), (4, .int (y.2.2))] [] h) (he : ∀ z, w = .inr z → GX6_agree S r r' out 130 [(0, .ref v0), (1, .int v1), (2, .int (z.1)), (3, .int (z.2))] [] h) : GX6_agree S r r' out 111 [(0, .ref v0), (1, .int v1), (3, .int v3), (4, .int v4), (5, .int v5), (6, .int v6)] [.int s0] h := by
  unfold jX6_agree_111 at hf
  refine g_istore_n (L' := [(2, .int s0), (0, .ref v0), (1, .int v1), (3, .int v3), (4, .int v4), (5, .int v5), (6, .int v6)]) dX6_agree_111 rfl (by decide) rfl ?_
  refine g_iload (ps := 6) dX6_agree_112 rfl ?_
  refine g_if_eq (tgt := 122) dX6_agree_114 (by decide) (fun c17 => ?_) (fun c17 => ?_)
  · have hf := if_t hf c17
    refine g_iload_n (ps := 3) dX6_agree_122 rfl rfl ?_
    refine g_istore_n (L' := [(3, .int v3), (2, .int s0), (0, .ref v0), (1, .int v1), (4, .int v4), (5, .int v5), (6, .int v6)]) dX6_agree_123 rfl (by decide) rfl ?_
    obtain ⟨x18, ex18⟩ : ∃ y : Int32, y = v4 + 1 := ⟨_, rfl⟩
    have hf := lE_s hf ex18
    refine g_iinc (ps := 4) (v := x18) (L' := [(4, .int x18), (3, .int v3), (2, .int s0), (0, .ref v0), (1, .int v1), (5, .int v5), (6, .int v6)]) dX6_agree_124 rfl (by rw [ex18]; rfl) (by decide) rfl ?_
    refine g_goto (tgt := 20) dX6_agree_127 (by decide) ?_
    exact g_pick [3, 4, 2, 1, 0] rfl (hk _ (Option.some.inj hf).symm)
  · have hf := if_f hf c17
    refine g_iload (ps := 5) dX6_agree_117 rfl ?_
    refine g_goto (tgt := 123) dX6_agree_119 (by decide) ?_
    refine g_istore_n (L' := [(3, .int v5), (2, .int s0), (0, .ref v0), (1, .int v1), (4, .int v4), (5, .int v5), (6, .int v6)]) dX6_agree_123 rfl (by decide) rfl ?_
    obtain ⟨x19, ex19⟩ : ∃ y : Int32, y = v4 + 1 := ⟨_, rfl⟩
    have hf := lE_s hf ex19
    refine g_iinc (ps := 4) (v := x19) (L' := [(4, .int x19), (3, .int v5), (2, .int s0), (0, .ref v0), (1, .int v1), (5, .int v5), (6, .int v6)]) dX6_agree_124 rfl (by rw [ex19]; rfl) (by decide) rfl ?_
    refine g_goto (tgt := 20) dX6_agree_127 (by decide) ?_
    exact g_pick [3, 4, 2, 1, 0] rfl (hk _ (Option.some.inj hf).symm)
set_option maxHeartbeats 4000000 in
set_option maxRecDepth 100000 in
theorem ujX6_agree_98 {S : Shp} {n : Nat} {r : Rf} {out : Option Int32 × Hp} {r' : Rf} {v0 : Nat} {v1 : Int32} {v2 : Int32} {v3 : Int32} {v4 : Int32} {v5 : Int32} {s0 : Int32} {h : Hp} {w : (Int32 × Int32 × Int32) ⊕ (Int32 × Int32)} (hW : WF S r) (hv0 : S[v0]? = some (6, 38)) (hf : jX6_agree_98 n r v0 v1 v2 v3 v4 v5 s0 h = some w) (hk : ∀ y, w = .inl y → GX6_agree S r r' out 20 [(0, .ref v0), (1, .int v1), (2, .int (y.1)), (3, .int (y.2.1)), (4, .int (y.2.2))] [] h) (he : ∀ z, w = .inr z → GX6_agree S r r' out 130 [(0, .ref v0), (1, .int v1), (2, .int (z.1)), (3, .int (z.2))] [] h) : GX6_agree S r r' out 98 [(0, .ref v0), (1, .int v1), (2, .int v2), (3, .int v3), (4, .int v4), (5, .int v5)] [.int s0] h := by
  unfold jX6_agree_98 at hf
  refine g_istore (L' := [(6, .int s0), (0, .ref v0), (1, .int v1), (2, .int v2), (3, .int v3), (4, .int v4), (5, .int v5)]) dX6_agree_98 (by decide) rfl ?_
  refine g_iload (ps := 0) dX6_agree_100 rfl ?_
  refine g_if_eq (tgt := 110) dX6_agree_102 (by decide) (fun c16 => ?_) (fun c16 => ?_)
  · have hf := if_t hf c16
    refine g_iload_n (ps := 3) dX6_agree_110 rfl rfl ?_
    exact g_pick [1, 2, 4, 5, 6, 0] rfl (ujX6_agree_111 hW hv0 hf hk he)
  · have hf := if_f hf c16
    refine g_iload (ps := 5) dX6_agree_105 rfl ?_
    refine g_goto (tgt := 111) dX6_agree_107 (by decide) ?_
    exact g_pick [1, 2, 4, 5, 6, 0] rfl (ujX6_agree_111 hW hv0 hf hk he)
set_option maxHeartbeats 4000000 in
set_option maxRecDepth 100000 in
theorem ubX6_agree_20 {S : Shp} {n : Nat} {r : Rf} {out : Option Int32 × Hp} {r' : Rf} {v0 : Nat} {v1 : Int32} {v2 : Int32} {v3 : Int32} {v4 : Int32}  {h : Hp} {w : (Int32 × Int32 × Int32) ⊕ (Int32 × Int32)} (hW : WF S r) (hv0 : S[v0]? = some (6, 38)) (hf : bX6_agree_20 n r v0 v1 v2 v3 v4 h = some w) (hk : ∀ y, w = .inl y → GX6_agree S r r' out 20 [(0, .ref v0), (1, .int v1), (2, .int (y.1)), (3, .int (y.2.1)), (4, .int (y.2.2))] [] h) (he : ∀ z, w = .inr z → GX6_agree S r r' out 130 [(0, .ref v0), (1, .int v1), (2, .int (z.1)), (3, .int (z.2))] [] h) : GX6_agree S r r' out 20 [(0, .ref v0), (1, .int v1), (2, .int v2), (3, .int v3), (4, .int v4)] [] h := by
  unfold bX6_agree_20 at hf
  refine g_iload (ps := 4) dX6_agree_20 rfl ?_
  refine g_aload_n (ps := 0) dX6_agree_22 rfl rfl ?_
  refine g_getR cf6 hv0 nX6_agree_X6 (j := 22) (by decide) rfl mX6_agree_47 dX6_agree_23 ?_
  refine g_iconst (v := 0) dX6_agree_26 (by decide +kernel) ?_
  obtain ⟨z4, hf⟩ := ck_s hf
  refine g_iald (hW _ _ _ hv0 22 _ rfl) z4 dX6_agree_27 ?_
  refine g_icmp_gt (tgt := 130) dX6_agree_28 (by decide) (fun c5 => ?_) (fun c5 => ?_)
  · have hf := if_t hf c5
    exact g_pick [0, 1, 2, 3] rfl (he _ (Option.some.inj hf).symm)
  · have hf := if_f hf c5
    refine g_iload (ps := 4) dX6_agree_31 rfl ?_
    refine g_aload_n (ps := 0) dX6_agree_33 rfl rfl ?_
    refine g_getR cf6 hv0 nX6_agree_X6 (j := 22) (by decide) rfl mX6_agree_47 dX6_agree_34 ?_
    refine g_iconst (v := 0) dX6_agree_37 (by decide +kernel) ?_
    obtain ⟨z6, hf⟩ := ck_s hf
    refine g_iald (hW _ _ _ hv0 22 _ rfl) z6 dX6_agree_38 ?_
    refine g_iconst (v := (-1)) dX6_agree_39 (by decide +kernel) ?_
    refine g_ixor dX6_agree_40 ?_
    refine g_iand dX6_agree_41 ?_
    refine g_if_ne (tgt := 124) dX6_agree_42 (by decide) (fun c7 => ?_) (fun c7 => ?_)
    · have hf := if_f hf c7
      obtain ⟨x8, ex8⟩ : ∃ y : Int32, y = v4 + 1 := ⟨_, rfl⟩
      have hf := lE_s hf ex8
      refine g_iinc (ps := 4) (v := x8) (L' := [(4, .int x8), (0, .ref v0), (1, .int v1), (2, .int v2), (3, .int v3)]) dX6_agree_124 rfl (by rw [ex8]; rfl) (by decide) rfl ?_
      refine g_goto (tgt := 20) dX6_agree_127 (by decide) ?_
      exact g_pick [1, 2, 3, 4, 0] rfl (hk _ (Option.some.inj hf).symm)
    · have hf := if_t hf c7
      refine g_aload_n (ps := 0) dX6_agree_45 rfl rfl ?_
      refine g_aload_n (ps := 0) dX6_agree_46 rfl rfl ?_
      refine g_getR cf6 hv0 nX6_agree_X6 (j := 22) (by decide) rfl mX6_agree_47 dX6_agree_47 ?_
      refine g_iconst (v := 0) dX6_agree_50 (by decide +kernel) ?_
      obtain ⟨z9, hf⟩ := ck_s hf
      refine g_iald (hW _ _ _ hv0 22 _ rfl) z9 dX6_agree_51 ?_
      refine g_aload_n (ps := 0) dX6_agree_52 rfl rfl ?_
      refine g_getR cf6 hv0 nX6_agree_X6 (j := 22) (by decide) rfl mX6_agree_47 dX6_agree_53 ?_
      refine g_iconst (v := 1) dX6_agree_56 (by decide +kernel) ?_
      obtain ⟨z10, hf⟩ := ck_s hf
      refine g_iald (hW _ _ _ hv0 22 _ rfl) z10 dX6_agree_57 ?_
      refine g_iload (ps := 4) dX6_agree_58 rfl ?_
      refine g_ixor dX6_agree_60 ?_
      obtain ⟨x12, e11, hf⟩ := bd_s hf
      refine g_callVi (As := [.int (h.1 (r v0 22) (Int32.toNatClampNeg 0)), .int ((h.1 (r v0 22) (Int32.toNatClampNeg 1)) ^^^ v4)]) (n := 2) (kX6_clashesBy hW hv0 e11) gX6_agree_X6_clashesBy rfl ⟨rfl, rfl⟩ ⟨rfl, hdX6_clashesBy⟩ ⟨Nat.le_of_ble_eq_true rfl, Nat.le_of_ble_eq_true rfl⟩ cf6 hv0 rfl rfl (Nat.le_of_ble_eq_true rfl) dX6_agree_61 ?_
      obtain ⟨x14, e13, hf⟩ := bd_s hf
      refine g_callSi (As := [.int x12]) (n := 1) (kX6_bits hW  e13) gX6_agree_X6_bits rfl ⟨rfl, rfl⟩ hdX6_bits ⟨Nat.le_of_ble_eq_true rfl, Nat.le_of_ble_eq_true rfl⟩ rfl rfl (Nat.le_of_ble_eq_true rfl) dX6_agree_64 ?_
      refine g_istore (L' := [(5, .int x14), (0, .ref v0), (1, .int v1), (2, .int v2), (3, .int v3), (4, .int v4)]) dX6_agree_67 (by decide) rfl ?_
      refine g_iload (ps := 0) dX6_agree_69 rfl ?_
      refine g_iload_n (ps := 4) dX6_agree_71 rfl rfl ?_
      refine g_icmp_lt (tgt := 93) dX6_agree_72 (by decide) (fun c15 => ?_) (fun c15 => ?_)
      · have hf := if_t hf c15
        refine g_iconst (v := 1) dX6_agree_93 (by decide +kernel) ?_
        refine g_goto (tgt := 98) dX6_agree_94 (by decide) ?_
        exact g_pick [1, 2, 3, 4, 5, 0] rfl (ujX6_agree_98 hW hv0 hf hk he)
      · have hf := if_f hf c15
        refine g_iload (ps := 0) dX6_agree_75 rfl ?_
        refine g_iload_n (ps := 4) dX6_agree_77 rfl rfl ?_
        refine g_icmp_ne (tgt := 97) dX6_agree_78 (by decide) (fun c20 => ?_) (fun c20 => ?_)
        · have hf := if_f hf c20
          refine g_iconst (v := 0) dX6_agree_97 (by decide +kernel) ?_
          exact g_pick [1, 2, 3, 4, 5, 0] rfl (ujX6_agree_98 hW hv0 hf hk he)
        · have hf := if_t hf c20
          refine g_iload (ps := 5) dX6_agree_81 rfl ?_
          obtain ⟨x22, e21, hf⟩ := bd_s hf
          refine g_callSi (As := [.int v4]) (n := 1) (kX6_bits hW  e21) gX6_agree_X6_bits rfl ⟨rfl, rfl⟩ hdX6_bits ⟨Nat.le_of_ble_eq_true rfl, Nat.le_of_ble_eq_true rfl⟩ rfl rfl (Nat.le_of_ble_eq_true rfl) dX6_agree_83 ?_
          refine g_iload_n (ps := 3) dX6_agree_86 rfl rfl ?_
          obtain ⟨x24, e23, hf⟩ := bd_s hf
          refine g_callSi (As := [.int v2]) (n := 1) (kX6_bits hW  e23) gX6_agree_X6_bits rfl ⟨rfl, rfl⟩ hdX6_bits ⟨Nat.le_of_ble_eq_true rfl, Nat.le_of_ble_eq_true rfl⟩ rfl rfl (Nat.le_of_ble_eq_true rfl) dX6_agree_87 ?_
          refine g_icmp_ge (tgt := 97) dX6_agree_90 (by decide) (fun c25 => ?_) (fun c25 => ?_)
          · have hf := if_t hf c25
            refine g_iconst (v := 0) dX6_agree_97 (by decide +kernel) ?_
            exact g_pick [1, 2, 3, 4, 5, 0] rfl (ujX6_agree_98 hW hv0 hf hk he)
          · have hf := if_f hf c25
            refine g_iconst (v := 1) dX6_agree_93 (by decide +kernel) ?_
            refine g_goto (tgt := 98) dX6_agree_94 (by decide) ?_
            exact g_pick [1, 2, 3, 4, 5, 0] rfl (ujX6_agree_98 hW hv0 hf hk he)
set_option maxHeartbeats 4000000 in
set_option maxRecDepth 100000 in
theorem ulX6_agree_20 {S : Shp} {n : Nat} {r : Rf} {v0 : Nat} {v1 : Int32} {v2 : Int32} {v3 : Int32} {v4 : Int32}  {h : Hp} {o : Int32} (hW : WF S r) (hv0 : S[v0]? = some (6, 38)) (hf : lX6_agree_20 n r v0 v1 v2 v3 v4 h = some o)  : GX6_agree S r r (some o, h) 20 [(0, .ref v0), (1, .int v1), (2, .int v2), (3, .int v3), (4, .int v4)] [] h := by
  unfold lX6_agree_20 at hf
  obtain ⟨z0, ei, hf⟩ := bd_s hf
  refine it_ind (P := fun (s : Int32 × Int32 × Int32) => GX6_agree S r r (some o, h) 20 [(0, .ref v0), (1, .int v1), (2, .int (s.1)), (3, .int (s.2.1)), (4, .int (s.2.2))] [] h) (fun s w hb hk2 he2 => ?_) n _ ei
  refine ubX6_agree_20 (out := (some o, h)) (r' := r) hW hv0 hb hk2 (fun z hz => ?_)
  have hz := he2 z hz
  subst hz
  refine g_iload_n (ps := 1) dX6_agree_130 rfl rfl ?_
  refine g_if_ne (tgt := 138) dX6_agree_131 (by decide) (fun c26 => ?_) (fun c26 => ?_)
  · have hf := if_f hf c26
    refine g_iload_n (ps := 2) dX6_agree_138 rfl rfl ?_
    have hf := Option.some.inj hf
    subst hf
    exact g_iret dX6_agree_139
  · have hf := if_t hf c26
    refine g_iload_n (ps := 3) dX6_agree_134 rfl rfl ?_
    refine g_goto (tgt := 139) dX6_agree_135 (by decide) ?_
    have hf := Option.some.inj hf
    subst hf
    exact g_iret dX6_agree_139
set_option maxHeartbeats 4000000 in
set_option maxRecDepth 100000 in
theorem uX6_agree {S : Shp} {n : Nat} {r : Rf} {v0 : Nat} {v1 : Int32} {h : Hp} {o : Int32} (hW : WF S r) (hv0 : S[v0]? = some (6, 38)) (hf : fX6_agree n r v0 v1 h = some o) : GX6_agree S r r (some o, h) 0 [(0, .ref v0), (1, .int v1)] [] h := by
  unfold fX6_agree at hf
  refine g_iload_n (ps := 1) dX6_agree_0 rfl rfl ?_
  refine g_iconst (v := 0) dX6_agree_1 (by decide +kernel) ?_
  refine g_iconst (v := 1) dX6_agree_2 (by decide +kernel) ?_
  obtain ⟨x2, e1, hf⟩ := bd_s hf
  refine g_callSi (As := [.int v1, .int 0, .int 1]) (n := 3) (kX6_in hW  e1) gX6_agree_X6_in rfl ⟨rfl, rfl⟩ hdX6_in ⟨Nat.le_of_ble_eq_true rfl, Nat.le_of_ble_eq_true rfl⟩ rfl rfl (Nat.le_of_ble_eq_true rfl) dX6_agree_3 ?_
  refine g_if_ne (tgt := 12) dX6_agree_6 (by decide) (fun c3 => ?_) (fun c3 => ?_)
  · have hf := if_f hf c3
    refine g_iconst (v := (-1)) dX6_agree_12 (by decide +kernel) ?_
    refine g_istore_n (L' := [(2, .int (-1)), (0, .ref v0), (1, .int v1)]) dX6_agree_13 rfl (by decide) rfl ?_
    refine g_ldc (v := 1000000) mX6_agree_247 dX6_agree_14 ?_
    refine g_istore_n (L' := [(3, .int 1000000), (2, .int (-1)), (0, .ref v0), (1, .int v1)]) dX6_agree_16 rfl (by decide) rfl ?_
    refine g_iconst (v := 0) dX6_agree_17 (by decide +kernel) ?_
    refine g_istore (L' := [(4, .int 0), (3, .int 1000000), (2, .int (-1)), (0, .ref v0), (1, .int v1)]) dX6_agree_18 (by decide) rfl ?_
    exact g_pick [3, 4, 2, 1, 0] rfl (ulX6_agree_20 hW hv0 hf)
  · have hf := if_t hf c3
    refine g_ldc (v := (-1000000002)) mX6_agree_86 dX6_agree_9 ?_
    have hf := Option.some.inj hf
    subst hf
    exact g_iret dX6_agree_11
theorem kX6_agree {S : Shp} {n : Nat} {r : Rf} {v0 : Nat} {v1 : Int32} {h : Hp} {o : Int32} (hW : WF S r) (hv0 : S[v0]? = some (6, 38)) (hf : fX6_agree n r v0 v1 h = some o) : CTi yX6_agree wsX6_agree rmX6_agree S r [.ref v0, .int v1] h r o h :=
  cti_of rfl (by decide +kernel) rfl (Nat.le_of_ble_eq_true rfl) rfl (uX6_agree hW hv0 hf)
/-! X6_others others -/
def rmX6_others : Room := { frames := 2, cells := 0, slots := 0, locals := 45 }
abbrev GX6_others (S : Shp) (r r' : Rf) (out : Option Int32 × Hp) (pc : Nat) (L : List (Nat × Value)) (st : List Value) (h : Hp) : Prop := G RX6 cX6_others 2 (some .int) wsX6_others rmX6_others S r r' out pc L st h
theorem nX6_others_X6 : ∀ w ∈ wsX60, w ∈ wsX6_others := by decide +kernel
theorem mX6_others_47 : Cond.fieldLink RX6 47 "LinkedIslesModel" "now" "[I" ∈ wsX6_others := by decide +kernel
theorem hdX6_others : yX6_others.cls ≠ "java/lang/invoke/MethodHandle" ∧ yX6_others.cls ≠ "java/lang/invoke/VarHandle" ∧ (parseMethodDescriptor yX6_others.desc).map (fun d => d.parameters.length) = some 1 := by decide +kernel
def fX6_others (n : Nat) (r : Rf) (v0 : Nat) (v1 : Int32) (h : Hp) : Option Int32 :=
  ck 0 16 ((fX6_onward n r v0 (1 <<< (v1 &&& 31)) (h.1 (r v0 22) (Int32.toNatClampNeg 0)) h).bind (fun (x3 : Int32) => some (x3 &&& ((1 <<< (v1 &&& 31)) ^^^ (-1)))))
set_option maxHeartbeats 4000000 in
set_option maxRecDepth 100000 in
theorem uX6_others {S : Shp} {n : Nat} {r : Rf} {v0 : Nat} {v1 : Int32} {h : Hp} {o : Int32} (hW : WF S r) (hv0 : S[v0]? = some (6, 38)) (hf : fX6_others n r v0 v1 h = some o) : GX6_others S r r (some o, h) 0 [(0, .ref v0), (1, .int v1)] [] h := by
  unfold fX6_others at hf
  refine g_aload_n (ps := 0) dX6_others_0 rfl rfl ?_
  refine g_iconst (v := 1) dX6_others_1 (by decide +kernel) ?_
  refine g_iload_n (ps := 1) dX6_others_2 rfl rfl ?_
  refine g_ishl dX6_others_3 ?_
  refine g_aload_n (ps := 0) dX6_others_4 rfl rfl ?_
  refine g_getR cf6 hv0 nX6_others_X6 (j := 22) (by decide) rfl mX6_others_47 dX6_others_5 ?_
  refine g_iconst (v := 0) dX6_others_8 (by decide +kernel) ?_
  obtain ⟨z1, hf⟩ := ck_s hf
  refine g_iald (hW _ _ _ hv0 22 _ rfl) z1 dX6_others_9 ?_
  obtain ⟨x3, e2, hf⟩ := bd_s hf
  refine g_callVi (As := [.int (1 <<< (v1 &&& 31)), .int (h.1 (r v0 22) (Int32.toNatClampNeg 0))]) (n := 2) (kX6_onward hW hv0 e2) gX6_others_X6_onward rfl ⟨rfl, rfl⟩ ⟨rfl, hdX6_onward⟩ ⟨Nat.le_of_ble_eq_true rfl, Nat.le_of_ble_eq_true rfl⟩ cf6 hv0 rfl rfl (Nat.le_of_ble_eq_true rfl) dX6_others_10 ?_
  refine g_iconst (v := 1) dX6_others_13 (by decide +kernel) ?_
  refine g_iload_n (ps := 1) dX6_others_14 rfl rfl ?_
  refine g_ishl dX6_others_15 ?_
  refine g_iconst (v := (-1)) dX6_others_16 (by decide +kernel) ?_
  refine g_ixor dX6_others_17 ?_
  refine g_iand dX6_others_18 ?_
  have hf := Option.some.inj hf
  subst hf
  exact g_iret dX6_others_19
theorem kX6_others {S : Shp} {n : Nat} {r : Rf} {v0 : Nat} {v1 : Int32} {h : Hp} {o : Int32} (hW : WF S r) (hv0 : S[v0]? = some (6, 38)) (hf : fX6_others n r v0 v1 h = some o) : CTi yX6_others wsX6_others rmX6_others S r [.ref v0, .int v1] h r o h :=
  cti_of rfl (by decide +kernel) rfl (Nat.le_of_ble_eq_true rfl) rfl (uX6_others hW hv0 hf)
/-! X6_fold fold -/
def rmX6_fold : Room := { frames := 3, cells := 0, slots := 0, locals := 66 }
abbrev GX6_fold (S : Shp) (r r' : Rf) (out : Option Int32 × Hp) (pc : Nat) (L : List (Nat × Value)) (st : List Value) (h : Hp) : Prop := G RX6 cX6_fold 6 (some .int) wsX6_fold rmX6_fold S r r' out pc L st h
theorem nX6_fold_X6 : ∀ w ∈ wsX60, w ∈ wsX6_fold := by decide +kernel
theorem mX6_fold_141 : Cond.fieldLink RX6 141 "LinkedIslesModel" "n" "I" ∈ wsX6_fold := by decide +kernel
theorem hdX6_fold : yX6_fold.cls ≠ "java/lang/invoke/MethodHandle" ∧ yX6_fold.cls ≠ "java/lang/invoke/VarHandle" ∧ (parseMethodDescriptor yX6_fold.desc).map (fun d => d.parameters.length) = some 1 := by decide +kernel
def bX6_fold_17 (n : Nat) (r : Rf) (v0 : Nat) (v1 : Int32) (v2 : Int32) (v3 : Int32) (v4 : Int32) (h : Hp) : Option ((Int32 × Int32) ⊕ ((Int32) ⊕ (Int32))) :=
  if (h.1 v0 14) ≤ v4 then (some (.inr (.inr (v2)))) else ((fX6_others n r v0 v3 h).bind (fun (x5 : Int32) => lE ((x5 &&& ((1 <<< (v4 &&& 31)) ^^^ (-1)))) (fun (x6 : Int32) => if x6 = 0 then (lE (v4 + 1) (fun (x8 : Int32) => some (.inl (v2, x8)))) else ((fX6_others n r v0 v4 h).bind (fun (x10 : Int32) => if x6 = (x10 &&& ((1 <<< (v3 &&& 31)) ^^^ (-1))) then (if v2 = v1 then (some (.inr (.inl v4))) else (lE (v2 + 1) (fun (x14 : Int32) => lE (v4 + 1) (fun (x15 : Int32) => some (.inl (x14, x15)))))) else (lE (v4 + 1) (fun (x12 : Int32) => some (.inl (v2, x12)))))))))
def lX6_fold_17 (n : Nat) (r : Rf) (v0 : Nat) (v1 : Int32) (v2 : Int32) (v3 : Int32) (v4 : Int32) (h : Hp) : Option ((Int32 × Int32) ⊕ ((Int32 × Int32) ⊕ (Int32))) :=
  (it (fun (s : Int32 × Int32) => bX6_fold_17 n r v0 v1 s.1 v3 s.2 h) n (v2, v4)).bind (fun z => match z with | .inl z => some (.inr (.inl (v3, z))) | .inr z => lE (v3 + 1) (fun (x16 : Int32) => some (.inl (z, x16))))
def bX6_fold_4 (n : Nat) (r : Rf) (v0 : Nat) (v1 : Int32) (v2 : Int32) (v3 : Int32) (h : Hp) : Option ((Int32 × Int32) ⊕ ((Int32 × Int32) ⊕ (Int32))) :=
  if (h.1 v0 14) ≤ v3 then (some (.inr (.inr (v2)))) else (lE ((v3 + 1)) (fun (x2 : Int32) => lX6_fold_17 n r v0 v1 v2 v3 x2 h))
def lX6_fold_4 (n : Nat) (r : Rf) (v0 : Nat) (v1 : Int32) (v2 : Int32) (v3 : Int32) (h : Hp) : Option Int32 :=
  (it (fun (s : Int32 × Int32) => bX6_fold_4 n r v0 v1 s.1 s.2 h) n (v2, v3)).bind (fun z => match z with | .inl z => some ((10 * (z.1)) + (z.2)) | .inr z => if v1 = (-1) then (some z) else (some (-1)))
def fX6_fold (n : Nat) (r : Rf) (v0 : Nat) (v1 : Int32) (h : Hp) : Option Int32 :=
  lX6_fold_4 n r v0 v1 0 0 h
set_option maxHeartbeats 4000000 in
set_option maxRecDepth 100000 in
theorem ubX6_fold_17 {S : Shp} {n : Nat} {r : Rf} {out : Option Int32 × Hp} {r' : Rf} {v0 : Nat} {v1 : Int32} {v2 : Int32} {v3 : Int32} {v4 : Int32}  {h : Hp} {w : (Int32 × Int32) ⊕ ((Int32) ⊕ (Int32))} (hW : WF S r) (hv0 : S[v0]? = some (6, 38)) (hf : bX6_fold_17 n r v0 v1 v2 v3 v4 h = some w) (hk : ∀ y, w = .inl y → GX6_fold S r r' out 17 [(0, .ref v0), (1, .int v1), (2, .int (y.1)), (3, .int v3), (4, .int (y.2))] [] h) (he : ∀ z, w = .inr z → (match z with | .inl z => GX6_fold S r r' out 67 [(0, .ref v0), (3, .int v3), (4, .int (z))] [] h | .inr z => GX6_fold S r r' out 84 [(0, .ref v0), (1, .int v1), (2, .int (z)), (3, .int v3)] [] h)) : GX6_fold S r r' out 17 [(0, .ref v0), (1, .int v1), (2, .int v2), (3, .int v3), (4, .int v4)] [] h := by
  unfold bX6_fold_17 at hf
  refine g_iload (ps := 4) dX6_fold_17 rfl ?_
  refine g_aload_n (ps := 0) dX6_fold_19 rfl rfl ?_
  refine g_getI cf6 hv0 nX6_fold_X6 (j := 14) (by decide) rfl mX6_fold_141 dX6_fold_20 ?_
  refine g_icmp_ge (tgt := 84) dX6_fold_23 (by decide) (fun c3 => ?_) (fun c3 => ?_)
  · have hf := if_t hf c3
    exact g_pick [0, 1, 2, 3] rfl (he _ (Option.some.inj hf).symm)
  · have hf := if_f hf c3
    refine g_aload_n (ps := 0) dX6_fold_26 rfl rfl ?_
    refine g_iload_n (ps := 3) dX6_fold_27 rfl rfl ?_
    obtain ⟨x5, e4, hf⟩ := bd_s hf
    refine g_callVi (As := [.int v3]) (n := 1) (kX6_others hW hv0 e4) gX6_fold_X6_others rfl ⟨rfl, rfl⟩ ⟨rfl, hdX6_others⟩ ⟨Nat.le_of_ble_eq_true rfl, Nat.le_of_ble_eq_true rfl⟩ cf6 hv0 rfl rfl (Nat.le_of_ble_eq_true rfl) dX6_fold_28 ?_
    refine g_iconst (v := 1) dX6_fold_31 (by decide +kernel) ?_
    refine g_iload (ps := 4) dX6_fold_32 rfl ?_
    refine g_ishl dX6_fold_34 ?_
    refine g_iconst (v := (-1)) dX6_fold_35 (by decide +kernel) ?_
    refine g_ixor dX6_fold_36 ?_
    refine g_iand dX6_fold_37 ?_
    refine g_topi (fun x6 ex6 => ?_)
    have hf := lE_s hf ex6
    refine g_istore (L' := [(5, .int x6), (0, .ref v0), (1, .int v1), (2, .int v2), (3, .int v3), (4, .int v4)]) dX6_fold_38 (by decide) rfl ?_
    refine g_iload (ps := 0) dX6_fold_40 rfl ?_
    refine g_if_eq (tgt := 78) dX6_fold_42 (by decide) (fun c7 => ?_) (fun c7 => ?_)
    · have hf := if_t hf c7
      obtain ⟨x8, ex8⟩ : ∃ y : Int32, y = v4 + 1 := ⟨_, rfl⟩
      have hf := lE_s hf ex8
      refine g_iinc (ps := 5) (v := x8) (L' := [(4, .int x8), (5, .int x6), (0, .ref v0), (1, .int v1), (2, .int v2), (3, .int v3)]) dX6_fold_78 rfl (by rw [ex8]; rfl) (by decide) rfl ?_
      refine g_goto (tgt := 17) dX6_fold_81 (by decide) ?_
      exact g_pick [2, 3, 4, 5, 0] rfl (hk _ (Option.some.inj hf).symm)
    · have hf := if_f hf c7
      refine g_iload (ps := 0) dX6_fold_45 rfl ?_
      refine g_aload_n (ps := 1) dX6_fold_47 rfl rfl ?_
      refine g_iload (ps := 5) dX6_fold_48 rfl ?_
      obtain ⟨x10, e9, hf⟩ := bd_s hf
      refine g_callVi (As := [.int v4]) (n := 1) (kX6_others hW hv0 e9) gX6_fold_X6_others rfl ⟨rfl, rfl⟩ ⟨rfl, hdX6_others⟩ ⟨Nat.le_of_ble_eq_true rfl, Nat.le_of_ble_eq_true rfl⟩ cf6 hv0 rfl rfl (Nat.le_of_ble_eq_true rfl) dX6_fold_50 ?_
      refine g_iconst (v := 1) dX6_fold_53 (by decide +kernel) ?_
      refine g_iload_n (ps := 4) dX6_fold_54 rfl rfl ?_
      refine g_ishl dX6_fold_55 ?_
      refine g_iconst (v := (-1)) dX6_fold_56 (by decide +kernel) ?_
      refine g_ixor dX6_fold_57 ?_
      refine g_iand dX6_fold_58 ?_
      refine g_icmp_ne (tgt := 78) dX6_fold_59 (by decide) (fun c11 => ?_) (fun c11 => ?_)
      · have hf := if_f hf c11
        obtain ⟨x12, ex12⟩ : ∃ y : Int32, y = v4 + 1 := ⟨_, rfl⟩
        have hf := lE_s hf ex12
        refine g_iinc (ps := 5) (v := x12) (L' := [(4, .int x12), (5, .int x6), (0, .ref v0), (1, .int v1), (2, .int v2), (3, .int v3)]) dX6_fold_78 rfl (by rw [ex12]; rfl) (by decide) rfl ?_
        refine g_goto (tgt := 17) dX6_fold_81 (by decide) ?_
        exact g_pick [2, 3, 4, 5, 0] rfl (hk _ (Option.some.inj hf).symm)
      · have hf := if_t hf c11
        refine g_iload_n (ps := 3) dX6_fold_62 rfl rfl ?_
        refine g_iload_n (ps := 2) dX6_fold_63 rfl rfl ?_
        refine g_icmp_ne (tgt := 75) dX6_fold_64 (by decide) (fun c13 => ?_) (fun c13 => ?_)
        · have hf := if_f hf c13
          obtain ⟨x14, ex14⟩ : ∃ y : Int32, y = v2 + 1 := ⟨_, rfl⟩
          have hf := lE_s hf ex14
          refine g_iinc (ps := 3) (v := x14) (L' := [(2, .int x14), (5, .int x6), (0, .ref v0), (1, .int v1), (3, .int v3), (4, .int v4)]) dX6_fold_75 rfl (by rw [ex14]; rfl) (by decide) rfl ?_
          obtain ⟨x15, ex15⟩ : ∃ y : Int32, y = v4 + 1 := ⟨_, rfl⟩
          have hf := lE_s hf ex15
          refine g_iinc (ps := 5) (v := x15) (L' := [(4, .int x15), (2, .int x14), (5, .int x6), (0, .ref v0), (1, .int v1), (3, .int v3)]) dX6_fold_78 rfl (by rw [ex15]; rfl) (by decide) rfl ?_
          refine g_goto (tgt := 17) dX6_fold_81 (by decide) ?_
          exact g_pick [3, 4, 1, 5, 0] rfl (hk _ (Option.some.inj hf).symm)
        · have hf := if_t hf c13
          exact g_pick [1, 4, 5] rfl (he _ (Option.some.inj hf).symm)
set_option maxHeartbeats 4000000 in
set_option maxRecDepth 100000 in
theorem ulX6_fold_17 {S : Shp} {n : Nat} {r : Rf} {out : Option Int32 × Hp} {r' : Rf} {v0 : Nat} {v1 : Int32} {v2 : Int32} {v3 : Int32} {v4 : Int32}  {h : Hp} {w : (Int32 × Int32) ⊕ ((Int32 × Int32) ⊕ (Int32))} (hW : WF S r) (hv0 : S[v0]? = some (6, 38)) (hf : lX6_fold_17 n r v0 v1 v2 v3 v4 h = some w) (hk : ∀ y, w = .inl y → GX6_fold S r r' out 4 [(0, .ref v0), (1, .int v1), (2, .int (y.1)), (3, .int (y.2))] [] h) (he : ∀ z, w = .inr z → (match z with | .inl z => GX6_fold S r r' out 67 [(0, .ref v0), (3, .int (z.1)), (4, .int (z.2))] [] h | .inr z => GX6_fold S r r' out 90 [(0, .ref v0), (1, .int v1), (2, .int (z))] [] h)) : GX6_fold S r r' out 17 [(0, .ref v0), (1, .int v1), (2, .int v2), (3, .int v3), (4, .int v4)] [] h := by
  unfold lX6_fold_17 at hf
  obtain ⟨z0, ei, hf⟩ := bd_s hf
  refine it_ind (P := fun (s : Int32 × Int32) => GX6_fold S r r' out 17 [(0, .ref v0), (1, .int v1), (2, .int (s.1)), (3, .int v3), (4, .int (s.2))] [] h) (fun s w hb hk2 he2 => ?_) n _ ei
  refine ubX6_fold_17 (out := out) (r' := r') hW hv0 hb hk2 (fun z hz => ?_)
  have hz := he2 z hz
  subst hz
  rcases z with z | z
  · exact g_pick [0, 1, 2] rfl (he _ (Option.some.inj hf).symm)
  · obtain ⟨x16, ex16⟩ : ∃ y : Int32, y = v3 + 1 := ⟨_, rfl⟩
    have hf := lE_s hf ex16
    refine g_iinc (ps := 3) (v := x16) (L' := [(3, .int x16), (0, .ref v0), (1, .int v1), (2, .int z)]) dX6_fold_84 rfl (by rw [ex16]; rfl) (by decide) rfl ?_
    refine g_goto (tgt := 4) dX6_fold_87 (by decide) ?_
    exact g_pick [1, 2, 3, 0] rfl (hk _ (Option.some.inj hf).symm)
set_option maxHeartbeats 4000000 in
set_option maxRecDepth 100000 in
theorem ubX6_fold_4 {S : Shp} {n : Nat} {r : Rf} {out : Option Int32 × Hp} {r' : Rf} {v0 : Nat} {v1 : Int32} {v2 : Int32} {v3 : Int32}  {h : Hp} {w : (Int32 × Int32) ⊕ ((Int32 × Int32) ⊕ (Int32))} (hW : WF S r) (hv0 : S[v0]? = some (6, 38)) (hf : bX6_fold_4 n r v0 v1 v2 v3 h = some w) (hk : ∀ y, w = .inl y → GX6_fold S r r' out 4 [(0, .ref v0), (1, .int v1), (2, .int (y.1)), (3, .int (y.2))] [] h) (he : ∀ z, w = .inr z → (match z with | .inl z => GX6_fold S r r' out 67 [(0, .ref v0), (3, .int (z.1)), (4, .int (z.2))] [] h | .inr z => GX6_fold S r r' out 90 [(0, .ref v0), (1, .int v1), (2, .int (z))] [] h)) : GX6_fold S r r' out 4 [(0, .ref v0), (1, .int v1), (2, .int v2), (3, .int v3)] [] h := by
  unfold bX6_fold_4 at hf
  refine g_iload_n (ps := 3) dX6_fold_4 rfl rfl ?_
  refine g_aload_n (ps := 0) dX6_fold_5 rfl rfl ?_
  refine g_getI cf6 hv0 nX6_fold_X6 (j := 14) (by decide) rfl mX6_fold_141 dX6_fold_6 ?_
  refine g_icmp_ge (tgt := 90) dX6_fold_9 (by decide) (fun c1 => ?_) (fun c1 => ?_)
  · have hf := if_t hf c1
    exact g_pick [0, 1, 2] rfl (he _ (Option.some.inj hf).symm)
  · have hf := if_f hf c1
    refine g_iload_n (ps := 3) dX6_fold_12 rfl rfl ?_
    refine g_iconst (v := 1) dX6_fold_13 (by decide +kernel) ?_
    refine g_iadd dX6_fold_14 ?_
    refine g_topi (fun x2 ex2 => ?_)
    have hf := lE_s hf ex2
    refine g_istore (L' := [(4, .int x2), (0, .ref v0), (1, .int v1), (2, .int v2), (3, .int v3)]) dX6_fold_15 (by decide) rfl ?_
    exact g_pick [1, 2, 3, 4, 0] rfl (ulX6_fold_17 hW hv0 hf hk he)
set_option maxHeartbeats 4000000 in
set_option maxRecDepth 100000 in
theorem ulX6_fold_4 {S : Shp} {n : Nat} {r : Rf} {v0 : Nat} {v1 : Int32} {v2 : Int32} {v3 : Int32}  {h : Hp} {o : Int32} (hW : WF S r) (hv0 : S[v0]? = some (6, 38)) (hf : lX6_fold_4 n r v0 v1 v2 v3 h = some o)  : GX6_fold S r r (some o, h) 4 [(0, .ref v0), (1, .int v1), (2, .int v2), (3, .int v3)] [] h := by
  unfold lX6_fold_4 at hf
  obtain ⟨z0, ei, hf⟩ := bd_s hf
  refine it_ind (P := fun (s : Int32 × Int32) => GX6_fold S r r (some o, h) 4 [(0, .ref v0), (1, .int v1), (2, .int (s.1)), (3, .int (s.2))] [] h) (fun s w hb hk2 he2 => ?_) n _ ei
  refine ubX6_fold_4 (out := (some o, h)) (r' := r) hW hv0 hb hk2 (fun z hz => ?_)
  have hz := he2 z hz
  subst hz
  rcases z with z | z
  · refine g_bipush (v := 10) dX6_fold_67 (by decide +kernel) ?_
    refine g_iload_n (ps := 1) dX6_fold_69 rfl rfl ?_
    refine g_imul dX6_fold_70 ?_
    refine g_iload (ps := 2) dX6_fold_71 rfl ?_
    refine g_iadd dX6_fold_73 ?_
    have hf := Option.some.inj hf
    subst hf
    exact g_iret dX6_fold_74
  · refine g_iload_n (ps := 1) dX6_fold_90 rfl rfl ?_
    refine g_iconst (v := (-1)) dX6_fold_91 (by decide +kernel) ?_
    refine g_icmp_ne (tgt := 99) dX6_fold_92 (by decide) (fun c17 => ?_) (fun c17 => ?_)
    · have hf := if_f hf c17
      refine g_iconst (v := (-1)) dX6_fold_99 (by decide +kernel) ?_
      have hf := Option.some.inj hf
      subst hf
      exact g_iret dX6_fold_100
    · have hf := if_t hf c17
      refine g_iload_n (ps := 2) dX6_fold_95 rfl rfl ?_
      refine g_goto (tgt := 100) dX6_fold_96 (by decide) ?_
      have hf := Option.some.inj hf
      subst hf
      exact g_iret dX6_fold_100
set_option maxHeartbeats 4000000 in
set_option maxRecDepth 100000 in
theorem uX6_fold {S : Shp} {n : Nat} {r : Rf} {v0 : Nat} {v1 : Int32} {h : Hp} {o : Int32} (hW : WF S r) (hv0 : S[v0]? = some (6, 38)) (hf : fX6_fold n r v0 v1 h = some o) : GX6_fold S r r (some o, h) 0 [(0, .ref v0), (1, .int v1)] [] h := by
  unfold fX6_fold at hf
  refine g_iconst (v := 0) dX6_fold_0 (by decide +kernel) ?_
  refine g_istore_n (L' := [(2, .int 0), (0, .ref v0), (1, .int v1)]) dX6_fold_1 rfl (by decide) rfl ?_
  refine g_iconst (v := 0) dX6_fold_2 (by decide +kernel) ?_
  refine g_istore_n (L' := [(3, .int 0), (2, .int 0), (0, .ref v0), (1, .int v1)]) dX6_fold_3 rfl (by decide) rfl ?_
  exact g_pick [2, 3, 1, 0] rfl (ulX6_fold_4 hW hv0 hf)
theorem kX6_fold {S : Shp} {n : Nat} {r : Rf} {v0 : Nat} {v1 : Int32} {h : Hp} {o : Int32} (hW : WF S r) (hv0 : S[v0]? = some (6, 38)) (hf : fX6_fold n r v0 v1 h = some o) : CTi yX6_fold wsX6_fold rmX6_fold S r [.ref v0, .int v1] h r o h :=
  cti_of rfl (by decide +kernel) rfl (Nat.le_of_ble_eq_true rfl) rfl (uX6_fold hW hv0 hf)
/-! X6_share share -/
def rmX6_share : Room := { frames := 1, cells := 0, slots := 0, locals := 22 }
abbrev GX6_share (S : Shp) (r r' : Rf) (out : Option Int32 × Hp) (pc : Nat) (L : List (Nat × Value)) (st : List Value) (h : Hp) : Prop := G RX6 cX6_share 9 (some .int) wsX6_share rmX6_share S r r' out pc L st h
theorem nX6_share_X6 : ∀ w ∈ wsX60, w ∈ wsX6_share := by decide +kernel
theorem mX6_share_86 : Cond.constant RX6 86 (-1000000002) ∈ wsX6_share := by decide +kernel
theorem mX6_share_144 : Cond.fieldLink RX6 144 "LinkedIslesModel" "m" "I" ∈ wsX6_share := by decide +kernel
theorem mX6_share_47 : Cond.fieldLink RX6 47 "LinkedIslesModel" "now" "[I" ∈ wsX6_share := by decide +kernel
theorem hdX6_share : yX6_share.cls ≠ "java/lang/invoke/MethodHandle" ∧ yX6_share.cls ≠ "java/lang/invoke/VarHandle" ∧ (parseMethodDescriptor yX6_share.desc).map (fun d => d.parameters.length) = some 2 := by decide +kernel
def jX6_share_87 (n : Nat) (r : Rf) (v0 : Nat) (v2 : Int32) (v3 : Int32) (v4 : Int32) (v5 : Int32) (v6 : Int32) (v7 : Int32) (s0 : Int32) (h : Hp) : Option ((Int32 × Int32) ⊕ (Int32)) :=
  if s0 = 0 then (lE (v7 + 1) (fun (x15 : Int32) => some (.inl (v6, x15)))) else (if v6 = (-1) then (lE (v7 + 1) (fun (x17 : Int32) => some (.inl (v7, x17)))) else (ck (6 + v7) 16 (ck (6 + v6) 16 (if (h.1 (r v0 22) (Int32.toNatClampNeg (6 + v7))) ≤ (h.1 (r v0 22) (Int32.toNatClampNeg (6 + v6))) then (lE (v7 + 1) (fun (x21 : Int32) => some (.inl (v6, x21)))) else (lE (v7 + 1) (fun (x22 : Int32) => some (.inl (v7, x22))))))))
def bX6_share_49 (n : Nat) (r : Rf) (v0 : Nat) (v2 : Int32) (v3 : Int32) (v4 : Int32) (v5 : Int32) (v6 : Int32) (v7 : Int32) (h : Hp) : Option ((Int32 × Int32) ⊕ (Int32)) :=
  if (h.1 v0 15) ≤ v7 then (some (.inr v6)) else (ck 0 16 ((fX6_has n r (h.1 (r v0 22) (Int32.toNatClampNeg 0)) v7 h).bind (fun (x12 : Int32) => if x12 = 0 then (jX6_share_87 n r v0 v2 v3 v4 v5 v6 v7 0 h) else ((fX6_has n r v4 v7 h).bind (fun (x24 : Int32) => if x24 = 0 then (jX6_share_87 n r v0 v2 v3 v4 v5 v6 v7 1 h) else (jX6_share_87 n r v0 v2 v3 v4 v5 v6 v7 0 h))))))
def lX6_share_49 (n : Nat) (r : Rf) (v0 : Nat) (v2 : Int32) (v3 : Int32) (v4 : Int32) (v5 : Int32) (v6 : Int32) (v7 : Int32) (h : Hp) : Option ((Int32 × Int32 × Int32) ⊕ (Int32 × Int32)) :=
  (it (fun (s : Int32 × Int32) => bX6_share_49 n r v0 v2 v3 v4 v5 s.1 s.2 h) n (v6, v7)).bind (fun z => if z = (-1) then (lE (v5 + 1) (fun (x27 : Int32) => some (.inl (v3, v4, x27)))) else (lE ((v4 ||| (1 <<< (z &&& 31)))) (fun (x28 : Int32) => lE (v3 + (-1)) (fun (x29 : Int32) => lE (v5 + 1) (fun (x30 : Int32) => some (.inl (x29, x28, x30)))))))
def bX6_share_30 (n : Nat) (r : Rf) (v0 : Nat) (v2 : Int32) (v3 : Int32) (v4 : Int32) (v5 : Int32) (h : Hp) : Option ((Int32 × Int32 × Int32) ⊕ (Int32 × Int32)) :=
  if (h.1 v0 15) ≤ v5 then (some (.inr (v3, v4))) else (if v3 ≤ 0 then (some (.inr (v3, v4))) else (lX6_share_49 n r v0 v2 v3 v4 v5 (-1) 0 h))
def jX6_share_162 (n : Nat) (r : Rf) (v0 : Nat) (v2 : Int32) (v3 : Int32) (v4 : Int32)  (h : Hp) : Option Int32 :=
  if v2 = 0 then (some v3) else (some v4)
def lX6_share_30 (n : Nat) (r : Rf) (v0 : Nat) (v2 : Int32) (v3 : Int32) (v4 : Int32) (v5 : Int32) (h : Hp) : Option Int32 :=
  (it (fun (s : Int32 × Int32 × Int32) => bX6_share_30 n r v0 v2 s.1 s.2.1 s.2.2 h) n (v3, v4, v5)).bind (fun z => jX6_share_162 n r v0 v2 (z.1) (z.2)  h)
def fX6_share (n : Nat) (r : Rf) (v0 : Nat) (v1 : Int32) (v2 : Int32) (h : Hp) : Option Int32 :=
  (fX6_in n r v1 0 99 h).bind (fun (x2 : Int32) => if x2 = 0 then (some (-1000000002)) else ((fX6_in n r v2 0 1 h).bind (fun (x5 : Int32) => if x5 = 0 then (some (-1000000002)) else (lX6_share_30 n r v0 v2 v1 0 0 h))))
set_option maxHeartbeats 4000000 in
set_option maxRecDepth 100000 in
theorem ujX6_share_87 {S : Shp} {n : Nat} {r : Rf} {out : Option Int32 × Hp} {r' : Rf} {v0 : Nat} {v2 : Int32} {v3 : Int32} {v4 : Int32} {v5 : Int32} {v6 : Int32} {v7 : Int32} {s0 : Int32} {h : Hp} {w : (Int32 × Int32) ⊕ (Int32)} (hW : WF S r) (hv0 : S[v0]? = some (6, 38)) (hf : jX6_share_87 n r v0 v2 v3 v4 v5 v6 v7 s0 h = some w) (hk : ∀ y, w = .inl y → GX6_share S r r' out 49 [(0, .ref v0), (2, .int v2), (3, .int v3), (4, .int v4), (5, .int v5), (6, .int (y.1)), (7, .int (y.2))] [] h) (he : ∀ z, w = .inr z → GX6_share S r r' out 138 [(0, .ref v0), (2, .int v2), (3, .int v3), (4, .int v4), (5, .int v5), (6, .int (z))] [] h) : GX6_share S r r' out 87 [(0, .ref v0), (2, .int v2), (3, .int v3), (4, .int v4), (5, .int v5), (6, .int v6), (7, .int v7)] [.int s0] h := by
  unfold jX6_share_87 at hf
  refine g_istore (L' := [(8, .int s0), (0, .ref v0), (2, .int v2), (3, .int v3), (4, .int v4), (5, .int v5), (6, .int v6), (7, .int v7)]) dX6_share_87 (by decide) rfl ?_
  refine g_iload (ps := 0) dX6_share_89 rfl ?_
  refine g_if_eq (tgt := 128) dX6_share_91 (by decide) (fun c14 => ?_) (fun c14 => ?_)
  · have hf := if_t hf c14
    refine g_iload (ps := 6) dX6_share_128 rfl ?_
    refine g_istore (L' := [(6, .int v6), (8, .int s0), (0, .ref v0), (2, .int v2), (3, .int v3), (4, .int v4), (5, .int v5), (7, .int v7)]) dX6_share_130 (by decide) rfl ?_
    obtain ⟨x15, ex15⟩ : ∃ y : Int32, y = v7 + 1 := ⟨_, rfl⟩
    have hf := lE_s hf ex15
    refine g_iinc (ps := 7) (v := x15) (L' := [(7, .int x15), (6, .int v6), (8, .int s0), (0, .ref v0), (2, .int v2), (3, .int v3), (4, .int v4), (5, .int v5)]) dX6_share_132 rfl (by rw [ex15]; rfl) (by decide) rfl ?_
    refine g_goto (tgt := 49) dX6_share_135 (by decide) ?_
    exact g_pick [3, 4, 5, 6, 7, 1, 0] rfl (hk _ (Option.some.inj hf).symm)
  · have hf := if_f hf c14
    refine g_iload (ps := 6) dX6_share_94 rfl ?_
    refine g_iconst (v := (-1)) dX6_share_96 (by decide +kernel) ?_
    refine g_icmp_eq (tgt := 123) dX6_share_97 (by decide) (fun c16 => ?_) (fun c16 => ?_)
    · have hf := if_t hf c16
      refine g_iload (ps := 7) dX6_share_123 rfl ?_
      refine g_goto (tgt := 130) dX6_share_125 (by decide) ?_
      refine g_istore (L' := [(6, .int v7), (8, .int s0), (0, .ref v0), (2, .int v2), (3, .int v3), (4, .int v4), (5, .int v5), (7, .int v7)]) dX6_share_130 (by decide) rfl ?_
      obtain ⟨x17, ex17⟩ : ∃ y : Int32, y = v7 + 1 := ⟨_, rfl⟩
      have hf := lE_s hf ex17
      refine g_iinc (ps := 7) (v := x17) (L' := [(7, .int x17), (6, .int v7), (8, .int s0), (0, .ref v0), (2, .int v2), (3, .int v3), (4, .int v4), (5, .int v5)]) dX6_share_132 rfl (by rw [ex17]; rfl) (by decide) rfl ?_
      refine g_goto (tgt := 49) dX6_share_135 (by decide) ?_
      exact g_pick [3, 4, 5, 6, 7, 1, 0] rfl (hk _ (Option.some.inj hf).symm)
    · have hf := if_f hf c16
      refine g_aload_n (ps := 1) dX6_share_100 rfl rfl ?_
      refine g_getR cf6 hv0 nX6_share_X6 (j := 22) (by decide) rfl mX6_share_47 dX6_share_101 ?_
      refine g_bipush (v := 6) dX6_share_104 (by decide +kernel) ?_
      refine g_iload (ps := 7) dX6_share_106 rfl ?_
      refine g_iadd dX6_share_108 ?_
      obtain ⟨z18, hf⟩ := ck_s hf
      refine g_iald (hW _ _ _ hv0 22 _ rfl) z18 dX6_share_109 ?_
      refine g_aload_n (ps := 1) dX6_share_110 rfl rfl ?_
      refine g_getR cf6 hv0 nX6_share_X6 (j := 22) (by decide) rfl mX6_share_47 dX6_share_111 ?_
      refine g_bipush (v := 6) dX6_share_114 (by decide +kernel) ?_
      refine g_iload (ps := 6) dX6_share_116 rfl ?_
      refine g_iadd dX6_share_118 ?_
      obtain ⟨z19, hf⟩ := ck_s hf
      refine g_iald (hW _ _ _ hv0 22 _ rfl) z19 dX6_share_119 ?_
      refine g_icmp_le (tgt := 128) dX6_share_120 (by decide) (fun c20 => ?_) (fun c20 => ?_)
      · have hf := if_t hf c20
        refine g_iload (ps := 6) dX6_share_128 rfl ?_
        refine g_istore (L' := [(6, .int v6), (8, .int s0), (0, .ref v0), (2, .int v2), (3, .int v3), (4, .int v4), (5, .int v5), (7, .int v7)]) dX6_share_130 (by decide) rfl ?_
        obtain ⟨x21, ex21⟩ : ∃ y : Int32, y = v7 + 1 := ⟨_, rfl⟩
        have hf := lE_s hf ex21
        refine g_iinc (ps := 7) (v := x21) (L' := [(7, .int x21), (6, .int v6), (8, .int s0), (0, .ref v0), (2, .int v2), (3, .int v3), (4, .int v4), (5, .int v5)]) dX6_share_132 rfl (by rw [ex21]; rfl) (by decide) rfl ?_
        refine g_goto (tgt := 49) dX6_share_135 (by decide) ?_
        exact g_pick [3, 4, 5, 6, 7, 1, 0] rfl (hk _ (Option.some.inj hf).symm)
      · have hf := if_f hf c20
        refine g_iload (ps := 7) dX6_share_123 rfl ?_
        refine g_goto (tgt := 130) dX6_share_125 (by decide) ?_
        refine g_istore (L' := [(6, .int v7), (8, .int s0), (0, .ref v0), (2, .int v2), (3, .int v3), (4, .int v4), (5, .int v5), (7, .int v7)]) dX6_share_130 (by decide) rfl ?_
        obtain ⟨x22, ex22⟩ : ∃ y : Int32, y = v7 + 1 := ⟨_, rfl⟩
        have hf := lE_s hf ex22
        refine g_iinc (ps := 7) (v := x22) (L' := [(7, .int x22), (6, .int v7), (8, .int s0), (0, .ref v0), (2, .int v2), (3, .int v3), (4, .int v4), (5, .int v5)]) dX6_share_132 rfl (by rw [ex22]; rfl) (by decide) rfl ?_
        refine g_goto (tgt := 49) dX6_share_135 (by decide) ?_
        exact g_pick [3, 4, 5, 6, 7, 1, 0] rfl (hk _ (Option.some.inj hf).symm)
set_option maxHeartbeats 4000000 in
set_option maxRecDepth 100000 in
theorem ubX6_share_49 {S : Shp} {n : Nat} {r : Rf} {out : Option Int32 × Hp} {r' : Rf} {v0 : Nat} {v2 : Int32} {v3 : Int32} {v4 : Int32} {v5 : Int32} {v6 : Int32} {v7 : Int32}  {h : Hp} {w : (Int32 × Int32) ⊕ (Int32)} (hW : WF S r) (hv0 : S[v0]? = some (6, 38)) (hf : bX6_share_49 n r v0 v2 v3 v4 v5 v6 v7 h = some w) (hk : ∀ y, w = .inl y → GX6_share S r r' out 49 [(0, .ref v0), (2, .int v2), (3, .int v3), (4, .int v4), (5, .int v5), (6, .int (y.1)), (7, .int (y.2))] [] h) (he : ∀ z, w = .inr z → GX6_share S r r' out 138 [(0, .ref v0), (2, .int v2), (3, .int v3), (4, .int v4), (5, .int v5), (6, .int (z))] [] h) : GX6_share S r r' out 49 [(0, .ref v0), (2, .int v2), (3, .int v3), (4, .int v4), (5, .int v5), (6, .int v6), (7, .int v7)] [] h := by
  unfold bX6_share_49 at hf
  refine g_iload (ps := 6) dX6_share_49 rfl ?_
  refine g_aload_n (ps := 0) dX6_share_51 rfl rfl ?_
  refine g_getI cf6 hv0 nX6_share_X6 (j := 15) (by decide) rfl mX6_share_144 dX6_share_52 ?_
  refine g_icmp_ge (tgt := 138) dX6_share_55 (by decide) (fun c9 => ?_) (fun c9 => ?_)
  · have hf := if_t hf c9
    exact g_pick [0, 1, 2, 3, 4, 5] rfl (he _ (Option.some.inj hf).symm)
  · have hf := if_f hf c9
    refine g_aload_n (ps := 0) dX6_share_58 rfl rfl ?_
    refine g_getR cf6 hv0 nX6_share_X6 (j := 22) (by decide) rfl mX6_share_47 dX6_share_59 ?_
    refine g_iconst (v := 0) dX6_share_62 (by decide +kernel) ?_
    obtain ⟨z10, hf⟩ := ck_s hf
    refine g_iald (hW _ _ _ hv0 22 _ rfl) z10 dX6_share_63 ?_
    refine g_iload (ps := 6) dX6_share_64 rfl ?_
    obtain ⟨x12, e11, hf⟩ := bd_s hf
    refine g_callSi (As := [.int (h.1 (r v0 22) (Int32.toNatClampNeg 0)), .int v7]) (n := 2) (kX6_has hW  e11) gX6_share_X6_has rfl ⟨rfl, rfl⟩ hdX6_has ⟨Nat.le_of_ble_eq_true rfl, Nat.le_of_ble_eq_true rfl⟩ rfl rfl (Nat.le_of_ble_eq_true rfl) dX6_share_66 ?_
    refine g_if_eq (tgt := 86) dX6_share_69 (by decide) (fun c13 => ?_) (fun c13 => ?_)
    · have hf := if_t hf c13
      refine g_iconst (v := 0) dX6_share_86 (by decide +kernel) ?_
      exact g_pick [0, 1, 2, 3, 4, 5, 6] rfl (ujX6_share_87 hW hv0 hf hk he)
    · have hf := if_f hf c13
      refine g_iload (ps := 3) dX6_share_72 rfl ?_
      refine g_iload (ps := 6) dX6_share_74 rfl ?_
      obtain ⟨x24, e23, hf⟩ := bd_s hf
      refine g_callSi (As := [.int v4, .int v7]) (n := 2) (kX6_has hW  e23) gX6_share_X6_has rfl ⟨rfl, rfl⟩ hdX6_has ⟨Nat.le_of_ble_eq_true rfl, Nat.le_of_ble_eq_true rfl⟩ rfl rfl (Nat.le_of_ble_eq_true rfl) dX6_share_76 ?_
      refine g_if_ne (tgt := 86) dX6_share_79 (by decide) (fun c25 => ?_) (fun c25 => ?_)
      · have hf := if_f hf c25
        refine g_iconst (v := 0) dX6_share_86 (by decide +kernel) ?_
        exact g_pick [0, 1, 2, 3, 4, 5, 6] rfl (ujX6_share_87 hW hv0 hf hk he)
      · have hf := if_t hf c25
        refine g_iconst (v := 1) dX6_share_82 (by decide +kernel) ?_
        refine g_goto (tgt := 87) dX6_share_83 (by decide) ?_
        exact g_pick [0, 1, 2, 3, 4, 5, 6] rfl (ujX6_share_87 hW hv0 hf hk he)
set_option maxHeartbeats 4000000 in
set_option maxRecDepth 100000 in
theorem ulX6_share_49 {S : Shp} {n : Nat} {r : Rf} {out : Option Int32 × Hp} {r' : Rf} {v0 : Nat} {v2 : Int32} {v3 : Int32} {v4 : Int32} {v5 : Int32} {v6 : Int32} {v7 : Int32}  {h : Hp} {w : (Int32 × Int32 × Int32) ⊕ (Int32 × Int32)} (hW : WF S r) (hv0 : S[v0]? = some (6, 38)) (hf : lX6_share_49 n r v0 v2 v3 v4 v5 v6 v7 h = some w) (hk : ∀ y, w = .inl y → GX6_share S r r' out 30 [(0, .ref v0), (2, .int v2), (3, .int (y.1)), (4, .int (y.2.1)), (5, .int (y.2.2))] [] h) (he : ∀ z, w = .inr z → GX6_share S r r' out 162 [(0, .ref v0), (2, .int v2), (3, .int (z.1)), (4, .int (z.2))] [] h) : GX6_share S r r' out 49 [(0, .ref v0), (2, .int v2), (3, .int v3), (4, .int v4), (5, .int v5), (6, .int v6), (7, .int v7)] [] h := by
  unfold lX6_share_49 at hf
  obtain ⟨z0, ei, hf⟩ := bd_s hf
  refine it_ind (P := fun (s : Int32 × Int32) => GX6_share S r r' out 49 [(0, .ref v0), (2, .int v2), (3, .int v3), (4, .int v4), (5, .int v5), (6, .int (s.1)), (7, .int (s.2))] [] h) (fun s w hb hk2 he2 => ?_) n _ ei
  refine ubX6_share_49 (out := out) (r' := r') hW hv0 hb hk2 (fun z hz => ?_)
  have hz := he2 z hz
  subst hz
  refine g_iload (ps := 5) dX6_share_138 rfl ?_
  refine g_iconst (v := (-1)) dX6_share_140 (by decide +kernel) ?_
  refine g_icmp_eq (tgt := 156) dX6_share_141 (by decide) (fun c26 => ?_) (fun c26 => ?_)
  · have hf := if_t hf c26
    obtain ⟨x27, ex27⟩ : ∃ y : Int32, y = v5 + 1 := ⟨_, rfl⟩
    have hf := lE_s hf ex27
    refine g_iinc (ps := 4) (v := x27) (L' := [(5, .int x27), (0, .ref v0), (2, .int v2), (3, .int v3), (4, .int v4), (6, .int z)]) dX6_share_156 rfl (by rw [ex27]; rfl) (by decide) rfl ?_
    refine g_goto (tgt := 30) dX6_share_159 (by decide) ?_
    exact g_pick [1, 2, 3, 4, 0] rfl (hk _ (Option.some.inj hf).symm)
  · have hf := if_f hf c26
    refine g_iload (ps := 3) dX6_share_144 rfl ?_
    refine g_iconst (v := 1) dX6_share_146 (by decide +kernel) ?_
    refine g_iload (ps := 5) dX6_share_147 rfl ?_
    refine g_ishl dX6_share_149 ?_
    refine g_ior dX6_share_150 ?_
    refine g_topi (fun x28 ex28 => ?_)
    have hf := lE_s hf ex28
    refine g_istore (L' := [(4, .int x28), (0, .ref v0), (2, .int v2), (3, .int v3), (5, .int v5), (6, .int z)]) dX6_share_151 (by decide) rfl ?_
    obtain ⟨x29, ex29⟩ : ∃ y : Int32, y = v3 + (-1) := ⟨_, rfl⟩
    have hf := lE_s hf ex29
    refine g_iinc (ps := 3) (v := x29) (L' := [(3, .int x29), (4, .int x28), (0, .ref v0), (2, .int v2), (5, .int v5), (6, .int z)]) dX6_share_153 rfl (by rw [ex29]; rfl) (by decide) rfl ?_
    obtain ⟨x30, ex30⟩ : ∃ y : Int32, y = v5 + 1 := ⟨_, rfl⟩
    have hf := lE_s hf ex30
    refine g_iinc (ps := 4) (v := x30) (L' := [(5, .int x30), (3, .int x29), (4, .int x28), (0, .ref v0), (2, .int v2), (6, .int z)]) dX6_share_156 rfl (by rw [ex30]; rfl) (by decide) rfl ?_
    refine g_goto (tgt := 30) dX6_share_159 (by decide) ?_
    exact g_pick [3, 4, 1, 2, 0] rfl (hk _ (Option.some.inj hf).symm)
set_option maxHeartbeats 4000000 in
set_option maxRecDepth 100000 in
theorem ubX6_share_30 {S : Shp} {n : Nat} {r : Rf} {out : Option Int32 × Hp} {r' : Rf} {v0 : Nat} {v2 : Int32} {v3 : Int32} {v4 : Int32} {v5 : Int32}  {h : Hp} {w : (Int32 × Int32 × Int32) ⊕ (Int32 × Int32)} (hW : WF S r) (hv0 : S[v0]? = some (6, 38)) (hf : bX6_share_30 n r v0 v2 v3 v4 v5 h = some w) (hk : ∀ y, w = .inl y → GX6_share S r r' out 30 [(0, .ref v0), (2, .int v2), (3, .int (y.1)), (4, .int (y.2.1)), (5, .int (y.2.2))] [] h) (he : ∀ z, w = .inr z → GX6_share S r r' out 162 [(0, .ref v0), (2, .int v2), (3, .int (z.1)), (4, .int (z.2))] [] h) : GX6_share S r r' out 30 [(0, .ref v0), (2, .int v2), (3, .int v3), (4, .int v4), (5, .int v5)] [] h := by
  unfold bX6_share_30 at hf
  refine g_iload (ps := 4) dX6_share_30 rfl ?_
  refine g_aload_n (ps := 0) dX6_share_32 rfl rfl ?_
  refine g_getI cf6 hv0 nX6_share_X6 (j := 15) (by decide) rfl mX6_share_144 dX6_share_33 ?_
  refine g_icmp_ge (tgt := 162) dX6_share_36 (by decide) (fun c7 => ?_) (fun c7 => ?_)
  · have hf := if_t hf c7
    exact g_pick [0, 1, 2, 3] rfl (he _ (Option.some.inj hf).symm)
  · have hf := if_f hf c7
    refine g_iload_n (ps := 2) dX6_share_39 rfl rfl ?_
    refine g_if_le (tgt := 162) dX6_share_40 (by decide) (fun c8 => ?_) (fun c8 => ?_)
    · have hf := if_t hf c8
      exact g_pick [0, 1, 2, 3] rfl (he _ (Option.some.inj hf).symm)
    · have hf := if_f hf c8
      refine g_iconst (v := (-1)) dX6_share_43 (by decide +kernel) ?_
      refine g_istore (L' := [(6, .int (-1)), (0, .ref v0), (2, .int v2), (3, .int v3), (4, .int v4), (5, .int v5)]) dX6_share_44 (by decide) rfl ?_
      refine g_iconst (v := 0) dX6_share_46 (by decide +kernel) ?_
      refine g_istore (L' := [(7, .int 0), (6, .int (-1)), (0, .ref v0), (2, .int v2), (3, .int v3), (4, .int v4), (5, .int v5)]) dX6_share_47 (by decide) rfl ?_
      exact g_pick [2, 3, 4, 5, 6, 1, 0] rfl (ulX6_share_49 hW hv0 hf hk he)
set_option maxHeartbeats 4000000 in
set_option maxRecDepth 100000 in
theorem ujX6_share_162 {S : Shp} {n : Nat} {r : Rf} {v0 : Nat} {v2 : Int32} {v3 : Int32} {v4 : Int32}  {h : Hp} {o : Int32} (hW : WF S r) (hv0 : S[v0]? = some (6, 38)) (hf : jX6_share_162 n r v0 v2 v3 v4  h = some o)  : GX6_share S r r (some o, h) 162 [(0, .ref v0), (2, .int v2), (3, .int v3), (4, .int v4)] [] h := by
  unfold jX6_share_162 at hf
  refine g_iload_n (ps := 1) dX6_share_162 rfl rfl ?_
  refine g_if_ne (tgt := 170) dX6_share_163 (by decide) (fun c31 => ?_) (fun c31 => ?_)
  · have hf := if_f hf c31
    refine g_iload (ps := 3) dX6_share_170 rfl ?_
    have hf := Option.some.inj hf
    subst hf
    exact g_iret dX6_share_172
  · have hf := if_t hf c31
    refine g_iload_n (ps := 2) dX6_share_166 rfl rfl ?_
    refine g_goto (tgt := 172) dX6_share_167 (by decide) ?_
    have hf := Option.some.inj hf
    subst hf
    exact g_iret dX6_share_172
set_option maxHeartbeats 4000000 in
set_option maxRecDepth 100000 in
theorem ulX6_share_30 {S : Shp} {n : Nat} {r : Rf} {v0 : Nat} {v2 : Int32} {v3 : Int32} {v4 : Int32} {v5 : Int32}  {h : Hp} {o : Int32} (hW : WF S r) (hv0 : S[v0]? = some (6, 38)) (hf : lX6_share_30 n r v0 v2 v3 v4 v5 h = some o)  : GX6_share S r r (some o, h) 30 [(0, .ref v0), (2, .int v2), (3, .int v3), (4, .int v4), (5, .int v5)] [] h := by
  unfold lX6_share_30 at hf
  obtain ⟨z0, ei, hf⟩ := bd_s hf
  refine it_ind (P := fun (s : Int32 × Int32 × Int32) => GX6_share S r r (some o, h) 30 [(0, .ref v0), (2, .int v2), (3, .int (s.1)), (4, .int (s.2.1)), (5, .int (s.2.2))] [] h) (fun s w hb hk2 he2 => ?_) n _ ei
  refine ubX6_share_30 (out := (some o, h)) (r' := r) hW hv0 hb hk2 (fun z hz => ?_)
  have hz := he2 z hz
  subst hz
  exact g_pick [0, 1, 2, 3] rfl (ujX6_share_162 hW hv0 hf)
set_option maxHeartbeats 4000000 in
set_option maxRecDepth 100000 in
theorem uX6_share {S : Shp} {n : Nat} {r : Rf} {v0 : Nat} {v1 : Int32} {v2 : Int32} {h : Hp} {o : Int32} (hW : WF S r) (hv0 : S[v0]? = some (6, 38)) (hf : fX6_share n r v0 v1 v2 h = some o) : GX6_share S r r (some o, h) 0 [(0, .ref v0), (1, .int v1), (2, .int v2)] [] h := by
  unfold fX6_share at hf
  refine g_iload_n (ps := 1) dX6_share_0 rfl rfl ?_
  refine g_iconst (v := 0) dX6_share_1 (by decide +kernel) ?_
  refine g_bipush (v := 99) dX6_share_2 (by decide +kernel) ?_
  obtain ⟨x2, e1, hf⟩ := bd_s hf
  refine g_callSi (As := [.int v1, .int 0, .int 99]) (n := 3) (kX6_in hW  e1) gX6_share_X6_in rfl ⟨rfl, rfl⟩ hdX6_in ⟨Nat.le_of_ble_eq_true rfl, Nat.le_of_ble_eq_true rfl⟩ rfl rfl (Nat.le_of_ble_eq_true rfl) dX6_share_4 ?_
  refine g_if_eq (tgt := 19) dX6_share_7 (by decide) (fun c3 => ?_) (fun c3 => ?_)
  · have hf := if_t hf c3
    refine g_ldc (v := (-1000000002)) mX6_share_86 dX6_share_19 ?_
    have hf := Option.some.inj hf
    subst hf
    exact g_iret dX6_share_21
  · have hf := if_f hf c3
    refine g_iload_n (ps := 2) dX6_share_10 rfl rfl ?_
    refine g_iconst (v := 0) dX6_share_11 (by decide +kernel) ?_
    refine g_iconst (v := 1) dX6_share_12 (by decide +kernel) ?_
    obtain ⟨x5, e4, hf⟩ := bd_s hf
    refine g_callSi (As := [.int v2, .int 0, .int 1]) (n := 3) (kX6_in hW  e4) gX6_share_X6_in rfl ⟨rfl, rfl⟩ hdX6_in ⟨Nat.le_of_ble_eq_true rfl, Nat.le_of_ble_eq_true rfl⟩ rfl rfl (Nat.le_of_ble_eq_true rfl) dX6_share_13 ?_
    refine g_if_ne (tgt := 22) dX6_share_16 (by decide) (fun c6 => ?_) (fun c6 => ?_)
    · have hf := if_f hf c6
      refine g_iload_n (ps := 1) dX6_share_22 rfl rfl ?_
      refine g_istore_n (L' := [(3, .int v1), (0, .ref v0), (1, .int v1), (2, .int v2)]) dX6_share_23 rfl (by decide) rfl ?_
      refine g_iconst (v := 0) dX6_share_24 (by decide +kernel) ?_
      refine g_istore (L' := [(4, .int 0), (3, .int v1), (0, .ref v0), (1, .int v1), (2, .int v2)]) dX6_share_25 (by decide) rfl ?_
      refine g_iconst (v := 0) dX6_share_27 (by decide +kernel) ?_
      refine g_istore (L' := [(5, .int 0), (4, .int 0), (3, .int v1), (0, .ref v0), (1, .int v1), (2, .int v2)]) dX6_share_28 (by decide) rfl ?_
      exact g_pick [3, 5, 2, 1, 0] rfl (ulX6_share_30 hW hv0 hf)
    · have hf := if_t hf c6
      refine g_ldc (v := (-1000000002)) mX6_share_86 dX6_share_19 ?_
      have hf := Option.some.inj hf
      subst hf
      exact g_iret dX6_share_21
theorem kX6_share {S : Shp} {n : Nat} {r : Rf} {v0 : Nat} {v1 : Int32} {v2 : Int32} {h : Hp} {o : Int32} (hW : WF S r) (hv0 : S[v0]? = some (6, 38)) (hf : fX6_share n r v0 v1 v2 h = some o) : CTi yX6_share wsX6_share rmX6_share S r [.ref v0, .int v1, .int v2] h r o h :=
  cti_of rfl (by decide +kernel) rfl (Nat.le_of_ble_eq_true rfl) rfl (uX6_share hW hv0 hf)
/-! X6_calm calm -/
def rmX6_calm : Room := { frames := 1, cells := 0, slots := 0, locals := 22 }
abbrev GX6_calm (S : Shp) (r r' : Rf) (out : Option Int32 × Hp) (pc : Nat) (L : List (Nat × Value)) (st : List Value) (h : Hp) : Prop := G RX6 cX6_calm 6 (some .int) wsX6_calm rmX6_calm S r r' out pc L st h
theorem mX6_calm_251 : Cond.constantLong RX6 251 (1000000000) ∈ wsX6_calm := by decide +kernel
theorem mX6_calm_253 : Cond.constantLong RX6 253 (100) ∈ wsX6_calm := by decide +kernel
theorem mX6_calm_86 : Cond.constant RX6 86 (-1000000002) ∈ wsX6_calm := by decide +kernel
theorem hdX6_calm : yX6_calm.cls ≠ "java/lang/invoke/MethodHandle" ∧ yX6_calm.cls ≠ "java/lang/invoke/VarHandle" ∧ (parseMethodDescriptor yX6_calm.desc).map (fun d => d.parameters.length) = some 2 := by decide +kernel
def bX6_calm_30 (n : Nat) (r : Rf) (v0 : Nat) (v1 : Int32) (v2 : Int32) (v3 : Int64) (v5 : Int32) (h : Hp) : Option ((Int64 × Int32) ⊕ (Int64)) :=
  if v1 ≤ v5 then (some (.inr v3)) else (lE (((v3 * (Int32.toInt64 v2)) / 100)) (fun (x8 : Int64) => lE (v5 + 1) (fun (x9 : Int32) => some (.inl (x8, x9)))))
def lX6_calm_30 (n : Nat) (r : Rf) (v0 : Nat) (v1 : Int32) (v2 : Int32) (v3 : Int64) (v5 : Int32) (h : Hp) : Option Int32 :=
  (it (fun (s : Int64 × Int32) => bX6_calm_30 n r v0 v1 v2 s.1 s.2 h) n (v3, v5)).bind (fun z => some (Int64.toInt32 z))
def fX6_calm (n : Nat) (r : Rf) (v0 : Nat) (v1 : Int32) (v2 : Int32) (h : Hp) : Option Int32 :=
  (fX6_in n r v1 0 60 h).bind (fun (x2 : Int32) => if x2 = 0 then (some (-1000000002)) else ((fX6_in n r v2 0 100 h).bind (fun (x5 : Int32) => if x5 = 0 then (some (-1000000002)) else (lX6_calm_30 n r v0 v1 v2 1000000000 0 h))))
set_option maxHeartbeats 4000000 in
set_option maxRecDepth 100000 in
theorem ubX6_calm_30 {S : Shp} {n : Nat} {r : Rf} {out : Option Int32 × Hp} {r' : Rf} {v0 : Nat} {v1 : Int32} {v2 : Int32} {v3 : Int64} {v5 : Int32}  {h : Hp} {w : (Int64 × Int32) ⊕ (Int64)} (hW : WF S r) (hv0 : S[v0]? = some (6, 38)) (hf : bX6_calm_30 n r v0 v1 v2 v3 v5 h = some w) (hk : ∀ y, w = .inl y → GX6_calm S r r' out 30 [(0, .ref v0), (1, .int v1), (2, .int v2), (3, .long (y.1)), (5, .int (y.2))] [] h) (he : ∀ z, w = .inr z → GX6_calm S r r' out 51 [(0, .ref v0), (3, .long (z))] [] h) : GX6_calm S r r' out 30 [(0, .ref v0), (1, .int v1), (2, .int v2), (3, .long v3), (5, .int v5)] [] h := by
  unfold bX6_calm_30 at hf
  refine g_iload (ps := 4) dX6_calm_30 rfl ?_
  refine g_iload_n (ps := 1) dX6_calm_32 rfl rfl ?_
  refine g_icmp_ge (tgt := 51) dX6_calm_33 (by decide) (fun c7 => ?_) (fun c7 => ?_)
  · have hf := if_t hf c7
    exact g_pick [0, 3] rfl (he _ (Option.some.inj hf).symm)
  · have hf := if_f hf c7
    refine g_lload_n (ps := 3) dX6_calm_36 rfl rfl ?_
    refine g_iload_n (ps := 2) dX6_calm_37 rfl rfl ?_
    refine g_i2l dX6_calm_38 ?_
    refine g_lmul dX6_calm_39 ?_
    refine g_ldc2 (v := 100) mX6_calm_253 dX6_calm_40 ?_
    refine g_ldiv dX6_calm_43 (by decide +kernel) ?_
    refine g_topl (fun x8 ex8 => ?_)
    have hf := lE_s hf ex8
    refine g_lstore_n (L' := [(3, .long x8), (0, .ref v0), (1, .int v1), (2, .int v2), (5, .int v5)]) dX6_calm_44 rfl (by decide) rfl ?_
    obtain ⟨x9, ex9⟩ : ∃ y : Int32, y = v5 + 1 := ⟨_, rfl⟩
    have hf := lE_s hf ex9
    refine g_iinc (ps := 4) (v := x9) (L' := [(5, .int x9), (3, .long x8), (0, .ref v0), (1, .int v1), (2, .int v2)]) dX6_calm_45 rfl (by rw [ex9]; rfl) (by decide) rfl ?_
    refine g_goto (tgt := 30) dX6_calm_48 (by decide) ?_
    exact g_pick [2, 3, 4, 1, 0] rfl (hk _ (Option.some.inj hf).symm)
set_option maxHeartbeats 4000000 in
set_option maxRecDepth 100000 in
theorem ulX6_calm_30 {S : Shp} {n : Nat} {r : Rf} {v0 : Nat} {v1 : Int32} {v2 : Int32} {v3 : Int64} {v5 : Int32}  {h : Hp} {o : Int32} (hW : WF S r) (hv0 : S[v0]? = some (6, 38)) (hf : lX6_calm_30 n r v0 v1 v2 v3 v5 h = some o)  : GX6_calm S r r (some o, h) 30 [(0, .ref v0), (1, .int v1), (2, .int v2), (3, .long v3), (5, .int v5)] [] h := by
  unfold lX6_calm_30 at hf
  obtain ⟨z0, ei, hf⟩ := bd_s hf
  refine it_ind (P := fun (s : Int64 × Int32) => GX6_calm S r r (some o, h) 30 [(0, .ref v0), (1, .int v1), (2, .int v2), (3, .long (s.1)), (5, .int (s.2))] [] h) (fun s w hb hk2 he2 => ?_) n _ ei
  refine ubX6_calm_30 (out := (some o, h)) (r' := r) hW hv0 hb hk2 (fun z hz => ?_)
  have hz := he2 z hz
  subst hz
  refine g_lload_n (ps := 1) dX6_calm_51 rfl rfl ?_
  refine g_l2i dX6_calm_52 ?_
  have hf := Option.some.inj hf
  subst hf
  exact g_iret dX6_calm_53
set_option maxHeartbeats 4000000 in
set_option maxRecDepth 100000 in
theorem uX6_calm {S : Shp} {n : Nat} {r : Rf} {v0 : Nat} {v1 : Int32} {v2 : Int32} {h : Hp} {o : Int32} (hW : WF S r) (hv0 : S[v0]? = some (6, 38)) (hf : fX6_calm n r v0 v1 v2 h = some o) : GX6_calm S r r (some o, h) 0 [(0, .ref v0), (1, .int v1), (2, .int v2)] [] h := by
  unfold fX6_calm at hf
  refine g_iload_n (ps := 1) dX6_calm_0 rfl rfl ?_
  refine g_iconst (v := 0) dX6_calm_1 (by decide +kernel) ?_
  refine g_bipush (v := 60) dX6_calm_2 (by decide +kernel) ?_
  obtain ⟨x2, e1, hf⟩ := bd_s hf
  refine g_callSi (As := [.int v1, .int 0, .int 60]) (n := 3) (kX6_in hW  e1) gX6_calm_X6_in rfl ⟨rfl, rfl⟩ hdX6_in ⟨Nat.le_of_ble_eq_true rfl, Nat.le_of_ble_eq_true rfl⟩ rfl rfl (Nat.le_of_ble_eq_true rfl) dX6_calm_4 ?_
  refine g_if_eq (tgt := 20) dX6_calm_7 (by decide) (fun c3 => ?_) (fun c3 => ?_)
  · have hf := if_t hf c3
    refine g_ldc (v := (-1000000002)) mX6_calm_86 dX6_calm_20 ?_
    have hf := Option.some.inj hf
    subst hf
    exact g_iret dX6_calm_22
  · have hf := if_f hf c3
    refine g_iload_n (ps := 2) dX6_calm_10 rfl rfl ?_
    refine g_iconst (v := 0) dX6_calm_11 (by decide +kernel) ?_
    refine g_bipush (v := 100) dX6_calm_12 (by decide +kernel) ?_
    obtain ⟨x5, e4, hf⟩ := bd_s hf
    refine g_callSi (As := [.int v2, .int 0, .int 100]) (n := 3) (kX6_in hW  e4) gX6_calm_X6_in rfl ⟨rfl, rfl⟩ hdX6_in ⟨Nat.le_of_ble_eq_true rfl, Nat.le_of_ble_eq_true rfl⟩ rfl rfl (Nat.le_of_ble_eq_true rfl) dX6_calm_14 ?_
    refine g_if_ne (tgt := 23) dX6_calm_17 (by decide) (fun c6 => ?_) (fun c6 => ?_)
    · have hf := if_f hf c6
      refine g_ldc2 (v := 1000000000) mX6_calm_251 dX6_calm_23 ?_
      refine g_lstore_n (L' := [(3, .long 1000000000), (0, .ref v0), (1, .int v1), (2, .int v2)]) dX6_calm_26 rfl (by decide) rfl ?_
      refine g_iconst (v := 0) dX6_calm_27 (by decide +kernel) ?_
      refine g_istore (L' := [(5, .int 0), (3, .long 1000000000), (0, .ref v0), (1, .int v1), (2, .int v2)]) dX6_calm_28 (by decide) rfl ?_
      exact g_pick [2, 3, 4, 1, 0] rfl (ulX6_calm_30 hW hv0 hf)
    · have hf := if_t hf c6
      refine g_ldc (v := (-1000000002)) mX6_calm_86 dX6_calm_20 ?_
      have hf := Option.some.inj hf
      subst hf
      exact g_iret dX6_calm_22
theorem kX6_calm {S : Shp} {n : Nat} {r : Rf} {v0 : Nat} {v1 : Int32} {v2 : Int32} {h : Hp} {o : Int32} (hW : WF S r) (hv0 : S[v0]? = some (6, 38)) (hf : fX6_calm n r v0 v1 v2 h = some o) : CTi yX6_calm wsX6_calm rmX6_calm S r [.ref v0, .int v1, .int v2] h r o h :=
  cti_of rfl (by decide +kernel) rfl (Nat.le_of_ble_eq_true rfl) rfl (uX6_calm hW hv0 hf)
/-! X6_hear hear -/
def rmX6_hear : Room := { frames := 3, cells := 0, slots := 0, locals := 65 }
abbrev GX6_hear (S : Shp) (r r' : Rf) (out : Option Int32 × Hp) (pc : Nat) (L : List (Nat × Value)) (st : List Value) (h : Hp) : Prop := G RX6 cX6_hear 4 (some .int) wsX6_hear rmX6_hear S r r' out pc L st h
theorem nX6_hear_X6 : ∀ w ∈ wsX60, w ∈ wsX6_hear := by decide +kernel
theorem mX6_hear_176 : Cond.constant RX6 176 (-1000000001) ∈ wsX6_hear := by decide +kernel
theorem mX6_hear_90 : Cond.constant RX6 90 (-1000000004) ∈ wsX6_hear := by decide +kernel
theorem mX6_hear_153 : Cond.fieldLink RX6 153 "LinkedIslesModel" "heardMany" "I" ∈ wsX6_hear := by decide +kernel
theorem mX6_hear_56 : Cond.fieldLink RX6 56 "LinkedIslesModel" "heardA" "[I" ∈ wsX6_hear := by decide +kernel
theorem mX6_hear_59 : Cond.fieldLink RX6 59 "LinkedIslesModel" "heardB" "[I" ∈ wsX6_hear := by decide +kernel
theorem mX6_hear_62 : Cond.fieldLink RX6 62 "LinkedIslesModel" "heardHang" "[Z" ∈ wsX6_hear := by decide +kernel
theorem hdX6_hear : yX6_hear.cls ≠ "java/lang/invoke/MethodHandle" ∧ yX6_hear.cls ≠ "java/lang/invoke/VarHandle" ∧ (parseMethodDescriptor yX6_hear.desc).map (fun d => d.parameters.length) = some 3 := by decide +kernel
def fX6_hear (n : Nat) (r : Rf) (v0 : Nat) (v1 : Int32) (v2 : Int32) (v3 : Int32) (h : Hp) : Option (Int32 × Hp) :=
  (fX6_areTwo n r v0 v1 v2 h).bind (fun (x2 : Int32) => if x2 = 0 then (some ((-1000000001), h)) else (if (h.1 v0 28) = 6 then (some ((-1000000004), h)) else (ck (h.1 v0 28) 6 (lE (pI h (r v0 29) (Int32.toNatClampNeg (h.1 v0 28)) v1) (fun (h6 : Hp) => ck (h6.1 v0 28) 6 (lE (pI h6 (r v0 30) (Int32.toNatClampNeg (h6.1 v0 28)) v2) (fun (h8 : Hp) => ck (h8.1 v0 28) 6 (lE (pI h8 (r v0 31) (Int32.toNatClampNeg (h8.1 v0 28)) (vp_nar .boolean v3)) (fun (h10 : Hp) => lE (pI h10 v0 28 ((h10.1 v0 28) + 1)) (fun (h11 : Hp) => some ((h11.1 v0 28), h11)))))))))))
set_option maxHeartbeats 4000000 in
set_option maxRecDepth 100000 in
theorem uX6_hear {S : Shp} {n : Nat} {r : Rf} {v0 : Nat} {v1 : Int32} {v2 : Int32} {v3 : Int32} {h : Hp} {o : (Int32 × Hp)} (hW : WF S r) (hv0 : S[v0]? = some (6, 38)) (hf : fX6_hear n r v0 v1 v2 v3 h = some o) : GX6_hear S r r (some o.1, o.2) 0 [(0, .ref v0), (1, .int v1), (2, .int v2), (3, .int v3)] [] h := by
  unfold fX6_hear at hf
  refine g_aload_n (ps := 0) dX6_hear_0 rfl rfl ?_
  refine g_iload_n (ps := 1) dX6_hear_1 rfl rfl ?_
  refine g_iload_n (ps := 2) dX6_hear_2 rfl rfl ?_
  obtain ⟨x2, e1, hf⟩ := bd_s hf
  refine g_callVi (As := [.int v1, .int v2]) (n := 2) (kX6_areTwo hW hv0 e1) gX6_hear_X6_areTwo rfl ⟨rfl, rfl⟩ ⟨rfl, hdX6_areTwo⟩ ⟨Nat.le_of_ble_eq_true rfl, Nat.le_of_ble_eq_true rfl⟩ cf6 hv0 rfl rfl (Nat.le_of_ble_eq_true rfl) dX6_hear_3 ?_
  refine g_if_ne (tgt := 12) dX6_hear_6 (by decide) (fun c3 => ?_) (fun c3 => ?_)
  · have hf := if_f hf c3
    refine g_aload_n (ps := 0) dX6_hear_12 rfl rfl ?_
    refine g_getI cf6 hv0 nX6_hear_X6 (j := 28) (by decide) rfl mX6_hear_153 dX6_hear_13 ?_
    refine g_bipush (v := 6) dX6_hear_16 (by decide +kernel) ?_
    refine g_icmp_ne (tgt := 24) dX6_hear_18 (by decide) (fun c4 => ?_) (fun c4 => ?_)
    · have hf := if_f hf c4
      refine g_aload_n (ps := 0) dX6_hear_24 rfl rfl ?_
      refine g_getR cf6 hv0 nX6_hear_X6 (j := 29) (by decide) rfl mX6_hear_56 dX6_hear_25 ?_
      refine g_aload_n (ps := 0) dX6_hear_28 rfl rfl ?_
      refine g_getI cf6 hv0 nX6_hear_X6 (j := 28) (by decide) rfl mX6_hear_153 dX6_hear_29 ?_
      refine g_iload_n (ps := 1) dX6_hear_32 rfl rfl ?_
      obtain ⟨z5, hf⟩ := ck_s hf
      refine g_iast (hW _ _ _ hv0 29 _ rfl) z5 dX6_hear_33 ?_
      refine g_topH (fun h6 eh6 => ?_)
      have hf := lE_s hf eh6
      refine g_aload_n (ps := 0) dX6_hear_34 rfl rfl ?_
      refine g_getR cf6 hv0 nX6_hear_X6 (j := 30) (by decide) rfl mX6_hear_59 dX6_hear_35 ?_
      refine g_aload_n (ps := 0) dX6_hear_38 rfl rfl ?_
      refine g_getI cf6 hv0 nX6_hear_X6 (j := 28) (by decide) rfl mX6_hear_153 dX6_hear_39 ?_
      refine g_iload_n (ps := 2) dX6_hear_42 rfl rfl ?_
      obtain ⟨z7, hf⟩ := ck_s hf
      refine g_iast (hW _ _ _ hv0 30 _ rfl) z7 dX6_hear_43 ?_
      refine g_topH (fun h8 eh8 => ?_)
      have hf := lE_s hf eh8
      refine g_aload_n (ps := 0) dX6_hear_44 rfl rfl ?_
      refine g_getR cf6 hv0 nX6_hear_X6 (j := 31) (by decide) rfl mX6_hear_62 dX6_hear_45 ?_
      refine g_aload_n (ps := 0) dX6_hear_48 rfl rfl ?_
      refine g_getI cf6 hv0 nX6_hear_X6 (j := 28) (by decide) rfl mX6_hear_153 dX6_hear_49 ?_
      refine g_iload_n (ps := 3) dX6_hear_52 rfl rfl ?_
      obtain ⟨z9, hf⟩ := ck_s hf
      refine g_zast (hW _ _ _ hv0 31 _ rfl) z9 dX6_hear_53 ?_
      refine g_topH (fun h10 eh10 => ?_)
      have hf := lE_s hf eh10
      refine g_aload_n (ps := 0) dX6_hear_54 rfl rfl ?_
      refine g_dup dX6_hear_55 rfl ?_
      refine g_getI cf6 hv0 nX6_hear_X6 (j := 28) (by decide) rfl mX6_hear_153 dX6_hear_56 ?_
      refine g_iconst (v := 1) dX6_hear_59 (by decide +kernel) ?_
      refine g_iadd dX6_hear_60 ?_
      refine g_putI cf6 hv0 nX6_hear_X6 (j := 28) (by decide) rfl mX6_hear_153 rfl dX6_hear_61 ?_
      refine g_topH (fun h11 eh11 => ?_)
      have hf := lE_s hf eh11
      refine g_aload_n (ps := 0) dX6_hear_64 rfl rfl ?_
      refine g_getI cf6 hv0 nX6_hear_X6 (j := 28) (by decide) rfl mX6_hear_153 dX6_hear_65 ?_
      have hf := Option.some.inj hf
      subst hf
      exact g_iret dX6_hear_68
    · have hf := if_t hf c4
      refine g_ldc (v := (-1000000004)) mX6_hear_90 dX6_hear_21 ?_
      have hf := Option.some.inj hf
      subst hf
      exact g_iret dX6_hear_23
  · have hf := if_t hf c3
    refine g_ldc (v := (-1000000001)) mX6_hear_176 dX6_hear_9 ?_
    have hf := Option.some.inj hf
    subst hf
    exact g_iret dX6_hear_11
theorem kX6_hear {S : Shp} {n : Nat} {r : Rf} {v0 : Nat} {v1 : Int32} {v2 : Int32} {v3 : Int32} {h : Hp} {o : (Int32 × Hp)} (hW : WF S r) (hv0 : S[v0]? = some (6, 38)) (hf : fX6_hear n r v0 v1 v2 v3 h = some o) : CTi yX6_hear wsX6_hear rmX6_hear S r [.ref v0, .int v1, .int v2, .int v3] h r o.1 o.2 :=
  cti_of rfl (by decide +kernel) rfl (Nat.le_of_ble_eq_true rfl) rfl (uX6_hear hW hv0 hf)
/-! X6_hangs hangs -/
def rmX6_hangs : Room := { frames := 3, cells := 0, slots := 0, locals := 69 }
abbrev GX6_hangs (S : Shp) (r r' : Rf) (out : Option Int32 × Hp) (pc : Nat) (L : List (Nat × Value)) (st : List Value) (h : Hp) : Prop := G RX6 cX6_hangs 4 (some .boolean) wsX6_hangs rmX6_hangs S r r' out pc L st h
theorem nX6_hangs_X6 : ∀ w ∈ wsX60, w ∈ wsX6_hangs := by decide +kernel
theorem mX6_hangs_47 : Cond.fieldLink RX6 47 "LinkedIslesModel" "now" "[I" ∈ wsX6_hangs := by decide +kernel
theorem hdX6_hangs : yX6_hangs.cls ≠ "java/lang/invoke/MethodHandle" ∧ yX6_hangs.cls ≠ "java/lang/invoke/VarHandle" ∧ (parseMethodDescriptor yX6_hangs.desc).map (fun d => d.parameters.length) = some 3 := by decide +kernel
def fX6_hangs (n : Nat) (r : Rf) (v0 : Nat) (v1 : Int32) (v2 : Int32) (v3 : Int32) (h : Hp) : Option Int32 :=
  ck 0 16 ((fX6_reached n r v0 v1 ((h.1 (r v0 22) (Int32.toNatClampNeg 0)) &&& ((1 <<< (v3 &&& 31)) ^^^ (-1))) h).bind (fun (x3 : Int32) => (fX6_has n r x3 v2 h).bind (fun (x5 : Int32) => cb x5 (some x5))))
set_option maxHeartbeats 4000000 in
set_option maxRecDepth 100000 in
theorem uX6_hangs {S : Shp} {n : Nat} {r : Rf} {v0 : Nat} {v1 : Int32} {v2 : Int32} {v3 : Int32} {h : Hp} {o : Int32} (hW : WF S r) (hv0 : S[v0]? = some (6, 38)) (hf : fX6_hangs n r v0 v1 v2 v3 h = some o) : GX6_hangs S r r (some o, h) 0 [(0, .ref v0), (1, .int v1), (2, .int v2), (3, .int v3)] [] h := by
  unfold fX6_hangs at hf
  refine g_aload_n (ps := 0) dX6_hangs_0 rfl rfl ?_
  refine g_iload_n (ps := 1) dX6_hangs_1 rfl rfl ?_
  refine g_aload_n (ps := 0) dX6_hangs_2 rfl rfl ?_
  refine g_getR cf6 hv0 nX6_hangs_X6 (j := 22) (by decide) rfl mX6_hangs_47 dX6_hangs_3 ?_
  refine g_iconst (v := 0) dX6_hangs_6 (by decide +kernel) ?_
  obtain ⟨z1, hf⟩ := ck_s hf
  refine g_iald (hW _ _ _ hv0 22 _ rfl) z1 dX6_hangs_7 ?_
  refine g_iconst (v := 1) dX6_hangs_8 (by decide +kernel) ?_
  refine g_iload_n (ps := 3) dX6_hangs_9 rfl rfl ?_
  refine g_ishl dX6_hangs_10 ?_
  refine g_iconst (v := (-1)) dX6_hangs_11 (by decide +kernel) ?_
  refine g_ixor dX6_hangs_12 ?_
  refine g_iand dX6_hangs_13 ?_
  obtain ⟨x3, e2, hf⟩ := bd_s hf
  refine g_callVi (As := [.int v1, .int ((h.1 (r v0 22) (Int32.toNatClampNeg 0)) &&& ((1 <<< (v3 &&& 31)) ^^^ (-1)))]) (n := 2) (kX6_reached hW hv0 e2) gX6_hangs_X6_reached rfl ⟨rfl, rfl⟩ ⟨rfl, hdX6_reached⟩ ⟨Nat.le_of_ble_eq_true rfl, Nat.le_of_ble_eq_true rfl⟩ cf6 hv0 rfl rfl (Nat.le_of_ble_eq_true rfl) dX6_hangs_14 ?_
  refine g_iload_n (ps := 2) dX6_hangs_17 rfl rfl ?_
  obtain ⟨x5, e4, hf⟩ := bd_s hf
  refine g_callSi (As := [.int x3, .int v2]) (n := 2) (kX6_has hW  e4) gX6_hangs_X6_has rfl ⟨rfl, rfl⟩ hdX6_has ⟨Nat.le_of_ble_eq_true rfl, Nat.le_of_ble_eq_true rfl⟩ rfl rfl (Nat.le_of_ble_eq_true rfl) dX6_hangs_18 ?_
  obtain ⟨z6, hf⟩ := cb_s hf
  have hf := Option.some.inj hf
  subst hf
  exact g_zret z6 dX6_hangs_21
theorem kX6_hangs {S : Shp} {n : Nat} {r : Rf} {v0 : Nat} {v1 : Int32} {v2 : Int32} {v3 : Int32} {h : Hp} {o : Int32} (hW : WF S r) (hv0 : S[v0]? = some (6, 38)) (hf : fX6_hangs n r v0 v1 v2 v3 h = some o) : CTi yX6_hangs wsX6_hangs rmX6_hangs S r [.ref v0, .int v1, .int v2, .int v3] h r o h :=
  cti_of rfl (by decide +kernel) rfl (Nat.le_of_ble_eq_true rfl) rfl (uX6_hangs hW hv0 hf)
/-! X6_suspects suspects -/
def rmX6_suspects : Room := { frames := 4, cells := 0, slots := 0, locals := 92 }
abbrev GX6_suspects (S : Shp) (r r' : Rf) (out : Option Int32 × Hp) (pc : Nat) (L : List (Nat × Value)) (st : List Value) (h : Hp) : Prop := G RX6 cX6_suspects 5 (some .int) wsX6_suspects rmX6_suspects S r r' out pc L st h
theorem nX6_suspects_X6 : ∀ w ∈ wsX60, w ∈ wsX6_suspects := by decide +kernel
theorem mX6_suspects_153 : Cond.fieldLink RX6 153 "LinkedIslesModel" "heardMany" "I" ∈ wsX6_suspects := by decide +kernel
theorem mX6_suspects_47 : Cond.fieldLink RX6 47 "LinkedIslesModel" "now" "[I" ∈ wsX6_suspects := by decide +kernel
theorem mX6_suspects_56 : Cond.fieldLink RX6 56 "LinkedIslesModel" "heardA" "[I" ∈ wsX6_suspects := by decide +kernel
theorem mX6_suspects_59 : Cond.fieldLink RX6 59 "LinkedIslesModel" "heardB" "[I" ∈ wsX6_suspects := by decide +kernel
theorem mX6_suspects_62 : Cond.fieldLink RX6 62 "LinkedIslesModel" "heardHang" "[Z" ∈ wsX6_suspects := by decide +kernel
theorem hdX6_suspects : yX6_suspects.cls ≠ "java/lang/invoke/MethodHandle" ∧ yX6_suspects.cls ≠ "java/lang/invoke/VarHandle" ∧ (parseMethodDescriptor yX6_suspects.desc).map (fun d => d.parameters.length) = some 0 := by decide +kernel
def bX6_suspects_38 (n : Nat) (r : Rf) (v0 : Nat) (v1 : Int32) (v2 : Int32) (v3 : Int32) (v4 : Int32) (h : Hp) : Option ((Int32 × Int32) ⊕ (Int32)) :=
  if (h.1 v0 28) ≤ v4 then (some (.inr v3)) else (if v3 = 0 then (some (.inr v3)) else (ck v4 6 (ck v4 6 ((fX6_hangs n r v0 (h.1 (r v0 29) (Int32.toNatClampNeg v4)) (h.1 (r v0 30) (Int32.toNatClampNeg v4)) v2 h).bind (fun (x8 : Int32) => ck v4 6 (if x8 = (h.1 (r v0 31) (Int32.toNatClampNeg v4)) then (lE (v4 + 1) (fun (x12 : Int32) => some (.inl (1, x12)))) else (lE (v4 + 1) (fun (x11 : Int32) => some (.inl (0, x11))))))))))
def jX6_suspects_92 (n : Nat) (r : Rf) (v0 : Nat) (v1 : Int32) (v2 : Int32) (v3 : Int32)  (h : Hp) : Option ((Int32 × Int32) ⊕ (Int32)) :=
  if v3 = 0 then (lE ((v1 ||| 0)) (fun (x14 : Int32) => lE (v2 + 1) (fun (x15 : Int32) => some (.inl (x14, x15))))) else (lE ((v1 ||| (1 <<< (v2 &&& 31)))) (fun (x16 : Int32) => lE (v2 + 1) (fun (x17 : Int32) => some (.inl (x16, x17)))))
def lX6_suspects_38 (n : Nat) (r : Rf) (v0 : Nat) (v1 : Int32) (v2 : Int32) (v3 : Int32) (v4 : Int32) (h : Hp) : Option ((Int32 × Int32) ⊕ (Int32)) :=
  (it (fun (s : Int32 × Int32) => bX6_suspects_38 n r v0 v1 v2 s.1 s.2 h) n (v3, v4)).bind (fun z => jX6_suspects_92 n r v0 v1 v2 z  h)
def bX6_suspects_4 (n : Nat) (r : Rf) (v0 : Nat) (v1 : Int32) (v2 : Int32) (h : Hp) : Option ((Int32 × Int32) ⊕ (Int32)) :=
  if 10 < v2 then (some (.inr v1)) else (if v2 = 10 then (lX6_suspects_38 n r v0 v1 v2 1 0 h) else (ck 0 16 ((fX6_has n r (h.1 (r v0 22) (Int32.toNatClampNeg 0)) v2 h).bind (fun (x20 : Int32) => if x20 = 0 then (lX6_suspects_38 n r v0 v1 v2 0 0 h) else (lX6_suspects_38 n r v0 v1 v2 1 0 h)))))
def lX6_suspects_4 (n : Nat) (r : Rf) (v0 : Nat) (v1 : Int32) (v2 : Int32) (h : Hp) : Option Int32 :=
  (it (fun (s : Int32 × Int32) => bX6_suspects_4 n r v0 s.1 s.2 h) n (v1, v2)).bind (fun z => some z)
def fX6_suspects (n : Nat) (r : Rf) (v0 : Nat) (h : Hp) : Option Int32 :=
  lX6_suspects_4 n r v0 0 0 h
set_option maxHeartbeats 4000000 in
set_option maxRecDepth 100000 in
theorem ubX6_suspects_38 {S : Shp} {n : Nat} {r : Rf} {out : Option Int32 × Hp} {r' : Rf} {v0 : Nat} {v1 : Int32} {v2 : Int32} {v3 : Int32} {v4 : Int32}  {h : Hp} {w : (Int32 × Int32) ⊕ (Int32)} (hW : WF S r) (hv0 : S[v0]? = some (6, 38)) (hf : bX6_suspects_38 n r v0 v1 v2 v3 v4 h = some w) (hk : ∀ y, w = .inl y → GX6_suspects S r r' out 38 [(0, .ref v0), (1, .int v1), (2, .int v2), (3, .int (y.1)), (4, .int (y.2))] [] h) (he : ∀ z, w = .inr z → GX6_suspects S r r' out 92 [(0, .ref v0), (1, .int v1), (2, .int v2), (3, .int (z))] [] h) : GX6_suspects S r r' out 38 [(0, .ref v0), (1, .int v1), (2, .int v2), (3, .int v3), (4, .int v4)] [] h := by
  unfold bX6_suspects_38 at hf
  refine g_iload (ps := 4) dX6_suspects_38 rfl ?_
  refine g_aload_n (ps := 0) dX6_suspects_40 rfl rfl ?_
  refine g_getI cf6 hv0 nX6_suspects_X6 (j := 28) (by decide) rfl mX6_suspects_153 dX6_suspects_41 ?_
  refine g_icmp_ge (tgt := 92) dX6_suspects_44 (by decide) (fun c3 => ?_) (fun c3 => ?_)
  · have hf := if_t hf c3
    exact g_pick [0, 1, 2, 3] rfl (he _ (Option.some.inj hf).symm)
  · have hf := if_f hf c3
    refine g_iload_n (ps := 3) dX6_suspects_47 rfl rfl ?_
    refine g_if_eq (tgt := 92) dX6_suspects_48 (by decide) (fun c4 => ?_) (fun c4 => ?_)
    · have hf := if_t hf c4
      exact g_pick [0, 1, 2, 3] rfl (he _ (Option.some.inj hf).symm)
    · have hf := if_f hf c4
      refine g_aload_n (ps := 0) dX6_suspects_51 rfl rfl ?_
      refine g_aload_n (ps := 0) dX6_suspects_52 rfl rfl ?_
      refine g_getR cf6 hv0 nX6_suspects_X6 (j := 29) (by decide) rfl mX6_suspects_56 dX6_suspects_53 ?_
      refine g_iload (ps := 4) dX6_suspects_56 rfl ?_
      obtain ⟨z5, hf⟩ := ck_s hf
      refine g_iald (hW _ _ _ hv0 29 _ rfl) z5 dX6_suspects_58 ?_
      refine g_aload_n (ps := 0) dX6_suspects_59 rfl rfl ?_
      refine g_getR cf6 hv0 nX6_suspects_X6 (j := 30) (by decide) rfl mX6_suspects_59 dX6_suspects_60 ?_
      refine g_iload (ps := 4) dX6_suspects_63 rfl ?_
      obtain ⟨z6, hf⟩ := ck_s hf
      refine g_iald (hW _ _ _ hv0 30 _ rfl) z6 dX6_suspects_65 ?_
      refine g_iload_n (ps := 2) dX6_suspects_66 rfl rfl ?_
      obtain ⟨x8, e7, hf⟩ := bd_s hf
      refine g_callVi (As := [.int (h.1 (r v0 29) (Int32.toNatClampNeg v4)), .int (h.1 (r v0 30) (Int32.toNatClampNeg v4)), .int v2]) (n := 3) (kX6_hangs hW hv0 e7) gX6_suspects_X6_hangs rfl ⟨rfl, rfl⟩ ⟨rfl, hdX6_hangs⟩ ⟨Nat.le_of_ble_eq_true rfl, Nat.le_of_ble_eq_true rfl⟩ cf6 hv0 rfl rfl (Nat.le_of_ble_eq_true rfl) dX6_suspects_67 ?_
      refine g_aload_n (ps := 0) dX6_suspects_70 rfl rfl ?_
      refine g_getR cf6 hv0 nX6_suspects_X6 (j := 31) (by decide) rfl mX6_suspects_62 dX6_suspects_71 ?_
      refine g_iload (ps := 4) dX6_suspects_74 rfl ?_
      obtain ⟨z9, hf⟩ := ck_s hf
      refine g_zald (hW _ _ _ hv0 31 _ rfl) z9 dX6_suspects_76 ?_
      refine g_icmp_ne (tgt := 84) dX6_suspects_77 (by decide) (fun c10 => ?_) (fun c10 => ?_)
      · have hf := if_f hf c10
        refine g_iconst (v := 0) dX6_suspects_84 (by decide +kernel) ?_
        refine g_istore_n (L' := [(3, .int 0), (0, .ref v0), (1, .int v1), (2, .int v2), (4, .int v4)]) dX6_suspects_85 rfl (by decide) rfl ?_
        obtain ⟨x11, ex11⟩ : ∃ y : Int32, y = v4 + 1 := ⟨_, rfl⟩
        have hf := lE_s hf ex11
        refine g_iinc (ps := 4) (v := x11) (L' := [(4, .int x11), (3, .int 0), (0, .ref v0), (1, .int v1), (2, .int v2)]) dX6_suspects_86 rfl (by rw [ex11]; rfl) (by decide) rfl ?_
        refine g_goto (tgt := 38) dX6_suspects_89 (by decide) ?_
        exact g_pick [2, 3, 4, 1, 0] rfl (hk _ (Option.some.inj hf).symm)
      · have hf := if_t hf c10
        refine g_iconst (v := 1) dX6_suspects_80 (by decide +kernel) ?_
        refine g_goto (tgt := 85) dX6_suspects_81 (by decide) ?_
        refine g_istore_n (L' := [(3, .int 1), (0, .ref v0), (1, .int v1), (2, .int v2), (4, .int v4)]) dX6_suspects_85 rfl (by decide) rfl ?_
        obtain ⟨x12, ex12⟩ : ∃ y : Int32, y = v4 + 1 := ⟨_, rfl⟩
        have hf := lE_s hf ex12
        refine g_iinc (ps := 4) (v := x12) (L' := [(4, .int x12), (3, .int 1), (0, .ref v0), (1, .int v1), (2, .int v2)]) dX6_suspects_86 rfl (by rw [ex12]; rfl) (by decide) rfl ?_
        refine g_goto (tgt := 38) dX6_suspects_89 (by decide) ?_
        exact g_pick [2, 3, 4, 1, 0] rfl (hk _ (Option.some.inj hf).symm)
set_option maxHeartbeats 4000000 in
set_option maxRecDepth 100000 in
theorem ujX6_suspects_92 {S : Shp} {n : Nat} {r : Rf} {out : Option Int32 × Hp} {r' : Rf} {v0 : Nat} {v1 : Int32} {v2 : Int32} {v3 : Int32}  {h : Hp} {w : (Int32 × Int32) ⊕ (Int32)} (hW : WF S r) (hv0 : S[v0]? = some (6, 38)) (hf : jX6_suspects_92 n r v0 v1 v2 v3  h = some w) (hk : ∀ y, w = .inl y → GX6_suspects S r r' out 4 [(0, .ref v0), (1, .int (y.1)), (2, .int (y.2))] [] h) (he : ∀ z, w = .inr z → GX6_suspects S r r' out 112 [(0, .ref v0), (1, .int (z))] [] h) : GX6_suspects S r r' out 92 [(0, .ref v0), (1, .int v1), (2, .int v2), (3, .int v3)] [] h := by
  unfold jX6_suspects_92 at hf
  refine g_iload_n (ps := 1) dX6_suspects_92 rfl rfl ?_
  refine g_iload_n (ps := 3) dX6_suspects_93 rfl rfl ?_
  refine g_if_eq (tgt := 103) dX6_suspects_94 (by decide) (fun c13 => ?_) (fun c13 => ?_)
  · have hf := if_t hf c13
    refine g_iconst (v := 0) dX6_suspects_103 (by decide +kernel) ?_
    refine g_ior dX6_suspects_104 ?_
    refine g_topi (fun x14 ex14 => ?_)
    have hf := lE_s hf ex14
    refine g_istore_n (L' := [(1, .int x14), (0, .ref v0), (2, .int v2), (3, .int v3)]) dX6_suspects_105 rfl (by decide) rfl ?_
    obtain ⟨x15, ex15⟩ : ∃ y : Int32, y = v2 + 1 := ⟨_, rfl⟩
    have hf := lE_s hf ex15
    refine g_iinc (ps := 2) (v := x15) (L' := [(2, .int x15), (1, .int x14), (0, .ref v0), (3, .int v3)]) dX6_suspects_106 rfl (by rw [ex15]; rfl) (by decide) rfl ?_
    refine g_goto (tgt := 4) dX6_suspects_109 (by decide) ?_
    exact g_pick [2, 1, 0] rfl (hk _ (Option.some.inj hf).symm)
  · have hf := if_f hf c13
    refine g_iconst (v := 1) dX6_suspects_97 (by decide +kernel) ?_
    refine g_iload_n (ps := 2) dX6_suspects_98 rfl rfl ?_
    refine g_ishl dX6_suspects_99 ?_
    refine g_goto (tgt := 104) dX6_suspects_100 (by decide) ?_
    refine g_ior dX6_suspects_104 ?_
    refine g_topi (fun x16 ex16 => ?_)
    have hf := lE_s hf ex16
    refine g_istore_n (L' := [(1, .int x16), (0, .ref v0), (2, .int v2), (3, .int v3)]) dX6_suspects_105 rfl (by decide) rfl ?_
    obtain ⟨x17, ex17⟩ : ∃ y : Int32, y = v2 + 1 := ⟨_, rfl⟩
    have hf := lE_s hf ex17
    refine g_iinc (ps := 2) (v := x17) (L' := [(2, .int x17), (1, .int x16), (0, .ref v0), (3, .int v3)]) dX6_suspects_106 rfl (by rw [ex17]; rfl) (by decide) rfl ?_
    refine g_goto (tgt := 4) dX6_suspects_109 (by decide) ?_
    exact g_pick [2, 1, 0] rfl (hk _ (Option.some.inj hf).symm)
set_option maxHeartbeats 4000000 in
set_option maxRecDepth 100000 in
theorem ulX6_suspects_38 {S : Shp} {n : Nat} {r : Rf} {out : Option Int32 × Hp} {r' : Rf} {v0 : Nat} {v1 : Int32} {v2 : Int32} {v3 : Int32} {v4 : Int32}  {h : Hp} {w : (Int32 × Int32) ⊕ (Int32)} (hW : WF S r) (hv0 : S[v0]? = some (6, 38)) (hf : lX6_suspects_38 n r v0 v1 v2 v3 v4 h = some w) (hk : ∀ y, w = .inl y → GX6_suspects S r r' out 4 [(0, .ref v0), (1, .int (y.1)), (2, .int (y.2))] [] h) (he : ∀ z, w = .inr z → GX6_suspects S r r' out 112 [(0, .ref v0), (1, .int (z))] [] h) : GX6_suspects S r r' out 38 [(0, .ref v0), (1, .int v1), (2, .int v2), (3, .int v3), (4, .int v4)] [] h := by
  unfold lX6_suspects_38 at hf
  obtain ⟨z0, ei, hf⟩ := bd_s hf
  refine it_ind (P := fun (s : Int32 × Int32) => GX6_suspects S r r' out 38 [(0, .ref v0), (1, .int v1), (2, .int v2), (3, .int (s.1)), (4, .int (s.2))] [] h) (fun s w hb hk2 he2 => ?_) n _ ei
  refine ubX6_suspects_38 (out := out) (r' := r') hW hv0 hb hk2 (fun z hz => ?_)
  have hz := he2 z hz
  subst hz
  exact g_pick [0, 1, 2, 3] rfl (ujX6_suspects_92 hW hv0 hf hk he)
set_option maxHeartbeats 4000000 in
set_option maxRecDepth 100000 in
theorem ubX6_suspects_4 {S : Shp} {n : Nat} {r : Rf} {out : Option Int32 × Hp} {r' : Rf} {v0 : Nat} {v1 : Int32} {v2 : Int32}  {h : Hp} {w : (Int32 × Int32) ⊕ (Int32)} (hW : WF S r) (hv0 : S[v0]? = some (6, 38)) (hf : bX6_suspects_4 n r v0 v1 v2 h = some w) (hk : ∀ y, w = .inl y → GX6_suspects S r r' out 4 [(0, .ref v0), (1, .int (y.1)), (2, .int (y.2))] [] h) (he : ∀ z, w = .inr z → GX6_suspects S r r' out 112 [(0, .ref v0), (1, .int (z))] [] h) : GX6_suspects S r r' out 4 [(0, .ref v0), (1, .int v1), (2, .int v2)] [] h := by
  unfold bX6_suspects_4 at hf
  refine g_iload_n (ps := 2) dX6_suspects_4 rfl rfl ?_
  refine g_bipush (v := 10) dX6_suspects_5 (by decide +kernel) ?_
  refine g_icmp_gt (tgt := 112) dX6_suspects_7 (by decide) (fun c1 => ?_) (fun c1 => ?_)
  · have hf := if_t hf c1
    exact g_pick [0, 1] rfl (he _ (Option.some.inj hf).symm)
  · have hf := if_f hf c1
    refine g_iload_n (ps := 2) dX6_suspects_10 rfl rfl ?_
    refine g_bipush (v := 10) dX6_suspects_11 (by decide +kernel) ?_
    refine g_icmp_eq (tgt := 29) dX6_suspects_13 (by decide) (fun c2 => ?_) (fun c2 => ?_)
    · have hf := if_t hf c2
      refine g_iconst (v := 1) dX6_suspects_29 (by decide +kernel) ?_
      refine g_goto (tgt := 34) dX6_suspects_30 (by decide) ?_
      refine g_istore_n (L' := [(3, .int 1), (0, .ref v0), (1, .int v1), (2, .int v2)]) dX6_suspects_34 rfl (by decide) rfl ?_
      refine g_iconst (v := 0) dX6_suspects_35 (by decide +kernel) ?_
      refine g_istore (L' := [(4, .int 0), (3, .int 1), (0, .ref v0), (1, .int v1), (2, .int v2)]) dX6_suspects_36 (by decide) rfl ?_
      exact g_pick [2, 3, 4, 1, 0] rfl (ulX6_suspects_38 hW hv0 hf hk he)
    · have hf := if_f hf c2
      refine g_aload_n (ps := 0) dX6_suspects_16 rfl rfl ?_
      refine g_getR cf6 hv0 nX6_suspects_X6 (j := 22) (by decide) rfl mX6_suspects_47 dX6_suspects_17 ?_
      refine g_iconst (v := 0) dX6_suspects_20 (by decide +kernel) ?_
      obtain ⟨z18, hf⟩ := ck_s hf
      refine g_iald (hW _ _ _ hv0 22 _ rfl) z18 dX6_suspects_21 ?_
      refine g_iload_n (ps := 2) dX6_suspects_22 rfl rfl ?_
      obtain ⟨x20, e19, hf⟩ := bd_s hf
      refine g_callSi (As := [.int (h.1 (r v0 22) (Int32.toNatClampNeg 0)), .int v2]) (n := 2) (kX6_has hW  e19) gX6_suspects_X6_has rfl ⟨rfl, rfl⟩ hdX6_has ⟨Nat.le_of_ble_eq_true rfl, Nat.le_of_ble_eq_true rfl⟩ rfl rfl (Nat.le_of_ble_eq_true rfl) dX6_suspects_23 ?_
      refine g_if_eq (tgt := 33) dX6_suspects_26 (by decide) (fun c21 => ?_) (fun c21 => ?_)
      · have hf := if_t hf c21
        refine g_iconst (v := 0) dX6_suspects_33 (by decide +kernel) ?_
        refine g_istore_n (L' := [(3, .int 0), (0, .ref v0), (1, .int v1), (2, .int v2)]) dX6_suspects_34 rfl (by decide) rfl ?_
        refine g_iconst (v := 0) dX6_suspects_35 (by decide +kernel) ?_
        refine g_istore (L' := [(4, .int 0), (3, .int 0), (0, .ref v0), (1, .int v1), (2, .int v2)]) dX6_suspects_36 (by decide) rfl ?_
        exact g_pick [2, 3, 4, 1, 0] rfl (ulX6_suspects_38 hW hv0 hf hk he)
      · have hf := if_f hf c21
        refine g_iconst (v := 1) dX6_suspects_29 (by decide +kernel) ?_
        refine g_goto (tgt := 34) dX6_suspects_30 (by decide) ?_
        refine g_istore_n (L' := [(3, .int 1), (0, .ref v0), (1, .int v1), (2, .int v2)]) dX6_suspects_34 rfl (by decide) rfl ?_
        refine g_iconst (v := 0) dX6_suspects_35 (by decide +kernel) ?_
        refine g_istore (L' := [(4, .int 0), (3, .int 1), (0, .ref v0), (1, .int v1), (2, .int v2)]) dX6_suspects_36 (by decide) rfl ?_
        exact g_pick [2, 3, 4, 1, 0] rfl (ulX6_suspects_38 hW hv0 hf hk he)
set_option maxHeartbeats 4000000 in
set_option maxRecDepth 100000 in
theorem ulX6_suspects_4 {S : Shp} {n : Nat} {r : Rf} {v0 : Nat} {v1 : Int32} {v2 : Int32}  {h : Hp} {o : Int32} (hW : WF S r) (hv0 : S[v0]? = some (6, 38)) (hf : lX6_suspects_4 n r v0 v1 v2 h = some o)  : GX6_suspects S r r (some o, h) 4 [(0, .ref v0), (1, .int v1), (2, .int v2)] [] h := by
  unfold lX6_suspects_4 at hf
  obtain ⟨z0, ei, hf⟩ := bd_s hf
  refine it_ind (P := fun (s : Int32 × Int32) => GX6_suspects S r r (some o, h) 4 [(0, .ref v0), (1, .int (s.1)), (2, .int (s.2))] [] h) (fun s w hb hk2 he2 => ?_) n _ ei
  refine ubX6_suspects_4 (out := (some o, h)) (r' := r) hW hv0 hb hk2 (fun z hz => ?_)
  have hz := he2 z hz
  subst hz
  refine g_iload_n (ps := 1) dX6_suspects_112 rfl rfl ?_
  have hf := Option.some.inj hf
  subst hf
  exact g_iret dX6_suspects_113
set_option maxHeartbeats 4000000 in
set_option maxRecDepth 100000 in
theorem uX6_suspects {S : Shp} {n : Nat} {r : Rf} {v0 : Nat} {h : Hp} {o : Int32} (hW : WF S r) (hv0 : S[v0]? = some (6, 38)) (hf : fX6_suspects n r v0 h = some o) : GX6_suspects S r r (some o, h) 0 [(0, .ref v0)] [] h := by
  unfold fX6_suspects at hf
  refine g_iconst (v := 0) dX6_suspects_0 (by decide +kernel) ?_
  refine g_istore_n (L' := [(1, .int 0), (0, .ref v0)]) dX6_suspects_1 rfl (by decide) rfl ?_
  refine g_iconst (v := 0) dX6_suspects_2 (by decide +kernel) ?_
  refine g_istore_n (L' := [(2, .int 0), (1, .int 0), (0, .ref v0)]) dX6_suspects_3 rfl (by decide) rfl ?_
  exact g_pick [2, 1, 0] rfl (ulX6_suspects_4 hW hv0 hf)
theorem kX6_suspects {S : Shp} {n : Nat} {r : Rf} {v0 : Nat} {h : Hp} {o : Int32} (hW : WF S r) (hv0 : S[v0]? = some (6, 38)) (hf : fX6_suspects n r v0 h = some o) : CTi yX6_suspects wsX6_suspects rmX6_suspects S r [.ref v0] h r o h :=
  cti_of rfl (by decide +kernel) rfl (Nat.le_of_ble_eq_true rfl) rfl (uX6_suspects hW hv0 hf)
