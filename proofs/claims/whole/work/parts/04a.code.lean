/-! X1_isThere isThere -/
def rmX1_isThere : Room := { frames := 0, cells := 0, slots := 0, locals := 0 }
abbrev GX1_isThere (S : Shp) (r r' : Rf) (out : Option Int32 × Hp) (pc : Nat) (L : List (Nat × Value)) (st : List Value) (h : Hp) : Prop := G RX1 cX1_isThere 1 (some .boolean) wsX1_isThere rmX1_isThere S r r' out pc L st h
theorem nX1_isThere_X1 : ∀ w ∈ wsX10, w ∈ wsX1_isThere := by decide +kernel
theorem mX1_isThere_39 : Cond.fieldLink RX1 39 "LinkedIsles$Chart" "islands" "I" ∈ wsX1_isThere := by decide +kernel
theorem hdX1_isThere : yX1_isThere.cls ≠ "java/lang/invoke/MethodHandle" ∧ yX1_isThere.cls ≠ "java/lang/invoke/VarHandle" ∧ (parseMethodDescriptor yX1_isThere.desc).map (fun d => d.parameters.length) = some 0 := by decide +kernel
def fX1_isThere (n : Nat) (r : Rf) (v0 : Nat) (h : Hp) : Option Int32 :=
  if (h.1 v0 9) ≤ 0 then (some 0) else (some 1)
set_option maxHeartbeats 4000000 in
set_option maxRecDepth 100000 in
theorem uX1_isThere {S : Shp} {n : Nat} {r : Rf} {v0 : Nat} {h : Hp} {o : Int32} (hW : WF S r) (hv0 : S[v0]? = some (1, 12)) (hf : fX1_isThere n r v0 h = some o) : GX1_isThere S r r (some o, h) 0 [(0, .ref v0)] [] h := by
  unfold fX1_isThere at hf
  refine g_aload_n (ps := 0) dX1_isThere_0 rfl rfl ?_
  refine g_getI cf1 hv0 nX1_isThere_X1 (j := 9) (by decide) rfl mX1_isThere_39 dX1_isThere_1 ?_
  refine g_if_le (tgt := 11) dX1_isThere_4 (by decide) (fun c1 => ?_) (fun c1 => ?_)
  · have hf := if_t hf c1
    refine g_iconst (v := 0) dX1_isThere_11 (by decide +kernel) ?_
    have hf := Option.some.inj hf
    subst hf
    exact g_zret (Or.inl rfl) dX1_isThere_12
  · have hf := if_f hf c1
    refine g_iconst (v := 1) dX1_isThere_7 (by decide +kernel) ?_
    refine g_goto (tgt := 12) dX1_isThere_8 (by decide) ?_
    have hf := Option.some.inj hf
    subst hf
    exact g_zret (Or.inr rfl) dX1_isThere_12
theorem kX1_isThere {S : Shp} {n : Nat} {r : Rf} {v0 : Nat} {h : Hp} {o : Int32} (hW : WF S r) (hv0 : S[v0]? = some (1, 12)) (hf : fX1_isThere n r v0 h = some o) : CTi yX1_isThere wsX1_isThere rmX1_isThere S r [.ref v0] h r o h :=
  cti_of rfl (by decide +kernel) rfl (Nat.le_of_ble_eq_true rfl) rfl (uX1_isThere hW hv0 hf)
/-! X0_begin begin -/
def rmX0_begin : Room := { frames := 1, cells := 0, slots := 0, locals := 20 }
abbrev GX0_begin (S : Shp) (r r' : Rf) (out : Option Int32 × Hp) (pc : Nat) (L : List (Nat × Value)) (st : List Value) (h : Hp) : Prop := G RX0 cX0_begin 3 none wsX0_begin rmX0_begin S r r' out pc L st h
theorem nX0_begin_X0 : ∀ w ∈ wsX00, w ∈ wsX0_begin := by decide +kernel
theorem nX0_begin_X1 : ∀ w ∈ wsX10, w ∈ wsX0_begin := by decide +kernel
theorem mX0_begin_15 : Cond.fieldLink RX0 15 "LinkedIsles$Bonds" "doneUp" "I" ∈ wsX0_begin := by decide +kernel
theorem mX0_begin_19 : Cond.fieldLink RX0 19 "LinkedIsles$Bonds" "turned" "I" ∈ wsX0_begin := by decide +kernel
theorem mX0_begin_22 : Cond.fieldLink RX0 22 "LinkedIsles$Bonds" "held" "I" ∈ wsX0_begin := by decide +kernel
theorem mX0_begin_25 : Cond.fieldLink RX0 25 "LinkedIsles$Bonds" "hours" "I" ∈ wsX0_begin := by decide +kernel
theorem mX0_begin_28 : Cond.fieldLink RX0 28 "LinkedIsles$Bonds" "silver" "I" ∈ wsX0_begin := by decide +kernel
theorem mX0_begin_31 : Cond.fieldLink RX0 31 "LinkedIsles$Bonds" "broke" "I" ∈ wsX0_begin := by decide +kernel
theorem mX0_begin_34 : Cond.fieldLink RX0 34 "LinkedIsles$Chart" "links" "I" ∈ wsX0_begin := by decide +kernel
theorem mX0_begin_9 : Cond.fieldLink RX0 9 "LinkedIsles$Bonds" "strain" "[I" ∈ wsX0_begin := by decide +kernel
theorem hdX0_begin : yX0_begin.cls ≠ "java/lang/invoke/MethodHandle" ∧ yX0_begin.cls ≠ "java/lang/invoke/VarHandle" ∧ (parseMethodDescriptor yX0_begin.desc).map (fun d => d.parameters.length) = some 1 := by decide +kernel
def bX0_begin_2 (n : Nat) (r : Rf) (v0 : Nat) (v1 : Nat) (v2 : Int32) (h : Hp) : Option ((Int32 × Hp) ⊕ (Hp)) :=
  if 10 ≤ v2 then (some (.inr h)) else (ck v2 10 (lE (pI h (r v0 0) (Int32.toNatClampNeg v2) 0) (fun (h3 : Hp) => lE (v2 + 1) (fun (x4 : Int32) => some (.inl (x4, h3))))))
def jX0_begin_61 (n : Nat) (r : Rf) (v0 : Nat) (v1 : Nat) (s0 : Int32) (h : Hp) : Option Hp :=
  lE (pI h v0 5 s0) (fun (h12 : Hp) => lE (pI h12 v0 6 0) (fun (h13 : Hp) => some h13))
def lX0_begin_2 (n : Nat) (r : Rf) (v0 : Nat) (v1 : Nat) (v2 : Int32) (h : Hp) : Option Hp :=
  (it (fun (s : Int32 × Hp) => bX0_begin_2 n r v0 v1 s.1 s.2) n (v2, h)).bind (fun z => lE (pI z v0 1 ((1 <<< ((z.1 v1 10) &&& 31)) - 1)) (fun (h5 : Hp) => lE (pI h5 v0 2 0) (fun (h6 : Hp) => lE (pI h6 v0 3 0) (fun (h7 : Hp) => lE (pI h7 v0 4 0) (fun (h8 : Hp) => (fX1_isThere n r v1 h8).bind (fun (x10 : Int32) => if x10 = 0 then (jX0_begin_61 n r v0 v1 0 h8) else (jX0_begin_61 n r v0 v1 3 h8)))))))
def fX0_begin (n : Nat) (r : Rf) (v0 : Nat) (v1 : Nat) (h : Hp) : Option Hp :=
  lX0_begin_2 n r v0 v1 0 h
set_option maxHeartbeats 4000000 in
set_option maxRecDepth 100000 in
theorem ubX0_begin_2 {S : Shp} {n : Nat} {r : Rf} {out : Option Int32 × Hp} {r' : Rf} {v0 : Nat} {v1 : Nat} {v2 : Int32}  {h : Hp} {w : (Int32 × Hp) ⊕ (Hp)} (hW : WF S r) (hv0 : S[v0]? = some (0, 7)) (hv1 : S[v1]? = some (1, 12)) (hf : bX0_begin_2 n r v0 v1 v2 h = some w) (hk : ∀ y, w = .inl y → GX0_begin S r r' out 2 [(0, .ref v0), (1, .ref v1), (2, .int (y.1))] [] (y.2)) (he : ∀ z, w = .inr z → GX0_begin S r r' out 21 [(0, .ref v0), (1, .ref v1)] [] (z)) : GX0_begin S r r' out 2 [(0, .ref v0), (1, .ref v1), (2, .int v2)] [] h := by
  unfold bX0_begin_2 at hf
  refine g_iload_n (ps := 2) dX0_begin_2 rfl rfl ?_
  refine g_bipush (v := 10) dX0_begin_3 (by decide +kernel) ?_
  refine g_icmp_ge (tgt := 21) dX0_begin_5 (by decide) (fun c1 => ?_) (fun c1 => ?_)
  · have hf := if_t hf c1
    exact g_pick [0, 1] rfl (he _ (Option.some.inj hf).symm)
  · have hf := if_f hf c1
    refine g_aload_n (ps := 0) dX0_begin_8 rfl rfl ?_
    refine g_getR cf0 hv0 nX0_begin_X0 (j := 0) (by decide) rfl mX0_begin_9 dX0_begin_9 ?_
    refine g_iload_n (ps := 2) dX0_begin_12 rfl rfl ?_
    refine g_iconst (v := 0) dX0_begin_13 (by decide +kernel) ?_
    obtain ⟨z2, hf⟩ := ck_s hf
    refine g_iast (hW _ _ _ hv0 0 _ rfl) z2 dX0_begin_14 ?_
    refine g_topH (fun h3 eh3 => ?_)
    have hf := lE_s hf eh3
    obtain ⟨x4, ex4⟩ : ∃ y : Int32, y = v2 + 1 := ⟨_, rfl⟩
    have hf := lE_s hf ex4
    refine g_iinc (ps := 2) (v := x4) (L' := [(2, .int x4), (0, .ref v0), (1, .ref v1)]) dX0_begin_15 rfl (by rw [ex4]; rfl) (by decide) rfl ?_
    refine g_goto (tgt := 2) dX0_begin_18 (by decide) ?_
    exact g_pick [1, 2, 0] rfl (hk _ (Option.some.inj hf).symm)
set_option maxHeartbeats 4000000 in
set_option maxRecDepth 100000 in
theorem ujX0_begin_61 {S : Shp} {n : Nat} {r : Rf} {v0 : Nat} {v1 : Nat} {s0 : Int32} {h : Hp} {o : Hp} (hW : WF S r) (hv0 : S[v0]? = some (0, 7)) (hv1 : S[v1]? = some (1, 12)) (hf : jX0_begin_61 n r v0 v1 s0 h = some o)  : GX0_begin S r r (none, o) 61 [(0, .ref v0), (1, .ref v1)] [.int s0, .ref v0] h := by
  unfold jX0_begin_61 at hf
  refine g_putI cf0 hv0 nX0_begin_X0 (j := 5) (by decide) rfl mX0_begin_28 rfl dX0_begin_61 ?_
  refine g_topH (fun h12 eh12 => ?_)
  have hf := lE_s hf eh12
  refine g_aload_n (ps := 0) dX0_begin_64 rfl rfl ?_
  refine g_iconst (v := 0) dX0_begin_65 (by decide +kernel) ?_
  refine g_putI cf0 hv0 nX0_begin_X0 (j := 6) (by decide) rfl mX0_begin_31 rfl dX0_begin_66 ?_
  refine g_topH (fun h13 eh13 => ?_)
  have hf := lE_s hf eh13
  have hf := Option.some.inj hf
  subst hf
  exact g_vret dX0_begin_69
set_option maxHeartbeats 4000000 in
set_option maxRecDepth 100000 in
theorem ulX0_begin_2 {S : Shp} {n : Nat} {r : Rf} {v0 : Nat} {v1 : Nat} {v2 : Int32}  {h : Hp} {o : Hp} (hW : WF S r) (hv0 : S[v0]? = some (0, 7)) (hv1 : S[v1]? = some (1, 12)) (hf : lX0_begin_2 n r v0 v1 v2 h = some o)  : GX0_begin S r r (none, o) 2 [(0, .ref v0), (1, .ref v1), (2, .int v2)] [] h := by
  unfold lX0_begin_2 at hf
  obtain ⟨z0, ei, hf⟩ := bd_s hf
  refine it_ind (P := fun (s : Int32 × Hp) => GX0_begin S r r (none, o) 2 [(0, .ref v0), (1, .ref v1), (2, .int (s.1))] [] (s.2)) (fun s w hb hk2 he2 => ?_) n _ ei
  refine ubX0_begin_2 (out := (none, o)) (r' := r) hW hv0 hv1 hb hk2 (fun z hz => ?_)
  have hz := he2 z hz
  subst hz
  refine g_aload_n (ps := 0) dX0_begin_21 rfl rfl ?_
  refine g_iconst (v := 1) dX0_begin_22 (by decide +kernel) ?_
  refine g_aload_n (ps := 1) dX0_begin_23 rfl rfl ?_
  refine g_getI cf1 hv1 nX0_begin_X1 (j := 10) (by decide) rfl mX0_begin_34 dX0_begin_24 ?_
  refine g_ishl dX0_begin_27 ?_
  refine g_iconst (v := 1) dX0_begin_28 (by decide +kernel) ?_
  refine g_isub dX0_begin_29 ?_
  refine g_putI cf0 hv0 nX0_begin_X0 (j := 1) (by decide) rfl mX0_begin_15 rfl dX0_begin_30 ?_
  refine g_topH (fun h5 eh5 => ?_)
  have hf := lE_s hf eh5
  refine g_aload_n (ps := 0) dX0_begin_33 rfl rfl ?_
  refine g_iconst (v := 0) dX0_begin_34 (by decide +kernel) ?_
  refine g_putI cf0 hv0 nX0_begin_X0 (j := 2) (by decide) rfl mX0_begin_19 rfl dX0_begin_35 ?_
  refine g_topH (fun h6 eh6 => ?_)
  have hf := lE_s hf eh6
  refine g_aload_n (ps := 0) dX0_begin_38 rfl rfl ?_
  refine g_iconst (v := 0) dX0_begin_39 (by decide +kernel) ?_
  refine g_putI cf0 hv0 nX0_begin_X0 (j := 3) (by decide) rfl mX0_begin_22 rfl dX0_begin_40 ?_
  refine g_topH (fun h7 eh7 => ?_)
  have hf := lE_s hf eh7
  refine g_aload_n (ps := 0) dX0_begin_43 rfl rfl ?_
  refine g_iconst (v := 0) dX0_begin_44 (by decide +kernel) ?_
  refine g_putI cf0 hv0 nX0_begin_X0 (j := 4) (by decide) rfl mX0_begin_25 rfl dX0_begin_45 ?_
  refine g_topH (fun h8 eh8 => ?_)
  have hf := lE_s hf eh8
  refine g_aload_n (ps := 0) dX0_begin_48 rfl rfl ?_
  refine g_aload_n (ps := 1) dX0_begin_49 rfl rfl ?_
  obtain ⟨x10, e9, hf⟩ := bd_s hf
  refine g_callVi (As := []) (n := 0) (kX1_isThere hW hv1 e9) gX0_begin_X1_isThere rfl ⟨rfl, rfl⟩ ⟨rfl, hdX1_isThere⟩ ⟨Nat.le_of_ble_eq_true rfl, Nat.le_of_ble_eq_true rfl⟩ cf1 hv1 rfl rfl (Nat.le_of_ble_eq_true rfl) dX0_begin_50 ?_
  refine g_if_eq (tgt := 60) dX0_begin_53 (by decide) (fun c11 => ?_) (fun c11 => ?_)
  · have hf := if_t hf c11
    refine g_iconst (v := 0) dX0_begin_60 (by decide +kernel) ?_
    exact g_pick [0, 1] rfl (ujX0_begin_61 hW hv0 hv1 hf)
  · have hf := if_f hf c11
    refine g_iconst (v := 3) dX0_begin_56 (by decide +kernel) ?_
    refine g_goto (tgt := 61) dX0_begin_57 (by decide) ?_
    exact g_pick [0, 1] rfl (ujX0_begin_61 hW hv0 hv1 hf)
set_option maxHeartbeats 4000000 in
set_option maxRecDepth 100000 in
theorem uX0_begin {S : Shp} {n : Nat} {r : Rf} {v0 : Nat} {v1 : Nat} {h : Hp} {o : Hp} (hW : WF S r) (hv0 : S[v0]? = some (0, 7)) (hv1 : S[v1]? = some (1, 12)) (hf : fX0_begin n r v0 v1 h = some o) : GX0_begin S r r (none, o) 0 [(0, .ref v0), (1, .ref v1)] [] h := by
  unfold fX0_begin at hf
  refine g_iconst (v := 0) dX0_begin_0 (by decide +kernel) ?_
  refine g_istore_n (L' := [(2, .int 0), (0, .ref v0), (1, .ref v1)]) dX0_begin_1 rfl (by decide) rfl ?_
  exact g_pick [1, 2, 0] rfl (ulX0_begin_2 hW hv0 hv1 hf)
theorem kX0_begin {S : Shp} {n : Nat} {r : Rf} {v0 : Nat} {v1 : Nat} {h : Hp} {o : Hp} (hW : WF S r) (hv0 : S[v0]? = some (0, 7)) (hv1 : S[v1]? = some (1, 12)) (hf : fX0_begin n r v0 v1 h = some o) : CTv yX0_begin wsX0_begin rmX0_begin S r [.ref v0, .ref v1] h r o :=
  ctv_of rfl (by decide +kernel) rfl (Nat.le_of_ble_eq_true rfl) rfl (uX0_begin hW hv0 hv1 hf)
/-! X0_become become -/
def rmX0_become : Room := { frames := 1, cells := 0, slots := 0, locals := 40 }
abbrev GX0_become (S : Shp) (r r' : Rf) (out : Option Int32 × Hp) (pc : Nat) (L : List (Nat × Value)) (st : List Value) (h : Hp) : Prop := G RX0 cX0_become 2 none wsX0_become rmX0_become S r r' out pc L st h
theorem nX0_become_X0 : ∀ w ∈ wsX00, w ∈ wsX0_become := by decide +kernel
theorem mX0_become_43 : Cond.methodLink RX0 43 arraycopyName ∈ wsX0_become := by decide +kernel
theorem mX0_become_43_n : Cond.native arraycopyName ∈ wsX0_become := by decide +kernel
theorem mX0_become_43_s : Cond.static arraycopyName ∈ wsX0_become := by decide +kernel
theorem mX0_become_43_i : Cond.initialized "java/lang/System" ∈ wsX0_become := by decide +kernel
theorem mX0_become_15 : Cond.fieldLink RX0 15 "LinkedIsles$Bonds" "doneUp" "I" ∈ wsX0_become := by decide +kernel
theorem mX0_become_19 : Cond.fieldLink RX0 19 "LinkedIsles$Bonds" "turned" "I" ∈ wsX0_become := by decide +kernel
theorem mX0_become_22 : Cond.fieldLink RX0 22 "LinkedIsles$Bonds" "held" "I" ∈ wsX0_become := by decide +kernel
theorem mX0_become_25 : Cond.fieldLink RX0 25 "LinkedIsles$Bonds" "hours" "I" ∈ wsX0_become := by decide +kernel
theorem mX0_become_28 : Cond.fieldLink RX0 28 "LinkedIsles$Bonds" "silver" "I" ∈ wsX0_become := by decide +kernel
theorem mX0_become_31 : Cond.fieldLink RX0 31 "LinkedIsles$Bonds" "broke" "I" ∈ wsX0_become := by decide +kernel
theorem mX0_become_9 : Cond.fieldLink RX0 9 "LinkedIsles$Bonds" "strain" "[I" ∈ wsX0_become := by decide +kernel
theorem hdX0_become : yX0_become.cls ≠ "java/lang/invoke/MethodHandle" ∧ yX0_become.cls ≠ "java/lang/invoke/VarHandle" ∧ (parseMethodDescriptor yX0_become.desc).map (fun d => d.parameters.length) = some 1 := by decide +kernel
def fX0_become (n : Nat) (r : Rf) (v0 : Nat) (v1 : Nat) (h : Hp) : Option Hp :=
  cy 0 0 10 10 10 (lE (pC h (r v0 0) (va_cpy (h.1 (r v1 0)) (h.1 (r v0 0)) (Int32.toNatClampNeg 0) (Int32.toNatClampNeg 0) (Int32.toNatClampNeg 10))) (fun (h2 : Hp) => lE (pI h2 v0 1 (h2.1 v1 1)) (fun (h3 : Hp) => lE (pI h3 v0 2 (h3.1 v1 2)) (fun (h4 : Hp) => lE (pI h4 v0 3 (h4.1 v1 3)) (fun (h5 : Hp) => lE (pI h5 v0 4 (h5.1 v1 4)) (fun (h6 : Hp) => lE (pI h6 v0 5 (h6.1 v1 5)) (fun (h7 : Hp) => lE (pI h7 v0 6 (h7.1 v1 6)) (fun (h8 : Hp) => some h8))))))))
set_option maxHeartbeats 4000000 in
set_option maxRecDepth 100000 in
theorem uX0_become {S : Shp} {n : Nat} {r : Rf} {v0 : Nat} {v1 : Nat} {h : Hp} {o : Hp} (hW : WF S r) (hv0 : S[v0]? = some (0, 7)) (hv1 : S[v1]? = some (0, 7)) (hf : fX0_become n r v0 v1 h = some o) : GX0_become S r r (none, o) 0 [(0, .ref v0), (1, .ref v1)] [] h := by
  unfold fX0_become at hf
  refine g_aload_n (ps := 1) dX0_become_0 rfl rfl ?_
  refine g_getR cf0 hv1 nX0_become_X0 (j := 0) (by decide) rfl mX0_become_9 dX0_become_1 ?_
  refine g_iconst (v := 0) dX0_become_4 (by decide +kernel) ?_
  refine g_aload_n (ps := 0) dX0_become_5 rfl rfl ?_
  refine g_getR cf0 hv0 nX0_become_X0 (j := 0) (by decide) rfl mX0_become_9 dX0_become_6 ?_
  refine g_iconst (v := 0) dX0_become_9 (by decide +kernel) ?_
  refine g_bipush (v := 10) dX0_become_10 (by decide +kernel) ?_
  obtain ⟨z1, hf⟩ := cy_s hf
  refine g_copy mX0_become_43 mX0_become_43_n mX0_become_43_s mX0_become_43_i (by decide) (Nat.le_of_ble_eq_true rfl) (hW _ _ _ hv1 0 _ rfl) (hW _ _ _ hv0 0 _ rfl) z1 dX0_become_12 ?_
  refine g_topH (fun h2 eh2 => ?_)
  have hf := lE_s hf eh2
  refine g_aload_n (ps := 0) dX0_become_15 rfl rfl ?_
  refine g_aload_n (ps := 1) dX0_become_16 rfl rfl ?_
  refine g_getI cf0 hv1 nX0_become_X0 (j := 1) (by decide) rfl mX0_become_15 dX0_become_17 ?_
  refine g_putI cf0 hv0 nX0_become_X0 (j := 1) (by decide) rfl mX0_become_15 rfl dX0_become_20 ?_
  refine g_topH (fun h3 eh3 => ?_)
  have hf := lE_s hf eh3
  refine g_aload_n (ps := 0) dX0_become_23 rfl rfl ?_
  refine g_aload_n (ps := 1) dX0_become_24 rfl rfl ?_
  refine g_getI cf0 hv1 nX0_become_X0 (j := 2) (by decide) rfl mX0_become_19 dX0_become_25 ?_
  refine g_putI cf0 hv0 nX0_become_X0 (j := 2) (by decide) rfl mX0_become_19 rfl dX0_become_28 ?_
  refine g_topH (fun h4 eh4 => ?_)
  have hf := lE_s hf eh4
  refine g_aload_n (ps := 0) dX0_become_31 rfl rfl ?_
  refine g_aload_n (ps := 1) dX0_become_32 rfl rfl ?_
  refine g_getI cf0 hv1 nX0_become_X0 (j := 3) (by decide) rfl mX0_become_22 dX0_become_33 ?_
  refine g_putI cf0 hv0 nX0_become_X0 (j := 3) (by decide) rfl mX0_become_22 rfl dX0_become_36 ?_
  refine g_topH (fun h5 eh5 => ?_)
  have hf := lE_s hf eh5
  refine g_aload_n (ps := 0) dX0_become_39 rfl rfl ?_
  refine g_aload_n (ps := 1) dX0_become_40 rfl rfl ?_
  refine g_getI cf0 hv1 nX0_become_X0 (j := 4) (by decide) rfl mX0_become_25 dX0_become_41 ?_
  refine g_putI cf0 hv0 nX0_become_X0 (j := 4) (by decide) rfl mX0_become_25 rfl dX0_become_44 ?_
  refine g_topH (fun h6 eh6 => ?_)
  have hf := lE_s hf eh6
  refine g_aload_n (ps := 0) dX0_become_47 rfl rfl ?_
  refine g_aload_n (ps := 1) dX0_become_48 rfl rfl ?_
  refine g_getI cf0 hv1 nX0_become_X0 (j := 5) (by decide) rfl mX0_become_28 dX0_become_49 ?_
  refine g_putI cf0 hv0 nX0_become_X0 (j := 5) (by decide) rfl mX0_become_28 rfl dX0_become_52 ?_
  refine g_topH (fun h7 eh7 => ?_)
  have hf := lE_s hf eh7
  refine g_aload_n (ps := 0) dX0_become_55 rfl rfl ?_
  refine g_aload_n (ps := 1) dX0_become_56 rfl rfl ?_
  refine g_getI cf0 hv1 nX0_become_X0 (j := 6) (by decide) rfl mX0_become_31 dX0_become_57 ?_
  refine g_putI cf0 hv0 nX0_become_X0 (j := 6) (by decide) rfl mX0_become_31 rfl dX0_become_60 ?_
  refine g_topH (fun h8 eh8 => ?_)
  have hf := lE_s hf eh8
  have hf := Option.some.inj hf
  subst hf
  exact g_vret dX0_become_63
theorem kX0_become {S : Shp} {n : Nat} {r : Rf} {v0 : Nat} {v1 : Nat} {h : Hp} {o : Hp} (hW : WF S r) (hv0 : S[v0]? = some (0, 7)) (hv1 : S[v1]? = some (0, 7)) (hf : fX0_become n r v0 v1 h = some o) : CTv yX0_become wsX0_become rmX0_become S r [.ref v0, .ref v1] h r o :=
  ctv_of rfl (by decide +kernel) rfl (Nat.le_of_ble_eq_true rfl) rfl (uX0_become hW hv0 hv1 hf)
/-! X0_store store -/
def rmX0_store : Room := { frames := 1, cells := 0, slots := 0, locals := 40 }
abbrev GX0_store (S : Shp) (r r' : Rf) (out : Option Int32 × Hp) (pc : Nat) (L : List (Nat × Value)) (st : List Value) (h : Hp) : Prop := G RX0 cX0_store 4 none wsX0_store rmX0_store S r r' out pc L st h
theorem nX0_store_X0 : ∀ w ∈ wsX00, w ∈ wsX0_store := by decide +kernel
theorem mX0_store_43 : Cond.methodLink RX0 43 arraycopyName ∈ wsX0_store := by decide +kernel
theorem mX0_store_43_n : Cond.native arraycopyName ∈ wsX0_store := by decide +kernel
theorem mX0_store_43_s : Cond.static arraycopyName ∈ wsX0_store := by decide +kernel
theorem mX0_store_43_i : Cond.initialized "java/lang/System" ∈ wsX0_store := by decide +kernel
theorem mX0_store_15 : Cond.fieldLink RX0 15 "LinkedIsles$Bonds" "doneUp" "I" ∈ wsX0_store := by decide +kernel
theorem mX0_store_19 : Cond.fieldLink RX0 19 "LinkedIsles$Bonds" "turned" "I" ∈ wsX0_store := by decide +kernel
theorem mX0_store_22 : Cond.fieldLink RX0 22 "LinkedIsles$Bonds" "held" "I" ∈ wsX0_store := by decide +kernel
theorem mX0_store_25 : Cond.fieldLink RX0 25 "LinkedIsles$Bonds" "hours" "I" ∈ wsX0_store := by decide +kernel
theorem mX0_store_28 : Cond.fieldLink RX0 28 "LinkedIsles$Bonds" "silver" "I" ∈ wsX0_store := by decide +kernel
theorem mX0_store_31 : Cond.fieldLink RX0 31 "LinkedIsles$Bonds" "broke" "I" ∈ wsX0_store := by decide +kernel
theorem mX0_store_9 : Cond.fieldLink RX0 9 "LinkedIsles$Bonds" "strain" "[I" ∈ wsX0_store := by decide +kernel
theorem hdX0_store : yX0_store.cls ≠ "java/lang/invoke/MethodHandle" ∧ yX0_store.cls ≠ "java/lang/invoke/VarHandle" ∧ (parseMethodDescriptor yX0_store.desc).map (fun d => d.parameters.length) = some 2 := by decide +kernel
def fX0_store (n : Nat) (r : Rf) (v0 : Nat) (v1 v1n : Nat) (v2 : Int32) (h : Hp) : Option Hp :=
  lE ((v2 * 16)) (fun (x1 : Int32) => if x1 < 0 then (some h) else (if (x1 + 16) ≤ (Int32.ofNat v1n) then (cy 0 x1 10 10 v1n (lE (pC h v1 (va_cpy (h.1 (r v0 0)) (h.1 v1) (Int32.toNatClampNeg 0) (Int32.toNatClampNeg x1) (Int32.toNatClampNeg 10))) (fun (h5 : Hp) => ck (x1 + 10) v1n (lE (pI h5 v1 (Int32.toNatClampNeg (x1 + 10)) (h5.1 v0 1)) (fun (h7 : Hp) => ck ((x1 + 10) + 1) v1n (lE (pI h7 v1 (Int32.toNatClampNeg ((x1 + 10) + 1)) (h7.1 v0 2)) (fun (h9 : Hp) => ck ((x1 + 10) + 2) v1n (lE (pI h9 v1 (Int32.toNatClampNeg ((x1 + 10) + 2)) (h9.1 v0 3)) (fun (h11 : Hp) => ck ((x1 + 10) + 3) v1n (lE (pI h11 v1 (Int32.toNatClampNeg ((x1 + 10) + 3)) (h11.1 v0 4)) (fun (h13 : Hp) => ck ((x1 + 10) + 4) v1n (lE (pI h13 v1 (Int32.toNatClampNeg ((x1 + 10) + 4)) (h13.1 v0 5)) (fun (h15 : Hp) => ck ((x1 + 10) + 5) v1n (lE (pI h15 v1 (Int32.toNatClampNeg ((x1 + 10) + 5)) (h15.1 v0 6)) (fun (h17 : Hp) => some h17))))))))))))))) else (some h)))
set_option maxHeartbeats 4000000 in
set_option maxRecDepth 100000 in
theorem uX0_store {S : Shp} {n : Nat} {r : Rf} {v0 : Nat} {v1 v1n : Nat} {v2 : Int32} {h : Hp} {o : Hp} (hW : WF S r) (hv0 : S[v0]? = some (0, 7)) (hv1 : S[v1]? = some (100, v1n)) (hf : fX0_store n r v0 v1 v1n v2 h = some o) : GX0_store S r r (none, o) 0 [(0, .ref v0), (1, .ref v1), (2, .int v2)] [] h := by
  unfold fX0_store at hf
  refine g_iload_n (ps := 2) dX0_store_0 rfl rfl ?_
  refine g_bipush (v := 16) dX0_store_1 (by decide +kernel) ?_
  refine g_imul dX0_store_3 ?_
  refine g_topi (fun x1 ex1 => ?_)
  have hf := lE_s hf ex1
  refine g_istore_n (L' := [(3, .int x1), (0, .ref v0), (1, .ref v1), (2, .int v2)]) dX0_store_4 rfl (by decide) rfl ?_
  refine g_iload_n (ps := 0) dX0_store_5 rfl rfl ?_
  refine g_if_lt (tgt := 18) dX0_store_6 (by decide) (fun c2 => ?_) (fun c2 => ?_)
  · have hf := if_t hf c2
    have hf := Option.some.inj hf
    subst hf
    exact g_vret dX0_store_18
  · have hf := if_f hf c2
    refine g_iload_n (ps := 0) dX0_store_9 rfl rfl ?_
    refine g_bipush (v := 16) dX0_store_10 (by decide +kernel) ?_
    refine g_iadd dX0_store_12 ?_
    refine g_aload_n (ps := 2) dX0_store_13 rfl rfl ?_
    refine g_alen hv1 dX0_store_14 ?_
    refine g_icmp_le (tgt := 19) dX0_store_15 (by decide) (fun c3 => ?_) (fun c3 => ?_)
    · have hf := if_t hf c3
      refine g_aload_n (ps := 1) dX0_store_19 rfl rfl ?_
      refine g_getR cf0 hv0 nX0_store_X0 (j := 0) (by decide) rfl mX0_store_9 dX0_store_20 ?_
      refine g_iconst (v := 0) dX0_store_23 (by decide +kernel) ?_
      refine g_aload_n (ps := 2) dX0_store_24 rfl rfl ?_
      refine g_iload_n (ps := 0) dX0_store_25 rfl rfl ?_
      refine g_bipush (v := 10) dX0_store_26 (by decide +kernel) ?_
      obtain ⟨z4, hf⟩ := cy_s hf
      refine g_copy mX0_store_43 mX0_store_43_n mX0_store_43_s mX0_store_43_i (by decide) (Nat.le_of_ble_eq_true rfl) (hW _ _ _ hv0 0 _ rfl) hv1 z4 dX0_store_28 ?_
      refine g_topH (fun h5 eh5 => ?_)
      have hf := lE_s hf eh5
      refine g_aload_n (ps := 2) dX0_store_31 rfl rfl ?_
      refine g_iload_n (ps := 0) dX0_store_32 rfl rfl ?_
      refine g_bipush (v := 10) dX0_store_33 (by decide +kernel) ?_
      refine g_iadd dX0_store_35 ?_
      refine g_aload_n (ps := 1) dX0_store_36 rfl rfl ?_
      refine g_getI cf0 hv0 nX0_store_X0 (j := 1) (by decide) rfl mX0_store_15 dX0_store_37 ?_
      obtain ⟨z6, hf⟩ := ck_s hf
      refine g_iast hv1 z6 dX0_store_40 ?_
      refine g_topH (fun h7 eh7 => ?_)
      have hf := lE_s hf eh7
      refine g_aload_n (ps := 2) dX0_store_41 rfl rfl ?_
      refine g_iload_n (ps := 0) dX0_store_42 rfl rfl ?_
      refine g_bipush (v := 10) dX0_store_43 (by decide +kernel) ?_
      refine g_iadd dX0_store_45 ?_
      refine g_iconst (v := 1) dX0_store_46 (by decide +kernel) ?_
      refine g_iadd dX0_store_47 ?_
      refine g_aload_n (ps := 1) dX0_store_48 rfl rfl ?_
      refine g_getI cf0 hv0 nX0_store_X0 (j := 2) (by decide) rfl mX0_store_19 dX0_store_49 ?_
      obtain ⟨z8, hf⟩ := ck_s hf
      refine g_iast hv1 z8 dX0_store_52 ?_
      refine g_topH (fun h9 eh9 => ?_)
      have hf := lE_s hf eh9
      refine g_aload_n (ps := 2) dX0_store_53 rfl rfl ?_
      refine g_iload_n (ps := 0) dX0_store_54 rfl rfl ?_
      refine g_bipush (v := 10) dX0_store_55 (by decide +kernel) ?_
      refine g_iadd dX0_store_57 ?_
      refine g_iconst (v := 2) dX0_store_58 (by decide +kernel) ?_
      refine g_iadd dX0_store_59 ?_
      refine g_aload_n (ps := 1) dX0_store_60 rfl rfl ?_
      refine g_getI cf0 hv0 nX0_store_X0 (j := 3) (by decide) rfl mX0_store_22 dX0_store_61 ?_
      obtain ⟨z10, hf⟩ := ck_s hf
      refine g_iast hv1 z10 dX0_store_64 ?_
      refine g_topH (fun h11 eh11 => ?_)
      have hf := lE_s hf eh11
      refine g_aload_n (ps := 2) dX0_store_65 rfl rfl ?_
      refine g_iload_n (ps := 0) dX0_store_66 rfl rfl ?_
      refine g_bipush (v := 10) dX0_store_67 (by decide +kernel) ?_
      refine g_iadd dX0_store_69 ?_
      refine g_iconst (v := 3) dX0_store_70 (by decide +kernel) ?_
      refine g_iadd dX0_store_71 ?_
      refine g_aload_n (ps := 1) dX0_store_72 rfl rfl ?_
      refine g_getI cf0 hv0 nX0_store_X0 (j := 4) (by decide) rfl mX0_store_25 dX0_store_73 ?_
      obtain ⟨z12, hf⟩ := ck_s hf
      refine g_iast hv1 z12 dX0_store_76 ?_
      refine g_topH (fun h13 eh13 => ?_)
      have hf := lE_s hf eh13
      refine g_aload_n (ps := 2) dX0_store_77 rfl rfl ?_
      refine g_iload_n (ps := 0) dX0_store_78 rfl rfl ?_
      refine g_bipush (v := 10) dX0_store_79 (by decide +kernel) ?_
      refine g_iadd dX0_store_81 ?_
      refine g_iconst (v := 4) dX0_store_82 (by decide +kernel) ?_
      refine g_iadd dX0_store_83 ?_
      refine g_aload_n (ps := 1) dX0_store_84 rfl rfl ?_
      refine g_getI cf0 hv0 nX0_store_X0 (j := 5) (by decide) rfl mX0_store_28 dX0_store_85 ?_
      obtain ⟨z14, hf⟩ := ck_s hf
      refine g_iast hv1 z14 dX0_store_88 ?_
      refine g_topH (fun h15 eh15 => ?_)
      have hf := lE_s hf eh15
      refine g_aload_n (ps := 2) dX0_store_89 rfl rfl ?_
      refine g_iload_n (ps := 0) dX0_store_90 rfl rfl ?_
      refine g_bipush (v := 10) dX0_store_91 (by decide +kernel) ?_
      refine g_iadd dX0_store_93 ?_
      refine g_iconst (v := 5) dX0_store_94 (by decide +kernel) ?_
      refine g_iadd dX0_store_95 ?_
      refine g_aload_n (ps := 1) dX0_store_96 rfl rfl ?_
      refine g_getI cf0 hv0 nX0_store_X0 (j := 6) (by decide) rfl mX0_store_31 dX0_store_97 ?_
      obtain ⟨z16, hf⟩ := ck_s hf
      refine g_iast hv1 z16 dX0_store_100 ?_
      refine g_topH (fun h17 eh17 => ?_)
      have hf := lE_s hf eh17
      have hf := Option.some.inj hf
      subst hf
      exact g_vret dX0_store_101
    · have hf := if_f hf c3
      have hf := Option.some.inj hf
      subst hf
      exact g_vret dX0_store_18
theorem kX0_store {S : Shp} {n : Nat} {r : Rf} {v0 : Nat} {v1 v1n : Nat} {v2 : Int32} {h : Hp} {o : Hp} (hW : WF S r) (hv0 : S[v0]? = some (0, 7)) (hv1 : S[v1]? = some (100, v1n)) (hf : fX0_store n r v0 v1 v1n v2 h = some o) : CTv yX0_store wsX0_store rmX0_store S r [.ref v0, .ref v1, .int v2] h r o :=
  ctv_of rfl (by decide +kernel) rfl (Nat.le_of_ble_eq_true rfl) rfl (uX0_store hW hv0 hv1 hf)
/-! X0_restore restore -/
def rmX0_restore : Room := { frames := 1, cells := 0, slots := 0, locals := 40 }
abbrev GX0_restore (S : Shp) (r r' : Rf) (out : Option Int32 × Hp) (pc : Nat) (L : List (Nat × Value)) (st : List Value) (h : Hp) : Prop := G RX0 cX0_restore 4 none wsX0_restore rmX0_restore S r r' out pc L st h
theorem nX0_restore_X0 : ∀ w ∈ wsX00, w ∈ wsX0_restore := by decide +kernel
theorem mX0_restore_43 : Cond.methodLink RX0 43 arraycopyName ∈ wsX0_restore := by decide +kernel
theorem mX0_restore_43_n : Cond.native arraycopyName ∈ wsX0_restore := by decide +kernel
theorem mX0_restore_43_s : Cond.static arraycopyName ∈ wsX0_restore := by decide +kernel
theorem mX0_restore_43_i : Cond.initialized "java/lang/System" ∈ wsX0_restore := by decide +kernel
theorem mX0_restore_15 : Cond.fieldLink RX0 15 "LinkedIsles$Bonds" "doneUp" "I" ∈ wsX0_restore := by decide +kernel
theorem mX0_restore_19 : Cond.fieldLink RX0 19 "LinkedIsles$Bonds" "turned" "I" ∈ wsX0_restore := by decide +kernel
theorem mX0_restore_22 : Cond.fieldLink RX0 22 "LinkedIsles$Bonds" "held" "I" ∈ wsX0_restore := by decide +kernel
theorem mX0_restore_25 : Cond.fieldLink RX0 25 "LinkedIsles$Bonds" "hours" "I" ∈ wsX0_restore := by decide +kernel
theorem mX0_restore_28 : Cond.fieldLink RX0 28 "LinkedIsles$Bonds" "silver" "I" ∈ wsX0_restore := by decide +kernel
theorem mX0_restore_31 : Cond.fieldLink RX0 31 "LinkedIsles$Bonds" "broke" "I" ∈ wsX0_restore := by decide +kernel
theorem mX0_restore_9 : Cond.fieldLink RX0 9 "LinkedIsles$Bonds" "strain" "[I" ∈ wsX0_restore := by decide +kernel
theorem hdX0_restore : yX0_restore.cls ≠ "java/lang/invoke/MethodHandle" ∧ yX0_restore.cls ≠ "java/lang/invoke/VarHandle" ∧ (parseMethodDescriptor yX0_restore.desc).map (fun d => d.parameters.length) = some 2 := by decide +kernel
def fX0_restore (n : Nat) (r : Rf) (v0 : Nat) (v1 v1n : Nat) (v2 : Int32) (h : Hp) : Option Hp :=
  lE ((v2 * 16)) (fun (x1 : Int32) => if x1 < 0 then (some h) else (if (x1 + 16) ≤ (Int32.ofNat v1n) then (cy x1 0 10 v1n 10 (lE (pC h (r v0 0) (va_cpy (h.1 v1) (h.1 (r v0 0)) (Int32.toNatClampNeg x1) (Int32.toNatClampNeg 0) (Int32.toNatClampNeg 10))) (fun (h5 : Hp) => ck (x1 + 10) v1n (lE (pI h5 v0 1 (h5.1 v1 (Int32.toNatClampNeg (x1 + 10)))) (fun (h7 : Hp) => ck ((x1 + 10) + 1) v1n (lE (pI h7 v0 2 (h7.1 v1 (Int32.toNatClampNeg ((x1 + 10) + 1)))) (fun (h9 : Hp) => ck ((x1 + 10) + 2) v1n (lE (pI h9 v0 3 (h9.1 v1 (Int32.toNatClampNeg ((x1 + 10) + 2)))) (fun (h11 : Hp) => ck ((x1 + 10) + 3) v1n (lE (pI h11 v0 4 (h11.1 v1 (Int32.toNatClampNeg ((x1 + 10) + 3)))) (fun (h13 : Hp) => ck ((x1 + 10) + 4) v1n (lE (pI h13 v0 5 (h13.1 v1 (Int32.toNatClampNeg ((x1 + 10) + 4)))) (fun (h15 : Hp) => ck ((x1 + 10) + 5) v1n (lE (pI h15 v0 6 (h15.1 v1 (Int32.toNatClampNeg ((x1 + 10) + 5)))) (fun (h17 : Hp) => some h17))))))))))))))) else (some h)))
set_option maxHeartbeats 4000000 in
set_option maxRecDepth 100000 in
theorem uX0_restore {S : Shp} {n : Nat} {r : Rf} {v0 : Nat} {v1 v1n : Nat} {v2 : Int32} {h : Hp} {o : Hp} (hW : WF S r) (hv0 : S[v0]? = some (0, 7)) (hv1 : S[v1]? = some (100, v1n)) (hf : fX0_restore n r v0 v1 v1n v2 h = some o) : GX0_restore S r r (none, o) 0 [(0, .ref v0), (1, .ref v1), (2, .int v2)] [] h := by
  unfold fX0_restore at hf
  refine g_iload_n (ps := 2) dX0_restore_0 rfl rfl ?_
  refine g_bipush (v := 16) dX0_restore_1 (by decide +kernel) ?_
  refine g_imul dX0_restore_3 ?_
  refine g_topi (fun x1 ex1 => ?_)
  have hf := lE_s hf ex1
  refine g_istore_n (L' := [(3, .int x1), (0, .ref v0), (1, .ref v1), (2, .int v2)]) dX0_restore_4 rfl (by decide) rfl ?_
  refine g_iload_n (ps := 0) dX0_restore_5 rfl rfl ?_
  refine g_if_lt (tgt := 18) dX0_restore_6 (by decide) (fun c2 => ?_) (fun c2 => ?_)
  · have hf := if_t hf c2
    have hf := Option.some.inj hf
    subst hf
    exact g_vret dX0_restore_18
  · have hf := if_f hf c2
    refine g_iload_n (ps := 0) dX0_restore_9 rfl rfl ?_
    refine g_bipush (v := 16) dX0_restore_10 (by decide +kernel) ?_
    refine g_iadd dX0_restore_12 ?_
    refine g_aload_n (ps := 2) dX0_restore_13 rfl rfl ?_
    refine g_alen hv1 dX0_restore_14 ?_
    refine g_icmp_le (tgt := 19) dX0_restore_15 (by decide) (fun c3 => ?_) (fun c3 => ?_)
    · have hf := if_t hf c3
      refine g_aload_n (ps := 2) dX0_restore_19 rfl rfl ?_
      refine g_iload_n (ps := 0) dX0_restore_20 rfl rfl ?_
      refine g_aload_n (ps := 1) dX0_restore_21 rfl rfl ?_
      refine g_getR cf0 hv0 nX0_restore_X0 (j := 0) (by decide) rfl mX0_restore_9 dX0_restore_22 ?_
      refine g_iconst (v := 0) dX0_restore_25 (by decide +kernel) ?_
      refine g_bipush (v := 10) dX0_restore_26 (by decide +kernel) ?_
      obtain ⟨z4, hf⟩ := cy_s hf
      refine g_copy mX0_restore_43 mX0_restore_43_n mX0_restore_43_s mX0_restore_43_i (by decide) (Nat.le_of_ble_eq_true rfl) hv1 (hW _ _ _ hv0 0 _ rfl) z4 dX0_restore_28 ?_
      refine g_topH (fun h5 eh5 => ?_)
      have hf := lE_s hf eh5
      refine g_aload_n (ps := 1) dX0_restore_31 rfl rfl ?_
      refine g_aload_n (ps := 2) dX0_restore_32 rfl rfl ?_
      refine g_iload_n (ps := 0) dX0_restore_33 rfl rfl ?_
      refine g_bipush (v := 10) dX0_restore_34 (by decide +kernel) ?_
      refine g_iadd dX0_restore_36 ?_
      obtain ⟨z6, hf⟩ := ck_s hf
      refine g_iald hv1 z6 dX0_restore_37 ?_
      refine g_putI cf0 hv0 nX0_restore_X0 (j := 1) (by decide) rfl mX0_restore_15 rfl dX0_restore_38 ?_
      refine g_topH (fun h7 eh7 => ?_)
      have hf := lE_s hf eh7
      refine g_aload_n (ps := 1) dX0_restore_41 rfl rfl ?_
      refine g_aload_n (ps := 2) dX0_restore_42 rfl rfl ?_
      refine g_iload_n (ps := 0) dX0_restore_43 rfl rfl ?_
      refine g_bipush (v := 10) dX0_restore_44 (by decide +kernel) ?_
      refine g_iadd dX0_restore_46 ?_
      refine g_iconst (v := 1) dX0_restore_47 (by decide +kernel) ?_
      refine g_iadd dX0_restore_48 ?_
      obtain ⟨z8, hf⟩ := ck_s hf
      refine g_iald hv1 z8 dX0_restore_49 ?_
      refine g_putI cf0 hv0 nX0_restore_X0 (j := 2) (by decide) rfl mX0_restore_19 rfl dX0_restore_50 ?_
      refine g_topH (fun h9 eh9 => ?_)
      have hf := lE_s hf eh9
      refine g_aload_n (ps := 1) dX0_restore_53 rfl rfl ?_
      refine g_aload_n (ps := 2) dX0_restore_54 rfl rfl ?_
      refine g_iload_n (ps := 0) dX0_restore_55 rfl rfl ?_
      refine g_bipush (v := 10) dX0_restore_56 (by decide +kernel) ?_
      refine g_iadd dX0_restore_58 ?_
      refine g_iconst (v := 2) dX0_restore_59 (by decide +kernel) ?_
      refine g_iadd dX0_restore_60 ?_
      obtain ⟨z10, hf⟩ := ck_s hf
      refine g_iald hv1 z10 dX0_restore_61 ?_
      refine g_putI cf0 hv0 nX0_restore_X0 (j := 3) (by decide) rfl mX0_restore_22 rfl dX0_restore_62 ?_
      refine g_topH (fun h11 eh11 => ?_)
      have hf := lE_s hf eh11
      refine g_aload_n (ps := 1) dX0_restore_65 rfl rfl ?_
      refine g_aload_n (ps := 2) dX0_restore_66 rfl rfl ?_
      refine g_iload_n (ps := 0) dX0_restore_67 rfl rfl ?_
      refine g_bipush (v := 10) dX0_restore_68 (by decide +kernel) ?_
      refine g_iadd dX0_restore_70 ?_
      refine g_iconst (v := 3) dX0_restore_71 (by decide +kernel) ?_
      refine g_iadd dX0_restore_72 ?_
      obtain ⟨z12, hf⟩ := ck_s hf
      refine g_iald hv1 z12 dX0_restore_73 ?_
      refine g_putI cf0 hv0 nX0_restore_X0 (j := 4) (by decide) rfl mX0_restore_25 rfl dX0_restore_74 ?_
      refine g_topH (fun h13 eh13 => ?_)
      have hf := lE_s hf eh13
      refine g_aload_n (ps := 1) dX0_restore_77 rfl rfl ?_
      refine g_aload_n (ps := 2) dX0_restore_78 rfl rfl ?_
      refine g_iload_n (ps := 0) dX0_restore_79 rfl rfl ?_
      refine g_bipush (v := 10) dX0_restore_80 (by decide +kernel) ?_
      refine g_iadd dX0_restore_82 ?_
      refine g_iconst (v := 4) dX0_restore_83 (by decide +kernel) ?_
      refine g_iadd dX0_restore_84 ?_
      obtain ⟨z14, hf⟩ := ck_s hf
      refine g_iald hv1 z14 dX0_restore_85 ?_
      refine g_putI cf0 hv0 nX0_restore_X0 (j := 5) (by decide) rfl mX0_restore_28 rfl dX0_restore_86 ?_
      refine g_topH (fun h15 eh15 => ?_)
      have hf := lE_s hf eh15
      refine g_aload_n (ps := 1) dX0_restore_89 rfl rfl ?_
      refine g_aload_n (ps := 2) dX0_restore_90 rfl rfl ?_
      refine g_iload_n (ps := 0) dX0_restore_91 rfl rfl ?_
      refine g_bipush (v := 10) dX0_restore_92 (by decide +kernel) ?_
      refine g_iadd dX0_restore_94 ?_
      refine g_iconst (v := 5) dX0_restore_95 (by decide +kernel) ?_
      refine g_iadd dX0_restore_96 ?_
      obtain ⟨z16, hf⟩ := ck_s hf
      refine g_iald hv1 z16 dX0_restore_97 ?_
      refine g_putI cf0 hv0 nX0_restore_X0 (j := 6) (by decide) rfl mX0_restore_31 rfl dX0_restore_98 ?_
      refine g_topH (fun h17 eh17 => ?_)
      have hf := lE_s hf eh17
      have hf := Option.some.inj hf
      subst hf
      exact g_vret dX0_restore_101
    · have hf := if_f hf c3
      have hf := Option.some.inj hf
      subst hf
      exact g_vret dX0_restore_18
theorem kX0_restore {S : Shp} {n : Nat} {r : Rf} {v0 : Nat} {v1 v1n : Nat} {v2 : Int32} {h : Hp} {o : Hp} (hW : WF S r) (hv0 : S[v0]? = some (0, 7)) (hv1 : S[v1]? = some (100, v1n)) (hf : fX0_restore n r v0 v1 v1n v2 h = some o) : CTv yX0_restore wsX0_restore rmX0_restore S r [.ref v0, .ref v1, .int v2] h r o :=
  ctv_of rfl (by decide +kernel) rfl (Nat.le_of_ble_eq_true rfl) rfl (uX0_restore hW hv0 hv1 hf)
/-! X0_spare spare -/
def rmX0_spare : Room := { frames := 0, cells := 0, slots := 0, locals := 0 }
abbrev GX0_spare (S : Shp) (r r' : Rf) (out : Option Int32 × Hp) (pc : Nat) (L : List (Nat × Value)) (st : List Value) (h : Hp) : Prop := G RX0 cX0_spare 3 (some .int) wsX0_spare rmX0_spare S r r' out pc L st h
theorem nX0_spare_X0 : ∀ w ∈ wsX00, w ∈ wsX0_spare := by decide +kernel
theorem nX0_spare_X1 : ∀ w ∈ wsX10, w ∈ wsX0_spare := by decide +kernel
theorem mX0_spare_49 : Cond.fieldLink RX0 49 "LinkedIsles$Chart" "strength" "[I" ∈ wsX0_spare := by decide +kernel
theorem mX0_spare_9 : Cond.fieldLink RX0 9 "LinkedIsles$Bonds" "strain" "[I" ∈ wsX0_spare := by decide +kernel
theorem hdX0_spare : yX0_spare.cls ≠ "java/lang/invoke/MethodHandle" ∧ yX0_spare.cls ≠ "java/lang/invoke/VarHandle" ∧ (parseMethodDescriptor yX0_spare.desc).map (fun d => d.parameters.length) = some 2 := by decide +kernel
def fX0_spare (n : Nat) (r : Rf) (v0 : Nat) (v1 : Nat) (v2 : Int32) (h : Hp) : Option Int32 :=
  ck v2 10 (ck v2 10 (some ((h.1 (r v1 4) (Int32.toNatClampNeg v2)) - (h.1 (r v0 0) (Int32.toNatClampNeg v2)))))
set_option maxHeartbeats 4000000 in
set_option maxRecDepth 100000 in
theorem uX0_spare {S : Shp} {n : Nat} {r : Rf} {v0 : Nat} {v1 : Nat} {v2 : Int32} {h : Hp} {o : Int32} (hW : WF S r) (hv0 : S[v0]? = some (0, 7)) (hv1 : S[v1]? = some (1, 12)) (hf : fX0_spare n r v0 v1 v2 h = some o) : GX0_spare S r r (some o, h) 0 [(0, .ref v0), (1, .ref v1), (2, .int v2)] [] h := by
  unfold fX0_spare at hf
  refine g_aload_n (ps := 1) dX0_spare_0 rfl rfl ?_
  refine g_getR cf1 hv1 nX0_spare_X1 (j := 4) (by decide) rfl mX0_spare_49 dX0_spare_1 ?_
  refine g_iload_n (ps := 2) dX0_spare_4 rfl rfl ?_
  obtain ⟨z1, hf⟩ := ck_s hf
  refine g_iald (hW _ _ _ hv1 4 _ rfl) z1 dX0_spare_5 ?_
  refine g_aload_n (ps := 0) dX0_spare_6 rfl rfl ?_
  refine g_getR cf0 hv0 nX0_spare_X0 (j := 0) (by decide) rfl mX0_spare_9 dX0_spare_7 ?_
  refine g_iload_n (ps := 2) dX0_spare_10 rfl rfl ?_
  obtain ⟨z2, hf⟩ := ck_s hf
  refine g_iald (hW _ _ _ hv0 0 _ rfl) z2 dX0_spare_11 ?_
  refine g_isub dX0_spare_12 ?_
  have hf := Option.some.inj hf
  subst hf
  exact g_iret dX0_spare_13
theorem kX0_spare {S : Shp} {n : Nat} {r : Rf} {v0 : Nat} {v1 : Nat} {v2 : Int32} {h : Hp} {o : Int32} (hW : WF S r) (hv0 : S[v0]? = some (0, 7)) (hv1 : S[v1]? = some (1, 12)) (hf : fX0_spare n r v0 v1 v2 h = some o) : CTi yX0_spare wsX0_spare rmX0_spare S r [.ref v0, .ref v1, .int v2] h r o h :=
  cti_of rfl (by decide +kernel) rfl (Nat.le_of_ble_eq_true rfl) rfl (uX0_spare hW hv0 hv1 hf)
/-! X5_has has -/
def rmX5_has : Room := { frames := 0, cells := 0, slots := 0, locals := 0 }
abbrev GX5_has (S : Shp) (r r' : Rf) (out : Option Int32 × Hp) (pc : Nat) (L : List (Nat × Value)) (st : List Value) (h : Hp) : Prop := G RX5 cX5_has 2 (some .boolean) wsX5_has rmX5_has S r r' out pc L st h
theorem hdX5_has : yX5_has.cls ≠ "java/lang/invoke/MethodHandle" ∧ yX5_has.cls ≠ "java/lang/invoke/VarHandle" ∧ (parseMethodDescriptor yX5_has.desc).map (fun d => d.parameters.length) = some 2 := by decide +kernel
def fX5_has (n : Nat) (r : Rf) (v0 : Int32) (v1 : Int32) (h : Hp) : Option Int32 :=
  if ((v0 >>> (v1 &&& 31)) &&& 1) = 0 then (some 0) else (some 1)
set_option maxHeartbeats 4000000 in
set_option maxRecDepth 100000 in
theorem uX5_has {S : Shp} {n : Nat} {r : Rf} {v0 : Int32} {v1 : Int32} {h : Hp} {o : Int32} (hW : WF S r)  (hf : fX5_has n r v0 v1 h = some o) : GX5_has S r r (some o, h) 0 [(0, .int v0), (1, .int v1)] [] h := by
  unfold fX5_has at hf
  refine g_iload_n (ps := 0) dX5_has_0 rfl rfl ?_
  refine g_iload_n (ps := 1) dX5_has_1 rfl rfl ?_
  refine g_ishr dX5_has_2 ?_
  refine g_iconst (v := 1) dX5_has_3 (by decide +kernel) ?_
  refine g_iand dX5_has_4 ?_
  refine g_if_eq (tgt := 12) dX5_has_5 (by decide) (fun c1 => ?_) (fun c1 => ?_)
  · have hf := if_t hf c1
    refine g_iconst (v := 0) dX5_has_12 (by decide +kernel) ?_
    have hf := Option.some.inj hf
    subst hf
    exact g_zret (Or.inl rfl) dX5_has_13
  · have hf := if_f hf c1
    refine g_iconst (v := 1) dX5_has_8 (by decide +kernel) ?_
    refine g_goto (tgt := 13) dX5_has_9 (by decide) ?_
    have hf := Option.some.inj hf
    subst hf
    exact g_zret (Or.inr rfl) dX5_has_13
theorem kX5_has {S : Shp} {n : Nat} {r : Rf} {v0 : Int32} {v1 : Int32} {h : Hp} {o : Int32} (hW : WF S r)  (hf : fX5_has n r v0 v1 h = some o) : CTi yX5_has wsX5_has rmX5_has S r [.int v0, .int v1] h r o h :=
  cti_of rfl (by decide +kernel) rfl (Nat.le_of_ble_eq_true rfl) rfl (uX5_has hW  hf)
/-! X0_canBeDoneUp canBeDoneUp -/
def rmX0_canBeDoneUp : Room := { frames := 1, cells := 0, slots := 0, locals := 22 }
abbrev GX0_canBeDoneUp (S : Shp) (r r' : Rf) (out : Option Int32 × Hp) (pc : Nat) (L : List (Nat × Value)) (st : List Value) (h : Hp) : Prop := G RX0 cX0_canBeDoneUp 3 (some .boolean) wsX0_canBeDoneUp rmX0_canBeDoneUp S r r' out pc L st h
theorem nX0_canBeDoneUp_X0 : ∀ w ∈ wsX00, w ∈ wsX0_canBeDoneUp := by decide +kernel
theorem mX0_canBeDoneUp_52_i : Cond.initialized RX5 ∈ wsX0_canBeDoneUp := by decide +kernel
theorem mX0_canBeDoneUp_52_s : Cond.static yX5_has ∈ wsX0_canBeDoneUp := by decide +kernel
theorem mX0_canBeDoneUp_15 : Cond.fieldLink RX0 15 "LinkedIsles$Bonds" "doneUp" "I" ∈ wsX0_canBeDoneUp := by decide +kernel
theorem hdX0_canBeDoneUp : yX0_canBeDoneUp.cls ≠ "java/lang/invoke/MethodHandle" ∧ yX0_canBeDoneUp.cls ≠ "java/lang/invoke/VarHandle" ∧ (parseMethodDescriptor yX0_canBeDoneUp.desc).map (fun d => d.parameters.length) = some 2 := by decide +kernel
def fX0_canBeDoneUp (n : Nat) (r : Rf) (v0 : Nat) (v1 : Nat) (v2 : Int32) (h : Hp) : Option Int32 :=
  (fX5_has n r (h.1 v0 1) v2 h).bind (fun (x2 : Int32) => if x2 = 0 then ((fX0_spare n r v0 v1 v2 h).bind (fun (x5 : Int32) => if x5 ≤ 0 then (some 0) else (some 1))) else (some 0))
set_option maxHeartbeats 4000000 in
set_option maxRecDepth 100000 in
theorem uX0_canBeDoneUp {S : Shp} {n : Nat} {r : Rf} {v0 : Nat} {v1 : Nat} {v2 : Int32} {h : Hp} {o : Int32} (hW : WF S r) (hv0 : S[v0]? = some (0, 7)) (hv1 : S[v1]? = some (1, 12)) (hf : fX0_canBeDoneUp n r v0 v1 v2 h = some o) : GX0_canBeDoneUp S r r (some o, h) 0 [(0, .ref v0), (1, .ref v1), (2, .int v2)] [] h := by
  unfold fX0_canBeDoneUp at hf
  refine g_aload_n (ps := 0) dX0_canBeDoneUp_0 rfl rfl ?_
  refine g_getI cf0 hv0 nX0_canBeDoneUp_X0 (j := 1) (by decide) rfl mX0_canBeDoneUp_15 dX0_canBeDoneUp_1 ?_
  refine g_iload_n (ps := 2) dX0_canBeDoneUp_4 rfl rfl ?_
  obtain ⟨x2, e1, hf⟩ := bd_s hf
  refine g_callNi (As := [.int (h.1 v0 1), .int v2]) (n := 2) (kX5_has hW  e1) gX0_canBeDoneUp_X5_has_n52 (fun _ h => h.1) mX0_canBeDoneUp_52_i mX0_canBeDoneUp_52_s rfl ⟨rfl, rfl⟩ hdX5_has ⟨Nat.le_of_ble_eq_true rfl, Nat.le_of_ble_eq_true rfl⟩ rfl rfl (Nat.le_of_ble_eq_true rfl) dX0_canBeDoneUp_5 ?_
  refine g_if_ne (tgt := 24) dX0_canBeDoneUp_8 (by decide) (fun c3 => ?_) (fun c3 => ?_)
  · have hf := if_f hf c3
    refine g_iconst (v := 0) dX0_canBeDoneUp_24 (by decide +kernel) ?_
    have hf := Option.some.inj hf
    subst hf
    exact g_zret (Or.inl rfl) dX0_canBeDoneUp_25
  · have hf := if_t hf c3
    refine g_aload_n (ps := 0) dX0_canBeDoneUp_11 rfl rfl ?_
    refine g_aload_n (ps := 1) dX0_canBeDoneUp_12 rfl rfl ?_
    refine g_iload_n (ps := 2) dX0_canBeDoneUp_13 rfl rfl ?_
    obtain ⟨x5, e4, hf⟩ := bd_s hf
    refine g_callVi (As := [.ref v1, .int v2]) (n := 2) (kX0_spare hW hv0 hv1 e4) gX0_canBeDoneUp_X0_spare rfl ⟨rfl, rfl⟩ ⟨rfl, hdX0_spare⟩ ⟨Nat.le_of_ble_eq_true rfl, Nat.le_of_ble_eq_true rfl⟩ cf0 hv0 rfl rfl (Nat.le_of_ble_eq_true rfl) dX0_canBeDoneUp_14 ?_
    refine g_if_le (tgt := 24) dX0_canBeDoneUp_17 (by decide) (fun c6 => ?_) (fun c6 => ?_)
    · have hf := if_t hf c6
      refine g_iconst (v := 0) dX0_canBeDoneUp_24 (by decide +kernel) ?_
      have hf := Option.some.inj hf
      subst hf
      exact g_zret (Or.inl rfl) dX0_canBeDoneUp_25
    · have hf := if_f hf c6
      refine g_iconst (v := 1) dX0_canBeDoneUp_20 (by decide +kernel) ?_
      refine g_goto (tgt := 25) dX0_canBeDoneUp_21 (by decide) ?_
      have hf := Option.some.inj hf
      subst hf
      exact g_zret (Or.inr rfl) dX0_canBeDoneUp_25
theorem kX0_canBeDoneUp {S : Shp} {n : Nat} {r : Rf} {v0 : Nat} {v1 : Nat} {v2 : Int32} {h : Hp} {o : Int32} (hW : WF S r) (hv0 : S[v0]? = some (0, 7)) (hv1 : S[v1]? = some (1, 12)) (hf : fX0_canBeDoneUp n r v0 v1 v2 h = some o) : CTi yX0_canBeDoneUp wsX0_canBeDoneUp rmX0_canBeDoneUp S r [.ref v0, .ref v1, .int v2] h r o h :=
  cti_of rfl (by decide +kernel) rfl (Nat.le_of_ble_eq_true rfl) rfl (uX0_canBeDoneUp hW hv0 hv1 hf)
/-! X1_windOf windOf -/
def rmX1_windOf : Room := { frames := 0, cells := 0, slots := 0, locals := 0 }
abbrev GX1_windOf (S : Shp) (r r' : Rf) (out : Option Int32 × Hp) (pc : Nat) (L : List (Nat × Value)) (st : List Value) (h : Hp) : Prop := G RX1 cX1_windOf 2 (some .int) wsX1_windOf rmX1_windOf S r r' out pc L st h
theorem nX1_windOf_X1 : ∀ w ∈ wsX10, w ∈ wsX1_windOf := by decide +kernel
theorem mX1_windOf_33 : Cond.fieldLink RX1 33 "LinkedIsles$Chart" "winds" "[I" ∈ wsX1_windOf := by decide +kernel
theorem mX1_windOf_46 : Cond.fieldLink RX1 46 "LinkedIsles$Chart" "windCount" "I" ∈ wsX1_windOf := by decide +kernel
theorem hdX1_windOf : yX1_windOf.cls ≠ "java/lang/invoke/MethodHandle" ∧ yX1_windOf.cls ≠ "java/lang/invoke/VarHandle" ∧ (parseMethodDescriptor yX1_windOf.desc).map (fun d => d.parameters.length) = some 1 := by decide +kernel
def fX1_windOf (n : Nat) (r : Rf) (v0 : Nat) (v1 : Int32) (h : Hp) : Option Int32 :=
  if (h.1 v0 11) < 1 then (some 0) else (if 0 ≤ v1 then (cz (h.1 v0 11) (ck (v1 - v1 / (h.1 v0 11) * (h.1 v0 11)) 12 (some (h.1 (r v0 7) (Int32.toNatClampNeg (v1 - v1 / (h.1 v0 11) * (h.1 v0 11))))))) else (some 0))
set_option maxHeartbeats 4000000 in
set_option maxRecDepth 100000 in
theorem uX1_windOf {S : Shp} {n : Nat} {r : Rf} {v0 : Nat} {v1 : Int32} {h : Hp} {o : Int32} (hW : WF S r) (hv0 : S[v0]? = some (1, 12)) (hf : fX1_windOf n r v0 v1 h = some o) : GX1_windOf S r r (some o, h) 0 [(0, .ref v0), (1, .int v1)] [] h := by
  unfold fX1_windOf at hf
  refine g_aload_n (ps := 0) dX1_windOf_0 rfl rfl ?_
  refine g_getI cf1 hv0 nX1_windOf_X1 (j := 11) (by decide) rfl mX1_windOf_46 dX1_windOf_1 ?_
  refine g_iconst (v := 1) dX1_windOf_4 (by decide +kernel) ?_
  refine g_icmp_lt (tgt := 12) dX1_windOf_5 (by decide) (fun c1 => ?_) (fun c1 => ?_)
  · have hf := if_t hf c1
    refine g_iconst (v := 0) dX1_windOf_12 (by decide +kernel) ?_
    refine g_goto (tgt := 27) dX1_windOf_13 (by decide) ?_
    have hf := Option.some.inj hf
    subst hf
    exact g_iret dX1_windOf_27
  · have hf := if_f hf c1
    refine g_iload_n (ps := 1) dX1_windOf_8 rfl rfl ?_
    refine g_if_ge (tgt := 16) dX1_windOf_9 (by decide) (fun c2 => ?_) (fun c2 => ?_)
    · have hf := if_t hf c2
      refine g_aload_n (ps := 0) dX1_windOf_16 rfl rfl ?_
      refine g_getR cf1 hv0 nX1_windOf_X1 (j := 7) (by decide) rfl mX1_windOf_33 dX1_windOf_17 ?_
      refine g_iload_n (ps := 1) dX1_windOf_20 rfl rfl ?_
      refine g_aload_n (ps := 0) dX1_windOf_21 rfl rfl ?_
      refine g_getI cf1 hv0 nX1_windOf_X1 (j := 11) (by decide) rfl mX1_windOf_46 dX1_windOf_22 ?_
      obtain ⟨z3, hf⟩ := cz_s hf
      refine g_irem dX1_windOf_25 z3 ?_
      obtain ⟨z4, hf⟩ := ck_s hf
      refine g_iald (hW _ _ _ hv0 7 _ rfl) z4 dX1_windOf_26 ?_
      have hf := Option.some.inj hf
      subst hf
      exact g_iret dX1_windOf_27
    · have hf := if_f hf c2
      refine g_iconst (v := 0) dX1_windOf_12 (by decide +kernel) ?_
      refine g_goto (tgt := 27) dX1_windOf_13 (by decide) ?_
      have hf := Option.some.inj hf
      subst hf
      exact g_iret dX1_windOf_27
theorem kX1_windOf {S : Shp} {n : Nat} {r : Rf} {v0 : Nat} {v1 : Int32} {h : Hp} {o : Int32} (hW : WF S r) (hv0 : S[v0]? = some (1, 12)) (hf : fX1_windOf n r v0 v1 h = some o) : CTi yX1_windOf wsX1_windOf rmX1_windOf S r [.ref v0, .int v1] h r o h :=
  cti_of rfl (by decide +kernel) rfl (Nat.le_of_ble_eq_true rfl) rfl (uX1_windOf hW hv0 hf)
/-! X0_pull pull -/
def rmX0_pull : Room := { frames := 1, cells := 0, slots := 0, locals := 21 }
abbrev GX0_pull (S : Shp) (r r' : Rf) (out : Option Int32 × Hp) (pc : Nat) (L : List (Nat × Value)) (st : List Value) (h : Hp) : Prop := G RX0 cX0_pull 3 (some .int) wsX0_pull rmX0_pull S r r' out pc L st h
theorem mX0_pull_82 : Cond.methodLink RX0 82 Lib.Math.max.name ∈ wsX0_pull := by decide +kernel
theorem mX0_pull_82_s : Cond.static Lib.Math.max.name ∈ wsX0_pull := by decide +kernel
theorem mX0_pull_82_c : Cond.code Lib.Math.max.name Lib.Math.max.code 2 (some .int) ∈ wsX0_pull := by decide +kernel
theorem mX0_pull_i : Cond.initialized "java/lang/Math" ∈ wsX0_pull := by decide +kernel
theorem hdX0_pull : yX0_pull.cls ≠ "java/lang/invoke/MethodHandle" ∧ yX0_pull.cls ≠ "java/lang/invoke/VarHandle" ∧ (parseMethodDescriptor yX0_pull.desc).map (fun d => d.parameters.length) = some 3 := by decide +kernel
def fX0_pull (n : Nat) (r : Rf) (v0 : Int32) (v1 : Int32) (v2 : Int32) (h : Hp) : Option Int32 :=
  lE (v0) (fun (x1 : Int32) => if x1 = 1 then (if 6 ≤ v1 then (some (2 * v1)) else (some 0)) else (if x1 = 2 then (some (v1 / 2)) else (if x1 = 3 then (if v2 = 0 then (some v1) else (some (if (v1 - 3) < 0 then 0 else (v1 - 3)))) else (some v1))))
set_option maxHeartbeats 4000000 in
set_option maxRecDepth 100000 in
theorem uX0_pull {S : Shp} {n : Nat} {r : Rf} {v0 : Int32} {v1 : Int32} {v2 : Int32} {h : Hp} {o : Int32} (hW : WF S r)  (hf : fX0_pull n r v0 v1 v2 h = some o) : GX0_pull S r r (some o, h) 0 [(0, .int v0), (1, .int v1), (2, .int v2)] [] h := by
  unfold fX0_pull at hf
  refine g_iload_n (ps := 0) dX0_pull_0 rfl rfl ?_
  refine g_topi (fun x1 ex1 => ?_)
  have hf := lE_s hf ex1
  by_cases c2 : x1 = 1
  · have hf := if_t hf c2
    refine g_tableIn (off := 27) (tgt := 28) dX0_pull_1 (by rw [c2]; decide +kernel) (by rw [c2]; decide +kernel) (by rw [c2]; decide +kernel) (by decide) ?_
    refine g_iload_n (ps := 1) dX0_pull_28 rfl rfl ?_
    refine g_bipush (v := 6) dX0_pull_29 (by decide +kernel) ?_
    refine g_icmp_ge (tgt := 38) dX0_pull_31 (by decide) (fun c3 => ?_) (fun c3 => ?_)
    · have hf := if_t hf c3
      refine g_iconst (v := 2) dX0_pull_38 (by decide +kernel) ?_
      refine g_iload_n (ps := 1) dX0_pull_39 rfl rfl ?_
      refine g_imul dX0_pull_40 ?_
      have hf := Option.some.inj hf
      subst hf
      exact g_iret dX0_pull_41
    · have hf := if_f hf c3
      refine g_iconst (v := 0) dX0_pull_34 (by decide +kernel) ?_
      refine g_goto (tgt := 41) dX0_pull_35 (by decide) ?_
      have hf := Option.some.inj hf
      subst hf
      exact g_iret dX0_pull_41
  have hf := if_f hf c2
  by_cases c4 : x1 = 2
  · have hf := if_t hf c4
    refine g_tableIn (off := 41) (tgt := 42) dX0_pull_1 (by rw [c4]; decide +kernel) (by rw [c4]; decide +kernel) (by rw [c4]; decide +kernel) (by decide) ?_
    refine g_iload_n (ps := 1) dX0_pull_42 rfl rfl ?_
    refine g_iconst (v := 2) dX0_pull_43 (by decide +kernel) ?_
    refine g_idiv dX0_pull_44 (by decide +kernel) ?_
    have hf := Option.some.inj hf
    subst hf
    exact g_iret dX0_pull_45
  have hf := if_f hf c4
  by_cases c5 : x1 = 3
  · have hf := if_t hf c5
    refine g_tableIn (off := 45) (tgt := 46) dX0_pull_1 (by rw [c5]; decide +kernel) (by rw [c5]; decide +kernel) (by rw [c5]; decide +kernel) (by decide) ?_
    refine g_iload_n (ps := 2) dX0_pull_46 rfl rfl ?_
    refine g_if_eq (tgt := 60) dX0_pull_47 (by decide) (fun c6 => ?_) (fun c6 => ?_)
    · have hf := if_t hf c6
      refine g_iload_n (ps := 1) dX0_pull_60 rfl rfl ?_
      have hf := Option.some.inj hf
      subst hf
      exact g_iret dX0_pull_61
    · have hf := if_f hf c6
      refine g_iload_n (ps := 1) dX0_pull_50 rfl rfl ?_
      refine g_iconst (v := 3) dX0_pull_51 (by decide +kernel) ?_
      refine g_isub dX0_pull_52 ?_
      refine g_iconst (v := 0) dX0_pull_53 (by decide +kernel) ?_
      refine g_max mX0_pull_82 mX0_pull_82_s mX0_pull_i mX0_pull_82_c (by decide) (Nat.le_of_ble_eq_true rfl) dX0_pull_54 ?_
      refine g_goto (tgt := 61) dX0_pull_57 (by decide) ?_
      have hf := Option.some.inj hf
      subst hf
      exact g_iret dX0_pull_61
  have hf := if_f hf c5
  refine g_tableOut (tgt := 62) dX0_pull_1 (by have q0 := lv_neT c2 (a := 1) (by decide +kernel); have q1 := lv_neT c4 (a := 2) (by decide +kernel); have q2 := lv_neT c5 (a := 3) (by decide +kernel); omega) (by decide) ?_
  refine g_iload_n (ps := 1) dX0_pull_62 rfl rfl ?_
  have hf := Option.some.inj hf
  subst hf
  exact g_iret dX0_pull_63
theorem kX0_pull {S : Shp} {n : Nat} {r : Rf} {v0 : Int32} {v1 : Int32} {v2 : Int32} {h : Hp} {o : Int32} (hW : WF S r)  (hf : fX0_pull n r v0 v1 v2 h = some o) : CTi yX0_pull wsX0_pull rmX0_pull S r [.int v0, .int v1, .int v2] h r o h :=
  cti_of rfl (by decide +kernel) rfl (Nat.le_of_ble_eq_true rfl) rfl (uX0_pull hW  hf)
/-! J6_bitCount_0f7a4 bitCount -/
def rmJ6_bitCount_0f7a4 : Room := { frames := 0, cells := 0, slots := 0, locals := 0 }
abbrev GJ6_bitCount_0f7a4 (S : Shp) (r r' : Rf) (out : Option Int32 × Hp) (pc : Nat) (L : List (Nat × Value)) (st : List Value) (h : Hp) : Prop := G RJ6 cJ6_bitCount_0f7a4 1 (some .int) wsJ6_bitCount_0f7a4 rmJ6_bitCount_0f7a4 S r r' out pc L st h
theorem mJ6_bitCount_0f7a4_265 : Cond.constant RJ6 265 (1431655765) ∈ wsJ6_bitCount_0f7a4 := by decide +kernel
theorem mJ6_bitCount_0f7a4_266 : Cond.constant RJ6 266 (858993459) ∈ wsJ6_bitCount_0f7a4 := by decide +kernel
theorem mJ6_bitCount_0f7a4_267 : Cond.constant RJ6 267 (252645135) ∈ wsJ6_bitCount_0f7a4 := by decide +kernel
theorem hdJ6_bitCount_0f7a4 : yJ6_bitCount_0f7a4.cls ≠ "java/lang/invoke/MethodHandle" ∧ yJ6_bitCount_0f7a4.cls ≠ "java/lang/invoke/VarHandle" ∧ (parseMethodDescriptor yJ6_bitCount_0f7a4.desc).map (fun d => d.parameters.length) = some 1 := by decide +kernel
def fJ6_bitCount_0f7a4 (n : Nat) (r : Rf) (v0 : Int32) (h : Hp) : Option Int32 :=
  lE ((v0 - (((v0.toUInt32 >>> ((1 : Int32).toUInt32 &&& Int32.toUInt32 31)).toInt32) &&& 1431655765))) (fun (x1 : Int32) => lE (((x1 &&& 858993459) + (((x1.toUInt32 >>> ((2 : Int32).toUInt32 &&& Int32.toUInt32 31)).toInt32) &&& 858993459))) (fun (x2 : Int32) => lE (((x2 + ((x2.toUInt32 >>> ((4 : Int32).toUInt32 &&& Int32.toUInt32 31)).toInt32)) &&& 252645135)) (fun (x3 : Int32) => lE ((x3 + ((x3.toUInt32 >>> ((8 : Int32).toUInt32 &&& Int32.toUInt32 31)).toInt32))) (fun (x4 : Int32) => lE ((x4 + ((x4.toUInt32 >>> ((16 : Int32).toUInt32 &&& Int32.toUInt32 31)).toInt32))) (fun (x5 : Int32) => some (x5 &&& 63))))))
set_option maxHeartbeats 4000000 in
set_option maxRecDepth 100000 in
theorem uJ6_bitCount_0f7a4 {S : Shp} {n : Nat} {r : Rf} {v0 : Int32} {h : Hp} {o : Int32} (hW : WF S r)  (hf : fJ6_bitCount_0f7a4 n r v0 h = some o) : GJ6_bitCount_0f7a4 S r r (some o, h) 0 [(0, .int v0)] [] h := by
  unfold fJ6_bitCount_0f7a4 at hf
  refine g_iload_n (ps := 0) dJ6_bitCount_0f7a4_0 rfl rfl ?_
  refine g_iload_n (ps := 0) dJ6_bitCount_0f7a4_1 rfl rfl ?_
  refine g_iconst (v := 1) dJ6_bitCount_0f7a4_2 (by decide +kernel) ?_
  refine g_iushr dJ6_bitCount_0f7a4_3 ?_
  refine g_ldcw (v := 1431655765) mJ6_bitCount_0f7a4_265 dJ6_bitCount_0f7a4_4 ?_
  refine g_iand dJ6_bitCount_0f7a4_7 ?_
  refine g_isub dJ6_bitCount_0f7a4_8 ?_
  refine g_topi (fun x1 ex1 => ?_)
  have hf := lE_s hf ex1
  refine g_istore_n (L' := [(0, .int x1)]) dJ6_bitCount_0f7a4_9 rfl (by decide) rfl ?_
  refine g_iload_n (ps := 0) dJ6_bitCount_0f7a4_10 rfl rfl ?_
  refine g_ldcw (v := 858993459) mJ6_bitCount_0f7a4_266 dJ6_bitCount_0f7a4_11 ?_
  refine g_iand dJ6_bitCount_0f7a4_14 ?_
  refine g_iload_n (ps := 0) dJ6_bitCount_0f7a4_15 rfl rfl ?_
  refine g_iconst (v := 2) dJ6_bitCount_0f7a4_16 (by decide +kernel) ?_
  refine g_iushr dJ6_bitCount_0f7a4_17 ?_
  refine g_ldcw (v := 858993459) mJ6_bitCount_0f7a4_266 dJ6_bitCount_0f7a4_18 ?_
  refine g_iand dJ6_bitCount_0f7a4_21 ?_
  refine g_iadd dJ6_bitCount_0f7a4_22 ?_
  refine g_topi (fun x2 ex2 => ?_)
  have hf := lE_s hf ex2
  refine g_istore_n (L' := [(0, .int x2)]) dJ6_bitCount_0f7a4_23 rfl (by decide) rfl ?_
  refine g_iload_n (ps := 0) dJ6_bitCount_0f7a4_24 rfl rfl ?_
  refine g_iload_n (ps := 0) dJ6_bitCount_0f7a4_25 rfl rfl ?_
  refine g_iconst (v := 4) dJ6_bitCount_0f7a4_26 (by decide +kernel) ?_
  refine g_iushr dJ6_bitCount_0f7a4_27 ?_
  refine g_iadd dJ6_bitCount_0f7a4_28 ?_
  refine g_ldcw (v := 252645135) mJ6_bitCount_0f7a4_267 dJ6_bitCount_0f7a4_29 ?_
  refine g_iand dJ6_bitCount_0f7a4_32 ?_
  refine g_topi (fun x3 ex3 => ?_)
  have hf := lE_s hf ex3
  refine g_istore_n (L' := [(0, .int x3)]) dJ6_bitCount_0f7a4_33 rfl (by decide) rfl ?_
  refine g_iload_n (ps := 0) dJ6_bitCount_0f7a4_34 rfl rfl ?_
  refine g_iload_n (ps := 0) dJ6_bitCount_0f7a4_35 rfl rfl ?_
  refine g_bipush (v := 8) dJ6_bitCount_0f7a4_36 (by decide +kernel) ?_
  refine g_iushr dJ6_bitCount_0f7a4_38 ?_
  refine g_iadd dJ6_bitCount_0f7a4_39 ?_
  refine g_topi (fun x4 ex4 => ?_)
  have hf := lE_s hf ex4
  refine g_istore_n (L' := [(0, .int x4)]) dJ6_bitCount_0f7a4_40 rfl (by decide) rfl ?_
  refine g_iload_n (ps := 0) dJ6_bitCount_0f7a4_41 rfl rfl ?_
  refine g_iload_n (ps := 0) dJ6_bitCount_0f7a4_42 rfl rfl ?_
  refine g_bipush (v := 16) dJ6_bitCount_0f7a4_43 (by decide +kernel) ?_
  refine g_iushr dJ6_bitCount_0f7a4_45 ?_
  refine g_iadd dJ6_bitCount_0f7a4_46 ?_
  refine g_topi (fun x5 ex5 => ?_)
  have hf := lE_s hf ex5
  refine g_istore_n (L' := [(0, .int x5)]) dJ6_bitCount_0f7a4_47 rfl (by decide) rfl ?_
  refine g_iload_n (ps := 0) dJ6_bitCount_0f7a4_48 rfl rfl ?_
  refine g_bipush (v := 63) dJ6_bitCount_0f7a4_49 (by decide +kernel) ?_
  refine g_iand dJ6_bitCount_0f7a4_51 ?_
  have hf := Option.some.inj hf
  subst hf
  exact g_iret dJ6_bitCount_0f7a4_52
theorem kJ6_bitCount_0f7a4 {S : Shp} {n : Nat} {r : Rf} {v0 : Int32} {h : Hp} {o : Int32} (hW : WF S r)  (hf : fJ6_bitCount_0f7a4 n r v0 h = some o) : CTi yJ6_bitCount_0f7a4 wsJ6_bitCount_0f7a4 rmJ6_bitCount_0f7a4 S r [.int v0] h r o h :=
  cti_of rfl (by decide +kernel) rfl (Nat.le_of_ble_eq_true rfl) rfl (uJ6_bitCount_0f7a4 hW  hf)
/-! X0_passHour passHour -/
def rmX0_passHour : Room := { frames := 2, cells := 0, slots := 0, locals := 43 }
abbrev GX0_passHour (S : Shp) (r r' : Rf) (out : Option Int32 × Hp) (pc : Nat) (L : List (Nat × Value)) (st : List Value) (h : Hp) : Prop := G RX0 cX0_passHour 5 (some .int) wsX0_passHour rmX0_passHour S r r' out pc L st h
theorem nX0_passHour_X0 : ∀ w ∈ wsX00, w ∈ wsX0_passHour := by decide +kernel
theorem nX0_passHour_X1 : ∀ w ∈ wsX10, w ∈ wsX0_passHour := by decide +kernel
theorem mX0_passHour_71 : Cond.methodLink RX0 71 Lib.Math.min.name ∈ wsX0_passHour := by decide +kernel
theorem mX0_passHour_71_s : Cond.static Lib.Math.min.name ∈ wsX0_passHour := by decide +kernel
theorem mX0_passHour_71_c : Cond.code Lib.Math.min.name Lib.Math.min.code 2 (some .int) ∈ wsX0_passHour := by decide +kernel
theorem mX0_passHour_i : Cond.initialized "java/lang/Math" ∈ wsX0_passHour := by decide +kernel
theorem mX0_passHour_52_i : Cond.initialized RX5 ∈ wsX0_passHour := by decide +kernel
theorem mX0_passHour_52_s : Cond.static yX5_has ∈ wsX0_passHour := by decide +kernel
theorem mX0_passHour_15 : Cond.fieldLink RX0 15 "LinkedIsles$Bonds" "doneUp" "I" ∈ wsX0_passHour := by decide +kernel
theorem mX0_passHour_22 : Cond.fieldLink RX0 22 "LinkedIsles$Bonds" "held" "I" ∈ wsX0_passHour := by decide +kernel
theorem mX0_passHour_25 : Cond.fieldLink RX0 25 "LinkedIsles$Bonds" "hours" "I" ∈ wsX0_passHour := by decide +kernel
theorem mX0_passHour_31 : Cond.fieldLink RX0 31 "LinkedIsles$Bonds" "broke" "I" ∈ wsX0_passHour := by decide +kernel
theorem mX0_passHour_34 : Cond.fieldLink RX0 34 "LinkedIsles$Chart" "links" "I" ∈ wsX0_passHour := by decide +kernel
theorem mX0_passHour_64 : Cond.fieldLink RX0 64 "LinkedIsles$Chart" "kind" "[I" ∈ wsX0_passHour := by decide +kernel
theorem mX0_passHour_9 : Cond.fieldLink RX0 9 "LinkedIsles$Bonds" "strain" "[I" ∈ wsX0_passHour := by decide +kernel
theorem hdX0_passHour : yX0_passHour.cls ≠ "java/lang/invoke/MethodHandle" ∧ yX0_passHour.cls ≠ "java/lang/invoke/VarHandle" ∧ (parseMethodDescriptor yX0_passHour.desc).map (fun d => d.parameters.length) = some 1 := by decide +kernel
def bX0_passHour_14 (n : Nat) (r : Rf) (v0 : Nat) (v1 : Nat) (v2 : Int32) (v3 : Int32) (v4 : Int32) (h : Hp) : Option ((Int32 × Int32 × Hp) ⊕ (Int32 × Hp)) :=
  if (h.1 v1 10) ≤ v4 then (some (.inr (v3, h))) else ((fX5_has n r (h.1 v0 1) v4 h).bind (fun (x5 : Int32) => if x5 = 0 then (lE (v4 + 1) (fun (x7 : Int32) => some (.inl (v3, x7, h)))) else (ck v4 10 (ck v4 10 ((fX5_has n r (h.1 v0 3) v4 h).bind (fun (x11 : Int32) => (fX0_pull n r (h.1 (r v1 3) (Int32.toNatClampNeg v4)) v2 x11 h).bind (fun (x13 : Int32) => ck v4 10 (lE (pI h (r v0 0) (Int32.toNatClampNeg v4) (if 999 < ((h.1 (r v0 0) (Int32.toNatClampNeg v4)) + x13) then 999 else ((h.1 (r v0 0) (Int32.toNatClampNeg v4)) + x13))) (fun (h15 : Hp) => (fX0_spare n r v0 v1 v4 h15).bind (fun (x17 : Int32) => if 0 < x17 then (lE (v4 + 1) (fun (x19 : Int32) => some (.inl (v3, x19, h15)))) else (lE ((v3 ||| (1 <<< (v4 &&& 31)))) (fun (x20 : Int32) => lE (v4 + 1) (fun (x21 : Int32) => some (.inl (x20, x21, h15)))))))))))))))
def lX0_passHour_14 (n : Nat) (r : Rf) (v0 : Nat) (v1 : Nat) (v2 : Int32) (v3 : Int32) (v4 : Int32) (h : Hp) : Option (Int32 × Hp) :=
  (it (fun (s : Int32 × Int32 × Hp) => bX0_passHour_14 n r v0 v1 v2 s.1 s.2.1 s.2.2) n (v3, v4, h)).bind (fun z => lE (pI (z.2) v0 1 (((z.2).1 v0 1) &&& ((z.1) ^^^ (-1)))) (fun (h22 : Hp) => (fJ6_bitCount_0f7a4 n r (z.1) h22).bind (fun (x24 : Int32) => lE (pI h22 v0 6 ((h22.1 v0 6) + x24)) (fun (h25 : Hp) => lE (pI h25 v0 4 ((h25.1 v0 4) + 1)) (fun (h26 : Hp) => some ((z.1), h26))))))
def fX0_passHour (n : Nat) (r : Rf) (v0 : Nat) (v1 : Nat) (h : Hp) : Option (Int32 × Hp) :=
  (fX1_windOf n r v1 (h.1 v0 4) h).bind (fun (x2 : Int32) => lX0_passHour_14 n r v0 v1 x2 0 0 h)
set_option maxHeartbeats 4000000 in
set_option maxRecDepth 100000 in
theorem ubX0_passHour_14 {S : Shp} {n : Nat} {r : Rf} {out : Option Int32 × Hp} {r' : Rf} {v0 : Nat} {v1 : Nat} {v2 : Int32} {v3 : Int32} {v4 : Int32}  {h : Hp} {w : (Int32 × Int32 × Hp) ⊕ (Int32 × Hp)} (hW : WF S r) (hv0 : S[v0]? = some (0, 7)) (hv1 : S[v1]? = some (1, 12)) (hf : bX0_passHour_14 n r v0 v1 v2 v3 v4 h = some w) (hk : ∀ y, w = .inl y → GX0_passHour S r r' out 14 [(0, .ref v0), (1, .ref v1), (2, .int v2), (3, .int (y.1)), (4, .int (y.2.1))] [] (y.2.2)) (he : ∀ z, w = .inr z → GX0_passHour S r r' out 99 [(0, .ref v0), (1, .ref v1), (3, .int (z.1))] [] (z.2)) : GX0_passHour S r r' out 14 [(0, .ref v0), (1, .ref v1), (2, .int v2), (3, .int v3), (4, .int v4)] [] h := by
  unfold bX0_passHour_14 at hf
  refine g_iload (ps := 4) dX0_passHour_14 rfl ?_
  refine g_aload_n (ps := 1) dX0_passHour_16 rfl rfl ?_
  refine g_getI cf1 hv1 nX0_passHour_X1 (j := 10) (by decide) rfl mX0_passHour_34 dX0_passHour_17 ?_
  refine g_icmp_ge (tgt := 99) dX0_passHour_20 (by decide) (fun c3 => ?_) (fun c3 => ?_)
  · have hf := if_t hf c3
    exact g_pick [0, 1, 3] rfl (he _ (Option.some.inj hf).symm)
  · have hf := if_f hf c3
    refine g_aload_n (ps := 0) dX0_passHour_23 rfl rfl ?_
    refine g_getI cf0 hv0 nX0_passHour_X0 (j := 1) (by decide) rfl mX0_passHour_15 dX0_passHour_24 ?_
    refine g_iload (ps := 4) dX0_passHour_27 rfl ?_
    obtain ⟨x5, e4, hf⟩ := bd_s hf
    refine g_callNi (As := [.int (h.1 v0 1), .int v4]) (n := 2) (kX5_has hW  e4) gX0_passHour_X5_has_n52 (fun _ h => h.1) mX0_passHour_52_i mX0_passHour_52_s rfl ⟨rfl, rfl⟩ hdX5_has ⟨Nat.le_of_ble_eq_true rfl, Nat.le_of_ble_eq_true rfl⟩ rfl rfl (Nat.le_of_ble_eq_true rfl) dX0_passHour_29 ?_
    refine g_if_eq (tgt := 93) dX0_passHour_32 (by decide) (fun c6 => ?_) (fun c6 => ?_)
    · have hf := if_t hf c6
      obtain ⟨x7, ex7⟩ : ∃ y : Int32, y = v4 + 1 := ⟨_, rfl⟩
      have hf := lE_s hf ex7
      refine g_iinc (ps := 4) (v := x7) (L' := [(4, .int x7), (0, .ref v0), (1, .ref v1), (2, .int v2), (3, .int v3)]) dX0_passHour_93 rfl (by rw [ex7]; rfl) (by decide) rfl ?_
      refine g_goto (tgt := 14) dX0_passHour_96 (by decide) ?_
      exact g_pick [1, 2, 3, 4, 0] rfl (hk _ (Option.some.inj hf).symm)
    · have hf := if_f hf c6
      refine g_aload_n (ps := 0) dX0_passHour_35 rfl rfl ?_
      refine g_getR cf0 hv0 nX0_passHour_X0 (j := 0) (by decide) rfl mX0_passHour_9 dX0_passHour_36 ?_
      refine g_iload (ps := 4) dX0_passHour_39 rfl ?_
      refine g_aload_n (ps := 0) dX0_passHour_41 rfl rfl ?_
      refine g_getR cf0 hv0 nX0_passHour_X0 (j := 0) (by decide) rfl mX0_passHour_9 dX0_passHour_42 ?_
      refine g_iload (ps := 4) dX0_passHour_45 rfl ?_
      obtain ⟨z8, hf⟩ := ck_s hf
      refine g_iald (hW _ _ _ hv0 0 _ rfl) z8 dX0_passHour_47 ?_
      refine g_aload_n (ps := 1) dX0_passHour_48 rfl rfl ?_
      refine g_getR cf1 hv1 nX0_passHour_X1 (j := 3) (by decide) rfl mX0_passHour_64 dX0_passHour_49 ?_
      refine g_iload (ps := 4) dX0_passHour_52 rfl ?_
      obtain ⟨z9, hf⟩ := ck_s hf
      refine g_iald (hW _ _ _ hv1 3 _ rfl) z9 dX0_passHour_54 ?_
      refine g_iload_n (ps := 2) dX0_passHour_55 rfl rfl ?_
      refine g_aload_n (ps := 0) dX0_passHour_56 rfl rfl ?_
      refine g_getI cf0 hv0 nX0_passHour_X0 (j := 3) (by decide) rfl mX0_passHour_22 dX0_passHour_57 ?_
      refine g_iload (ps := 4) dX0_passHour_60 rfl ?_
      obtain ⟨x11, e10, hf⟩ := bd_s hf
      refine g_callNi (As := [.int (h.1 v0 3), .int v4]) (n := 2) (kX5_has hW  e10) gX0_passHour_X5_has_n52 (fun _ h => h.1) mX0_passHour_52_i mX0_passHour_52_s rfl ⟨rfl, rfl⟩ hdX5_has ⟨Nat.le_of_ble_eq_true rfl, Nat.le_of_ble_eq_true rfl⟩ rfl rfl (Nat.le_of_ble_eq_true rfl) dX0_passHour_62 ?_
      obtain ⟨x13, e12, hf⟩ := bd_s hf
      refine g_callSi (As := [.int (h.1 (r v1 3) (Int32.toNatClampNeg v4)), .int v2, .int x11]) (n := 3) (kX0_pull hW  e12) gX0_passHour_X0_pull rfl ⟨rfl, rfl⟩ hdX0_pull ⟨Nat.le_of_ble_eq_true rfl, Nat.le_of_ble_eq_true rfl⟩ rfl rfl (Nat.le_of_ble_eq_true rfl) dX0_passHour_65 ?_
      refine g_iadd dX0_passHour_68 ?_
      refine g_sipush (v := 999) dX0_passHour_69 (by decide +kernel) ?_
      refine g_min mX0_passHour_71 mX0_passHour_71_s mX0_passHour_i mX0_passHour_71_c (by decide) (Nat.le_of_ble_eq_true rfl) dX0_passHour_72 ?_
      obtain ⟨z14, hf⟩ := ck_s hf
      refine g_iast (hW _ _ _ hv0 0 _ rfl) z14 dX0_passHour_75 ?_
      refine g_topH (fun h15 eh15 => ?_)
      have hf := lE_s hf eh15
      refine g_aload_n (ps := 0) dX0_passHour_76 rfl rfl ?_
      refine g_aload_n (ps := 1) dX0_passHour_77 rfl rfl ?_
      refine g_iload (ps := 4) dX0_passHour_78 rfl ?_
      obtain ⟨x17, e16, hf⟩ := bd_s hf
      refine g_callVi (As := [.ref v1, .int v4]) (n := 2) (kX0_spare hW hv0 hv1 e16) gX0_passHour_X0_spare rfl ⟨rfl, rfl⟩ ⟨rfl, hdX0_spare⟩ ⟨Nat.le_of_ble_eq_true rfl, Nat.le_of_ble_eq_true rfl⟩ cf0 hv0 rfl rfl (Nat.le_of_ble_eq_true rfl) dX0_passHour_80 ?_
      refine g_if_gt (tgt := 93) dX0_passHour_83 (by decide) (fun c18 => ?_) (fun c18 => ?_)
      · have hf := if_t hf c18
        obtain ⟨x19, ex19⟩ : ∃ y : Int32, y = v4 + 1 := ⟨_, rfl⟩
        have hf := lE_s hf ex19
        refine g_iinc (ps := 4) (v := x19) (L' := [(4, .int x19), (0, .ref v0), (1, .ref v1), (2, .int v2), (3, .int v3)]) dX0_passHour_93 rfl (by rw [ex19]; rfl) (by decide) rfl ?_
        refine g_goto (tgt := 14) dX0_passHour_96 (by decide) ?_
        exact g_pick [1, 2, 3, 4, 0] rfl (hk _ (Option.some.inj hf).symm)
      · have hf := if_f hf c18
        refine g_iload_n (ps := 3) dX0_passHour_86 rfl rfl ?_
        refine g_iconst (v := 1) dX0_passHour_87 (by decide +kernel) ?_
        refine g_iload (ps := 4) dX0_passHour_88 rfl ?_
        refine g_ishl dX0_passHour_90 ?_
        refine g_ior dX0_passHour_91 ?_
        refine g_topi (fun x20 ex20 => ?_)
        have hf := lE_s hf ex20
        refine g_istore_n (L' := [(3, .int x20), (0, .ref v0), (1, .ref v1), (2, .int v2), (4, .int v4)]) dX0_passHour_92 rfl (by decide) rfl ?_
        obtain ⟨x21, ex21⟩ : ∃ y : Int32, y = v4 + 1 := ⟨_, rfl⟩
        have hf := lE_s hf ex21
        refine g_iinc (ps := 4) (v := x21) (L' := [(4, .int x21), (3, .int x20), (0, .ref v0), (1, .ref v1), (2, .int v2)]) dX0_passHour_93 rfl (by rw [ex21]; rfl) (by decide) rfl ?_
        refine g_goto (tgt := 14) dX0_passHour_96 (by decide) ?_
        exact g_pick [2, 3, 4, 1, 0] rfl (hk _ (Option.some.inj hf).symm)
set_option maxHeartbeats 4000000 in
set_option maxRecDepth 100000 in
theorem ulX0_passHour_14 {S : Shp} {n : Nat} {r : Rf} {v0 : Nat} {v1 : Nat} {v2 : Int32} {v3 : Int32} {v4 : Int32}  {h : Hp} {o : (Int32 × Hp)} (hW : WF S r) (hv0 : S[v0]? = some (0, 7)) (hv1 : S[v1]? = some (1, 12)) (hf : lX0_passHour_14 n r v0 v1 v2 v3 v4 h = some o)  : GX0_passHour S r r (some o.1, o.2) 14 [(0, .ref v0), (1, .ref v1), (2, .int v2), (3, .int v3), (4, .int v4)] [] h := by
  unfold lX0_passHour_14 at hf
  obtain ⟨z0, ei, hf⟩ := bd_s hf
  refine it_ind (P := fun (s : Int32 × Int32 × Hp) => GX0_passHour S r r (some o.1, o.2) 14 [(0, .ref v0), (1, .ref v1), (2, .int v2), (3, .int (s.1)), (4, .int (s.2.1))] [] (s.2.2)) (fun s w hb hk2 he2 => ?_) n _ ei
  refine ubX0_passHour_14 (out := (some o.1, o.2)) (r' := r) hW hv0 hv1 hb hk2 (fun z hz => ?_)
  have hz := he2 z hz
  subst hz
  refine g_aload_n (ps := 0) dX0_passHour_99 rfl rfl ?_
  refine g_dup dX0_passHour_100 rfl ?_
  refine g_getI cf0 hv0 nX0_passHour_X0 (j := 1) (by decide) rfl mX0_passHour_15 dX0_passHour_101 ?_
  refine g_iload_n (ps := 2) dX0_passHour_104 rfl rfl ?_
  refine g_iconst (v := (-1)) dX0_passHour_105 (by decide +kernel) ?_
  refine g_ixor dX0_passHour_106 ?_
  refine g_iand dX0_passHour_107 ?_
  refine g_putI cf0 hv0 nX0_passHour_X0 (j := 1) (by decide) rfl mX0_passHour_15 rfl dX0_passHour_108 ?_
  refine g_topH (fun h22 eh22 => ?_)
  have hf := lE_s hf eh22
  refine g_aload_n (ps := 0) dX0_passHour_111 rfl rfl ?_
  refine g_dup dX0_passHour_112 rfl ?_
  refine g_getI cf0 hv0 nX0_passHour_X0 (j := 6) (by decide) rfl mX0_passHour_31 dX0_passHour_113 ?_
  refine g_iload_n (ps := 2) dX0_passHour_116 rfl rfl ?_
  obtain ⟨x24, e23, hf⟩ := bd_s hf
  refine g_callSi (As := [.int (z.1)]) (n := 1) (kJ6_bitCount_0f7a4 hW  e23) gX0_passHour_J6_bitCount_0f7a4 rfl ⟨rfl, rfl⟩ hdJ6_bitCount_0f7a4 ⟨Nat.le_of_ble_eq_true rfl, Nat.le_of_ble_eq_true rfl⟩ rfl rfl (Nat.le_of_ble_eq_true rfl) dX0_passHour_117 ?_
  refine g_iadd dX0_passHour_120 ?_
  refine g_putI cf0 hv0 nX0_passHour_X0 (j := 6) (by decide) rfl mX0_passHour_31 rfl dX0_passHour_121 ?_
  refine g_topH (fun h25 eh25 => ?_)
  have hf := lE_s hf eh25
  refine g_aload_n (ps := 0) dX0_passHour_124 rfl rfl ?_
  refine g_dup dX0_passHour_125 rfl ?_
  refine g_getI cf0 hv0 nX0_passHour_X0 (j := 4) (by decide) rfl mX0_passHour_25 dX0_passHour_126 ?_
  refine g_iconst (v := 1) dX0_passHour_129 (by decide +kernel) ?_
  refine g_iadd dX0_passHour_130 ?_
  refine g_putI cf0 hv0 nX0_passHour_X0 (j := 4) (by decide) rfl mX0_passHour_25 rfl dX0_passHour_131 ?_
  refine g_topH (fun h26 eh26 => ?_)
  have hf := lE_s hf eh26
  refine g_iload_n (ps := 2) dX0_passHour_134 rfl rfl ?_
  have hf := Option.some.inj hf
  subst hf
  exact g_iret dX0_passHour_135
set_option maxHeartbeats 4000000 in
set_option maxRecDepth 100000 in
theorem uX0_passHour {S : Shp} {n : Nat} {r : Rf} {v0 : Nat} {v1 : Nat} {h : Hp} {o : (Int32 × Hp)} (hW : WF S r) (hv0 : S[v0]? = some (0, 7)) (hv1 : S[v1]? = some (1, 12)) (hf : fX0_passHour n r v0 v1 h = some o) : GX0_passHour S r r (some o.1, o.2) 0 [(0, .ref v0), (1, .ref v1)] [] h := by
  unfold fX0_passHour at hf
  refine g_aload_n (ps := 1) dX0_passHour_0 rfl rfl ?_
  refine g_aload_n (ps := 0) dX0_passHour_1 rfl rfl ?_
  refine g_getI cf0 hv0 nX0_passHour_X0 (j := 4) (by decide) rfl mX0_passHour_25 dX0_passHour_2 ?_
  obtain ⟨x2, e1, hf⟩ := bd_s hf
  refine g_callVi (As := [.int (h.1 v0 4)]) (n := 1) (kX1_windOf hW hv1 e1) gX0_passHour_X1_windOf rfl ⟨rfl, rfl⟩ ⟨rfl, hdX1_windOf⟩ ⟨Nat.le_of_ble_eq_true rfl, Nat.le_of_ble_eq_true rfl⟩ cf1 hv1 rfl rfl (Nat.le_of_ble_eq_true rfl) dX0_passHour_5 ?_
  refine g_istore_n (L' := [(2, .int x2), (0, .ref v0), (1, .ref v1)]) dX0_passHour_8 rfl (by decide) rfl ?_
  refine g_iconst (v := 0) dX0_passHour_9 (by decide +kernel) ?_
  refine g_istore_n (L' := [(3, .int 0), (2, .int x2), (0, .ref v0), (1, .ref v1)]) dX0_passHour_10 rfl (by decide) rfl ?_
  refine g_iconst (v := 0) dX0_passHour_11 (by decide +kernel) ?_
  refine g_istore (L' := [(4, .int 0), (3, .int 0), (2, .int x2), (0, .ref v0), (1, .ref v1)]) dX0_passHour_12 (by decide) rfl ?_
  exact g_pick [3, 4, 2, 1, 0] rfl (ulX0_passHour_14 hW hv0 hv1 hf)
theorem kX0_passHour {S : Shp} {n : Nat} {r : Rf} {v0 : Nat} {v1 : Nat} {h : Hp} {o : (Int32 × Hp)} (hW : WF S r) (hv0 : S[v0]? = some (0, 7)) (hv1 : S[v1]? = some (1, 12)) (hf : fX0_passHour n r v0 v1 h = some o) : CTi yX0_passHour wsX0_passHour rmX0_passHour S r [.ref v0, .ref v1] h r o.1 o.2 :=
  cti_of rfl (by decide +kernel) rfl (Nat.le_of_ble_eq_true rfl) rfl (uX0_passHour hW hv0 hv1 hf)
/-! X1_clear clear -/
def rmX1_clear : Room := { frames := 0, cells := 0, slots := 0, locals := 0 }
abbrev GX1_clear (S : Shp) (r r' : Rf) (out : Option Int32 × Hp) (pc : Nat) (L : List (Nat × Value)) (st : List Value) (h : Hp) : Prop := G RX1 cX1_clear 1 none wsX1_clear rmX1_clear S r r' out pc L st h
theorem nX1_clear_X1 : ∀ w ∈ wsX10, w ∈ wsX1_clear := by decide +kernel
theorem mX1_clear_39 : Cond.fieldLink RX1 39 "LinkedIsles$Chart" "islands" "I" ∈ wsX1_clear := by decide +kernel
theorem mX1_clear_43 : Cond.fieldLink RX1 43 "LinkedIsles$Chart" "links" "I" ∈ wsX1_clear := by decide +kernel
theorem mX1_clear_46 : Cond.fieldLink RX1 46 "LinkedIsles$Chart" "windCount" "I" ∈ wsX1_clear := by decide +kernel
theorem hdX1_clear : yX1_clear.cls ≠ "java/lang/invoke/MethodHandle" ∧ yX1_clear.cls ≠ "java/lang/invoke/VarHandle" ∧ (parseMethodDescriptor yX1_clear.desc).map (fun d => d.parameters.length) = some 0 := by decide +kernel
def fX1_clear (n : Nat) (r : Rf) (v0 : Nat) (h : Hp) : Option Hp :=
  lE (pI h v0 9 0) (fun (h1 : Hp) => lE (pI h1 v0 10 0) (fun (h2 : Hp) => lE (pI h2 v0 11 0) (fun (h3 : Hp) => some h3)))
set_option maxHeartbeats 4000000 in
set_option maxRecDepth 100000 in
theorem uX1_clear {S : Shp} {n : Nat} {r : Rf} {v0 : Nat} {h : Hp} {o : Hp} (hW : WF S r) (hv0 : S[v0]? = some (1, 12)) (hf : fX1_clear n r v0 h = some o) : GX1_clear S r r (none, o) 0 [(0, .ref v0)] [] h := by
  unfold fX1_clear at hf
  refine g_aload_n (ps := 0) dX1_clear_0 rfl rfl ?_
  refine g_iconst (v := 0) dX1_clear_1 (by decide +kernel) ?_
  refine g_putI cf1 hv0 nX1_clear_X1 (j := 9) (by decide) rfl mX1_clear_39 rfl dX1_clear_2 ?_
  refine g_topH (fun h1 eh1 => ?_)
  have hf := lE_s hf eh1
  refine g_aload_n (ps := 0) dX1_clear_5 rfl rfl ?_
  refine g_iconst (v := 0) dX1_clear_6 (by decide +kernel) ?_
  refine g_putI cf1 hv0 nX1_clear_X1 (j := 10) (by decide) rfl mX1_clear_43 rfl dX1_clear_7 ?_
  refine g_topH (fun h2 eh2 => ?_)
  have hf := lE_s hf eh2
  refine g_aload_n (ps := 0) dX1_clear_10 rfl rfl ?_
  refine g_iconst (v := 0) dX1_clear_11 (by decide +kernel) ?_
  refine g_putI cf1 hv0 nX1_clear_X1 (j := 11) (by decide) rfl mX1_clear_46 rfl dX1_clear_12 ?_
  refine g_topH (fun h3 eh3 => ?_)
  have hf := lE_s hf eh3
  have hf := Option.some.inj hf
  subst hf
  exact g_vret dX1_clear_15
theorem kX1_clear {S : Shp} {n : Nat} {r : Rf} {v0 : Nat} {h : Hp} {o : Hp} (hW : WF S r) (hv0 : S[v0]? = some (1, 12)) (hf : fX1_clear n r v0 h = some o) : CTv yX1_clear wsX1_clear rmX1_clear S r [.ref v0] h r o :=
  ctv_of rfl (by decide +kernel) rfl (Nat.le_of_ble_eq_true rfl) rfl (uX1_clear hW hv0 hf)
/-! X1_hasIsland hasIsland -/
def rmX1_hasIsland : Room := { frames := 0, cells := 0, slots := 0, locals := 0 }
abbrev GX1_hasIsland (S : Shp) (r r' : Rf) (out : Option Int32 × Hp) (pc : Nat) (L : List (Nat × Value)) (st : List Value) (h : Hp) : Prop := G RX1 cX1_hasIsland 2 (some .boolean) wsX1_hasIsland rmX1_hasIsland S r r' out pc L st h
theorem nX1_hasIsland_X1 : ∀ w ∈ wsX10, w ∈ wsX1_hasIsland := by decide +kernel
theorem mX1_hasIsland_39 : Cond.fieldLink RX1 39 "LinkedIsles$Chart" "islands" "I" ∈ wsX1_hasIsland := by decide +kernel
theorem hdX1_hasIsland : yX1_hasIsland.cls ≠ "java/lang/invoke/MethodHandle" ∧ yX1_hasIsland.cls ≠ "java/lang/invoke/VarHandle" ∧ (parseMethodDescriptor yX1_hasIsland.desc).map (fun d => d.parameters.length) = some 1 := by decide +kernel
def fX1_hasIsland (n : Nat) (r : Rf) (v0 : Nat) (v1 : Int32) (h : Hp) : Option Int32 :=
  if v1 < 0 then (some 0) else (if (h.1 v0 9) ≤ v1 then (some 0) else (some 1))
set_option maxHeartbeats 4000000 in
set_option maxRecDepth 100000 in
theorem uX1_hasIsland {S : Shp} {n : Nat} {r : Rf} {v0 : Nat} {v1 : Int32} {h : Hp} {o : Int32} (hW : WF S r) (hv0 : S[v0]? = some (1, 12)) (hf : fX1_hasIsland n r v0 v1 h = some o) : GX1_hasIsland S r r (some o, h) 0 [(0, .ref v0), (1, .int v1)] [] h := by
  unfold fX1_hasIsland at hf
  refine g_iload_n (ps := 1) dX1_hasIsland_0 rfl rfl ?_
  refine g_if_lt (tgt := 16) dX1_hasIsland_1 (by decide) (fun c1 => ?_) (fun c1 => ?_)
  · have hf := if_t hf c1
    refine g_iconst (v := 0) dX1_hasIsland_16 (by decide +kernel) ?_
    have hf := Option.some.inj hf
    subst hf
    exact g_zret (Or.inl rfl) dX1_hasIsland_17
  · have hf := if_f hf c1
    refine g_iload_n (ps := 1) dX1_hasIsland_4 rfl rfl ?_
    refine g_aload_n (ps := 0) dX1_hasIsland_5 rfl rfl ?_
    refine g_getI cf1 hv0 nX1_hasIsland_X1 (j := 9) (by decide) rfl mX1_hasIsland_39 dX1_hasIsland_6 ?_
    refine g_icmp_ge (tgt := 16) dX1_hasIsland_9 (by decide) (fun c2 => ?_) (fun c2 => ?_)
    · have hf := if_t hf c2
      refine g_iconst (v := 0) dX1_hasIsland_16 (by decide +kernel) ?_
      have hf := Option.some.inj hf
      subst hf
      exact g_zret (Or.inl rfl) dX1_hasIsland_17
    · have hf := if_f hf c2
      refine g_iconst (v := 1) dX1_hasIsland_12 (by decide +kernel) ?_
      refine g_goto (tgt := 17) dX1_hasIsland_13 (by decide) ?_
      have hf := Option.some.inj hf
      subst hf
      exact g_zret (Or.inr rfl) dX1_hasIsland_17
theorem kX1_hasIsland {S : Shp} {n : Nat} {r : Rf} {v0 : Nat} {v1 : Int32} {h : Hp} {o : Int32} (hW : WF S r) (hv0 : S[v0]? = some (1, 12)) (hf : fX1_hasIsland n r v0 v1 h = some o) : CTi yX1_hasIsland wsX1_hasIsland rmX1_hasIsland S r [.ref v0, .int v1] h r o h :=
  cti_of rfl (by decide +kernel) rfl (Nat.le_of_ble_eq_true rfl) rfl (uX1_hasIsland hW hv0 hf)
/-! X1_hasLink hasLink -/
def rmX1_hasLink : Room := { frames := 0, cells := 0, slots := 0, locals := 0 }
abbrev GX1_hasLink (S : Shp) (r r' : Rf) (out : Option Int32 × Hp) (pc : Nat) (L : List (Nat × Value)) (st : List Value) (h : Hp) : Prop := G RX1 cX1_hasLink 2 (some .boolean) wsX1_hasLink rmX1_hasLink S r r' out pc L st h
theorem nX1_hasLink_X1 : ∀ w ∈ wsX10, w ∈ wsX1_hasLink := by decide +kernel
theorem mX1_hasLink_43 : Cond.fieldLink RX1 43 "LinkedIsles$Chart" "links" "I" ∈ wsX1_hasLink := by decide +kernel
theorem hdX1_hasLink : yX1_hasLink.cls ≠ "java/lang/invoke/MethodHandle" ∧ yX1_hasLink.cls ≠ "java/lang/invoke/VarHandle" ∧ (parseMethodDescriptor yX1_hasLink.desc).map (fun d => d.parameters.length) = some 1 := by decide +kernel
def fX1_hasLink (n : Nat) (r : Rf) (v0 : Nat) (v1 : Int32) (h : Hp) : Option Int32 :=
  if v1 < 0 then (some 0) else (if (h.1 v0 10) ≤ v1 then (some 0) else (some 1))
set_option maxHeartbeats 4000000 in
set_option maxRecDepth 100000 in
theorem uX1_hasLink {S : Shp} {n : Nat} {r : Rf} {v0 : Nat} {v1 : Int32} {h : Hp} {o : Int32} (hW : WF S r) (hv0 : S[v0]? = some (1, 12)) (hf : fX1_hasLink n r v0 v1 h = some o) : GX1_hasLink S r r (some o, h) 0 [(0, .ref v0), (1, .int v1)] [] h := by
  unfold fX1_hasLink at hf
  refine g_iload_n (ps := 1) dX1_hasLink_0 rfl rfl ?_
  refine g_if_lt (tgt := 16) dX1_hasLink_1 (by decide) (fun c1 => ?_) (fun c1 => ?_)
  · have hf := if_t hf c1
    refine g_iconst (v := 0) dX1_hasLink_16 (by decide +kernel) ?_
    have hf := Option.some.inj hf
    subst hf
    exact g_zret (Or.inl rfl) dX1_hasLink_17
  · have hf := if_f hf c1
    refine g_iload_n (ps := 1) dX1_hasLink_4 rfl rfl ?_
    refine g_aload_n (ps := 0) dX1_hasLink_5 rfl rfl ?_
    refine g_getI cf1 hv0 nX1_hasLink_X1 (j := 10) (by decide) rfl mX1_hasLink_43 dX1_hasLink_6 ?_
    refine g_icmp_ge (tgt := 16) dX1_hasLink_9 (by decide) (fun c2 => ?_) (fun c2 => ?_)
    · have hf := if_t hf c2
      refine g_iconst (v := 0) dX1_hasLink_16 (by decide +kernel) ?_
      have hf := Option.some.inj hf
      subst hf
      exact g_zret (Or.inl rfl) dX1_hasLink_17
    · have hf := if_f hf c2
      refine g_iconst (v := 1) dX1_hasLink_12 (by decide +kernel) ?_
      refine g_goto (tgt := 17) dX1_hasLink_13 (by decide) ?_
      have hf := Option.some.inj hf
      subst hf
      exact g_zret (Or.inr rfl) dX1_hasLink_17
theorem kX1_hasLink {S : Shp} {n : Nat} {r : Rf} {v0 : Nat} {v1 : Int32} {h : Hp} {o : Int32} (hW : WF S r) (hv0 : S[v0]? = some (1, 12)) (hf : fX1_hasLink n r v0 v1 h = some o) : CTi yX1_hasLink wsX1_hasLink rmX1_hasLink S r [.ref v0, .int v1] h r o h :=
  cti_of rfl (by decide +kernel) rfl (Nat.le_of_ble_eq_true rfl) rfl (uX1_hasLink hW hv0 hf)
/-! X1_sideRead sideRead -/
def rmX1_sideRead : Room := { frames := 0, cells := 0, slots := 0, locals := 0 }
abbrev GX1_sideRead (S : Shp) (r r' : Rf) (out : Option Int32 × Hp) (pc : Nat) (L : List (Nat × Value)) (st : List Value) (h : Hp) : Prop := G RX1 cX1_sideRead 4 (some .int) wsX1_sideRead rmX1_sideRead S r r' out pc L st h
theorem nX1_sideRead_X1 : ∀ w ∈ wsX10, w ∈ wsX1_sideRead := by decide +kernel
theorem mX1_sideRead_27 : Cond.fieldLink RX1 27 "LinkedIsles$Chart" "sideA" "[I" ∈ wsX1_sideRead := by decide +kernel
theorem mX1_sideRead_30 : Cond.fieldLink RX1 30 "LinkedIsles$Chart" "sideB" "[I" ∈ wsX1_sideRead := by decide +kernel
theorem hdX1_sideRead : yX1_sideRead.cls ≠ "java/lang/invoke/MethodHandle" ∧ yX1_sideRead.cls ≠ "java/lang/invoke/VarHandle" ∧ (parseMethodDescriptor yX1_sideRead.desc).map (fun d => d.parameters.length) = some 3 := by decide +kernel
def fX1_sideRead (n : Nat) (r : Rf) (v0 : Nat) (v1 : Int32) (v2 : Int32) (v3 : Int32) (h : Hp) : Option Int32 :=
  if v2 = v3 then (ck v1 10 (some (h.1 (r v0 6) (Int32.toNatClampNeg v1)))) else (ck v1 10 (some (h.1 (r v0 5) (Int32.toNatClampNeg v1))))
set_option maxHeartbeats 4000000 in
set_option maxRecDepth 100000 in
theorem uX1_sideRead {S : Shp} {n : Nat} {r : Rf} {v0 : Nat} {v1 : Int32} {v2 : Int32} {v3 : Int32} {h : Hp} {o : Int32} (hW : WF S r) (hv0 : S[v0]? = some (1, 12)) (hf : fX1_sideRead n r v0 v1 v2 v3 h = some o) : GX1_sideRead S r r (some o, h) 0 [(0, .ref v0), (1, .int v1), (2, .int v2), (3, .int v3)] [] h := by
  unfold fX1_sideRead at hf
  refine g_iload_n (ps := 2) dX1_sideRead_0 rfl rfl ?_
  refine g_iload_n (ps := 3) dX1_sideRead_1 rfl rfl ?_
  refine g_icmp_eq (tgt := 14) dX1_sideRead_2 (by decide) (fun c1 => ?_) (fun c1 => ?_)
  · have hf := if_t hf c1
    refine g_aload_n (ps := 0) dX1_sideRead_14 rfl rfl ?_
    refine g_getR cf1 hv0 nX1_sideRead_X1 (j := 6) (by decide) rfl mX1_sideRead_30 dX1_sideRead_15 ?_
    refine g_iload_n (ps := 1) dX1_sideRead_18 rfl rfl ?_
    obtain ⟨z2, hf⟩ := ck_s hf
    refine g_iald (hW _ _ _ hv0 6 _ rfl) z2 dX1_sideRead_19 ?_
    have hf := Option.some.inj hf
    subst hf
    exact g_iret dX1_sideRead_20
  · have hf := if_f hf c1
    refine g_aload_n (ps := 0) dX1_sideRead_5 rfl rfl ?_
    refine g_getR cf1 hv0 nX1_sideRead_X1 (j := 5) (by decide) rfl mX1_sideRead_27 dX1_sideRead_6 ?_
    refine g_iload_n (ps := 1) dX1_sideRead_9 rfl rfl ?_
    obtain ⟨z3, hf⟩ := ck_s hf
    refine g_iald (hW _ _ _ hv0 5 _ rfl) z3 dX1_sideRead_10 ?_
    refine g_goto (tgt := 20) dX1_sideRead_11 (by decide) ?_
    have hf := Option.some.inj hf
    subst hf
    exact g_iret dX1_sideRead_20
theorem kX1_sideRead {S : Shp} {n : Nat} {r : Rf} {v0 : Nat} {v1 : Int32} {v2 : Int32} {v3 : Int32} {h : Hp} {o : Int32} (hW : WF S r) (hv0 : S[v0]? = some (1, 12)) (hf : fX1_sideRead n r v0 v1 v2 v3 h = some o) : CTi yX1_sideRead wsX1_sideRead rmX1_sideRead S r [.ref v0, .int v1, .int v2, .int v3] h r o h :=
  cti_of rfl (by decide +kernel) rfl (Nat.le_of_ble_eq_true rfl) rfl (uX1_sideRead hW hv0 hf)
/-! X1_widen widen -/
def rmX1_widen : Room := { frames := 1, cells := 0, slots := 0, locals := 21 }
abbrev GX1_widen (S : Shp) (r r' : Rf) (out : Option Int32 × Hp) (pc : Nat) (L : List (Nat × Value)) (st : List Value) (h : Hp) : Prop := G RX1 cX1_widen 5 (some .int) wsX1_widen rmX1_widen S r r' out pc L st h
theorem nX1_widen_X1 : ∀ w ∈ wsX10, w ∈ wsX1_widen := by decide +kernel
theorem mX1_widen_49_i : Cond.initialized RX5 ∈ wsX1_widen := by decide +kernel
theorem mX1_widen_49_s : Cond.static yX5_has ∈ wsX1_widen := by decide +kernel
theorem mX1_widen_18 : Cond.fieldLink RX1 18 "LinkedIsles$Chart" "ends" "[I" ∈ wsX1_widen := by decide +kernel
theorem mX1_widen_43 : Cond.fieldLink RX1 43 "LinkedIsles$Chart" "links" "I" ∈ wsX1_widen := by decide +kernel
theorem hdX1_widen : yX1_widen.cls ≠ "java/lang/invoke/MethodHandle" ∧ yX1_widen.cls ≠ "java/lang/invoke/VarHandle" ∧ (parseMethodDescriptor yX1_widen.desc).map (fun d => d.parameters.length) = some 2 := by decide +kernel
def bX1_widen_5 (n : Nat) (r : Rf) (v0 : Nat) (v1 : Int32) (v2 : Int32) (v3 : Int32) (v4 : Int32) (h : Hp) : Option ((Int32 × Int32) ⊕ (Int32)) :=
  if (h.1 v0 10) ≤ v4 then (some (.inr v3)) else ((fX5_has n r v2 v4 h).bind (fun (x3 : Int32) => if x3 = 0 then (lE (v4 + 1) (fun (x5 : Int32) => some (.inl (v3, x5)))) else (ck v4 10 (if (v1 &&& (h.1 (r v0 2) (Int32.toNatClampNeg v4))) = 0 then (lE (v4 + 1) (fun (x8 : Int32) => some (.inl (v3, x8)))) else (ck v4 10 (lE ((v3 ||| (h.1 (r v0 2) (Int32.toNatClampNeg v4)))) (fun (x10 : Int32) => lE (v4 + 1) (fun (x11 : Int32) => some (.inl (x10, x11))))))))))
def lX1_widen_5 (n : Nat) (r : Rf) (v0 : Nat) (v1 : Int32) (v2 : Int32) (v3 : Int32) (v4 : Int32) (h : Hp) : Option Int32 :=
  (it (fun (s : Int32 × Int32) => bX1_widen_5 n r v0 v1 v2 s.1 s.2 h) n (v3, v4)).bind (fun z => some z)
def fX1_widen (n : Nat) (r : Rf) (v0 : Nat) (v1 : Int32) (v2 : Int32) (h : Hp) : Option Int32 :=
  lX1_widen_5 n r v0 v1 v2 v1 0 h
set_option maxHeartbeats 4000000 in
set_option maxRecDepth 100000 in
theorem ubX1_widen_5 {S : Shp} {n : Nat} {r : Rf} {out : Option Int32 × Hp} {r' : Rf} {v0 : Nat} {v1 : Int32} {v2 : Int32} {v3 : Int32} {v4 : Int32}  {h : Hp} {w : (Int32 × Int32) ⊕ (Int32)} (hW : WF S r) (hv0 : S[v0]? = some (1, 12)) (hf : bX1_widen_5 n r v0 v1 v2 v3 v4 h = some w) (hk : ∀ y, w = .inl y → GX1_widen S r r' out 5 [(0, .ref v0), (1, .int v1), (2, .int v2), (3, .int (y.1)), (4, .int (y.2))] [] h) (he : ∀ z, w = .inr z → GX1_widen S r r' out 51 [(0, .ref v0), (3, .int (z))] [] h) : GX1_widen S r r' out 5 [(0, .ref v0), (1, .int v1), (2, .int v2), (3, .int v3), (4, .int v4)] [] h := by
  unfold bX1_widen_5 at hf
  refine g_iload (ps := 4) dX1_widen_5 rfl ?_
  refine g_aload_n (ps := 0) dX1_widen_7 rfl rfl ?_
  refine g_getI cf1 hv0 nX1_widen_X1 (j := 10) (by decide) rfl mX1_widen_43 dX1_widen_8 ?_
  refine g_icmp_ge (tgt := 51) dX1_widen_11 (by decide) (fun c1 => ?_) (fun c1 => ?_)
  · have hf := if_t hf c1
    exact g_pick [0, 3] rfl (he _ (Option.some.inj hf).symm)
  · have hf := if_f hf c1
    refine g_iload_n (ps := 2) dX1_widen_14 rfl rfl ?_
    refine g_iload (ps := 4) dX1_widen_15 rfl ?_
    obtain ⟨x3, e2, hf⟩ := bd_s hf
    refine g_callNi (As := [.int v2, .int v4]) (n := 2) (kX5_has hW  e2) gX1_widen_X5_has_n49 (fun _ h => h.2.1) mX1_widen_49_i mX1_widen_49_s rfl ⟨rfl, rfl⟩ hdX5_has ⟨Nat.le_of_ble_eq_true rfl, Nat.le_of_ble_eq_true rfl⟩ rfl rfl (Nat.le_of_ble_eq_true rfl) dX1_widen_17 ?_
    refine g_if_eq (tgt := 45) dX1_widen_20 (by decide) (fun c4 => ?_) (fun c4 => ?_)
    · have hf := if_t hf c4
      obtain ⟨x5, ex5⟩ : ∃ y : Int32, y = v4 + 1 := ⟨_, rfl⟩
      have hf := lE_s hf ex5
      refine g_iinc (ps := 4) (v := x5) (L' := [(4, .int x5), (0, .ref v0), (1, .int v1), (2, .int v2), (3, .int v3)]) dX1_widen_45 rfl (by rw [ex5]; rfl) (by decide) rfl ?_
      refine g_goto (tgt := 5) dX1_widen_48 (by decide) ?_
      exact g_pick [1, 2, 3, 4, 0] rfl (hk _ (Option.some.inj hf).symm)
    · have hf := if_f hf c4
      refine g_iload_n (ps := 1) dX1_widen_23 rfl rfl ?_
      refine g_aload_n (ps := 0) dX1_widen_24 rfl rfl ?_
      refine g_getR cf1 hv0 nX1_widen_X1 (j := 2) (by decide) rfl mX1_widen_18 dX1_widen_25 ?_
      refine g_iload (ps := 4) dX1_widen_28 rfl ?_
      obtain ⟨z6, hf⟩ := ck_s hf
      refine g_iald (hW _ _ _ hv0 2 _ rfl) z6 dX1_widen_30 ?_
      refine g_iand dX1_widen_31 ?_
      refine g_if_eq (tgt := 45) dX1_widen_32 (by decide) (fun c7 => ?_) (fun c7 => ?_)
      · have hf := if_t hf c7
        obtain ⟨x8, ex8⟩ : ∃ y : Int32, y = v4 + 1 := ⟨_, rfl⟩
        have hf := lE_s hf ex8
        refine g_iinc (ps := 4) (v := x8) (L' := [(4, .int x8), (0, .ref v0), (1, .int v1), (2, .int v2), (3, .int v3)]) dX1_widen_45 rfl (by rw [ex8]; rfl) (by decide) rfl ?_
        refine g_goto (tgt := 5) dX1_widen_48 (by decide) ?_
        exact g_pick [1, 2, 3, 4, 0] rfl (hk _ (Option.some.inj hf).symm)
      · have hf := if_f hf c7
        refine g_iload_n (ps := 3) dX1_widen_35 rfl rfl ?_
        refine g_aload_n (ps := 0) dX1_widen_36 rfl rfl ?_
        refine g_getR cf1 hv0 nX1_widen_X1 (j := 2) (by decide) rfl mX1_widen_18 dX1_widen_37 ?_
        refine g_iload (ps := 4) dX1_widen_40 rfl ?_
        obtain ⟨z9, hf⟩ := ck_s hf
        refine g_iald (hW _ _ _ hv0 2 _ rfl) z9 dX1_widen_42 ?_
        refine g_ior dX1_widen_43 ?_
        refine g_topi (fun x10 ex10 => ?_)
        have hf := lE_s hf ex10
        refine g_istore_n (L' := [(3, .int x10), (0, .ref v0), (1, .int v1), (2, .int v2), (4, .int v4)]) dX1_widen_44 rfl (by decide) rfl ?_
        obtain ⟨x11, ex11⟩ : ∃ y : Int32, y = v4 + 1 := ⟨_, rfl⟩
        have hf := lE_s hf ex11
        refine g_iinc (ps := 4) (v := x11) (L' := [(4, .int x11), (3, .int x10), (0, .ref v0), (1, .int v1), (2, .int v2)]) dX1_widen_45 rfl (by rw [ex11]; rfl) (by decide) rfl ?_
        refine g_goto (tgt := 5) dX1_widen_48 (by decide) ?_
        exact g_pick [2, 3, 4, 1, 0] rfl (hk _ (Option.some.inj hf).symm)
set_option maxHeartbeats 4000000 in
set_option maxRecDepth 100000 in
theorem ulX1_widen_5 {S : Shp} {n : Nat} {r : Rf} {v0 : Nat} {v1 : Int32} {v2 : Int32} {v3 : Int32} {v4 : Int32}  {h : Hp} {o : Int32} (hW : WF S r) (hv0 : S[v0]? = some (1, 12)) (hf : lX1_widen_5 n r v0 v1 v2 v3 v4 h = some o)  : GX1_widen S r r (some o, h) 5 [(0, .ref v0), (1, .int v1), (2, .int v2), (3, .int v3), (4, .int v4)] [] h := by
  unfold lX1_widen_5 at hf
  obtain ⟨z0, ei, hf⟩ := bd_s hf
  refine it_ind (P := fun (s : Int32 × Int32) => GX1_widen S r r (some o, h) 5 [(0, .ref v0), (1, .int v1), (2, .int v2), (3, .int (s.1)), (4, .int (s.2))] [] h) (fun s w hb hk2 he2 => ?_) n _ ei
  refine ubX1_widen_5 (out := (some o, h)) (r' := r) hW hv0 hb hk2 (fun z hz => ?_)
  have hz := he2 z hz
  subst hz
  refine g_iload_n (ps := 1) dX1_widen_51 rfl rfl ?_
  have hf := Option.some.inj hf
  subst hf
  exact g_iret dX1_widen_52
set_option maxHeartbeats 4000000 in
set_option maxRecDepth 100000 in
theorem uX1_widen {S : Shp} {n : Nat} {r : Rf} {v0 : Nat} {v1 : Int32} {v2 : Int32} {h : Hp} {o : Int32} (hW : WF S r) (hv0 : S[v0]? = some (1, 12)) (hf : fX1_widen n r v0 v1 v2 h = some o) : GX1_widen S r r (some o, h) 0 [(0, .ref v0), (1, .int v1), (2, .int v2)] [] h := by
  unfold fX1_widen at hf
  refine g_iload_n (ps := 1) dX1_widen_0 rfl rfl ?_
  refine g_istore_n (L' := [(3, .int v1), (0, .ref v0), (1, .int v1), (2, .int v2)]) dX1_widen_1 rfl (by decide) rfl ?_
  refine g_iconst (v := 0) dX1_widen_2 (by decide +kernel) ?_
  refine g_istore (L' := [(4, .int 0), (3, .int v1), (0, .ref v0), (1, .int v1), (2, .int v2)]) dX1_widen_3 (by decide) rfl ?_
  exact g_pick [2, 3, 4, 1, 0] rfl (ulX1_widen_5 hW hv0 hf)
theorem kX1_widen {S : Shp} {n : Nat} {r : Rf} {v0 : Nat} {v1 : Int32} {v2 : Int32} {h : Hp} {o : Int32} (hW : WF S r) (hv0 : S[v0]? = some (1, 12)) (hf : fX1_widen n r v0 v1 v2 h = some o) : CTi yX1_widen wsX1_widen rmX1_widen S r [.ref v0, .int v1, .int v2] h r o h :=
  cti_of rfl (by decide +kernel) rfl (Nat.le_of_ble_eq_true rfl) rfl (uX1_widen hW hv0 hf)
/-! X1_reach reach -/
def rmX1_reach : Room := { frames := 2, cells := 0, slots := 0, locals := 45 }
abbrev GX1_reach (S : Shp) (r r' : Rf) (out : Option Int32 × Hp) (pc : Nat) (L : List (Nat × Value)) (st : List Value) (h : Hp) : Prop := G RX1 cX1_reach 6 (some .int) wsX1_reach rmX1_reach S r r' out pc L st h
theorem nX1_reach_X1 : ∀ w ∈ wsX10, w ∈ wsX1_reach := by decide +kernel
theorem mX1_reach_39 : Cond.fieldLink RX1 39 "LinkedIsles$Chart" "islands" "I" ∈ wsX1_reach := by decide +kernel
theorem hdX1_reach : yX1_reach.cls ≠ "java/lang/invoke/MethodHandle" ∧ yX1_reach.cls ≠ "java/lang/invoke/VarHandle" ∧ (parseMethodDescriptor yX1_reach.desc).map (fun d => d.parameters.length) = some 2 := by decide +kernel
def bX1_reach_7 (n : Nat) (r : Rf) (v0 : Nat) (v2 : Int32) (v3 : Int32) (v4 : Int32) (h : Hp) : Option ((Int32 × Int32) ⊕ ((Int32) ⊕ (Int32))) :=
  if (h.1 v0 9) ≤ v4 then (some (.inr (.inr (v3)))) else ((fX1_widen n r v0 v3 v2 h).bind (fun (x4 : Int32) => if x4 = v3 then (some (.inr (.inl v3))) else (lE (v4 + 1) (fun (x6 : Int32) => some (.inl (x4, x6))))))
def lX1_reach_7 (n : Nat) (r : Rf) (v0 : Nat) (v2 : Int32) (v3 : Int32) (v4 : Int32) (h : Hp) : Option Int32 :=
  (it (fun (s : Int32 × Int32) => bX1_reach_7 n r v0 v2 s.1 s.2 h) n (v3, v4)).bind (fun z => match z with | .inl z => some z | .inr z => some z)
def fX1_reach (n : Nat) (r : Rf) (v0 : Nat) (v1 : Int32) (v2 : Int32) (h : Hp) : Option Int32 :=
  lE ((1 <<< (v1 &&& 31))) (fun (x1 : Int32) => lX1_reach_7 n r v0 v2 x1 0 h)
set_option maxHeartbeats 4000000 in
set_option maxRecDepth 100000 in
theorem ubX1_reach_7 {S : Shp} {n : Nat} {r : Rf} {out : Option Int32 × Hp} {r' : Rf} {v0 : Nat} {v2 : Int32} {v3 : Int32} {v4 : Int32}  {h : Hp} {w : (Int32 × Int32) ⊕ ((Int32) ⊕ (Int32))} (hW : WF S r) (hv0 : S[v0]? = some (1, 12)) (hf : bX1_reach_7 n r v0 v2 v3 v4 h = some w) (hk : ∀ y, w = .inl y → GX1_reach S r r' out 7 [(0, .ref v0), (2, .int v2), (3, .int (y.1)), (4, .int (y.2))] [] h) (he : ∀ z, w = .inr z → (match z with | .inl z => GX1_reach S r r' out 30 [(0, .ref v0), (3, .int (z))] [] h | .inr z => GX1_reach S r r' out 42 [(0, .ref v0), (3, .int (z))] [] h)) : GX1_reach S r r' out 7 [(0, .ref v0), (2, .int v2), (3, .int v3), (4, .int v4)] [] h := by
  unfold bX1_reach_7 at hf
  refine g_iload (ps := 3) dX1_reach_7 rfl ?_
  refine g_aload_n (ps := 0) dX1_reach_9 rfl rfl ?_
  refine g_getI cf1 hv0 nX1_reach_X1 (j := 9) (by decide) rfl mX1_reach_39 dX1_reach_10 ?_
  refine g_icmp_ge (tgt := 42) dX1_reach_13 (by decide) (fun c2 => ?_) (fun c2 => ?_)
  · have hf := if_t hf c2
    exact g_pick [0, 2] rfl (he _ (Option.some.inj hf).symm)
  · have hf := if_f hf c2
    refine g_aload_n (ps := 0) dX1_reach_16 rfl rfl ?_
    refine g_iload_n (ps := 2) dX1_reach_17 rfl rfl ?_
    refine g_iload_n (ps := 1) dX1_reach_18 rfl rfl ?_
    obtain ⟨x4, e3, hf⟩ := bd_s hf
    refine g_callVi (As := [.int v3, .int v2]) (n := 2) (kX1_widen hW hv0 e3) gX1_reach_X1_widen rfl ⟨rfl, rfl⟩ ⟨rfl, hdX1_widen⟩ ⟨Nat.le_of_ble_eq_true rfl, Nat.le_of_ble_eq_true rfl⟩ cf1 hv0 rfl rfl (Nat.le_of_ble_eq_true rfl) dX1_reach_19 ?_
    refine g_istore (L' := [(5, .int x4), (0, .ref v0), (2, .int v2), (3, .int v3), (4, .int v4)]) dX1_reach_22 (by decide) rfl ?_
    refine g_iload (ps := 0) dX1_reach_24 rfl ?_
    refine g_iload_n (ps := 3) dX1_reach_26 rfl rfl ?_
    refine g_icmp_ne (tgt := 33) dX1_reach_27 (by decide) (fun c5 => ?_) (fun c5 => ?_)
    · have hf := if_f hf c5
      refine g_iload (ps := 0) dX1_reach_33 rfl ?_
      refine g_istore_n (L' := [(3, .int x4), (5, .int x4), (0, .ref v0), (2, .int v2), (4, .int v4)]) dX1_reach_35 rfl (by decide) rfl ?_
      obtain ⟨x6, ex6⟩ : ∃ y : Int32, y = v4 + 1 := ⟨_, rfl⟩
      have hf := lE_s hf ex6
      refine g_iinc (ps := 4) (v := x6) (L' := [(4, .int x6), (3, .int x4), (5, .int x4), (0, .ref v0), (2, .int v2)]) dX1_reach_36 rfl (by rw [ex6]; rfl) (by decide) rfl ?_
      refine g_goto (tgt := 7) dX1_reach_39 (by decide) ?_
      exact g_pick [3, 4, 1, 0] rfl (hk _ (Option.some.inj hf).symm)
    · have hf := if_t hf c5
      exact g_pick [1, 3] rfl (he _ (Option.some.inj hf).symm)
set_option maxHeartbeats 4000000 in
set_option maxRecDepth 100000 in
theorem ulX1_reach_7 {S : Shp} {n : Nat} {r : Rf} {v0 : Nat} {v2 : Int32} {v3 : Int32} {v4 : Int32}  {h : Hp} {o : Int32} (hW : WF S r) (hv0 : S[v0]? = some (1, 12)) (hf : lX1_reach_7 n r v0 v2 v3 v4 h = some o)  : GX1_reach S r r (some o, h) 7 [(0, .ref v0), (2, .int v2), (3, .int v3), (4, .int v4)] [] h := by
  unfold lX1_reach_7 at hf
  obtain ⟨z0, ei, hf⟩ := bd_s hf
  refine it_ind (P := fun (s : Int32 × Int32) => GX1_reach S r r (some o, h) 7 [(0, .ref v0), (2, .int v2), (3, .int (s.1)), (4, .int (s.2))] [] h) (fun s w hb hk2 he2 => ?_) n _ ei
  refine ubX1_reach_7 (out := (some o, h)) (r' := r) hW hv0 hb hk2 (fun z hz => ?_)
  have hz := he2 z hz
  subst hz
  rcases z with z | z
  · refine g_goto (tgt := 42) dX1_reach_30 (by decide) ?_
    refine g_iload_n (ps := 1) dX1_reach_42 rfl rfl ?_
    have hf := Option.some.inj hf
    subst hf
    exact g_iret dX1_reach_43
  · refine g_iload_n (ps := 1) dX1_reach_42 rfl rfl ?_
    have hf := Option.some.inj hf
    subst hf
    exact g_iret dX1_reach_43
set_option maxHeartbeats 4000000 in
set_option maxRecDepth 100000 in
theorem uX1_reach {S : Shp} {n : Nat} {r : Rf} {v0 : Nat} {v1 : Int32} {v2 : Int32} {h : Hp} {o : Int32} (hW : WF S r) (hv0 : S[v0]? = some (1, 12)) (hf : fX1_reach n r v0 v1 v2 h = some o) : GX1_reach S r r (some o, h) 0 [(0, .ref v0), (1, .int v1), (2, .int v2)] [] h := by
  unfold fX1_reach at hf
  refine g_iconst (v := 1) dX1_reach_0 (by decide +kernel) ?_
  refine g_iload_n (ps := 1) dX1_reach_1 rfl rfl ?_
  refine g_ishl dX1_reach_2 ?_
  refine g_topi (fun x1 ex1 => ?_)
  have hf := lE_s hf ex1
  refine g_istore_n (L' := [(3, .int x1), (0, .ref v0), (1, .int v1), (2, .int v2)]) dX1_reach_3 rfl (by decide) rfl ?_
  refine g_iconst (v := 0) dX1_reach_4 (by decide +kernel) ?_
  refine g_istore (L' := [(4, .int 0), (3, .int x1), (0, .ref v0), (1, .int v1), (2, .int v2)]) dX1_reach_5 (by decide) rfl ?_
  exact g_pick [2, 4, 1, 0] rfl (ulX1_reach_7 hW hv0 hf)
theorem kX1_reach {S : Shp} {n : Nat} {r : Rf} {v0 : Nat} {v1 : Int32} {v2 : Int32} {h : Hp} {o : Int32} (hW : WF S r) (hv0 : S[v0]? = some (1, 12)) (hf : fX1_reach n r v0 v1 v2 h = some o) : CTi yX1_reach wsX1_reach rmX1_reach S r [.ref v0, .int v1, .int v2] h r o h :=
  cti_of rfl (by decide +kernel) rfl (Nat.le_of_ble_eq_true rfl) rfl (uX1_reach hW hv0 hf)
/-! X1_hang hang -/
def rmX1_hang : Room := { frames := 3, cells := 0, slots := 0, locals := 70 }
abbrev GX1_hang (S : Shp) (r r' : Rf) (out : Option Int32 × Hp) (pc : Nat) (L : List (Nat × Value)) (st : List Value) (h : Hp) : Prop := G RX1 cX1_hang 4 (some .boolean) wsX1_hang rmX1_hang S r r' out pc L st h
theorem mX1_hang_49_i : Cond.initialized RX5 ∈ wsX1_hang := by decide +kernel
theorem mX1_hang_49_s : Cond.static yX5_has ∈ wsX1_hang := by decide +kernel
theorem hdX1_hang : yX1_hang.cls ≠ "java/lang/invoke/MethodHandle" ∧ yX1_hang.cls ≠ "java/lang/invoke/VarHandle" ∧ (parseMethodDescriptor yX1_hang.desc).map (fun d => d.parameters.length) = some 3 := by decide +kernel
def fX1_hang (n : Nat) (r : Rf) (v0 : Nat) (v1 : Int32) (v2 : Int32) (v3 : Int32) (h : Hp) : Option Int32 :=
  (fX1_reach n r v0 v1 v3 h).bind (fun (x2 : Int32) => (fX5_has n r x2 v2 h).bind (fun (x4 : Int32) => cb x4 (some x4)))
set_option maxHeartbeats 4000000 in
set_option maxRecDepth 100000 in
theorem uX1_hang {S : Shp} {n : Nat} {r : Rf} {v0 : Nat} {v1 : Int32} {v2 : Int32} {v3 : Int32} {h : Hp} {o : Int32} (hW : WF S r) (hv0 : S[v0]? = some (1, 12)) (hf : fX1_hang n r v0 v1 v2 v3 h = some o) : GX1_hang S r r (some o, h) 0 [(0, .ref v0), (1, .int v1), (2, .int v2), (3, .int v3)] [] h := by
  unfold fX1_hang at hf
  refine g_aload_n (ps := 0) dX1_hang_0 rfl rfl ?_
  refine g_iload_n (ps := 1) dX1_hang_1 rfl rfl ?_
  refine g_iload_n (ps := 3) dX1_hang_2 rfl rfl ?_
  obtain ⟨x2, e1, hf⟩ := bd_s hf
  refine g_callVi (As := [.int v1, .int v3]) (n := 2) (kX1_reach hW hv0 e1) gX1_hang_X1_reach rfl ⟨rfl, rfl⟩ ⟨rfl, hdX1_reach⟩ ⟨Nat.le_of_ble_eq_true rfl, Nat.le_of_ble_eq_true rfl⟩ cf1 hv0 rfl rfl (Nat.le_of_ble_eq_true rfl) dX1_hang_3 ?_
  refine g_iload_n (ps := 2) dX1_hang_6 rfl rfl ?_
  obtain ⟨x4, e3, hf⟩ := bd_s hf
  refine g_callNi (As := [.int x2, .int v2]) (n := 2) (kX5_has hW  e3) gX1_hang_X5_has_n49 (fun _ h => h.2.1) mX1_hang_49_i mX1_hang_49_s rfl ⟨rfl, rfl⟩ hdX5_has ⟨Nat.le_of_ble_eq_true rfl, Nat.le_of_ble_eq_true rfl⟩ rfl rfl (Nat.le_of_ble_eq_true rfl) dX1_hang_7 ?_
  obtain ⟨z5, hf⟩ := cb_s hf
  have hf := Option.some.inj hf
  subst hf
  exact g_zret z5 dX1_hang_10
theorem kX1_hang {S : Shp} {n : Nat} {r : Rf} {v0 : Nat} {v1 : Int32} {v2 : Int32} {v3 : Int32} {h : Hp} {o : Int32} (hW : WF S r) (hv0 : S[v0]? = some (1, 12)) (hf : fX1_hang n r v0 v1 v2 v3 h = some o) : CTi yX1_hang wsX1_hang rmX1_hang S r [.ref v0, .int v1, .int v2, .int v3] h r o h :=
  cti_of rfl (by decide +kernel) rfl (Nat.le_of_ble_eq_true rfl) rfl (uX1_hang hW hv0 hf)
/-! X1_steps steps -/
def rmX1_steps : Room := { frames := 2, cells := 0, slots := 0, locals := 45 }
abbrev GX1_steps (S : Shp) (r r' : Rf) (out : Option Int32 × Hp) (pc : Nat) (L : List (Nat × Value)) (st : List Value) (h : Hp) : Prop := G RX1 cX1_steps 6 (some .int) wsX1_steps rmX1_steps S r r' out pc L st h
theorem nX1_steps_X1 : ∀ w ∈ wsX10, w ∈ wsX1_steps := by decide +kernel
theorem mX1_steps_49_i : Cond.initialized RX5 ∈ wsX1_steps := by decide +kernel
theorem mX1_steps_49_s : Cond.static yX5_has ∈ wsX1_steps := by decide +kernel
theorem mX1_steps_39 : Cond.fieldLink RX1 39 "LinkedIsles$Chart" "islands" "I" ∈ wsX1_steps := by decide +kernel
theorem hdX1_steps : yX1_steps.cls ≠ "java/lang/invoke/MethodHandle" ∧ yX1_steps.cls ≠ "java/lang/invoke/VarHandle" ∧ (parseMethodDescriptor yX1_steps.desc).map (fun d => d.parameters.length) = some 3 := by decide +kernel
def bX1_steps_8 (n : Nat) (r : Rf) (v0 : Nat) (v2 : Int32) (v3 : Int32) (v4 : Int32) (v5 : Int32) (h : Hp) : Option ((Int32 × Int32) ⊕ ((Int32) ⊕ (Unit))) :=
  if (h.1 v0 9) ≤ v5 then (some (.inr (.inr ()))) else ((fX5_has n r v4 v2 h).bind (fun (x4 : Int32) => if x4 = 0 then ((fX1_widen n r v0 v4 v3 h).bind (fun (x7 : Int32) => lE (v5 + 1) (fun (x8 : Int32) => some (.inl (x7, x8))))) else (some (.inr (.inl v5)))))
def lX1_steps_8 (n : Nat) (r : Rf) (v0 : Nat) (v2 : Int32) (v3 : Int32) (v4 : Int32) (v5 : Int32) (h : Hp) : Option Int32 :=
  (it (fun (s : Int32 × Int32) => bX1_steps_8 n r v0 v2 v3 s.1 s.2 h) n (v4, v5)).bind (fun z => match z with | .inl z => some z | .inr z => some (-1))
def fX1_steps (n : Nat) (r : Rf) (v0 : Nat) (v1 : Int32) (v2 : Int32) (v3 : Int32) (h : Hp) : Option Int32 :=
  lE ((1 <<< (v1 &&& 31))) (fun (x1 : Int32) => lX1_steps_8 n r v0 v2 v3 x1 0 h)
set_option maxHeartbeats 4000000 in
set_option maxRecDepth 100000 in
theorem ubX1_steps_8 {S : Shp} {n : Nat} {r : Rf} {out : Option Int32 × Hp} {r' : Rf} {v0 : Nat} {v2 : Int32} {v3 : Int32} {v4 : Int32} {v5 : Int32}  {h : Hp} {w : (Int32 × Int32) ⊕ ((Int32) ⊕ (Unit))} (hW : WF S r) (hv0 : S[v0]? = some (1, 12)) (hf : bX1_steps_8 n r v0 v2 v3 v4 v5 h = some w) (hk : ∀ y, w = .inl y → GX1_steps S r r' out 8 [(0, .ref v0), (2, .int v2), (3, .int v3), (4, .int (y.1)), (5, .int (y.2))] [] h) (he : ∀ z, w = .inr z → (match z with | .inl z => GX1_steps S r r' out 26 [(0, .ref v0), (5, .int (z))] [] h | .inr z => GX1_steps S r r' out 44 [(0, .ref v0)] [] h)) : GX1_steps S r r' out 8 [(0, .ref v0), (2, .int v2), (3, .int v3), (4, .int v4), (5, .int v5)] [] h := by
  unfold bX1_steps_8 at hf
  refine g_iload (ps := 4) dX1_steps_8 rfl ?_
  refine g_aload_n (ps := 0) dX1_steps_10 rfl rfl ?_
  refine g_getI cf1 hv0 nX1_steps_X1 (j := 9) (by decide) rfl mX1_steps_39 dX1_steps_11 ?_
  refine g_icmp_ge (tgt := 44) dX1_steps_14 (by decide) (fun c2 => ?_) (fun c2 => ?_)
  · have hf := if_t hf c2
    exact g_pick [0] rfl (he _ (Option.some.inj hf).symm)
  · have hf := if_f hf c2
    refine g_iload (ps := 3) dX1_steps_17 rfl ?_
    refine g_iload_n (ps := 1) dX1_steps_19 rfl rfl ?_
    obtain ⟨x4, e3, hf⟩ := bd_s hf
    refine g_callNi (As := [.int v4, .int v2]) (n := 2) (kX5_has hW  e3) gX1_steps_X5_has_n49 (fun _ h => h.2.1) mX1_steps_49_i mX1_steps_49_s rfl ⟨rfl, rfl⟩ hdX5_has ⟨Nat.le_of_ble_eq_true rfl, Nat.le_of_ble_eq_true rfl⟩ rfl rfl (Nat.le_of_ble_eq_true rfl) dX1_steps_20 ?_
    refine g_if_eq (tgt := 29) dX1_steps_23 (by decide) (fun c5 => ?_) (fun c5 => ?_)
    · have hf := if_t hf c5
      refine g_aload_n (ps := 0) dX1_steps_29 rfl rfl ?_
      refine g_iload (ps := 3) dX1_steps_30 rfl ?_
      refine g_iload_n (ps := 2) dX1_steps_32 rfl rfl ?_
      obtain ⟨x7, e6, hf⟩ := bd_s hf
      refine g_callVi (As := [.int v4, .int v3]) (n := 2) (kX1_widen hW hv0 e6) gX1_steps_X1_widen rfl ⟨rfl, rfl⟩ ⟨rfl, hdX1_widen⟩ ⟨Nat.le_of_ble_eq_true rfl, Nat.le_of_ble_eq_true rfl⟩ cf1 hv0 rfl rfl (Nat.le_of_ble_eq_true rfl) dX1_steps_33 ?_
      refine g_istore (L' := [(4, .int x7), (0, .ref v0), (2, .int v2), (3, .int v3), (5, .int v5)]) dX1_steps_36 (by decide) rfl ?_
      obtain ⟨x8, ex8⟩ : ∃ y : Int32, y = v5 + 1 := ⟨_, rfl⟩
      have hf := lE_s hf ex8
      refine g_iinc (ps := 4) (v := x8) (L' := [(5, .int x8), (4, .int x7), (0, .ref v0), (2, .int v2), (3, .int v3)]) dX1_steps_38 rfl (by rw [ex8]; rfl) (by decide) rfl ?_
      refine g_goto (tgt := 8) dX1_steps_41 (by decide) ?_
      exact g_pick [2, 3, 4, 1, 0] rfl (hk _ (Option.some.inj hf).symm)
    · have hf := if_f hf c5
      exact g_pick [0, 4] rfl (he _ (Option.some.inj hf).symm)
set_option maxHeartbeats 4000000 in
set_option maxRecDepth 100000 in
theorem ulX1_steps_8 {S : Shp} {n : Nat} {r : Rf} {v0 : Nat} {v2 : Int32} {v3 : Int32} {v4 : Int32} {v5 : Int32}  {h : Hp} {o : Int32} (hW : WF S r) (hv0 : S[v0]? = some (1, 12)) (hf : lX1_steps_8 n r v0 v2 v3 v4 v5 h = some o)  : GX1_steps S r r (some o, h) 8 [(0, .ref v0), (2, .int v2), (3, .int v3), (4, .int v4), (5, .int v5)] [] h := by
  unfold lX1_steps_8 at hf
  obtain ⟨z0, ei, hf⟩ := bd_s hf
  refine it_ind (P := fun (s : Int32 × Int32) => GX1_steps S r r (some o, h) 8 [(0, .ref v0), (2, .int v2), (3, .int v3), (4, .int (s.1)), (5, .int (s.2))] [] h) (fun s w hb hk2 he2 => ?_) n _ ei
  refine ubX1_steps_8 (out := (some o, h)) (r' := r) hW hv0 hb hk2 (fun z hz => ?_)
  have hz := he2 z hz
  subst hz
  rcases z with z | z
  · refine g_iload (ps := 1) dX1_steps_26 rfl ?_
    have hf := Option.some.inj hf
    subst hf
    exact g_iret dX1_steps_28
  · refine g_iconst (v := (-1)) dX1_steps_44 (by decide +kernel) ?_
    have hf := Option.some.inj hf
    subst hf
    exact g_iret dX1_steps_45
set_option maxHeartbeats 4000000 in
set_option maxRecDepth 100000 in
theorem uX1_steps {S : Shp} {n : Nat} {r : Rf} {v0 : Nat} {v1 : Int32} {v2 : Int32} {v3 : Int32} {h : Hp} {o : Int32} (hW : WF S r) (hv0 : S[v0]? = some (1, 12)) (hf : fX1_steps n r v0 v1 v2 v3 h = some o) : GX1_steps S r r (some o, h) 0 [(0, .ref v0), (1, .int v1), (2, .int v2), (3, .int v3)] [] h := by
  unfold fX1_steps at hf
  refine g_iconst (v := 1) dX1_steps_0 (by decide +kernel) ?_
  refine g_iload_n (ps := 1) dX1_steps_1 rfl rfl ?_
  refine g_ishl dX1_steps_2 ?_
  refine g_topi (fun x1 ex1 => ?_)
  have hf := lE_s hf ex1
  refine g_istore (L' := [(4, .int x1), (0, .ref v0), (1, .int v1), (2, .int v2), (3, .int v3)]) dX1_steps_3 (by decide) rfl ?_
  refine g_iconst (v := 0) dX1_steps_5 (by decide +kernel) ?_
  refine g_istore (L' := [(5, .int 0), (4, .int x1), (0, .ref v0), (1, .int v1), (2, .int v2), (3, .int v3)]) dX1_steps_6 (by decide) rfl ?_
  exact g_pick [2, 4, 5, 1, 0] rfl (ulX1_steps_8 hW hv0 hf)
theorem kX1_steps {S : Shp} {n : Nat} {r : Rf} {v0 : Nat} {v1 : Int32} {v2 : Int32} {v3 : Int32} {h : Hp} {o : Int32} (hW : WF S r) (hv0 : S[v0]? = some (1, 12)) (hf : fX1_steps n r v0 v1 v2 v3 h = some o) : CTi yX1_steps wsX1_steps rmX1_steps S r [.ref v0, .int v1, .int v2, .int v3] h r o h :=
  cti_of rfl (by decide +kernel) rfl (Nat.le_of_ble_eq_true rfl) rfl (uX1_steps hW hv0 hf)
/-! X1_partsBy partsBy -/
def rmX1_partsBy : Room := { frames := 3, cells := 0, slots := 0, locals := 70 }
abbrev GX1_partsBy (S : Shp) (r r' : Rf) (out : Option Int32 × Hp) (pc : Nat) (L : List (Nat × Value)) (st : List Value) (h : Hp) : Prop := G RX1 cX1_partsBy 5 (some .int) wsX1_partsBy rmX1_partsBy S r r' out pc L st h
theorem nX1_partsBy_X1 : ∀ w ∈ wsX10, w ∈ wsX1_partsBy := by decide +kernel
theorem mX1_partsBy_49_i : Cond.initialized RX5 ∈ wsX1_partsBy := by decide +kernel
theorem mX1_partsBy_49_s : Cond.static yX5_has ∈ wsX1_partsBy := by decide +kernel
theorem mX1_partsBy_39 : Cond.fieldLink RX1 39 "LinkedIsles$Chart" "islands" "I" ∈ wsX1_partsBy := by decide +kernel
theorem hdX1_partsBy : yX1_partsBy.cls ≠ "java/lang/invoke/MethodHandle" ∧ yX1_partsBy.cls ≠ "java/lang/invoke/VarHandle" ∧ (parseMethodDescriptor yX1_partsBy.desc).map (fun d => d.parameters.length) = some 1 := by decide +kernel
def bX1_partsBy_7 (n : Nat) (r : Rf) (v0 : Nat) (v1 : Int32) (v2 : Int32) (v3 : Int32) (v4 : Int32) (h : Hp) : Option ((Int32 × Int32 × Int32) ⊕ (Int32)) :=
  if (h.1 v0 9) ≤ v4 then (some (.inr v2)) else ((fX5_has n r v3 v4 h).bind (fun (x3 : Int32) => if x3 = 0 then ((fX1_reach n r v0 v4 v1 h).bind (fun (x7 : Int32) => lE ((v3 ||| x7)) (fun (x8 : Int32) => lE (v2 + 1) (fun (x9 : Int32) => lE (v4 + 1) (fun (x10 : Int32) => some (.inl (x9, x8, x10))))))) else (lE (v4 + 1) (fun (x5 : Int32) => some (.inl (v2, v3, x5))))))
def lX1_partsBy_7 (n : Nat) (r : Rf) (v0 : Nat) (v1 : Int32) (v2 : Int32) (v3 : Int32) (v4 : Int32) (h : Hp) : Option Int32 :=
  (it (fun (s : Int32 × Int32 × Int32) => bX1_partsBy_7 n r v0 v1 s.1 s.2.1 s.2.2 h) n (v2, v3, v4)).bind (fun z => some z)
def fX1_partsBy (n : Nat) (r : Rf) (v0 : Nat) (v1 : Int32) (h : Hp) : Option Int32 :=
  lX1_partsBy_7 n r v0 v1 0 0 0 h
set_option maxHeartbeats 4000000 in
set_option maxRecDepth 100000 in
theorem ubX1_partsBy_7 {S : Shp} {n : Nat} {r : Rf} {out : Option Int32 × Hp} {r' : Rf} {v0 : Nat} {v1 : Int32} {v2 : Int32} {v3 : Int32} {v4 : Int32}  {h : Hp} {w : (Int32 × Int32 × Int32) ⊕ (Int32)} (hW : WF S r) (hv0 : S[v0]? = some (1, 12)) (hf : bX1_partsBy_7 n r v0 v1 v2 v3 v4 h = some w) (hk : ∀ y, w = .inl y → GX1_partsBy S r r' out 7 [(0, .ref v0), (1, .int v1), (2, .int (y.1)), (3, .int (y.2.1)), (4, .int (y.2.2))] [] h) (he : ∀ z, w = .inr z → GX1_partsBy S r r' out 44 [(0, .ref v0), (2, .int (z))] [] h) : GX1_partsBy S r r' out 7 [(0, .ref v0), (1, .int v1), (2, .int v2), (3, .int v3), (4, .int v4)] [] h := by
  unfold bX1_partsBy_7 at hf
  refine g_iload (ps := 4) dX1_partsBy_7 rfl ?_
  refine g_aload_n (ps := 0) dX1_partsBy_9 rfl rfl ?_
  refine g_getI cf1 hv0 nX1_partsBy_X1 (j := 9) (by decide) rfl mX1_partsBy_39 dX1_partsBy_10 ?_
  refine g_icmp_ge (tgt := 44) dX1_partsBy_13 (by decide) (fun c1 => ?_) (fun c1 => ?_)
  · have hf := if_t hf c1
    exact g_pick [0, 2] rfl (he _ (Option.some.inj hf).symm)
  · have hf := if_f hf c1
    refine g_iload_n (ps := 3) dX1_partsBy_16 rfl rfl ?_
    refine g_iload (ps := 4) dX1_partsBy_17 rfl ?_
    obtain ⟨x3, e2, hf⟩ := bd_s hf
    refine g_callNi (As := [.int v3, .int v4]) (n := 2) (kX5_has hW  e2) gX1_partsBy_X5_has_n49 (fun _ h => h.2.1) mX1_partsBy_49_i mX1_partsBy_49_s rfl ⟨rfl, rfl⟩ hdX5_has ⟨Nat.le_of_ble_eq_true rfl, Nat.le_of_ble_eq_true rfl⟩ rfl rfl (Nat.le_of_ble_eq_true rfl) dX1_partsBy_19 ?_
    refine g_if_ne (tgt := 38) dX1_partsBy_22 (by decide) (fun c4 => ?_) (fun c4 => ?_)
    · have hf := if_f hf c4
      obtain ⟨x5, ex5⟩ : ∃ y : Int32, y = v4 + 1 := ⟨_, rfl⟩
      have hf := lE_s hf ex5
      refine g_iinc (ps := 4) (v := x5) (L' := [(4, .int x5), (0, .ref v0), (1, .int v1), (2, .int v2), (3, .int v3)]) dX1_partsBy_38 rfl (by rw [ex5]; rfl) (by decide) rfl ?_
      refine g_goto (tgt := 7) dX1_partsBy_41 (by decide) ?_
      exact g_pick [1, 2, 3, 4, 0] rfl (hk _ (Option.some.inj hf).symm)
    · have hf := if_t hf c4
      refine g_iload_n (ps := 3) dX1_partsBy_25 rfl rfl ?_
      refine g_aload_n (ps := 0) dX1_partsBy_26 rfl rfl ?_
      refine g_iload (ps := 4) dX1_partsBy_27 rfl ?_
      refine g_iload_n (ps := 1) dX1_partsBy_29 rfl rfl ?_
      obtain ⟨x7, e6, hf⟩ := bd_s hf
      refine g_callVi (As := [.int v4, .int v1]) (n := 2) (kX1_reach hW hv0 e6) gX1_partsBy_X1_reach rfl ⟨rfl, rfl⟩ ⟨rfl, hdX1_reach⟩ ⟨Nat.le_of_ble_eq_true rfl, Nat.le_of_ble_eq_true rfl⟩ cf1 hv0 rfl rfl (Nat.le_of_ble_eq_true rfl) dX1_partsBy_30 ?_
      refine g_ior dX1_partsBy_33 ?_
      refine g_topi (fun x8 ex8 => ?_)
      have hf := lE_s hf ex8
      refine g_istore_n (L' := [(3, .int x8), (0, .ref v0), (1, .int v1), (2, .int v2), (4, .int v4)]) dX1_partsBy_34 rfl (by decide) rfl ?_
      obtain ⟨x9, ex9⟩ : ∃ y : Int32, y = v2 + 1 := ⟨_, rfl⟩
      have hf := lE_s hf ex9
      refine g_iinc (ps := 3) (v := x9) (L' := [(2, .int x9), (3, .int x8), (0, .ref v0), (1, .int v1), (4, .int v4)]) dX1_partsBy_35 rfl (by rw [ex9]; rfl) (by decide) rfl ?_
      obtain ⟨x10, ex10⟩ : ∃ y : Int32, y = v4 + 1 := ⟨_, rfl⟩
      have hf := lE_s hf ex10
      refine g_iinc (ps := 4) (v := x10) (L' := [(4, .int x10), (2, .int x9), (3, .int x8), (0, .ref v0), (1, .int v1)]) dX1_partsBy_38 rfl (by rw [ex10]; rfl) (by decide) rfl ?_
      refine g_goto (tgt := 7) dX1_partsBy_41 (by decide) ?_
      exact g_pick [3, 4, 1, 2, 0] rfl (hk _ (Option.some.inj hf).symm)
set_option maxHeartbeats 4000000 in
set_option maxRecDepth 100000 in
theorem ulX1_partsBy_7 {S : Shp} {n : Nat} {r : Rf} {v0 : Nat} {v1 : Int32} {v2 : Int32} {v3 : Int32} {v4 : Int32}  {h : Hp} {o : Int32} (hW : WF S r) (hv0 : S[v0]? = some (1, 12)) (hf : lX1_partsBy_7 n r v0 v1 v2 v3 v4 h = some o)  : GX1_partsBy S r r (some o, h) 7 [(0, .ref v0), (1, .int v1), (2, .int v2), (3, .int v3), (4, .int v4)] [] h := by
  unfold lX1_partsBy_7 at hf
  obtain ⟨z0, ei, hf⟩ := bd_s hf
  refine it_ind (P := fun (s : Int32 × Int32 × Int32) => GX1_partsBy S r r (some o, h) 7 [(0, .ref v0), (1, .int v1), (2, .int (s.1)), (3, .int (s.2.1)), (4, .int (s.2.2))] [] h) (fun s w hb hk2 he2 => ?_) n _ ei
  refine ubX1_partsBy_7 (out := (some o, h)) (r' := r) hW hv0 hb hk2 (fun z hz => ?_)
  have hz := he2 z hz
  subst hz
  refine g_iload_n (ps := 1) dX1_partsBy_44 rfl rfl ?_
  have hf := Option.some.inj hf
  subst hf
  exact g_iret dX1_partsBy_45
set_option maxHeartbeats 4000000 in
set_option maxRecDepth 100000 in
theorem uX1_partsBy {S : Shp} {n : Nat} {r : Rf} {v0 : Nat} {v1 : Int32} {h : Hp} {o : Int32} (hW : WF S r) (hv0 : S[v0]? = some (1, 12)) (hf : fX1_partsBy n r v0 v1 h = some o) : GX1_partsBy S r r (some o, h) 0 [(0, .ref v0), (1, .int v1)] [] h := by
  unfold fX1_partsBy at hf
  refine g_iconst (v := 0) dX1_partsBy_0 (by decide +kernel) ?_
  refine g_istore_n (L' := [(2, .int 0), (0, .ref v0), (1, .int v1)]) dX1_partsBy_1 rfl (by decide) rfl ?_
  refine g_iconst (v := 0) dX1_partsBy_2 (by decide +kernel) ?_
  refine g_istore_n (L' := [(3, .int 0), (2, .int 0), (0, .ref v0), (1, .int v1)]) dX1_partsBy_3 rfl (by decide) rfl ?_
  refine g_iconst (v := 0) dX1_partsBy_4 (by decide +kernel) ?_
  refine g_istore (L' := [(4, .int 0), (3, .int 0), (2, .int 0), (0, .ref v0), (1, .int v1)]) dX1_partsBy_5 (by decide) rfl ?_
  exact g_pick [3, 4, 2, 1, 0] rfl (ulX1_partsBy_7 hW hv0 hf)
theorem kX1_partsBy {S : Shp} {n : Nat} {r : Rf} {v0 : Nat} {v1 : Int32} {h : Hp} {o : Int32} (hW : WF S r) (hv0 : S[v0]? = some (1, 12)) (hf : fX1_partsBy n r v0 v1 h = some o) : CTi yX1_partsBy wsX1_partsBy rmX1_partsBy S r [.ref v0, .int v1] h r o h :=
  cti_of rfl (by decide +kernel) rfl (Nat.le_of_ble_eq_true rfl) rfl (uX1_partsBy hW hv0 hf)
