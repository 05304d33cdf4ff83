/-! X5_judge judge -/
def rmX5_judge : Room := { frames := 2, cells := 0, slots := 0, locals := 43 }
abbrev GX5_judge (S : Shp) (r r' : Rf) (out : Option Int32 × Hp) (pc : Nat) (L : List (Nat × Value)) (st : List Value) (h : Hp) : Prop := G RX5 cX5_judge 1 (some .int) wsX5_judge rmX5_judge S r r' out pc L st h
theorem nX5_judge_X0 : ∀ w ∈ wsX00, w ∈ wsX5_judge := by decide +kernel
theorem nX5_judge_X5 : ∀ w ∈ wsX50, w ∈ wsX5_judge := by decide +kernel
theorem mX5_judge_110 : Cond.fieldLink RX5 110 "LinkedIsles$Bonds" "doneUp" "I" ∈ wsX5_judge := by decide +kernel
theorem mX5_judge_29 : Cond.fieldLink RX5 29 "LinkedIsles" "now" "LLinkedIsles$Bonds;" ∈ wsX5_judge := by decide +kernel
theorem mX5_judge_46 : Cond.fieldLink RX5 46 "LinkedIsles" "talk" "LLinkedIsles$Talk;" ∈ wsX5_judge := by decide +kernel
theorem hdX5_judge : yX5_judge.cls ≠ "java/lang/invoke/MethodHandle" ∧ yX5_judge.cls ≠ "java/lang/invoke/VarHandle" ∧ (parseMethodDescriptor yX5_judge.desc).map (fun d => d.parameters.length) = some 0 := by decide +kernel
def fX5_judge (n : Nat) (r : Rf) (v0 : Nat) (h : Hp) : Option Int32 :=
  (fX3_firstWrong n r (r v0 6) (h.1 (r v0 3) 1) h).bind (fun (x2 : Int32) => some x2)
set_option maxHeartbeats 4000000 in
set_option maxRecDepth 100000 in
theorem uX5_judge {S : Shp} {n : Nat} {r : Rf} {v0 : Nat} {h : Hp} {o : Int32} (hW : WF S r) (hv0 : S[v0]? = some (5, 11)) (hf : fX5_judge n r v0 h = some o) : GX5_judge S r r (some o, h) 0 [(0, .ref v0)] [] h := by
  unfold fX5_judge at hf
  refine g_aload_n (ps := 0) dX5_judge_0 rfl rfl ?_
  refine g_getR cf5 hv0 nX5_judge_X5 (j := 6) (by decide) rfl mX5_judge_46 dX5_judge_1 ?_
  refine g_aload_n (ps := 0) dX5_judge_4 rfl rfl ?_
  refine g_getR cf5 hv0 nX5_judge_X5 (j := 3) (by decide) rfl mX5_judge_29 dX5_judge_5 ?_
  refine g_getI cf0 (hW _ _ _ hv0 3 _ rfl) nX5_judge_X0 (j := 1) (by decide) rfl mX5_judge_110 dX5_judge_8 ?_
  obtain ⟨x2, e1, hf⟩ := bd_s hf
  refine g_callVi (As := [.int (h.1 (r v0 3) 1)]) (n := 1) (kX3_firstWrong hW (hW _ _ _ hv0 6 _ rfl) e1) gX5_judge_X3_firstWrong rfl ⟨rfl, rfl⟩ ⟨rfl, hdX3_firstWrong⟩ ⟨Nat.le_of_ble_eq_true rfl, Nat.le_of_ble_eq_true rfl⟩ cf3 (hW _ _ _ hv0 6 _ rfl) rfl rfl (Nat.le_of_ble_eq_true rfl) dX5_judge_11 ?_
  have hf := Option.some.inj hf
  subst hf
  exact g_iret dX5_judge_14
theorem kX5_judge {S : Shp} {n : Nat} {r : Rf} {v0 : Nat} {h : Hp} {o : Int32} (hW : WF S r) (hv0 : S[v0]? = some (5, 11)) (hf : fX5_judge n r v0 h = some o) : CTi yX5_judge wsX5_judge rmX5_judge S r [.ref v0] h r o h :=
  cti_of rfl (by decide +kernel) rfl (Nat.le_of_ble_eq_true rfl) rfl (uX5_judge hW hv0 hf)
/-! X5_tear tear -/
def rmX5_tear : Room := { frames := 1, cells := 0, slots := 0, locals := 20 }
abbrev GX5_tear (S : Shp) (r r' : Rf) (out : Option Int32 × Hp) (pc : Nat) (L : List (Nat × Value)) (st : List Value) (h : Hp) : Prop := G RX5 cX5_tear 2 (some .int) wsX5_tear rmX5_tear S r r' out pc L st h
theorem nX5_tear_X3 : ∀ w ∈ wsX30, w ∈ wsX5_tear := by decide +kernel
theorem nX5_tear_X5 : ∀ w ∈ wsX50, w ∈ wsX5_tear := by decide +kernel
theorem mX5_tear_124 : Cond.fieldLink RX5 124 "LinkedIsles$Talk" "heardCount" "I" ∈ wsX5_tear := by decide +kernel
theorem mX5_tear_127 : Cond.fieldLink RX5 127 "LinkedIsles$Talk" "entryCount" "I" ∈ wsX5_tear := by decide +kernel
theorem mX5_tear_46 : Cond.fieldLink RX5 46 "LinkedIsles" "talk" "LLinkedIsles$Talk;" ∈ wsX5_tear := by decide +kernel
theorem hdX5_tear : yX5_tear.cls ≠ "java/lang/invoke/MethodHandle" ∧ yX5_tear.cls ≠ "java/lang/invoke/VarHandle" ∧ (parseMethodDescriptor yX5_tear.desc).map (fun d => d.parameters.length) = some 0 := by decide +kernel
def fX5_tear (n : Nat) (r : Rf) (v0 : Nat) (h : Hp) : Option (Int32 × Hp) :=
  lE (((h.1 (r v0 6) 3) + (h.1 (r v0 6) 4))) (fun (x1 : Int32) => (fX3_forget n r (r v0 6) h).bind (fun (h3 : Hp) => some (x1, h3)))
set_option maxHeartbeats 4000000 in
set_option maxRecDepth 100000 in
theorem uX5_tear {S : Shp} {n : Nat} {r : Rf} {v0 : Nat} {h : Hp} {o : (Int32 × Hp)} (hW : WF S r) (hv0 : S[v0]? = some (5, 11)) (hf : fX5_tear n r v0 h = some o) : GX5_tear S r r (some o.1, o.2) 0 [(0, .ref v0)] [] h := by
  unfold fX5_tear at hf
  refine g_aload_n (ps := 0) dX5_tear_0 rfl rfl ?_
  refine g_getR cf5 hv0 nX5_tear_X5 (j := 6) (by decide) rfl mX5_tear_46 dX5_tear_1 ?_
  refine g_getI cf3 (hW _ _ _ hv0 6 _ rfl) nX5_tear_X3 (j := 3) (by decide) rfl mX5_tear_124 dX5_tear_4 ?_
  refine g_aload_n (ps := 0) dX5_tear_7 rfl rfl ?_
  refine g_getR cf5 hv0 nX5_tear_X5 (j := 6) (by decide) rfl mX5_tear_46 dX5_tear_8 ?_
  refine g_getI cf3 (hW _ _ _ hv0 6 _ rfl) nX5_tear_X3 (j := 4) (by decide) rfl mX5_tear_127 dX5_tear_11 ?_
  refine g_iadd dX5_tear_14 ?_
  refine g_topi (fun x1 ex1 => ?_)
  have hf := lE_s hf ex1
  refine g_istore_n (L' := [(1, .int x1), (0, .ref v0)]) dX5_tear_15 rfl (by decide) rfl ?_
  refine g_aload_n (ps := 1) dX5_tear_16 rfl rfl ?_
  refine g_getR cf5 hv0 nX5_tear_X5 (j := 6) (by decide) rfl mX5_tear_46 dX5_tear_17 ?_
  obtain ⟨h3, e2, hf⟩ := bd_s hf
  refine g_callVv (As := []) (n := 0) (kX3_forget hW (hW _ _ _ hv0 6 _ rfl) e2) gX5_tear_X3_forget rfl ⟨rfl, rfl⟩ ⟨rfl, hdX3_forget⟩ ⟨Nat.le_of_ble_eq_true rfl, Nat.le_of_ble_eq_true rfl⟩ cf3 (hW _ _ _ hv0 6 _ rfl) rfl rfl (Nat.le_of_ble_eq_true rfl) dX5_tear_20 ?_
  refine g_iload_n (ps := 0) dX5_tear_23 rfl rfl ?_
  have hf := Option.some.inj hf
  subst hf
  exact g_iret dX5_tear_24
theorem kX5_tear {S : Shp} {n : Nat} {r : Rf} {v0 : Nat} {h : Hp} {o : (Int32 × Hp)} (hW : WF S r) (hv0 : S[v0]? = some (5, 11)) (hf : fX5_tear n r v0 h = some o) : CTi yX5_tear wsX5_tear rmX5_tear S r [.ref v0] h r o.1 o.2 :=
  cti_of rfl (by decide +kernel) rfl (Nat.le_of_ble_eq_true rfl) rfl (uX5_tear hW hv0 hf)
/-! X5_seed seed -/
def rmX5_seed : Room := { frames := 0, cells := 0, slots := 0, locals := 0 }
abbrev GX5_seed (S : Shp) (r r' : Rf) (out : Option Int32 × Hp) (pc : Nat) (L : List (Nat × Value)) (st : List Value) (h : Hp) : Prop := G RX5 cX5_seed 3 (some .int) wsX5_seed rmX5_seed S r r' out pc L st h
theorem nX5_seed_X5 : ∀ w ∈ wsX50, w ∈ wsX5_seed := by decide +kernel
theorem mX5_seed_68 : Cond.constant RX5 68 (-1000000002) ∈ wsX5_seed := by decide +kernel
theorem mX5_seed_61 : Cond.fieldLink RX5 61 "LinkedIsles" "theSeed" "I" ∈ wsX5_seed := by decide +kernel
theorem hdX5_seed : yX5_seed.cls ≠ "java/lang/invoke/MethodHandle" ∧ yX5_seed.cls ≠ "java/lang/invoke/VarHandle" ∧ (parseMethodDescriptor yX5_seed.desc).map (fun d => d.parameters.length) = some 1 := by decide +kernel
def fX5_seed (n : Nat) (r : Rf) (v0 : Nat) (v1 : Int32) (h : Hp) : Option (Int32 × Hp) :=
  if 0 ≤ v1 then (lE ((h.1 v0 10)) (fun (x2 : Int32) => lE (pI h v0 10 v1) (fun (h3 : Hp) => some (x2, h3)))) else (some ((-1000000002), h))
set_option maxHeartbeats 4000000 in
set_option maxRecDepth 100000 in
theorem uX5_seed {S : Shp} {n : Nat} {r : Rf} {v0 : Nat} {v1 : Int32} {h : Hp} {o : (Int32 × Hp)} (hW : WF S r) (hv0 : S[v0]? = some (5, 11)) (hf : fX5_seed n r v0 v1 h = some o) : GX5_seed S r r (some o.1, o.2) 0 [(0, .ref v0), (1, .int v1)] [] h := by
  unfold fX5_seed at hf
  refine g_iload_n (ps := 1) dX5_seed_0 rfl rfl ?_
  refine g_if_ge (tgt := 7) dX5_seed_1 (by decide) (fun c1 => ?_) (fun c1 => ?_)
  · have hf := if_t hf c1
    refine g_aload_n (ps := 0) dX5_seed_7 rfl rfl ?_
    refine g_getI cf5 hv0 nX5_seed_X5 (j := 10) (by decide) rfl mX5_seed_61 dX5_seed_8 ?_
    refine g_topi (fun x2 ex2 => ?_)
    have hf := lE_s hf ex2
    refine g_istore_n (L' := [(2, .int x2), (0, .ref v0), (1, .int v1)]) dX5_seed_11 rfl (by decide) rfl ?_
    refine g_aload_n (ps := 1) dX5_seed_12 rfl rfl ?_
    refine g_iload_n (ps := 2) dX5_seed_13 rfl rfl ?_
    refine g_putI cf5 hv0 nX5_seed_X5 (j := 10) (by decide) rfl mX5_seed_61 rfl dX5_seed_14 ?_
    refine g_topH (fun h3 eh3 => ?_)
    have hf := lE_s hf eh3
    refine g_iload_n (ps := 0) dX5_seed_17 rfl rfl ?_
    have hf := Option.some.inj hf
    subst hf
    exact g_iret dX5_seed_18
  · have hf := if_f hf c1
    refine g_ldc (v := (-1000000002)) mX5_seed_68 dX5_seed_4 ?_
    have hf := Option.some.inj hf
    subst hf
    exact g_iret dX5_seed_6
theorem kX5_seed {S : Shp} {n : Nat} {r : Rf} {v0 : Nat} {v1 : Int32} {h : Hp} {o : (Int32 × Hp)} (hW : WF S r) (hv0 : S[v0]? = some (5, 11)) (hf : fX5_seed n r v0 v1 h = some o) : CTi yX5_seed wsX5_seed rmX5_seed S r [.ref v0, .int v1] h r o.1 o.2 :=
  cti_of rfl (by decide +kernel) rfl (Nat.le_of_ble_eq_true rfl) rfl (uX5_seed hW hv0 hf)
/-! X5_keep keep -/
def rmX5_keep : Room := { frames := 2, cells := 0, slots := 0, locals := 63 }
abbrev GX5_keep (S : Shp) (r r' : Rf) (out : Option Int32 × Hp) (pc : Nat) (L : List (Nat × Value)) (st : List Value) (h : Hp) : Prop := G RX5 cX5_keep 2 (some .int) wsX5_keep rmX5_keep S r r' out pc L st h
theorem nX5_keep_X5 : ∀ w ∈ wsX50, w ∈ wsX5_keep := by decide +kernel
theorem mX5_keep_135 : Cond.constant RX5 135 (-1000000001) ∈ wsX5_keep := by decide +kernel
theorem mX5_keep_29 : Cond.fieldLink RX5 29 "LinkedIsles" "now" "LLinkedIsles$Bonds;" ∈ wsX5_keep := by decide +kernel
theorem mX5_keep_39 : Cond.fieldLink RX5 39 "LinkedIsles" "log" "LLinkedIsles$Log;" ∈ wsX5_keep := by decide +kernel
theorem mX5_keep_50 : Cond.fieldLink RX5 50 "LinkedIsles" "imageRows" "[I" ∈ wsX5_keep := by decide +kernel
theorem mX5_keep_54 : Cond.fieldLink RX5 54 "LinkedIsles" "imageSeeds" "[I" ∈ wsX5_keep := by decide +kernel
theorem mX5_keep_57 : Cond.fieldLink RX5 57 "LinkedIsles" "imagesKept" "I" ∈ wsX5_keep := by decide +kernel
theorem mX5_keep_61 : Cond.fieldLink RX5 61 "LinkedIsles" "theSeed" "I" ∈ wsX5_keep := by decide +kernel
theorem hdX5_keep : yX5_keep.cls ≠ "java/lang/invoke/MethodHandle" ∧ yX5_keep.cls ≠ "java/lang/invoke/VarHandle" ∧ (parseMethodDescriptor yX5_keep.desc).map (fun d => d.parameters.length) = some 1 := by decide +kernel
def fX5_keep (n : Nat) (r : Rf) (v0 : Nat) (v1 : Int32) (h : Hp) : Option (Int32 × Hp) :=
  (fX5_isWithin n r v1 0 1 h).bind (fun (x2 : Int32) => if x2 = 0 then (some ((-1000000001), h)) else ((fX0_store n r (r v0 3) (r v0 7) 32 v1 h).bind (fun (h5 : Hp) => ck v1 2 (lE (pI h5 (r v0 8) (Int32.toNatClampNeg v1) (h5.1 v0 10)) (fun (h7 : Hp) => lE (pI h7 v0 9 ((h7.1 v0 9) ||| (1 <<< (v1 &&& 31)))) (fun (h8 : Hp) => (fX2_forget n r (r v0 5) h8).bind (fun (h10 : Hp) => some (1, h10))))))))
set_option maxHeartbeats 4000000 in
set_option maxRecDepth 100000 in
theorem uX5_keep {S : Shp} {n : Nat} {r : Rf} {v0 : Nat} {v1 : Int32} {h : Hp} {o : (Int32 × Hp)} (hW : WF S r) (hv0 : S[v0]? = some (5, 11)) (hf : fX5_keep n r v0 v1 h = some o) : GX5_keep S r r (some o.1, o.2) 0 [(0, .ref v0), (1, .int v1)] [] h := by
  unfold fX5_keep at hf
  refine g_iload_n (ps := 1) dX5_keep_0 rfl rfl ?_
  refine g_iconst (v := 0) dX5_keep_1 (by decide +kernel) ?_
  refine g_iconst (v := 1) dX5_keep_2 (by decide +kernel) ?_
  obtain ⟨x2, e1, hf⟩ := bd_s hf
  refine g_callSi (As := [.int v1, .int 0, .int 1]) (n := 3) (kX5_isWithin hW  e1) gX5_keep_X5_isWithin rfl ⟨rfl, rfl⟩ hdX5_isWithin ⟨Nat.le_of_ble_eq_true rfl, Nat.le_of_ble_eq_true rfl⟩ rfl rfl (Nat.le_of_ble_eq_true rfl) dX5_keep_3 ?_
  refine g_if_ne (tgt := 12) dX5_keep_6 (by decide) (fun c3 => ?_) (fun c3 => ?_)
  · have hf := if_f hf c3
    refine g_aload_n (ps := 0) dX5_keep_12 rfl rfl ?_
    refine g_getR cf5 hv0 nX5_keep_X5 (j := 3) (by decide) rfl mX5_keep_29 dX5_keep_13 ?_
    refine g_aload_n (ps := 0) dX5_keep_16 rfl rfl ?_
    refine g_getR cf5 hv0 nX5_keep_X5 (j := 7) (by decide) rfl mX5_keep_50 dX5_keep_17 ?_
    refine g_iload_n (ps := 1) dX5_keep_20 rfl rfl ?_
    obtain ⟨h5, e4, hf⟩ := bd_s hf
    refine g_callVv (As := [.ref (r v0 7), .int v1]) (n := 2) (kX0_store hW (hW _ _ _ hv0 3 _ rfl) (hW _ _ _ hv0 7 _ rfl) e4) gX5_keep_X0_store rfl ⟨rfl, rfl⟩ ⟨rfl, hdX0_store⟩ ⟨Nat.le_of_ble_eq_true rfl, Nat.le_of_ble_eq_true rfl⟩ cf0 (hW _ _ _ hv0 3 _ rfl) rfl rfl (Nat.le_of_ble_eq_true rfl) dX5_keep_21 ?_
    refine g_aload_n (ps := 0) dX5_keep_24 rfl rfl ?_
    refine g_getR cf5 hv0 nX5_keep_X5 (j := 8) (by decide) rfl mX5_keep_54 dX5_keep_25 ?_
    refine g_iload_n (ps := 1) dX5_keep_28 rfl rfl ?_
    refine g_aload_n (ps := 0) dX5_keep_29 rfl rfl ?_
    refine g_getI cf5 hv0 nX5_keep_X5 (j := 10) (by decide) rfl mX5_keep_61 dX5_keep_30 ?_
    obtain ⟨z6, hf⟩ := ck_s hf
    refine g_iast (hW _ _ _ hv0 8 _ rfl) z6 dX5_keep_33 ?_
    refine g_topH (fun h7 eh7 => ?_)
    have hf := lE_s hf eh7
    refine g_aload_n (ps := 0) dX5_keep_34 rfl rfl ?_
    refine g_dup dX5_keep_35 rfl ?_
    refine g_getI cf5 hv0 nX5_keep_X5 (j := 9) (by decide) rfl mX5_keep_57 dX5_keep_36 ?_
    refine g_iconst (v := 1) dX5_keep_39 (by decide +kernel) ?_
    refine g_iload_n (ps := 1) dX5_keep_40 rfl rfl ?_
    refine g_ishl dX5_keep_41 ?_
    refine g_ior dX5_keep_42 ?_
    refine g_putI cf5 hv0 nX5_keep_X5 (j := 9) (by decide) rfl mX5_keep_57 rfl dX5_keep_43 ?_
    refine g_topH (fun h8 eh8 => ?_)
    have hf := lE_s hf eh8
    refine g_aload_n (ps := 0) dX5_keep_46 rfl rfl ?_
    refine g_getR cf5 hv0 nX5_keep_X5 (j := 5) (by decide) rfl mX5_keep_39 dX5_keep_47 ?_
    obtain ⟨h10, e9, hf⟩ := bd_s hf
    refine g_callVv (As := []) (n := 0) (kX2_forget hW (hW _ _ _ hv0 5 _ rfl) e9) gX5_keep_X2_forget rfl ⟨rfl, rfl⟩ ⟨rfl, hdX2_forget⟩ ⟨Nat.le_of_ble_eq_true rfl, Nat.le_of_ble_eq_true rfl⟩ cf2 (hW _ _ _ hv0 5 _ rfl) rfl rfl (Nat.le_of_ble_eq_true rfl) dX5_keep_50 ?_
    refine g_iconst (v := 1) dX5_keep_53 (by decide +kernel) ?_
    have hf := Option.some.inj hf
    subst hf
    exact g_iret dX5_keep_54
  · have hf := if_t hf c3
    refine g_ldc (v := (-1000000001)) mX5_keep_135 dX5_keep_9 ?_
    have hf := Option.some.inj hf
    subst hf
    exact g_iret dX5_keep_11
theorem kX5_keep {S : Shp} {n : Nat} {r : Rf} {v0 : Nat} {v1 : Int32} {h : Hp} {o : (Int32 × Hp)} (hW : WF S r) (hv0 : S[v0]? = some (5, 11)) (hf : fX5_keep n r v0 v1 h = some o) : CTi yX5_keep wsX5_keep rmX5_keep S r [.ref v0, .int v1] h r o.1 o.2 :=
  cti_of rfl (by decide +kernel) rfl (Nat.le_of_ble_eq_true rfl) rfl (uX5_keep hW hv0 hf)
/-! X5_goBack goBack -/
def rmX5_goBack : Room := { frames := 2, cells := 0, slots := 0, locals := 63 }
abbrev GX5_goBack (S : Shp) (r r' : Rf) (out : Option Int32 × Hp) (pc : Nat) (L : List (Nat × Value)) (st : List Value) (h : Hp) : Prop := G RX5 cX5_goBack 2 (some .int) wsX5_goBack rmX5_goBack S r r' out pc L st h
theorem nX5_goBack_X5 : ∀ w ∈ wsX50, w ∈ wsX5_goBack := by decide +kernel
theorem mX5_goBack_135 : Cond.constant RX5 135 (-1000000001) ∈ wsX5_goBack := by decide +kernel
theorem mX5_goBack_178 : Cond.constant RX5 178 (-1000000003) ∈ wsX5_goBack := by decide +kernel
theorem mX5_goBack_29 : Cond.fieldLink RX5 29 "LinkedIsles" "now" "LLinkedIsles$Bonds;" ∈ wsX5_goBack := by decide +kernel
theorem mX5_goBack_39 : Cond.fieldLink RX5 39 "LinkedIsles" "log" "LLinkedIsles$Log;" ∈ wsX5_goBack := by decide +kernel
theorem mX5_goBack_50 : Cond.fieldLink RX5 50 "LinkedIsles" "imageRows" "[I" ∈ wsX5_goBack := by decide +kernel
theorem mX5_goBack_54 : Cond.fieldLink RX5 54 "LinkedIsles" "imageSeeds" "[I" ∈ wsX5_goBack := by decide +kernel
theorem mX5_goBack_57 : Cond.fieldLink RX5 57 "LinkedIsles" "imagesKept" "I" ∈ wsX5_goBack := by decide +kernel
theorem mX5_goBack_61 : Cond.fieldLink RX5 61 "LinkedIsles" "theSeed" "I" ∈ wsX5_goBack := by decide +kernel
theorem hdX5_goBack : yX5_goBack.cls ≠ "java/lang/invoke/MethodHandle" ∧ yX5_goBack.cls ≠ "java/lang/invoke/VarHandle" ∧ (parseMethodDescriptor yX5_goBack.desc).map (fun d => d.parameters.length) = some 1 := by decide +kernel
def fX5_goBack (n : Nat) (r : Rf) (v0 : Nat) (v1 : Int32) (h : Hp) : Option (Int32 × Hp) :=
  (fX5_isWithin n r v1 0 1 h).bind (fun (x2 : Int32) => if x2 = 0 then (some ((-1000000001), h)) else ((fX5_has n r (h.1 v0 9) v1 h).bind (fun (x5 : Int32) => if x5 = 0 then (some ((-1000000003), h)) else ((fX0_restore n r (r v0 3) (r v0 7) 32 v1 h).bind (fun (h8 : Hp) => ck v1 2 (lE (pI h8 v0 10 (h8.1 (r v0 8) (Int32.toNatClampNeg v1))) (fun (h10 : Hp) => (fX2_forget n r (r v0 5) h10).bind (fun (h12 : Hp) => some (1, h12)))))))))
set_option maxHeartbeats 4000000 in
set_option maxRecDepth 100000 in
theorem uX5_goBack {S : Shp} {n : Nat} {r : Rf} {v0 : Nat} {v1 : Int32} {h : Hp} {o : (Int32 × Hp)} (hW : WF S r) (hv0 : S[v0]? = some (5, 11)) (hf : fX5_goBack n r v0 v1 h = some o) : GX5_goBack S r r (some o.1, o.2) 0 [(0, .ref v0), (1, .int v1)] [] h := by
  unfold fX5_goBack at hf
  refine g_iload_n (ps := 1) dX5_goBack_0 rfl rfl ?_
  refine g_iconst (v := 0) dX5_goBack_1 (by decide +kernel) ?_
  refine g_iconst (v := 1) dX5_goBack_2 (by decide +kernel) ?_
  obtain ⟨x2, e1, hf⟩ := bd_s hf
  refine g_callSi (As := [.int v1, .int 0, .int 1]) (n := 3) (kX5_isWithin hW  e1) gX5_goBack_X5_isWithin rfl ⟨rfl, rfl⟩ hdX5_isWithin ⟨Nat.le_of_ble_eq_true rfl, Nat.le_of_ble_eq_true rfl⟩ rfl rfl (Nat.le_of_ble_eq_true rfl) dX5_goBack_3 ?_
  refine g_if_ne (tgt := 12) dX5_goBack_6 (by decide) (fun c3 => ?_) (fun c3 => ?_)
  · have hf := if_f hf c3
    refine g_aload_n (ps := 0) dX5_goBack_12 rfl rfl ?_
    refine g_getI cf5 hv0 nX5_goBack_X5 (j := 9) (by decide) rfl mX5_goBack_57 dX5_goBack_13 ?_
    refine g_iload_n (ps := 1) dX5_goBack_16 rfl rfl ?_
    obtain ⟨x5, e4, hf⟩ := bd_s hf
    refine g_callSi (As := [.int (h.1 v0 9), .int v1]) (n := 2) (kX5_has hW  e4) gX5_goBack_X5_has rfl ⟨rfl, rfl⟩ hdX5_has ⟨Nat.le_of_ble_eq_true rfl, Nat.le_of_ble_eq_true rfl⟩ rfl rfl (Nat.le_of_ble_eq_true rfl) dX5_goBack_17 ?_
    refine g_if_ne (tgt := 26) dX5_goBack_20 (by decide) (fun c6 => ?_) (fun c6 => ?_)
    · have hf := if_f hf c6
      refine g_aload_n (ps := 0) dX5_goBack_26 rfl rfl ?_
      refine g_getR cf5 hv0 nX5_goBack_X5 (j := 3) (by decide) rfl mX5_goBack_29 dX5_goBack_27 ?_
      refine g_aload_n (ps := 0) dX5_goBack_30 rfl rfl ?_
      refine g_getR cf5 hv0 nX5_goBack_X5 (j := 7) (by decide) rfl mX5_goBack_50 dX5_goBack_31 ?_
      refine g_iload_n (ps := 1) dX5_goBack_34 rfl rfl ?_
      obtain ⟨h8, e7, hf⟩ := bd_s hf
      refine g_callVv (As := [.ref (r v0 7), .int v1]) (n := 2) (kX0_restore hW (hW _ _ _ hv0 3 _ rfl) (hW _ _ _ hv0 7 _ rfl) e7) gX5_goBack_X0_restore rfl ⟨rfl, rfl⟩ ⟨rfl, hdX0_restore⟩ ⟨Nat.le_of_ble_eq_true rfl, Nat.le_of_ble_eq_true rfl⟩ cf0 (hW _ _ _ hv0 3 _ rfl) rfl rfl (Nat.le_of_ble_eq_true rfl) dX5_goBack_35 ?_
      refine g_aload_n (ps := 0) dX5_goBack_38 rfl rfl ?_
      refine g_aload_n (ps := 0) dX5_goBack_39 rfl rfl ?_
      refine g_getR cf5 hv0 nX5_goBack_X5 (j := 8) (by decide) rfl mX5_goBack_54 dX5_goBack_40 ?_
      refine g_iload_n (ps := 1) dX5_goBack_43 rfl rfl ?_
      obtain ⟨z9, hf⟩ := ck_s hf
      refine g_iald (hW _ _ _ hv0 8 _ rfl) z9 dX5_goBack_44 ?_
      refine g_putI cf5 hv0 nX5_goBack_X5 (j := 10) (by decide) rfl mX5_goBack_61 rfl dX5_goBack_45 ?_
      refine g_topH (fun h10 eh10 => ?_)
      have hf := lE_s hf eh10
      refine g_aload_n (ps := 0) dX5_goBack_48 rfl rfl ?_
      refine g_getR cf5 hv0 nX5_goBack_X5 (j := 5) (by decide) rfl mX5_goBack_39 dX5_goBack_49 ?_
      obtain ⟨h12, e11, hf⟩ := bd_s hf
      refine g_callVv (As := []) (n := 0) (kX2_forget hW (hW _ _ _ hv0 5 _ rfl) e11) gX5_goBack_X2_forget rfl ⟨rfl, rfl⟩ ⟨rfl, hdX2_forget⟩ ⟨Nat.le_of_ble_eq_true rfl, Nat.le_of_ble_eq_true rfl⟩ cf2 (hW _ _ _ hv0 5 _ rfl) rfl rfl (Nat.le_of_ble_eq_true rfl) dX5_goBack_52 ?_
      refine g_iconst (v := 1) dX5_goBack_55 (by decide +kernel) ?_
      have hf := Option.some.inj hf
      subst hf
      exact g_iret dX5_goBack_56
    · have hf := if_t hf c6
      refine g_ldc (v := (-1000000003)) mX5_goBack_178 dX5_goBack_23 ?_
      have hf := Option.some.inj hf
      subst hf
      exact g_iret dX5_goBack_25
  · have hf := if_t hf c3
    refine g_ldc (v := (-1000000001)) mX5_goBack_135 dX5_goBack_9 ?_
    have hf := Option.some.inj hf
    subst hf
    exact g_iret dX5_goBack_11
theorem kX5_goBack {S : Shp} {n : Nat} {r : Rf} {v0 : Nat} {v1 : Int32} {h : Hp} {o : (Int32 × Hp)} (hW : WF S r) (hv0 : S[v0]? = some (5, 11)) (hf : fX5_goBack n r v0 v1 h = some o) : CTi yX5_goBack wsX5_goBack rmX5_goBack S r [.ref v0, .int v1] h r o.1 o.2 :=
  cti_of rfl (by decide +kernel) rfl (Nat.le_of_ble_eq_true rfl) rfl (uX5_goBack hW hv0 hf)
/-! X6_in in -/
def rmX6_in : Room := { frames := 0, cells := 0, slots := 0, locals := 0 }
abbrev GX6_in (S : Shp) (r r' : Rf) (out : Option Int32 × Hp) (pc : Nat) (L : List (Nat × Value)) (st : List Value) (h : Hp) : Prop := G RX6 cX6_in 3 (some .boolean) wsX6_in rmX6_in S r r' out pc L st h
theorem hdX6_in : yX6_in.cls ≠ "java/lang/invoke/MethodHandle" ∧ yX6_in.cls ≠ "java/lang/invoke/VarHandle" ∧ (parseMethodDescriptor yX6_in.desc).map (fun d => d.parameters.length) = some 3 := by decide +kernel
def fX6_in (n : Nat) (r : Rf) (v0 : Int32) (v1 : Int32) (v2 : Int32) (h : Hp) : Option Int32 :=
  if v0 < v1 then (some 0) else (if v2 < v0 then (some 0) else (some 1))
set_option maxHeartbeats 4000000 in
set_option maxRecDepth 100000 in
theorem uX6_in {S : Shp} {n : Nat} {r : Rf} {v0 : Int32} {v1 : Int32} {v2 : Int32} {h : Hp} {o : Int32} (hW : WF S r)  (hf : fX6_in n r v0 v1 v2 h = some o) : GX6_in S r r (some o, h) 0 [(0, .int v0), (1, .int v1), (2, .int v2)] [] h := by
  unfold fX6_in at hf
  refine g_iload_n (ps := 0) dX6_in_0 rfl rfl ?_
  refine g_iload_n (ps := 1) dX6_in_1 rfl rfl ?_
  refine g_icmp_lt (tgt := 14) dX6_in_2 (by decide) (fun c1 => ?_) (fun c1 => ?_)
  · have hf := if_t hf c1
    refine g_iconst (v := 0) dX6_in_14 (by decide +kernel) ?_
    have hf := Option.some.inj hf
    subst hf
    exact g_zret (Or.inl rfl) dX6_in_15
  · have hf := if_f hf c1
    refine g_iload_n (ps := 0) dX6_in_5 rfl rfl ?_
    refine g_iload_n (ps := 2) dX6_in_6 rfl rfl ?_
    refine g_icmp_gt (tgt := 14) dX6_in_7 (by decide) (fun c2 => ?_) (fun c2 => ?_)
    · have hf := if_t hf c2
      refine g_iconst (v := 0) dX6_in_14 (by decide +kernel) ?_
      have hf := Option.some.inj hf
      subst hf
      exact g_zret (Or.inl rfl) dX6_in_15
    · have hf := if_f hf c2
      refine g_iconst (v := 1) dX6_in_10 (by decide +kernel) ?_
      refine g_goto (tgt := 15) dX6_in_11 (by decide) ?_
      have hf := Option.some.inj hf
      subst hf
      exact g_zret (Or.inr rfl) dX6_in_15
theorem kX6_in {S : Shp} {n : Nat} {r : Rf} {v0 : Int32} {v1 : Int32} {v2 : Int32} {h : Hp} {o : Int32} (hW : WF S r)  (hf : fX6_in n r v0 v1 v2 h = some o) : CTi yX6_in wsX6_in rmX6_in S r [.int v0, .int v1, .int v2] h r o h :=
  cti_of rfl (by decide +kernel) rfl (Nat.le_of_ble_eq_true rfl) rfl (uX6_in hW  hf)
/-! X6_has has -/
def rmX6_has : Room := { frames := 0, cells := 0, slots := 0, locals := 0 }
abbrev GX6_has (S : Shp) (r r' : Rf) (out : Option Int32 × Hp) (pc : Nat) (L : List (Nat × Value)) (st : List Value) (h : Hp) : Prop := G RX6 cX6_has 2 (some .boolean) wsX6_has rmX6_has S r r' out pc L st h
theorem hdX6_has : yX6_has.cls ≠ "java/lang/invoke/MethodHandle" ∧ yX6_has.cls ≠ "java/lang/invoke/VarHandle" ∧ (parseMethodDescriptor yX6_has.desc).map (fun d => d.parameters.length) = some 2 := by decide +kernel
def fX6_has (n : Nat) (r : Rf) (v0 : Int32) (v1 : Int32) (h : Hp) : Option Int32 :=
  if ((v0 >>> (v1 &&& 31)) &&& 1) = 1 then (some 1) else (some 0)
set_option maxHeartbeats 4000000 in
set_option maxRecDepth 100000 in
theorem uX6_has {S : Shp} {n : Nat} {r : Rf} {v0 : Int32} {v1 : Int32} {h : Hp} {o : Int32} (hW : WF S r)  (hf : fX6_has n r v0 v1 h = some o) : GX6_has S r r (some o, h) 0 [(0, .int v0), (1, .int v1)] [] h := by
  unfold fX6_has at hf
  refine g_iload_n (ps := 0) dX6_has_0 rfl rfl ?_
  refine g_iload_n (ps := 1) dX6_has_1 rfl rfl ?_
  refine g_ishr dX6_has_2 ?_
  refine g_iconst (v := 1) dX6_has_3 (by decide +kernel) ?_
  refine g_iand dX6_has_4 ?_
  refine g_iconst (v := 1) dX6_has_5 (by decide +kernel) ?_
  refine g_icmp_ne (tgt := 13) dX6_has_6 (by decide) (fun c1 => ?_) (fun c1 => ?_)
  · have hf := if_f hf c1
    refine g_iconst (v := 0) dX6_has_13 (by decide +kernel) ?_
    have hf := Option.some.inj hf
    subst hf
    exact g_zret (Or.inl rfl) dX6_has_14
  · have hf := if_t hf c1
    refine g_iconst (v := 1) dX6_has_9 (by decide +kernel) ?_
    refine g_goto (tgt := 14) dX6_has_10 (by decide) ?_
    have hf := Option.some.inj hf
    subst hf
    exact g_zret (Or.inr rfl) dX6_has_14
theorem kX6_has {S : Shp} {n : Nat} {r : Rf} {v0 : Int32} {v1 : Int32} {h : Hp} {o : Int32} (hW : WF S r)  (hf : fX6_has n r v0 v1 h = some o) : CTi yX6_has wsX6_has rmX6_has S r [.int v0, .int v1] h r o h :=
  cti_of rfl (by decide +kernel) rfl (Nat.le_of_ble_eq_true rfl) rfl (uX6_has hW  hf)
/-! X6_bits bits -/
def rmX6_bits : Room := { frames := 0, cells := 0, slots := 0, locals := 0 }
abbrev GX6_bits (S : Shp) (r r' : Rf) (out : Option Int32 × Hp) (pc : Nat) (L : List (Nat × Value)) (st : List Value) (h : Hp) : Prop := G RX6 cX6_bits 3 (some .int) wsX6_bits rmX6_bits S r r' out pc L st h
theorem hdX6_bits : yX6_bits.cls ≠ "java/lang/invoke/MethodHandle" ∧ yX6_bits.cls ≠ "java/lang/invoke/VarHandle" ∧ (parseMethodDescriptor yX6_bits.desc).map (fun d => d.parameters.length) = some 1 := by decide +kernel
def bX6_bits_4 (n : Nat) (r : Rf) (v1 : Int32) (v2 : Int32) (h : Hp) : Option ((Int32 × Int32) ⊕ (Int32)) :=
  if v2 = 0 then (some (.inr v1)) else (lE (v1 + 1) (fun (x2 : Int32) => lE ((v2 &&& (v2 - 1))) (fun (x3 : Int32) => some (.inl (x2, x3)))))
def lX6_bits_4 (n : Nat) (r : Rf) (v1 : Int32) (v2 : Int32) (h : Hp) : Option Int32 :=
  (it (fun (s : Int32 × Int32) => bX6_bits_4 n r s.1 s.2 h) n (v1, v2)).bind (fun z => some z)
def fX6_bits (n : Nat) (r : Rf) (v0 : Int32) (h : Hp) : Option Int32 :=
  lX6_bits_4 n r 0 v0 h
set_option maxHeartbeats 4000000 in
set_option maxRecDepth 100000 in
theorem ubX6_bits_4 {S : Shp} {n : Nat} {r : Rf} {out : Option Int32 × Hp} {r' : Rf} {v1 : Int32} {v2 : Int32}  {h : Hp} {w : (Int32 × Int32) ⊕ (Int32)} (hW : WF S r)  (hf : bX6_bits_4 n r v1 v2 h = some w) (hk : ∀ y, w = .inl y → GX6_bits S r r' out 4 [(1, .int (y.1)), (2, .int (y.2))] [] h) (he : ∀ z, w = .inr z → GX6_bits S r r' out 20 [(1, .int (z))] [] h) : GX6_bits S r r' out 4 [(1, .int v1), (2, .int v2)] [] h := by
  unfold bX6_bits_4 at hf
  refine g_iload_n (ps := 1) dX6_bits_4 rfl rfl ?_
  refine g_if_eq (tgt := 20) dX6_bits_5 (by decide) (fun c1 => ?_) (fun c1 => ?_)
  · have hf := if_t hf c1
    exact g_pick [0] rfl (he _ (Option.some.inj hf).symm)
  · have hf := if_f hf c1
    obtain ⟨x2, ex2⟩ : ∃ y : Int32, y = v1 + 1 := ⟨_, rfl⟩
    have hf := lE_s hf ex2
    refine g_iinc (ps := 0) (v := x2) (L' := [(1, .int x2), (2, .int v2)]) dX6_bits_8 rfl (by rw [ex2]; rfl) (by decide) rfl ?_
    refine g_iload_n (ps := 1) dX6_bits_11 rfl rfl ?_
    refine g_iload_n (ps := 1) dX6_bits_12 rfl rfl ?_
    refine g_iconst (v := 1) dX6_bits_13 (by decide +kernel) ?_
    refine g_isub dX6_bits_14 ?_
    refine g_iand dX6_bits_15 ?_
    refine g_topi (fun x3 ex3 => ?_)
    have hf := lE_s hf ex3
    refine g_istore_n (L' := [(2, .int x3), (1, .int x2)]) dX6_bits_16 rfl (by decide) rfl ?_
    refine g_goto (tgt := 4) dX6_bits_17 (by decide) ?_
    exact g_pick [1, 0] rfl (hk _ (Option.some.inj hf).symm)
set_option maxHeartbeats 4000000 in
set_option maxRecDepth 100000 in
theorem ulX6_bits_4 {S : Shp} {n : Nat} {r : Rf} {v1 : Int32} {v2 : Int32}  {h : Hp} {o : Int32} (hW : WF S r)  (hf : lX6_bits_4 n r v1 v2 h = some o)  : GX6_bits S r r (some o, h) 4 [(1, .int v1), (2, .int v2)] [] h := by
  unfold lX6_bits_4 at hf
  obtain ⟨z0, ei, hf⟩ := bd_s hf
  refine it_ind (P := fun (s : Int32 × Int32) => GX6_bits S r r (some o, h) 4 [(1, .int (s.1)), (2, .int (s.2))] [] h) (fun s w hb hk2 he2 => ?_) n _ ei
  refine ubX6_bits_4 (out := (some o, h)) (r' := r) hW  hb hk2 (fun z hz => ?_)
  have hz := he2 z hz
  subst hz
  refine g_iload_n (ps := 0) dX6_bits_20 rfl rfl ?_
  have hf := Option.some.inj hf
  subst hf
  exact g_iret dX6_bits_21
set_option maxHeartbeats 4000000 in
set_option maxRecDepth 100000 in
theorem uX6_bits {S : Shp} {n : Nat} {r : Rf} {v0 : Int32} {h : Hp} {o : Int32} (hW : WF S r)  (hf : fX6_bits n r v0 h = some o) : GX6_bits S r r (some o, h) 0 [(0, .int v0)] [] h := by
  unfold fX6_bits at hf
  refine g_iconst (v := 0) dX6_bits_0 (by decide +kernel) ?_
  refine g_istore_n (L' := [(1, .int 0), (0, .int v0)]) dX6_bits_1 rfl (by decide) rfl ?_
  refine g_iload_n (ps := 1) dX6_bits_2 rfl rfl ?_
  refine g_istore_n (L' := [(2, .int v0), (1, .int 0), (0, .int v0)]) dX6_bits_3 rfl (by decide) rfl ?_
  exact g_pick [1, 0] rfl (ulX6_bits_4 hW  hf)
theorem kX6_bits {S : Shp} {n : Nat} {r : Rf} {v0 : Int32} {h : Hp} {o : Int32} (hW : WF S r)  (hf : fX6_bits n r v0 h = some o) : CTi yX6_bits wsX6_bits rmX6_bits S r [.int v0] h r o h :=
  cti_of rfl (by decide +kernel) rfl (Nat.le_of_ble_eq_true rfl) rfl (uX6_bits hW  hf)
/-! X6_feed feed -/
def rmX6_feed : Room := { frames := 1, cells := 0, slots := 0, locals := 22 }
abbrev GX6_feed (S : Shp) (r r' : Rf) (out : Option Int32 × Hp) (pc : Nat) (L : List (Nat × Value)) (st : List Value) (h : Hp) : Prop := G RX6 cX6_feed 2 (some .int) wsX6_feed rmX6_feed S r r' out pc L st h
theorem nX6_feed_X6 : ∀ w ∈ wsX60, w ∈ wsX6_feed := by decide +kernel
theorem mX6_feed_86 : Cond.constant RX6 86 (-1000000002) ∈ wsX6_feed := by decide +kernel
theorem mX6_feed_90 : Cond.constant RX6 90 (-1000000004) ∈ wsX6_feed := by decide +kernel
theorem mX6_feed_7 : Cond.fieldLink RX6 7 "LinkedIslesModel" "text" "[I" ∈ wsX6_feed := by decide +kernel
theorem mX6_feed_87 : Cond.fieldLink RX6 87 "LinkedIslesModel" "letterMany" "I" ∈ wsX6_feed := by decide +kernel
theorem hdX6_feed : yX6_feed.cls ≠ "java/lang/invoke/MethodHandle" ∧ yX6_feed.cls ≠ "java/lang/invoke/VarHandle" ∧ (parseMethodDescriptor yX6_feed.desc).map (fun d => d.parameters.length) = some 1 := by decide +kernel
def fX6_feed (n : Nat) (r : Rf) (v0 : Nat) (v1 : Int32) (h : Hp) : Option (Int32 × Hp) :=
  (fX6_in n r v1 0 255 h).bind (fun (x2 : Int32) => if x2 = 0 then (some ((-1000000002), h)) else (if (h.1 v0 0) = 240 then (some ((-1000000004), h)) else (ck (h.1 v0 0) 240 (lE (pI h (r v0 1) (Int32.toNatClampNeg (h.1 v0 0)) v1) (fun (h6 : Hp) => lE (pI h6 v0 0 ((h6.1 v0 0) + 1)) (fun (h7 : Hp) => some ((h7.1 v0 0), h7)))))))
set_option maxHeartbeats 4000000 in
set_option maxRecDepth 100000 in
theorem uX6_feed {S : Shp} {n : Nat} {r : Rf} {v0 : Nat} {v1 : Int32} {h : Hp} {o : (Int32 × Hp)} (hW : WF S r) (hv0 : S[v0]? = some (6, 38)) (hf : fX6_feed n r v0 v1 h = some o) : GX6_feed S r r (some o.1, o.2) 0 [(0, .ref v0), (1, .int v1)] [] h := by
  unfold fX6_feed at hf
  refine g_iload_n (ps := 1) dX6_feed_0 rfl rfl ?_
  refine g_iconst (v := 0) dX6_feed_1 (by decide +kernel) ?_
  refine g_sipush (v := 255) dX6_feed_2 (by decide +kernel) ?_
  obtain ⟨x2, e1, hf⟩ := bd_s hf
  refine g_callSi (As := [.int v1, .int 0, .int 255]) (n := 3) (kX6_in hW  e1) gX6_feed_X6_in rfl ⟨rfl, rfl⟩ hdX6_in ⟨Nat.le_of_ble_eq_true rfl, Nat.le_of_ble_eq_true rfl⟩ rfl rfl (Nat.le_of_ble_eq_true rfl) dX6_feed_5 ?_
  refine g_if_ne (tgt := 14) dX6_feed_8 (by decide) (fun c3 => ?_) (fun c3 => ?_)
  · have hf := if_f hf c3
    refine g_aload_n (ps := 0) dX6_feed_14 rfl rfl ?_
    refine g_getI cf6 hv0 nX6_feed_X6 (j := 0) (by decide) rfl mX6_feed_87 dX6_feed_15 ?_
    refine g_sipush (v := 240) dX6_feed_18 (by decide +kernel) ?_
    refine g_icmp_ne (tgt := 27) dX6_feed_21 (by decide) (fun c4 => ?_) (fun c4 => ?_)
    · have hf := if_f hf c4
      refine g_aload_n (ps := 0) dX6_feed_27 rfl rfl ?_
      refine g_getR cf6 hv0 nX6_feed_X6 (j := 1) (by decide) rfl mX6_feed_7 dX6_feed_28 ?_
      refine g_aload_n (ps := 0) dX6_feed_31 rfl rfl ?_
      refine g_getI cf6 hv0 nX6_feed_X6 (j := 0) (by decide) rfl mX6_feed_87 dX6_feed_32 ?_
      refine g_iload_n (ps := 1) dX6_feed_35 rfl rfl ?_
      obtain ⟨z5, hf⟩ := ck_s hf
      refine g_iast (hW _ _ _ hv0 1 _ rfl) z5 dX6_feed_36 ?_
      refine g_topH (fun h6 eh6 => ?_)
      have hf := lE_s hf eh6
      refine g_aload_n (ps := 0) dX6_feed_37 rfl rfl ?_
      refine g_dup dX6_feed_38 rfl ?_
      refine g_getI cf6 hv0 nX6_feed_X6 (j := 0) (by decide) rfl mX6_feed_87 dX6_feed_39 ?_
      refine g_iconst (v := 1) dX6_feed_42 (by decide +kernel) ?_
      refine g_iadd dX6_feed_43 ?_
      refine g_putI cf6 hv0 nX6_feed_X6 (j := 0) (by decide) rfl mX6_feed_87 rfl dX6_feed_44 ?_
      refine g_topH (fun h7 eh7 => ?_)
      have hf := lE_s hf eh7
      refine g_aload_n (ps := 0) dX6_feed_47 rfl rfl ?_
      refine g_getI cf6 hv0 nX6_feed_X6 (j := 0) (by decide) rfl mX6_feed_87 dX6_feed_48 ?_
      have hf := Option.some.inj hf
      subst hf
      exact g_iret dX6_feed_51
    · have hf := if_t hf c4
      refine g_ldc (v := (-1000000004)) mX6_feed_90 dX6_feed_24 ?_
      have hf := Option.some.inj hf
      subst hf
      exact g_iret dX6_feed_26
  · have hf := if_t hf c3
    refine g_ldc (v := (-1000000002)) mX6_feed_86 dX6_feed_11 ?_
    have hf := Option.some.inj hf
    subst hf
    exact g_iret dX6_feed_13
theorem kX6_feed {S : Shp} {n : Nat} {r : Rf} {v0 : Nat} {v1 : Int32} {h : Hp} {o : (Int32 × Hp)} (hW : WF S r) (hv0 : S[v0]? = some (6, 38)) (hf : fX6_feed n r v0 v1 h = some o) : CTi yX6_feed wsX6_feed rmX6_feed S r [.ref v0, .int v1] h r o.1 o.2 :=
  cti_of rfl (by decide +kernel) rfl (Nat.le_of_ble_eq_true rfl) rfl (uX6_feed hW hv0 hf)
/-! X6_letterAt letterAt -/
def rmX6_letterAt : Room := { frames := 0, cells := 0, slots := 0, locals := 0 }
abbrev GX6_letterAt (S : Shp) (r r' : Rf) (out : Option Int32 × Hp) (pc : Nat) (L : List (Nat × Value)) (st : List Value) (h : Hp) : Prop := G RX6 cX6_letterAt 2 (some .int) wsX6_letterAt rmX6_letterAt S r r' out pc L st h
theorem nX6_letterAt_X6 : ∀ w ∈ wsX60, w ∈ wsX6_letterAt := by decide +kernel
theorem mX6_letterAt_7 : Cond.fieldLink RX6 7 "LinkedIslesModel" "text" "[I" ∈ wsX6_letterAt := by decide +kernel
theorem mX6_letterAt_87 : Cond.fieldLink RX6 87 "LinkedIslesModel" "letterMany" "I" ∈ wsX6_letterAt := by decide +kernel
theorem hdX6_letterAt : yX6_letterAt.cls ≠ "java/lang/invoke/MethodHandle" ∧ yX6_letterAt.cls ≠ "java/lang/invoke/VarHandle" ∧ (parseMethodDescriptor yX6_letterAt.desc).map (fun d => d.parameters.length) = some 1 := by decide +kernel
def fX6_letterAt (n : Nat) (r : Rf) (v0 : Nat) (v1 : Int32) (h : Hp) : Option Int32 :=
  if (h.1 v0 0) ≤ v1 then (some (-1)) else (ck v1 240 (some (h.1 (r v0 1) (Int32.toNatClampNeg v1))))
set_option maxHeartbeats 4000000 in
set_option maxRecDepth 100000 in
theorem uX6_letterAt {S : Shp} {n : Nat} {r : Rf} {v0 : Nat} {v1 : Int32} {h : Hp} {o : Int32} (hW : WF S r) (hv0 : S[v0]? = some (6, 38)) (hf : fX6_letterAt n r v0 v1 h = some o) : GX6_letterAt S r r (some o, h) 0 [(0, .ref v0), (1, .int v1)] [] h := by
  unfold fX6_letterAt at hf
  refine g_iload_n (ps := 1) dX6_letterAt_0 rfl rfl ?_
  refine g_aload_n (ps := 0) dX6_letterAt_1 rfl rfl ?_
  refine g_getI cf6 hv0 nX6_letterAt_X6 (j := 0) (by decide) rfl mX6_letterAt_87 dX6_letterAt_2 ?_
  refine g_icmp_ge (tgt := 17) dX6_letterAt_5 (by decide) (fun c1 => ?_) (fun c1 => ?_)
  · have hf := if_t hf c1
    refine g_iconst (v := (-1)) dX6_letterAt_17 (by decide +kernel) ?_
    have hf := Option.some.inj hf
    subst hf
    exact g_iret dX6_letterAt_18
  · have hf := if_f hf c1
    refine g_aload_n (ps := 0) dX6_letterAt_8 rfl rfl ?_
    refine g_getR cf6 hv0 nX6_letterAt_X6 (j := 1) (by decide) rfl mX6_letterAt_7 dX6_letterAt_9 ?_
    refine g_iload_n (ps := 1) dX6_letterAt_12 rfl rfl ?_
    obtain ⟨z2, hf⟩ := ck_s hf
    refine g_iald (hW _ _ _ hv0 1 _ rfl) z2 dX6_letterAt_13 ?_
    refine g_goto (tgt := 18) dX6_letterAt_14 (by decide) ?_
    have hf := Option.some.inj hf
    subst hf
    exact g_iret dX6_letterAt_18
theorem kX6_letterAt {S : Shp} {n : Nat} {r : Rf} {v0 : Nat} {v1 : Int32} {h : Hp} {o : Int32} (hW : WF S r) (hv0 : S[v0]? = some (6, 38)) (hf : fX6_letterAt n r v0 v1 h = some o) : CTi yX6_letterAt wsX6_letterAt rmX6_letterAt S r [.ref v0, .int v1] h r o h :=
  cti_of rfl (by decide +kernel) rfl (Nat.le_of_ble_eq_true rfl) rfl (uX6_letterAt hW hv0 hf)
/-! X6_nextLetter nextLetter -/
def rmX6_nextLetter : Room := { frames := 1, cells := 0, slots := 0, locals := 21 }
abbrev GX6_nextLetter (S : Shp) (r r' : Rf) (out : Option Int32 × Hp) (pc : Nat) (L : List (Nat × Value)) (st : List Value) (h : Hp) : Prop := G RX6 cX6_nextLetter 1 (some .int) wsX6_nextLetter rmX6_nextLetter S r r' out pc L st h
theorem nX6_nextLetter_X6 : ∀ w ∈ wsX60, w ∈ wsX6_nextLetter := by decide +kernel
theorem mX6_nextLetter_91 : Cond.fieldLink RX6 91 "LinkedIslesModel" "readAt" "I" ∈ wsX6_nextLetter := by decide +kernel
theorem hdX6_nextLetter : yX6_nextLetter.cls ≠ "java/lang/invoke/MethodHandle" ∧ yX6_nextLetter.cls ≠ "java/lang/invoke/VarHandle" ∧ (parseMethodDescriptor yX6_nextLetter.desc).map (fun d => d.parameters.length) = some 0 := by decide +kernel
def bX6_nextLetter_0 (n : Nat) (r : Rf) (v0 : Nat) (h : Hp) : Option ((Hp) ⊕ (Hp)) :=
  (fX6_letterAt n r v0 (h.1 v0 2) h).bind (fun (x2 : Int32) => if x2 = 32 then (lE (pI h v0 2 ((h.1 v0 2) + 1)) (fun (h4 : Hp) => some (.inl h4))) else (some (.inr h)))
def lX6_nextLetter_0 (n : Nat) (r : Rf) (v0 : Nat) (h : Hp) : Option (Int32 × Hp) :=
  (it (fun (s : Hp) => bX6_nextLetter_0 n r v0 s) n h).bind (fun z => (fX6_letterAt n r v0 (z.1 v0 2) z).bind (fun (x6 : Int32) => some (x6, z)))
def fX6_nextLetter (n : Nat) (r : Rf) (v0 : Nat) (h : Hp) : Option (Int32 × Hp) :=
  lX6_nextLetter_0 n r v0 h
set_option maxHeartbeats 4000000 in
set_option maxRecDepth 100000 in
theorem ubX6_nextLetter_0 {S : Shp} {n : Nat} {r : Rf} {out : Option Int32 × Hp} {r' : Rf} {v0 : Nat}  {h : Hp} {w : (Hp) ⊕ (Hp)} (hW : WF S r) (hv0 : S[v0]? = some (6, 38)) (hf : bX6_nextLetter_0 n r v0 h = some w) (hk : ∀ y, w = .inl y → GX6_nextLetter S r r' out 0 [(0, .ref v0)] [] (y)) (he : ∀ z, w = .inr z → GX6_nextLetter S r r' out 26 [(0, .ref v0)] [] (z)) : GX6_nextLetter S r r' out 0 [(0, .ref v0)] [] h := by
  unfold bX6_nextLetter_0 at hf
  refine g_aload_n (ps := 0) dX6_nextLetter_0 rfl rfl ?_
  refine g_aload_n (ps := 0) dX6_nextLetter_1 rfl rfl ?_
  refine g_getI cf6 hv0 nX6_nextLetter_X6 (j := 2) (by decide) rfl mX6_nextLetter_91 dX6_nextLetter_2 ?_
  obtain ⟨x2, e1, hf⟩ := bd_s hf
  refine g_callVi (As := [.int (h.1 v0 2)]) (n := 1) (kX6_letterAt hW hv0 e1) gX6_nextLetter_X6_letterAt rfl ⟨rfl, rfl⟩ ⟨rfl, hdX6_letterAt⟩ ⟨Nat.le_of_ble_eq_true rfl, Nat.le_of_ble_eq_true rfl⟩ cf6 hv0 rfl rfl (Nat.le_of_ble_eq_true rfl) dX6_nextLetter_5 ?_
  refine g_bipush (v := 32) dX6_nextLetter_8 (by decide +kernel) ?_
  refine g_icmp_ne (tgt := 26) dX6_nextLetter_10 (by decide) (fun c3 => ?_) (fun c3 => ?_)
  · have hf := if_f hf c3
    exact g_pick [0] rfl (he _ (Option.some.inj hf).symm)
  · have hf := if_t hf c3
    refine g_aload_n (ps := 0) dX6_nextLetter_13 rfl rfl ?_
    refine g_dup dX6_nextLetter_14 rfl ?_
    refine g_getI cf6 hv0 nX6_nextLetter_X6 (j := 2) (by decide) rfl mX6_nextLetter_91 dX6_nextLetter_15 ?_
    refine g_iconst (v := 1) dX6_nextLetter_18 (by decide +kernel) ?_
    refine g_iadd dX6_nextLetter_19 ?_
    refine g_putI cf6 hv0 nX6_nextLetter_X6 (j := 2) (by decide) rfl mX6_nextLetter_91 rfl dX6_nextLetter_20 ?_
    refine g_topH (fun h4 eh4 => ?_)
    have hf := lE_s hf eh4
    refine g_goto (tgt := 0) dX6_nextLetter_23 (by decide) ?_
    exact g_pick [0] rfl (hk _ (Option.some.inj hf).symm)
set_option maxHeartbeats 4000000 in
set_option maxRecDepth 100000 in
theorem ulX6_nextLetter_0 {S : Shp} {n : Nat} {r : Rf} {v0 : Nat}  {h : Hp} {o : (Int32 × Hp)} (hW : WF S r) (hv0 : S[v0]? = some (6, 38)) (hf : lX6_nextLetter_0 n r v0 h = some o)  : GX6_nextLetter S r r (some o.1, o.2) 0 [(0, .ref v0)] [] h := by
  unfold lX6_nextLetter_0 at hf
  obtain ⟨z0, ei, hf⟩ := bd_s hf
  refine it_ind (P := fun (s : Hp) => GX6_nextLetter S r r (some o.1, o.2) 0 [(0, .ref v0)] [] s) (fun s w hb hk2 he2 => ?_) n _ ei
  refine ubX6_nextLetter_0 (out := (some o.1, o.2)) (r' := r) hW hv0 hb hk2 (fun z hz => ?_)
  have hz := he2 z hz
  subst hz
  refine g_aload_n (ps := 0) dX6_nextLetter_26 rfl rfl ?_
  refine g_aload_n (ps := 0) dX6_nextLetter_27 rfl rfl ?_
  refine g_getI cf6 hv0 nX6_nextLetter_X6 (j := 2) (by decide) rfl mX6_nextLetter_91 dX6_nextLetter_28 ?_
  obtain ⟨x6, e5, hf⟩ := bd_s hf
  refine g_callVi (As := [.int (z.1 v0 2)]) (n := 1) (kX6_letterAt hW hv0 e5) gX6_nextLetter_X6_letterAt rfl ⟨rfl, rfl⟩ ⟨rfl, hdX6_letterAt⟩ ⟨Nat.le_of_ble_eq_true rfl, Nat.le_of_ble_eq_true rfl⟩ cf6 hv0 rfl rfl (Nat.le_of_ble_eq_true rfl) dX6_nextLetter_31 ?_
  have hf := Option.some.inj hf
  subst hf
  exact g_iret dX6_nextLetter_34
set_option maxHeartbeats 4000000 in
set_option maxRecDepth 100000 in
theorem uX6_nextLetter {S : Shp} {n : Nat} {r : Rf} {v0 : Nat} {h : Hp} {o : (Int32 × Hp)} (hW : WF S r) (hv0 : S[v0]? = some (6, 38)) (hf : fX6_nextLetter n r v0 h = some o) : GX6_nextLetter S r r (some o.1, o.2) 0 [(0, .ref v0)] [] h := by
  unfold fX6_nextLetter at hf
  exact g_pick [0] rfl (ulX6_nextLetter_0 hW hv0 hf)
theorem kX6_nextLetter {S : Shp} {n : Nat} {r : Rf} {v0 : Nat} {h : Hp} {o : (Int32 × Hp)} (hW : WF S r) (hv0 : S[v0]? = some (6, 38)) (hf : fX6_nextLetter n r v0 h = some o) : CTi yX6_nextLetter wsX6_nextLetter rmX6_nextLetter S r [.ref v0] h r o.1 o.2 :=
  cti_of rfl (by decide +kernel) rfl (Nat.le_of_ble_eq_true rfl) rfl (uX6_nextLetter hW hv0 hf)
/-! X6_fails fails -/
def rmX6_fails : Room := { frames := 0, cells := 0, slots := 0, locals := 0 }
abbrev GX6_fails (S : Shp) (r r' : Rf) (out : Option Int32 × Hp) (pc : Nat) (L : List (Nat × Value)) (st : List Value) (h : Hp) : Prop := G RX6 cX6_fails 3 (some .int) wsX6_fails rmX6_fails S r r' out pc L st h
theorem nX6_fails_X6 : ∀ w ∈ wsX60, w ∈ wsX6_fails := by decide +kernel
theorem mX6_fails_91 : Cond.fieldLink RX6 91 "LinkedIslesModel" "readAt" "I" ∈ wsX6_fails := by decide +kernel
theorem mX6_fails_98 : Cond.fieldLink RX6 98 "LinkedIslesModel" "readFault" "I" ∈ wsX6_fails := by decide +kernel
theorem hdX6_fails : yX6_fails.cls ≠ "java/lang/invoke/MethodHandle" ∧ yX6_fails.cls ≠ "java/lang/invoke/VarHandle" ∧ (parseMethodDescriptor yX6_fails.desc).map (fun d => d.parameters.length) = some 2 := by decide +kernel
def fX6_fails (n : Nat) (r : Rf) (v0 : Nat) (v1 : Int32) (v2 : Int32) (h : Hp) : Option (Int32 × Hp) :=
  lE (pI h v0 4 v1) (fun (h1 : Hp) => lE (pI h1 v0 2 v2) (fun (h2 : Hp) => some ((-1), h2)))
set_option maxHeartbeats 4000000 in
set_option maxRecDepth 100000 in
theorem uX6_fails {S : Shp} {n : Nat} {r : Rf} {v0 : Nat} {v1 : Int32} {v2 : Int32} {h : Hp} {o : (Int32 × Hp)} (hW : WF S r) (hv0 : S[v0]? = some (6, 38)) (hf : fX6_fails n r v0 v1 v2 h = some o) : GX6_fails S r r (some o.1, o.2) 0 [(0, .ref v0), (1, .int v1), (2, .int v2)] [] h := by
  unfold fX6_fails at hf
  refine g_aload_n (ps := 0) dX6_fails_0 rfl rfl ?_
  refine g_iload_n (ps := 1) dX6_fails_1 rfl rfl ?_
  refine g_putI cf6 hv0 nX6_fails_X6 (j := 4) (by decide) rfl mX6_fails_98 rfl dX6_fails_2 ?_
  refine g_topH (fun h1 eh1 => ?_)
  have hf := lE_s hf eh1
  refine g_aload_n (ps := 0) dX6_fails_5 rfl rfl ?_
  refine g_iload_n (ps := 2) dX6_fails_6 rfl rfl ?_
  refine g_putI cf6 hv0 nX6_fails_X6 (j := 2) (by decide) rfl mX6_fails_91 rfl dX6_fails_7 ?_
  refine g_topH (fun h2 eh2 => ?_)
  have hf := lE_s hf eh2
  refine g_iconst (v := (-1)) dX6_fails_10 (by decide +kernel) ?_
  have hf := Option.some.inj hf
  subst hf
  exact g_iret dX6_fails_11
theorem kX6_fails {S : Shp} {n : Nat} {r : Rf} {v0 : Nat} {v1 : Int32} {v2 : Int32} {h : Hp} {o : (Int32 × Hp)} (hW : WF S r) (hv0 : S[v0]? = some (6, 38)) (hf : fX6_fails n r v0 v1 v2 h = some o) : CTi yX6_fails wsX6_fails rmX6_fails S r [.ref v0, .int v1, .int v2] h r o.1 o.2 :=
  cti_of rfl (by decide +kernel) rfl (Nat.le_of_ble_eq_true rfl) rfl (uX6_fails hW hv0 hf)
/-! X6_readsNumber readsNumber -/
def rmX6_readsNumber : Room := { frames := 2, cells := 0, slots := 0, locals := 41 }
abbrev GX6_readsNumber (S : Shp) (r r' : Rf) (out : Option Int32 × Hp) (pc : Nat) (L : List (Nat × Value)) (st : List Value) (h : Hp) : Prop := G RX6 cX6_readsNumber 4 (some .int) wsX6_readsNumber rmX6_readsNumber S r r' out pc L st h
theorem nX6_readsNumber_X6 : ∀ w ∈ wsX60, w ∈ wsX6_readsNumber := by decide +kernel
theorem mX6_readsNumber_109 : Cond.fieldLink RX6 109 "LinkedIslesModel" "numberAt" "I" ∈ wsX6_readsNumber := by decide +kernel
theorem mX6_readsNumber_91 : Cond.fieldLink RX6 91 "LinkedIslesModel" "readAt" "I" ∈ wsX6_readsNumber := by decide +kernel
theorem hdX6_readsNumber : yX6_readsNumber.cls ≠ "java/lang/invoke/MethodHandle" ∧ yX6_readsNumber.cls ≠ "java/lang/invoke/VarHandle" ∧ (parseMethodDescriptor yX6_readsNumber.desc).map (fun d => d.parameters.length) = some 2 := by decide +kernel
def jX6_readsNumber_79 (n : Nat) (r : Rf) (v0 : Nat) (v1 : Int32) (v2 : Int32) (s0 : Int32) (h : Hp) : Option ((Int32 × Hp) ⊕ (Int32 × Hp)) :=
  lE (pI h v0 2 ((h.1 v0 2) + 1)) (fun (h16 : Hp) => some (.inl (s0, h16)))
def bX6_readsNumber_34 (n : Nat) (r : Rf) (v0 : Nat) (v1 : Int32) (v2 : Int32) (v3 : Int32) (h : Hp) : Option ((Int32 × Hp) ⊕ (Int32 × Hp)) :=
  (fX6_letterAt n r v0 (h.1 v0 2) h).bind (fun (x9 : Int32) => (fX6_in n r x9 48 57 h).bind (fun (x11 : Int32) => if x11 = 0 then (some (.inr (v3, h))) else (if v3 ≤ 999 then ((fX6_letterAt n r v0 (h.1 v0 2) h).bind (fun (x15 : Int32) => jX6_readsNumber_79 n r v0 v1 v2 (((10 * v3) + x15) - 48) h)) else (jX6_readsNumber_79 n r v0 v1 v2 v3 h))))
def jX6_readsNumber_115 (n : Nat) (r : Rf) (v0 : Nat)  (h : Hp) : Option (Int32 × Hp) :=
  bd2 (fX6_fails n r v0 2 (h.1 v0 3) h) (fun (x19 : Int32) (h20 : Hp) => some (x19, h20))
def lX6_readsNumber_34 (n : Nat) (r : Rf) (v0 : Nat) (v1 : Int32) (v2 : Int32) (v3 : Int32) (h : Hp) : Option (Int32 × Hp) :=
  (it (fun (s : Int32 × Hp) => bX6_readsNumber_34 n r v0 v1 v2 s.1 s.2) n (v3, h)).bind (fun z => if 3 < (((z.2).1 v0 2) - ((z.2).1 v0 3)) then (jX6_readsNumber_115 n r v0  (z.2)) else ((fX6_in n r (z.1) v1 v2 (z.2)).bind (fun (x22 : Int32) => if x22 = 0 then (jX6_readsNumber_115 n r v0  (z.2)) else (some ((z.1), (z.2))))))
def fX6_readsNumber (n : Nat) (r : Rf) (v0 : Nat) (v1 : Int32) (v2 : Int32) (h : Hp) : Option (Int32 × Hp) :=
  bd2 (fX6_nextLetter n r v0 h) (fun (x2 : Int32) (h3 : Hp) => (fX6_in n r x2 48 57 h3).bind (fun (x5 : Int32) => if x5 = 0 then (bd2 (fX6_fails n r v0 1 (h3.1 v0 2) h3) (fun (x25 : Int32) (h26 : Hp) => some (x25, h26))) else (lE (pI h3 v0 3 (h3.1 v0 2)) (fun (h7 : Hp) => lX6_readsNumber_34 n r v0 v1 v2 0 h7))))
set_option maxHeartbeats 4000000 in
set_option maxRecDepth 100000 in
theorem ujX6_readsNumber_79 {S : Shp} {n : Nat} {r : Rf} {out : Option Int32 × Hp} {r' : Rf} {v0 : Nat} {v1 : Int32} {v2 : Int32} {s0 : Int32} {h : Hp} {w : (Int32 × Hp) ⊕ (Int32 × Hp)} (hW : WF S r) (hv0 : S[v0]? = some (6, 38)) (hf : jX6_readsNumber_79 n r v0 v1 v2 s0 h = some w) (hk : ∀ y, w = .inl y → GX6_readsNumber S r r' out 34 [(0, .ref v0), (1, .int v1), (2, .int v2), (3, .int (y.1))] [] (y.2)) (he : ∀ z, w = .inr z → GX6_readsNumber S r r' out 93 [(0, .ref v0), (1, .int v1), (2, .int v2), (3, .int (z.1))] [] (z.2)) : GX6_readsNumber S r r' out 79 [(0, .ref v0), (1, .int v1), (2, .int v2)] [.int s0] h := by
  unfold jX6_readsNumber_79 at hf
  refine g_istore_n (L' := [(3, .int s0), (0, .ref v0), (1, .int v1), (2, .int v2)]) dX6_readsNumber_79 rfl (by decide) rfl ?_
  refine g_aload_n (ps := 1) dX6_readsNumber_80 rfl rfl ?_
  refine g_dup dX6_readsNumber_81 rfl ?_
  refine g_getI cf6 hv0 nX6_readsNumber_X6 (j := 2) (by decide) rfl mX6_readsNumber_91 dX6_readsNumber_82 ?_
  refine g_iconst (v := 1) dX6_readsNumber_85 (by decide +kernel) ?_
  refine g_iadd dX6_readsNumber_86 ?_
  refine g_putI cf6 hv0 nX6_readsNumber_X6 (j := 2) (by decide) rfl mX6_readsNumber_91 rfl dX6_readsNumber_87 ?_
  refine g_topH (fun h16 eh16 => ?_)
  have hf := lE_s hf eh16
  refine g_goto (tgt := 34) dX6_readsNumber_90 (by decide) ?_
  exact g_pick [1, 2, 3, 0] rfl (hk _ (Option.some.inj hf).symm)
set_option maxHeartbeats 4000000 in
set_option maxRecDepth 100000 in
theorem ubX6_readsNumber_34 {S : Shp} {n : Nat} {r : Rf} {out : Option Int32 × Hp} {r' : Rf} {v0 : Nat} {v1 : Int32} {v2 : Int32} {v3 : Int32}  {h : Hp} {w : (Int32 × Hp) ⊕ (Int32 × Hp)} (hW : WF S r) (hv0 : S[v0]? = some (6, 38)) (hf : bX6_readsNumber_34 n r v0 v1 v2 v3 h = some w) (hk : ∀ y, w = .inl y → GX6_readsNumber S r r' out 34 [(0, .ref v0), (1, .int v1), (2, .int v2), (3, .int (y.1))] [] (y.2)) (he : ∀ z, w = .inr z → GX6_readsNumber S r r' out 93 [(0, .ref v0), (1, .int v1), (2, .int v2), (3, .int (z.1))] [] (z.2)) : GX6_readsNumber S r r' out 34 [(0, .ref v0), (1, .int v1), (2, .int v2), (3, .int v3)] [] h := by
  unfold bX6_readsNumber_34 at hf
  refine g_aload_n (ps := 0) dX6_readsNumber_34 rfl rfl ?_
  refine g_aload_n (ps := 0) dX6_readsNumber_35 rfl rfl ?_
  refine g_getI cf6 hv0 nX6_readsNumber_X6 (j := 2) (by decide) rfl mX6_readsNumber_91 dX6_readsNumber_36 ?_
  obtain ⟨x9, e8, hf⟩ := bd_s hf
  refine g_callVi (As := [.int (h.1 v0 2)]) (n := 1) (kX6_letterAt hW hv0 e8) gX6_readsNumber_X6_letterAt rfl ⟨rfl, rfl⟩ ⟨rfl, hdX6_letterAt⟩ ⟨Nat.le_of_ble_eq_true rfl, Nat.le_of_ble_eq_true rfl⟩ cf6 hv0 rfl rfl (Nat.le_of_ble_eq_true rfl) dX6_readsNumber_39 ?_
  refine g_bipush (v := 48) dX6_readsNumber_42 (by decide +kernel) ?_
  refine g_bipush (v := 57) dX6_readsNumber_44 (by decide +kernel) ?_
  obtain ⟨x11, e10, hf⟩ := bd_s hf
  refine g_callSi (As := [.int x9, .int 48, .int 57]) (n := 3) (kX6_in hW  e10) gX6_readsNumber_X6_in rfl ⟨rfl, rfl⟩ hdX6_in ⟨Nat.le_of_ble_eq_true rfl, Nat.le_of_ble_eq_true rfl⟩ rfl rfl (Nat.le_of_ble_eq_true rfl) dX6_readsNumber_46 ?_
  refine g_if_eq (tgt := 93) dX6_readsNumber_49 (by decide) (fun c12 => ?_) (fun c12 => ?_)
  · have hf := if_t hf c12
    exact g_pick [0, 1, 2, 3] rfl (he _ (Option.some.inj hf).symm)
  · have hf := if_f hf c12
    refine g_iload_n (ps := 3) dX6_readsNumber_52 rfl rfl ?_
    refine g_sipush (v := 999) dX6_readsNumber_53 (by decide +kernel) ?_
    refine g_icmp_le (tgt := 63) dX6_readsNumber_56 (by decide) (fun c13 => ?_) (fun c13 => ?_)
    · have hf := if_t hf c13
      refine g_bipush (v := 10) dX6_readsNumber_63 (by decide +kernel) ?_
      refine g_iload_n (ps := 3) dX6_readsNumber_65 rfl rfl ?_
      refine g_imul dX6_readsNumber_66 ?_
      refine g_aload_n (ps := 0) dX6_readsNumber_67 rfl rfl ?_
      refine g_aload_n (ps := 0) dX6_readsNumber_68 rfl rfl ?_
      refine g_getI cf6 hv0 nX6_readsNumber_X6 (j := 2) (by decide) rfl mX6_readsNumber_91 dX6_readsNumber_69 ?_
      obtain ⟨x15, e14, hf⟩ := bd_s hf
      refine g_callVi (As := [.int (h.1 v0 2)]) (n := 1) (kX6_letterAt hW hv0 e14) gX6_readsNumber_X6_letterAt rfl ⟨rfl, rfl⟩ ⟨rfl, hdX6_letterAt⟩ ⟨Nat.le_of_ble_eq_true rfl, Nat.le_of_ble_eq_true rfl⟩ cf6 hv0 rfl rfl (Nat.le_of_ble_eq_true rfl) dX6_readsNumber_72 ?_
      refine g_iadd dX6_readsNumber_75 ?_
      refine g_bipush (v := 48) dX6_readsNumber_76 (by decide +kernel) ?_
      refine g_isub dX6_readsNumber_78 ?_
      exact g_pick [0, 1, 2] rfl (ujX6_readsNumber_79 hW hv0 hf hk he)
    · have hf := if_f hf c13
      refine g_iload_n (ps := 3) dX6_readsNumber_59 rfl rfl ?_
      refine g_goto (tgt := 79) dX6_readsNumber_60 (by decide) ?_
      exact g_pick [0, 1, 2] rfl (ujX6_readsNumber_79 hW hv0 hf hk he)
set_option maxHeartbeats 4000000 in
set_option maxRecDepth 100000 in
theorem ujX6_readsNumber_115 {S : Shp} {n : Nat} {r : Rf} {v0 : Nat}  {h : Hp} {o : (Int32 × Hp)} (hW : WF S r) (hv0 : S[v0]? = some (6, 38)) (hf : jX6_readsNumber_115 n r v0  h = some o)  : GX6_readsNumber S r r (some o.1, o.2) 115 [(0, .ref v0)] [] h := by
  unfold jX6_readsNumber_115 at hf
  refine g_aload_n (ps := 0) dX6_readsNumber_115 rfl rfl ?_
  refine g_iconst (v := 2) dX6_readsNumber_116 (by decide +kernel) ?_
  refine g_aload_n (ps := 0) dX6_readsNumber_117 rfl rfl ?_
  refine g_getI cf6 hv0 nX6_readsNumber_X6 (j := 3) (by decide) rfl mX6_readsNumber_109 dX6_readsNumber_118 ?_
  obtain ⟨x19, h20, e18, hf⟩ := bd2_s hf
  refine g_callVi (As := [.int 2, .int (h.1 v0 3)]) (n := 2) (kX6_fails hW hv0 e18) gX6_readsNumber_X6_fails rfl ⟨rfl, rfl⟩ ⟨rfl, hdX6_fails⟩ ⟨Nat.le_of_ble_eq_true rfl, Nat.le_of_ble_eq_true rfl⟩ cf6 hv0 rfl rfl (Nat.le_of_ble_eq_true rfl) dX6_readsNumber_121 ?_
  refine g_goto (tgt := 128) dX6_readsNumber_124 (by decide) ?_
  have hf := Option.some.inj hf
  subst hf
  exact g_iret dX6_readsNumber_128
set_option maxHeartbeats 4000000 in
set_option maxRecDepth 100000 in
theorem ulX6_readsNumber_34 {S : Shp} {n : Nat} {r : Rf} {v0 : Nat} {v1 : Int32} {v2 : Int32} {v3 : Int32}  {h : Hp} {o : (Int32 × Hp)} (hW : WF S r) (hv0 : S[v0]? = some (6, 38)) (hf : lX6_readsNumber_34 n r v0 v1 v2 v3 h = some o)  : GX6_readsNumber S r r (some o.1, o.2) 34 [(0, .ref v0), (1, .int v1), (2, .int v2), (3, .int v3)] [] h := by
  unfold lX6_readsNumber_34 at hf
  obtain ⟨z0, ei, hf⟩ := bd_s hf
  refine it_ind (P := fun (s : Int32 × Hp) => GX6_readsNumber S r r (some o.1, o.2) 34 [(0, .ref v0), (1, .int v1), (2, .int v2), (3, .int (s.1))] [] (s.2)) (fun s w hb hk2 he2 => ?_) n _ ei
  refine ubX6_readsNumber_34 (out := (some o.1, o.2)) (r' := r) hW hv0 hb hk2 (fun z hz => ?_)
  have hz := he2 z hz
  subst hz
  refine g_aload_n (ps := 0) dX6_readsNumber_93 rfl rfl ?_
  refine g_getI cf6 hv0 nX6_readsNumber_X6 (j := 2) (by decide) rfl mX6_readsNumber_91 dX6_readsNumber_94 ?_
  refine g_aload_n (ps := 0) dX6_readsNumber_97 rfl rfl ?_
  refine g_getI cf6 hv0 nX6_readsNumber_X6 (j := 3) (by decide) rfl mX6_readsNumber_109 dX6_readsNumber_98 ?_
  refine g_isub dX6_readsNumber_101 ?_
  refine g_iconst (v := 3) dX6_readsNumber_102 (by decide +kernel) ?_
  refine g_icmp_gt (tgt := 115) dX6_readsNumber_103 (by decide) (fun c17 => ?_) (fun c17 => ?_)
  · have hf := if_t hf c17
    exact g_pick [0] rfl (ujX6_readsNumber_115 hW hv0 hf)
  · have hf := if_f hf c17
    refine g_iload_n (ps := 3) dX6_readsNumber_106 rfl rfl ?_
    refine g_iload_n (ps := 1) dX6_readsNumber_107 rfl rfl ?_
    refine g_iload_n (ps := 2) dX6_readsNumber_108 rfl rfl ?_
    obtain ⟨x22, e21, hf⟩ := bd_s hf
    refine g_callSi (As := [.int (z.1), .int v1, .int v2]) (n := 3) (kX6_in hW  e21) gX6_readsNumber_X6_in rfl ⟨rfl, rfl⟩ hdX6_in ⟨Nat.le_of_ble_eq_true rfl, Nat.le_of_ble_eq_true rfl⟩ rfl rfl (Nat.le_of_ble_eq_true rfl) dX6_readsNumber_109 ?_
    refine g_if_ne (tgt := 127) dX6_readsNumber_112 (by decide) (fun c23 => ?_) (fun c23 => ?_)
    · have hf := if_f hf c23
      refine g_iload_n (ps := 3) dX6_readsNumber_127 rfl rfl ?_
      have hf := Option.some.inj hf
      subst hf
      exact g_iret dX6_readsNumber_128
    · have hf := if_t hf c23
      exact g_pick [0] rfl (ujX6_readsNumber_115 hW hv0 hf)
set_option maxHeartbeats 4000000 in
set_option maxRecDepth 100000 in
theorem uX6_readsNumber {S : Shp} {n : Nat} {r : Rf} {v0 : Nat} {v1 : Int32} {v2 : Int32} {h : Hp} {o : (Int32 × Hp)} (hW : WF S r) (hv0 : S[v0]? = some (6, 38)) (hf : fX6_readsNumber n r v0 v1 v2 h = some o) : GX6_readsNumber S r r (some o.1, o.2) 0 [(0, .ref v0), (1, .int v1), (2, .int v2)] [] h := by
  unfold fX6_readsNumber at hf
  refine g_aload_n (ps := 0) dX6_readsNumber_0 rfl rfl ?_
  obtain ⟨x2, h3, e1, hf⟩ := bd2_s hf
  refine g_callVi (As := []) (n := 0) (kX6_nextLetter hW hv0 e1) gX6_readsNumber_X6_nextLetter rfl ⟨rfl, rfl⟩ ⟨rfl, hdX6_nextLetter⟩ ⟨Nat.le_of_ble_eq_true rfl, Nat.le_of_ble_eq_true rfl⟩ cf6 hv0 rfl rfl (Nat.le_of_ble_eq_true rfl) dX6_readsNumber_1 ?_
  refine g_bipush (v := 48) dX6_readsNumber_4 (by decide +kernel) ?_
  refine g_bipush (v := 57) dX6_readsNumber_6 (by decide +kernel) ?_
  obtain ⟨x5, e4, hf⟩ := bd_s hf
  refine g_callSi (As := [.int x2, .int 48, .int 57]) (n := 3) (kX6_in hW  e4) gX6_readsNumber_X6_in rfl ⟨rfl, rfl⟩ hdX6_in ⟨Nat.le_of_ble_eq_true rfl, Nat.le_of_ble_eq_true rfl⟩ rfl rfl (Nat.le_of_ble_eq_true rfl) dX6_readsNumber_8 ?_
  refine g_if_ne (tgt := 24) dX6_readsNumber_11 (by decide) (fun c6 => ?_) (fun c6 => ?_)
  · have hf := if_f hf c6
    refine g_aload_n (ps := 0) dX6_readsNumber_24 rfl rfl ?_
    refine g_aload_n (ps := 0) dX6_readsNumber_25 rfl rfl ?_
    refine g_getI cf6 hv0 nX6_readsNumber_X6 (j := 2) (by decide) rfl mX6_readsNumber_91 dX6_readsNumber_26 ?_
    refine g_putI cf6 hv0 nX6_readsNumber_X6 (j := 3) (by decide) rfl mX6_readsNumber_109 rfl dX6_readsNumber_29 ?_
    refine g_topH (fun h7 eh7 => ?_)
    have hf := lE_s hf eh7
    refine g_iconst (v := 0) dX6_readsNumber_32 (by decide +kernel) ?_
    refine g_istore_n (L' := [(3, .int 0), (0, .ref v0), (1, .int v1), (2, .int v2)]) dX6_readsNumber_33 rfl (by decide) rfl ?_
    exact g_pick [1, 2, 3, 0] rfl (ulX6_readsNumber_34 hW hv0 hf)
  · have hf := if_t hf c6
    refine g_aload_n (ps := 0) dX6_readsNumber_14 rfl rfl ?_
    refine g_iconst (v := 1) dX6_readsNumber_15 (by decide +kernel) ?_
    refine g_aload_n (ps := 0) dX6_readsNumber_16 rfl rfl ?_
    refine g_getI cf6 hv0 nX6_readsNumber_X6 (j := 2) (by decide) rfl mX6_readsNumber_91 dX6_readsNumber_17 ?_
    obtain ⟨x25, h26, e24, hf⟩ := bd2_s hf
    refine g_callVi (As := [.int 1, .int (h3.1 v0 2)]) (n := 2) (kX6_fails hW hv0 e24) gX6_readsNumber_X6_fails rfl ⟨rfl, rfl⟩ ⟨rfl, hdX6_fails⟩ ⟨Nat.le_of_ble_eq_true rfl, Nat.le_of_ble_eq_true rfl⟩ cf6 hv0 rfl rfl (Nat.le_of_ble_eq_true rfl) dX6_readsNumber_20 ?_
    have hf := Option.some.inj hf
    subst hf
    exact g_iret dX6_readsNumber_23
theorem kX6_readsNumber {S : Shp} {n : Nat} {r : Rf} {v0 : Nat} {v1 : Int32} {v2 : Int32} {h : Hp} {o : (Int32 × Hp)} (hW : WF S r) (hv0 : S[v0]? = some (6, 38)) (hf : fX6_readsNumber n r v0 v1 v2 h = some o) : CTi yX6_readsNumber wsX6_readsNumber rmX6_readsNumber S r [.ref v0, .int v1, .int v2] h r o.1 o.2 :=
  cti_of rfl (by decide +kernel) rfl (Nat.le_of_ble_eq_true rfl) rfl (uX6_readsNumber hW hv0 hf)
/-! X6_readsSign readsSign -/
def rmX6_readsSign : Room := { frames := 2, cells := 0, slots := 0, locals := 41 }
abbrev GX6_readsSign (S : Shp) (r r' : Rf) (out : Option Int32 × Hp) (pc : Nat) (L : List (Nat × Value)) (st : List Value) (h : Hp) : Prop := G RX6 cX6_readsSign 2 (some .boolean) wsX6_readsSign rmX6_readsSign S r r' out pc L st h
theorem nX6_readsSign_X6 : ∀ w ∈ wsX60, w ∈ wsX6_readsSign := by decide +kernel
theorem mX6_readsSign_91 : Cond.fieldLink RX6 91 "LinkedIslesModel" "readAt" "I" ∈ wsX6_readsSign := by decide +kernel
theorem hdX6_readsSign : yX6_readsSign.cls ≠ "java/lang/invoke/MethodHandle" ∧ yX6_readsSign.cls ≠ "java/lang/invoke/VarHandle" ∧ (parseMethodDescriptor yX6_readsSign.desc).map (fun d => d.parameters.length) = some 1 := by decide +kernel
def fX6_readsSign (n : Nat) (r : Rf) (v0 : Nat) (v1 : Int32) (h : Hp) : Option (Int32 × Hp) :=
  bd2 (fX6_nextLetter n r v0 h) (fun (x2 : Int32) (h3 : Hp) => if x2 = v1 then (lE (pI h3 v0 2 ((h3.1 v0 2) + 1)) (fun (h5 : Hp) => some (1, h5))) else (bd2 (fX6_fails n r v0 1 (h3.1 v0 2) h3) (fun (x7 : Int32) (h8 : Hp) => some (0, h8))))
set_option maxHeartbeats 4000000 in
set_option maxRecDepth 100000 in
theorem uX6_readsSign {S : Shp} {n : Nat} {r : Rf} {v0 : Nat} {v1 : Int32} {h : Hp} {o : (Int32 × Hp)} (hW : WF S r) (hv0 : S[v0]? = some (6, 38)) (hf : fX6_readsSign n r v0 v1 h = some o) : GX6_readsSign S r r (some o.1, o.2) 0 [(0, .ref v0), (1, .int v1)] [] h := by
  unfold fX6_readsSign at hf
  refine g_aload_n (ps := 0) dX6_readsSign_0 rfl rfl ?_
  obtain ⟨x2, h3, e1, hf⟩ := bd2_s hf
  refine g_callVi (As := []) (n := 0) (kX6_nextLetter hW hv0 e1) gX6_readsSign_X6_nextLetter rfl ⟨rfl, rfl⟩ ⟨rfl, hdX6_nextLetter⟩ ⟨Nat.le_of_ble_eq_true rfl, Nat.le_of_ble_eq_true rfl⟩ cf6 hv0 rfl rfl (Nat.le_of_ble_eq_true rfl) dX6_readsSign_1 ?_
  refine g_iload_n (ps := 1) dX6_readsSign_4 rfl rfl ?_
  refine g_icmp_eq (tgt := 20) dX6_readsSign_5 (by decide) (fun c4 => ?_) (fun c4 => ?_)
  · have hf := if_t hf c4
    refine g_aload_n (ps := 0) dX6_readsSign_20 rfl rfl ?_
    refine g_dup dX6_readsSign_21 rfl ?_
    refine g_getI cf6 hv0 nX6_readsSign_X6 (j := 2) (by decide) rfl mX6_readsSign_91 dX6_readsSign_22 ?_
    refine g_iconst (v := 1) dX6_readsSign_25 (by decide +kernel) ?_
    refine g_iadd dX6_readsSign_26 ?_
    refine g_putI cf6 hv0 nX6_readsSign_X6 (j := 2) (by decide) rfl mX6_readsSign_91 rfl dX6_readsSign_27 ?_
    refine g_topH (fun h5 eh5 => ?_)
    have hf := lE_s hf eh5
    refine g_iconst (v := 1) dX6_readsSign_30 (by decide +kernel) ?_
    have hf := Option.some.inj hf
    subst hf
    exact g_zret (Or.inr rfl) dX6_readsSign_31
  · have hf := if_f hf c4
    refine g_aload_n (ps := 0) dX6_readsSign_8 rfl rfl ?_
    refine g_iconst (v := 1) dX6_readsSign_9 (by decide +kernel) ?_
    refine g_aload_n (ps := 0) dX6_readsSign_10 rfl rfl ?_
    refine g_getI cf6 hv0 nX6_readsSign_X6 (j := 2) (by decide) rfl mX6_readsSign_91 dX6_readsSign_11 ?_
    obtain ⟨x7, h8, e6, hf⟩ := bd2_s hf
    refine g_callVi (As := [.int 1, .int (h3.1 v0 2)]) (n := 2) (kX6_fails hW hv0 e6) gX6_readsSign_X6_fails rfl ⟨rfl, rfl⟩ ⟨rfl, hdX6_fails⟩ ⟨Nat.le_of_ble_eq_true rfl, Nat.le_of_ble_eq_true rfl⟩ cf6 hv0 rfl rfl (Nat.le_of_ble_eq_true rfl) dX6_readsSign_14 ?_
    refine g_pop dX6_readsSign_17 rfl ?_
    refine g_iconst (v := 0) dX6_readsSign_18 (by decide +kernel) ?_
    have hf := Option.some.inj hf
    subst hf
    exact g_zret (Or.inl rfl) dX6_readsSign_19
theorem kX6_readsSign {S : Shp} {n : Nat} {r : Rf} {v0 : Nat} {v1 : Int32} {h : Hp} {o : (Int32 × Hp)} (hW : WF S r) (hv0 : S[v0]? = some (6, 38)) (hf : fX6_readsSign n r v0 v1 h = some o) : CTi yX6_readsSign wsX6_readsSign rmX6_readsSign S r [.ref v0, .int v1] h r o.1 o.2 :=
  cti_of rfl (by decide +kernel) rfl (Nat.le_of_ble_eq_true rfl) rfl (uX6_readsSign hW hv0 hf)
/-! X6_readsLink readsLink -/
def rmX6_readsLink : Room := { frames := 3, cells := 0, slots := 0, locals := 64 }
abbrev GX6_readsLink (S : Shp) (r r' : Rf) (out : Option Int32 × Hp) (pc : Nat) (L : List (Nat × Value)) (st : List Value) (h : Hp) : Prop := G RX6 cX6_readsLink 4 (some .boolean) wsX6_readsLink rmX6_readsLink S r r' out pc L st h
theorem nX6_readsLink_X6 : ∀ w ∈ wsX60, w ∈ wsX6_readsLink := by decide +kernel
theorem mX6_readsLink_109 : Cond.fieldLink RX6 109 "LinkedIslesModel" "numberAt" "I" ∈ wsX6_readsLink := by decide +kernel
theorem mX6_readsLink_112 : Cond.fieldLink RX6 112 "LinkedIslesModel" "readLinks" "I" ∈ wsX6_readsLink := by decide +kernel
theorem mX6_readsLink_115 : Cond.fieldLink RX6 115 "LinkedIslesModel" "readIslands" "I" ∈ wsX6_readsLink := by decide +kernel
theorem mX6_readsLink_17 : Cond.fieldLink RX6 17 "LinkedIslesModel" "readEnds" "[I" ∈ wsX6_readsLink := by decide +kernel
theorem mX6_readsLink_20 : Cond.fieldLink RX6 20 "LinkedIslesModel" "readKind" "[I" ∈ wsX6_readsLink := by decide +kernel
theorem mX6_readsLink_23 : Cond.fieldLink RX6 23 "LinkedIslesModel" "readStrength" "[I" ∈ wsX6_readsLink := by decide +kernel
theorem mX6_readsLink_26 : Cond.fieldLink RX6 26 "LinkedIslesModel" "readSides" "[I" ∈ wsX6_readsLink := by decide +kernel
theorem hdX6_readsLink : yX6_readsLink.cls ≠ "java/lang/invoke/MethodHandle" ∧ yX6_readsLink.cls ≠ "java/lang/invoke/VarHandle" ∧ (parseMethodDescriptor yX6_readsLink.desc).map (fun d => d.parameters.length) = some 0 := by decide +kernel
def jX6_readsLink_182 (n : Nat) (r : Rf) (v0 : Nat) (v1 : Int32) (s0 : Int32) (s1 : Int32) (h : Hp) : Option (Int32 × Hp) :=
  ck s1 20 (lE (pI h (r v0 12) (Int32.toNatClampNeg s1) s0) (fun (h40 : Hp) => lE (pI h40 v0 7 ((h40.1 v0 7) + 1)) (fun (h41 : Hp) => ck ((2 * v1) + 1) 20 (if (h41.1 (r v0 12) (Int32.toNatClampNeg ((2 * v1) + 1))) = (-1) then (some (0, h41)) else (bd2 (fX6_readsSign n r v0 59 h41) (fun (x45 : Int32) (h46 : Hp) => if x45 = 0 then (some (0, h46)) else (some (1, h46))))))))
def jX6_readsLink_149 (n : Nat) (r : Rf) (v0 : Nat) (v1 : Int32) (s0 : Int32) (s1 : Int32) (h : Hp) : Option (Int32 × Hp) :=
  ck s1 20 (lE (pI h (r v0 12) (Int32.toNatClampNeg s1) s0) (fun (h33 : Hp) => ck (2 * v1) 20 (if (h33.1 (r v0 12) (Int32.toNatClampNeg (2 * v1))) = (-1) then (jX6_readsLink_182 n r v0 v1 (-1) ((2 * v1) + 1) h33) else (bd2 (fX6_readsNumber n r v0 0 9 h33) (fun (x37 : Int32) (h38 : Hp) => jX6_readsLink_182 n r v0 v1 x37 ((2 * v1) + 1) h38)))))
def jX6_readsLink_120 (n : Nat) (r : Rf) (v0 : Nat) (v1 : Int32) (s0 : Int32) (s1 : Int32) (h : Hp) : Option (Int32 × Hp) :=
  ck s1 10 (lE (pI h (r v0 11) (Int32.toNatClampNeg s1) s0) (fun (h26 : Hp) => ck v1 10 (if (h26.1 (r v0 11) (Int32.toNatClampNeg v1)) = (-1) then (jX6_readsLink_149 n r v0 v1 (-1) (2 * v1) h26) else (bd2 (fX6_readsNumber n r v0 0 9 h26) (fun (x30 : Int32) (h31 : Hp) => jX6_readsLink_149 n r v0 v1 x30 (2 * v1) h31)))))
def jX6_readsLink_37 (n : Nat) (r : Rf) (v0 : Nat) (v1 : Int32) (v2 : Int32) (s0 : Int32) (h : Hp) : Option (Int32 × Hp) :=
  if s0 = (-1) then (some (0, h)) else (if v2 = s0 then (bd2 (fX6_fails n r v0 4 (h.1 v0 3) h) (fun (x49 : Int32) (h50 : Hp) => some (0, h50))) else (ck (2 * v1) 20 (lE (pI h (r v0 9) (Int32.toNatClampNeg (2 * v1)) v2) (fun (h12 : Hp) => ck ((2 * v1) + 1) 20 (lE (pI h12 (r v0 9) (Int32.toNatClampNeg ((2 * v1) + 1)) s0) (fun (h14 : Hp) => bd2 (fX6_readsNumber n r v0 0 3 h14) (fun (x16 : Int32) (h17 : Hp) => ck v1 10 (lE (pI h17 (r v0 10) (Int32.toNatClampNeg v1) x16) (fun (h19 : Hp) => ck v1 10 (if (h19.1 (r v0 10) (Int32.toNatClampNeg v1)) = (-1) then (jX6_readsLink_120 n r v0 v1 (-1) v1 h19) else (bd2 (fX6_readsNumber n r v0 1 99 h19) (fun (x23 : Int32) (h24 : Hp) => jX6_readsLink_120 n r v0 v1 x23 v1 h24))))))))))))
def fX6_readsLink (n : Nat) (r : Rf) (v0 : Nat) (h : Hp) : Option (Int32 × Hp) :=
  lE ((h.1 v0 7)) (fun (x1 : Int32) => bd2 (fX6_readsNumber n r v0 0 ((h.1 v0 6) - 1) h) (fun (x3 : Int32) (h4 : Hp) => if x3 = (-1) then (jX6_readsLink_37 n r v0 x1 x3 (-1) h4) else (bd2 (fX6_readsNumber n r v0 0 ((h4.1 v0 6) - 1) h4) (fun (x7 : Int32) (h8 : Hp) => jX6_readsLink_37 n r v0 x1 x3 x7 h8))))
set_option maxHeartbeats 4000000 in
set_option maxRecDepth 100000 in
theorem ujX6_readsLink_182 {S : Shp} {n : Nat} {r : Rf} {v0 : Nat} {v1 : Int32} {s0 : Int32} {s1 : Int32} {h : Hp} {o : (Int32 × Hp)} (hW : WF S r) (hv0 : S[v0]? = some (6, 38)) (hf : jX6_readsLink_182 n r v0 v1 s0 s1 h = some o)  : GX6_readsLink S r r (some o.1, o.2) 182 [(0, .ref v0), (1, .int v1)] [.int s0, .int s1, .ref (r v0 12)] h := by
  unfold jX6_readsLink_182 at hf
  obtain ⟨z39, hf⟩ := ck_s hf
  refine g_iast (hW _ _ _ hv0 12 _ rfl) z39 dX6_readsLink_182 ?_
  refine g_topH (fun h40 eh40 => ?_)
  have hf := lE_s hf eh40
  refine g_aload_n (ps := 0) dX6_readsLink_183 rfl rfl ?_
  refine g_dup dX6_readsLink_184 rfl ?_
  refine g_getI cf6 hv0 nX6_readsLink_X6 (j := 7) (by decide) rfl mX6_readsLink_112 dX6_readsLink_185 ?_
  refine g_iconst (v := 1) dX6_readsLink_188 (by decide +kernel) ?_
  refine g_iadd dX6_readsLink_189 ?_
  refine g_putI cf6 hv0 nX6_readsLink_X6 (j := 7) (by decide) rfl mX6_readsLink_112 rfl dX6_readsLink_190 ?_
  refine g_topH (fun h41 eh41 => ?_)
  have hf := lE_s hf eh41
  refine g_aload_n (ps := 0) dX6_readsLink_193 rfl rfl ?_
  refine g_getR cf6 hv0 nX6_readsLink_X6 (j := 12) (by decide) rfl mX6_readsLink_26 dX6_readsLink_194 ?_
  refine g_iconst (v := 2) dX6_readsLink_197 (by decide +kernel) ?_
  refine g_iload_n (ps := 1) dX6_readsLink_198 rfl rfl ?_
  refine g_imul dX6_readsLink_199 ?_
  refine g_iconst (v := 1) dX6_readsLink_200 (by decide +kernel) ?_
  refine g_iadd dX6_readsLink_201 ?_
  obtain ⟨z42, hf⟩ := ck_s hf
  refine g_iald (hW _ _ _ hv0 12 _ rfl) z42 dX6_readsLink_202 ?_
  refine g_iconst (v := (-1)) dX6_readsLink_203 (by decide +kernel) ?_
  refine g_icmp_eq (tgt := 220) dX6_readsLink_204 (by decide) (fun c43 => ?_) (fun c43 => ?_)
  · have hf := if_t hf c43
    refine g_iconst (v := 0) dX6_readsLink_220 (by decide +kernel) ?_
    have hf := Option.some.inj hf
    subst hf
    exact g_zret (Or.inl rfl) dX6_readsLink_221
  · have hf := if_f hf c43
    refine g_aload_n (ps := 0) dX6_readsLink_207 rfl rfl ?_
    refine g_bipush (v := 59) dX6_readsLink_208 (by decide +kernel) ?_
    obtain ⟨x45, h46, e44, hf⟩ := bd2_s hf
    refine g_callVi (As := [.int 59]) (n := 1) (kX6_readsSign hW hv0 e44) gX6_readsLink_X6_readsSign rfl ⟨rfl, rfl⟩ ⟨rfl, hdX6_readsSign⟩ ⟨Nat.le_of_ble_eq_true rfl, Nat.le_of_ble_eq_true rfl⟩ cf6 hv0 rfl rfl (Nat.le_of_ble_eq_true rfl) dX6_readsLink_210 ?_
    refine g_if_eq (tgt := 220) dX6_readsLink_213 (by decide) (fun c47 => ?_) (fun c47 => ?_)
    · have hf := if_t hf c47
      refine g_iconst (v := 0) dX6_readsLink_220 (by decide +kernel) ?_
      have hf := Option.some.inj hf
      subst hf
      exact g_zret (Or.inl rfl) dX6_readsLink_221
    · have hf := if_f hf c47
      refine g_iconst (v := 1) dX6_readsLink_216 (by decide +kernel) ?_
      refine g_goto (tgt := 221) dX6_readsLink_217 (by decide) ?_
      have hf := Option.some.inj hf
      subst hf
      exact g_zret (Or.inr rfl) dX6_readsLink_221
set_option maxHeartbeats 4000000 in
set_option maxRecDepth 100000 in
theorem ujX6_readsLink_149 {S : Shp} {n : Nat} {r : Rf} {v0 : Nat} {v1 : Int32} {s0 : Int32} {s1 : Int32} {h : Hp} {o : (Int32 × Hp)} (hW : WF S r) (hv0 : S[v0]? = some (6, 38)) (hf : jX6_readsLink_149 n r v0 v1 s0 s1 h = some o)  : GX6_readsLink S r r (some o.1, o.2) 149 [(0, .ref v0), (1, .int v1)] [.int s0, .int s1, .ref (r v0 12)] h := by
  unfold jX6_readsLink_149 at hf
  obtain ⟨z32, hf⟩ := ck_s hf
  refine g_iast (hW _ _ _ hv0 12 _ rfl) z32 dX6_readsLink_149 ?_
  refine g_topH (fun h33 eh33 => ?_)
  have hf := lE_s hf eh33
  refine g_aload_n (ps := 0) dX6_readsLink_150 rfl rfl ?_
  refine g_getR cf6 hv0 nX6_readsLink_X6 (j := 12) (by decide) rfl mX6_readsLink_26 dX6_readsLink_151 ?_
  refine g_iconst (v := 2) dX6_readsLink_154 (by decide +kernel) ?_
  refine g_iload_n (ps := 1) dX6_readsLink_155 rfl rfl ?_
  refine g_imul dX6_readsLink_156 ?_
  refine g_iconst (v := 1) dX6_readsLink_157 (by decide +kernel) ?_
  refine g_iadd dX6_readsLink_158 ?_
  refine g_aload_n (ps := 0) dX6_readsLink_159 rfl rfl ?_
  refine g_getR cf6 hv0 nX6_readsLink_X6 (j := 12) (by decide) rfl mX6_readsLink_26 dX6_readsLink_160 ?_
  refine g_iconst (v := 2) dX6_readsLink_163 (by decide +kernel) ?_
  refine g_iload_n (ps := 1) dX6_readsLink_164 rfl rfl ?_
  refine g_imul dX6_readsLink_165 ?_
  obtain ⟨z34, hf⟩ := ck_s hf
  refine g_iald (hW _ _ _ hv0 12 _ rfl) z34 dX6_readsLink_166 ?_
  refine g_iconst (v := (-1)) dX6_readsLink_167 (by decide +kernel) ?_
  refine g_icmp_ne (tgt := 175) dX6_readsLink_168 (by decide) (fun c35 => ?_) (fun c35 => ?_)
  · have hf := if_f hf c35
    refine g_aload_n (ps := 0) dX6_readsLink_175 rfl rfl ?_
    refine g_iconst (v := 0) dX6_readsLink_176 (by decide +kernel) ?_
    refine g_bipush (v := 9) dX6_readsLink_177 (by decide +kernel) ?_
    obtain ⟨x37, h38, e36, hf⟩ := bd2_s hf
    refine g_callVi (As := [.int 0, .int 9]) (n := 2) (kX6_readsNumber hW hv0 e36) gX6_readsLink_X6_readsNumber rfl ⟨rfl, rfl⟩ ⟨rfl, hdX6_readsNumber⟩ ⟨Nat.le_of_ble_eq_true rfl, Nat.le_of_ble_eq_true rfl⟩ cf6 hv0 rfl rfl (Nat.le_of_ble_eq_true rfl) dX6_readsLink_179 ?_
    exact g_pick [0, 1] rfl (ujX6_readsLink_182 hW hv0 hf)
  · have hf := if_t hf c35
    refine g_iconst (v := (-1)) dX6_readsLink_171 (by decide +kernel) ?_
    refine g_goto (tgt := 182) dX6_readsLink_172 (by decide) ?_
    exact g_pick [0, 1] rfl (ujX6_readsLink_182 hW hv0 hf)
set_option maxHeartbeats 4000000 in
set_option maxRecDepth 100000 in
theorem ujX6_readsLink_120 {S : Shp} {n : Nat} {r : Rf} {v0 : Nat} {v1 : Int32} {s0 : Int32} {s1 : Int32} {h : Hp} {o : (Int32 × Hp)} (hW : WF S r) (hv0 : S[v0]? = some (6, 38)) (hf : jX6_readsLink_120 n r v0 v1 s0 s1 h = some o)  : GX6_readsLink S r r (some o.1, o.2) 120 [(0, .ref v0), (1, .int v1)] [.int s0, .int s1, .ref (r v0 11)] h := by
  unfold jX6_readsLink_120 at hf
  obtain ⟨z25, hf⟩ := ck_s hf
  refine g_iast (hW _ _ _ hv0 11 _ rfl) z25 dX6_readsLink_120 ?_
  refine g_topH (fun h26 eh26 => ?_)
  have hf := lE_s hf eh26
  refine g_aload_n (ps := 0) dX6_readsLink_121 rfl rfl ?_
  refine g_getR cf6 hv0 nX6_readsLink_X6 (j := 12) (by decide) rfl mX6_readsLink_26 dX6_readsLink_122 ?_
  refine g_iconst (v := 2) dX6_readsLink_125 (by decide +kernel) ?_
  refine g_iload_n (ps := 1) dX6_readsLink_126 rfl rfl ?_
  refine g_imul dX6_readsLink_127 ?_
  refine g_aload_n (ps := 0) dX6_readsLink_128 rfl rfl ?_
  refine g_getR cf6 hv0 nX6_readsLink_X6 (j := 11) (by decide) rfl mX6_readsLink_23 dX6_readsLink_129 ?_
  refine g_iload_n (ps := 1) dX6_readsLink_132 rfl rfl ?_
  obtain ⟨z27, hf⟩ := ck_s hf
  refine g_iald (hW _ _ _ hv0 11 _ rfl) z27 dX6_readsLink_133 ?_
  refine g_iconst (v := (-1)) dX6_readsLink_134 (by decide +kernel) ?_
  refine g_icmp_ne (tgt := 142) dX6_readsLink_135 (by decide) (fun c28 => ?_) (fun c28 => ?_)
  · have hf := if_f hf c28
    refine g_aload_n (ps := 0) dX6_readsLink_142 rfl rfl ?_
    refine g_iconst (v := 0) dX6_readsLink_143 (by decide +kernel) ?_
    refine g_bipush (v := 9) dX6_readsLink_144 (by decide +kernel) ?_
    obtain ⟨x30, h31, e29, hf⟩ := bd2_s hf
    refine g_callVi (As := [.int 0, .int 9]) (n := 2) (kX6_readsNumber hW hv0 e29) gX6_readsLink_X6_readsNumber rfl ⟨rfl, rfl⟩ ⟨rfl, hdX6_readsNumber⟩ ⟨Nat.le_of_ble_eq_true rfl, Nat.le_of_ble_eq_true rfl⟩ cf6 hv0 rfl rfl (Nat.le_of_ble_eq_true rfl) dX6_readsLink_146 ?_
    exact g_pick [0, 1] rfl (ujX6_readsLink_149 hW hv0 hf)
  · have hf := if_t hf c28
    refine g_iconst (v := (-1)) dX6_readsLink_138 (by decide +kernel) ?_
    refine g_goto (tgt := 149) dX6_readsLink_139 (by decide) ?_
    exact g_pick [0, 1] rfl (ujX6_readsLink_149 hW hv0 hf)
set_option maxHeartbeats 4000000 in
set_option maxRecDepth 100000 in
theorem ujX6_readsLink_37 {S : Shp} {n : Nat} {r : Rf} {v0 : Nat} {v1 : Int32} {v2 : Int32} {s0 : Int32} {h : Hp} {o : (Int32 × Hp)} (hW : WF S r) (hv0 : S[v0]? = some (6, 38)) (hf : jX6_readsLink_37 n r v0 v1 v2 s0 h = some o)  : GX6_readsLink S r r (some o.1, o.2) 37 [(0, .ref v0), (1, .int v1), (2, .int v2)] [.int s0] h := by
  unfold jX6_readsLink_37 at hf
  refine g_istore_n (L' := [(3, .int s0), (0, .ref v0), (1, .int v1), (2, .int v2)]) dX6_readsLink_37 rfl (by decide) rfl ?_
  refine g_iload_n (ps := 0) dX6_readsLink_38 rfl rfl ?_
  refine g_iconst (v := (-1)) dX6_readsLink_39 (by decide +kernel) ?_
  refine g_icmp_ne (tgt := 45) dX6_readsLink_40 (by decide) (fun c9 => ?_) (fun c9 => ?_)
  · have hf := if_f hf c9
    refine g_iload_n (ps := 3) dX6_readsLink_45 rfl rfl ?_
    refine g_iload_n (ps := 0) dX6_readsLink_46 rfl rfl ?_
    refine g_icmp_ne (tgt := 62) dX6_readsLink_47 (by decide) (fun c10 => ?_) (fun c10 => ?_)
    · have hf := if_f hf c10
      refine g_aload_n (ps := 1) dX6_readsLink_62 rfl rfl ?_
      refine g_getR cf6 hv0 nX6_readsLink_X6 (j := 9) (by decide) rfl mX6_readsLink_17 dX6_readsLink_63 ?_
      refine g_iconst (v := 2) dX6_readsLink_66 (by decide +kernel) ?_
      refine g_iload_n (ps := 2) dX6_readsLink_67 rfl rfl ?_
      refine g_imul dX6_readsLink_68 ?_
      refine g_iload_n (ps := 3) dX6_readsLink_69 rfl rfl ?_
      obtain ⟨z11, hf⟩ := ck_s hf
      refine g_iast (hW _ _ _ hv0 9 _ rfl) z11 dX6_readsLink_70 ?_
      refine g_topH (fun h12 eh12 => ?_)
      have hf := lE_s hf eh12
      refine g_aload_n (ps := 1) dX6_readsLink_71 rfl rfl ?_
      refine g_getR cf6 hv0 nX6_readsLink_X6 (j := 9) (by decide) rfl mX6_readsLink_17 dX6_readsLink_72 ?_
      refine g_iconst (v := 2) dX6_readsLink_75 (by decide +kernel) ?_
      refine g_iload_n (ps := 2) dX6_readsLink_76 rfl rfl ?_
      refine g_imul dX6_readsLink_77 ?_
      refine g_iconst (v := 1) dX6_readsLink_78 (by decide +kernel) ?_
      refine g_iadd dX6_readsLink_79 ?_
      refine g_iload_n (ps := 0) dX6_readsLink_80 rfl rfl ?_
      obtain ⟨z13, hf⟩ := ck_s hf
      refine g_iast (hW _ _ _ hv0 9 _ rfl) z13 dX6_readsLink_81 ?_
      refine g_topH (fun h14 eh14 => ?_)
      have hf := lE_s hf eh14
      refine g_aload_n (ps := 1) dX6_readsLink_82 rfl rfl ?_
      refine g_getR cf6 hv0 nX6_readsLink_X6 (j := 10) (by decide) rfl mX6_readsLink_20 dX6_readsLink_83 ?_
      refine g_iload_n (ps := 2) dX6_readsLink_86 rfl rfl ?_
      refine g_aload_n (ps := 1) dX6_readsLink_87 rfl rfl ?_
      refine g_iconst (v := 0) dX6_readsLink_88 (by decide +kernel) ?_
      refine g_iconst (v := 3) dX6_readsLink_89 (by decide +kernel) ?_
      obtain ⟨x16, h17, e15, hf⟩ := bd2_s hf
      refine g_callVi (As := [.int 0, .int 3]) (n := 2) (kX6_readsNumber hW hv0 e15) gX6_readsLink_X6_readsNumber rfl ⟨rfl, rfl⟩ ⟨rfl, hdX6_readsNumber⟩ ⟨Nat.le_of_ble_eq_true rfl, Nat.le_of_ble_eq_true rfl⟩ cf6 hv0 rfl rfl (Nat.le_of_ble_eq_true rfl) dX6_readsLink_90 ?_
      obtain ⟨z18, hf⟩ := ck_s hf
      refine g_iast (hW _ _ _ hv0 10 _ rfl) z18 dX6_readsLink_93 ?_
      refine g_topH (fun h19 eh19 => ?_)
      have hf := lE_s hf eh19
      refine g_aload_n (ps := 1) dX6_readsLink_94 rfl rfl ?_
      refine g_getR cf6 hv0 nX6_readsLink_X6 (j := 11) (by decide) rfl mX6_readsLink_23 dX6_readsLink_95 ?_
      refine g_iload_n (ps := 2) dX6_readsLink_98 rfl rfl ?_
      refine g_aload_n (ps := 1) dX6_readsLink_99 rfl rfl ?_
      refine g_getR cf6 hv0 nX6_readsLink_X6 (j := 10) (by decide) rfl mX6_readsLink_20 dX6_readsLink_100 ?_
      refine g_iload_n (ps := 2) dX6_readsLink_103 rfl rfl ?_
      obtain ⟨z20, hf⟩ := ck_s hf
      refine g_iald (hW _ _ _ hv0 10 _ rfl) z20 dX6_readsLink_104 ?_
      refine g_iconst (v := (-1)) dX6_readsLink_105 (by decide +kernel) ?_
      refine g_icmp_ne (tgt := 113) dX6_readsLink_106 (by decide) (fun c21 => ?_) (fun c21 => ?_)
      · have hf := if_f hf c21
        refine g_aload_n (ps := 1) dX6_readsLink_113 rfl rfl ?_
        refine g_iconst (v := 1) dX6_readsLink_114 (by decide +kernel) ?_
        refine g_bipush (v := 99) dX6_readsLink_115 (by decide +kernel) ?_
        obtain ⟨x23, h24, e22, hf⟩ := bd2_s hf
        refine g_callVi (As := [.int 1, .int 99]) (n := 2) (kX6_readsNumber hW hv0 e22) gX6_readsLink_X6_readsNumber rfl ⟨rfl, rfl⟩ ⟨rfl, hdX6_readsNumber⟩ ⟨Nat.le_of_ble_eq_true rfl, Nat.le_of_ble_eq_true rfl⟩ cf6 hv0 rfl rfl (Nat.le_of_ble_eq_true rfl) dX6_readsLink_117 ?_
        exact g_pick [1, 2] rfl (ujX6_readsLink_120 hW hv0 hf)
      · have hf := if_t hf c21
        refine g_iconst (v := (-1)) dX6_readsLink_109 (by decide +kernel) ?_
        refine g_goto (tgt := 120) dX6_readsLink_110 (by decide) ?_
        exact g_pick [1, 2] rfl (ujX6_readsLink_120 hW hv0 hf)
    · have hf := if_t hf c10
      refine g_aload_n (ps := 1) dX6_readsLink_50 rfl rfl ?_
      refine g_iconst (v := 4) dX6_readsLink_51 (by decide +kernel) ?_
      refine g_aload_n (ps := 1) dX6_readsLink_52 rfl rfl ?_
      refine g_getI cf6 hv0 nX6_readsLink_X6 (j := 3) (by decide) rfl mX6_readsLink_109 dX6_readsLink_53 ?_
      obtain ⟨x49, h50, e48, hf⟩ := bd2_s hf
      refine g_callVi (As := [.int 4, .int (h.1 v0 3)]) (n := 2) (kX6_fails hW hv0 e48) gX6_readsLink_X6_fails rfl ⟨rfl, rfl⟩ ⟨rfl, hdX6_fails⟩ ⟨Nat.le_of_ble_eq_true rfl, Nat.le_of_ble_eq_true rfl⟩ cf6 hv0 rfl rfl (Nat.le_of_ble_eq_true rfl) dX6_readsLink_56 ?_
      refine g_pop dX6_readsLink_59 rfl ?_
      refine g_iconst (v := 0) dX6_readsLink_60 (by decide +kernel) ?_
      have hf := Option.some.inj hf
      subst hf
      exact g_zret (Or.inl rfl) dX6_readsLink_61
  · have hf := if_t hf c9
    refine g_iconst (v := 0) dX6_readsLink_43 (by decide +kernel) ?_
    have hf := Option.some.inj hf
    subst hf
    exact g_zret (Or.inl rfl) dX6_readsLink_44
set_option maxHeartbeats 4000000 in
set_option maxRecDepth 100000 in
theorem uX6_readsLink {S : Shp} {n : Nat} {r : Rf} {v0 : Nat} {h : Hp} {o : (Int32 × Hp)} (hW : WF S r) (hv0 : S[v0]? = some (6, 38)) (hf : fX6_readsLink n r v0 h = some o) : GX6_readsLink S r r (some o.1, o.2) 0 [(0, .ref v0)] [] h := by
  unfold fX6_readsLink at hf
  refine g_aload_n (ps := 0) dX6_readsLink_0 rfl rfl ?_
  refine g_getI cf6 hv0 nX6_readsLink_X6 (j := 7) (by decide) rfl mX6_readsLink_112 dX6_readsLink_1 ?_
  refine g_topi (fun x1 ex1 => ?_)
  have hf := lE_s hf ex1
  refine g_istore_n (L' := [(1, .int x1), (0, .ref v0)]) dX6_readsLink_4 rfl (by decide) rfl ?_
  refine g_aload_n (ps := 1) dX6_readsLink_5 rfl rfl ?_
  refine g_iconst (v := 0) dX6_readsLink_6 (by decide +kernel) ?_
  refine g_aload_n (ps := 1) dX6_readsLink_7 rfl rfl ?_
  refine g_getI cf6 hv0 nX6_readsLink_X6 (j := 6) (by decide) rfl mX6_readsLink_115 dX6_readsLink_8 ?_
  refine g_iconst (v := 1) dX6_readsLink_11 (by decide +kernel) ?_
  refine g_isub dX6_readsLink_12 ?_
  obtain ⟨x3, h4, e2, hf⟩ := bd2_s hf
  refine g_callVi (As := [.int 0, .int ((h.1 v0 6) - 1)]) (n := 2) (kX6_readsNumber hW hv0 e2) gX6_readsLink_X6_readsNumber rfl ⟨rfl, rfl⟩ ⟨rfl, hdX6_readsNumber⟩ ⟨Nat.le_of_ble_eq_true rfl, Nat.le_of_ble_eq_true rfl⟩ cf6 hv0 rfl rfl (Nat.le_of_ble_eq_true rfl) dX6_readsLink_13 ?_
  refine g_istore_n (L' := [(2, .int x3), (1, .int x1), (0, .ref v0)]) dX6_readsLink_16 rfl (by decide) rfl ?_
  refine g_iload_n (ps := 0) dX6_readsLink_17 rfl rfl ?_
  refine g_iconst (v := (-1)) dX6_readsLink_18 (by decide +kernel) ?_
  refine g_icmp_ne (tgt := 26) dX6_readsLink_19 (by decide) (fun c5 => ?_) (fun c5 => ?_)
  · have hf := if_f hf c5
    refine g_aload_n (ps := 2) dX6_readsLink_26 rfl rfl ?_
    refine g_iconst (v := 0) dX6_readsLink_27 (by decide +kernel) ?_
    refine g_aload_n (ps := 2) dX6_readsLink_28 rfl rfl ?_
    refine g_getI cf6 hv0 nX6_readsLink_X6 (j := 6) (by decide) rfl mX6_readsLink_115 dX6_readsLink_29 ?_
    refine g_iconst (v := 1) dX6_readsLink_32 (by decide +kernel) ?_
    refine g_isub dX6_readsLink_33 ?_
    obtain ⟨x7, h8, e6, hf⟩ := bd2_s hf
    refine g_callVi (As := [.int 0, .int ((h4.1 v0 6) - 1)]) (n := 2) (kX6_readsNumber hW hv0 e6) gX6_readsLink_X6_readsNumber rfl ⟨rfl, rfl⟩ ⟨rfl, hdX6_readsNumber⟩ ⟨Nat.le_of_ble_eq_true rfl, Nat.le_of_ble_eq_true rfl⟩ cf6 hv0 rfl rfl (Nat.le_of_ble_eq_true rfl) dX6_readsLink_34 ?_
    exact g_pick [2, 1, 0] rfl (ujX6_readsLink_37 hW hv0 hf)
  · have hf := if_t hf c5
    refine g_iconst (v := (-1)) dX6_readsLink_22 (by decide +kernel) ?_
    refine g_goto (tgt := 37) dX6_readsLink_23 (by decide) ?_
    exact g_pick [2, 1, 0] rfl (ujX6_readsLink_37 hW hv0 hf)
theorem kX6_readsLink {S : Shp} {n : Nat} {r : Rf} {v0 : Nat} {h : Hp} {o : (Int32 × Hp)} (hW : WF S r) (hv0 : S[v0]? = some (6, 38)) (hf : fX6_readsLink n r v0 h = some o) : CTi yX6_readsLink wsX6_readsLink rmX6_readsLink S r [.ref v0] h r o.1 o.2 :=
  cti_of rfl (by decide +kernel) rfl (Nat.le_of_ble_eq_true rfl) rfl (uX6_readsLink hW hv0 hf)
/-! X6_readsWinds readsWinds -/
def rmX6_readsWinds : Room := { frames := 3, cells := 0, slots := 0, locals := 64 }
abbrev GX6_readsWinds (S : Shp) (r r' : Rf) (out : Option Int32 × Hp) (pc : Nat) (L : List (Nat × Value)) (st : List Value) (h : Hp) : Prop := G RX6 cX6_readsWinds 2 (some .boolean) wsX6_readsWinds rmX6_readsWinds S r r' out pc L st h
theorem nX6_readsWinds_X6 : ∀ w ∈ wsX60, w ∈ wsX6_readsWinds := by decide +kernel
theorem mX6_readsWinds_125 : Cond.fieldLink RX6 125 "LinkedIslesModel" "readWinds" "I" ∈ wsX6_readsWinds := by decide +kernel
theorem mX6_readsWinds_29 : Cond.fieldLink RX6 29 "LinkedIslesModel" "readWind" "[I" ∈ wsX6_readsWinds := by decide +kernel
theorem mX6_readsWinds_91 : Cond.fieldLink RX6 91 "LinkedIslesModel" "readAt" "I" ∈ wsX6_readsWinds := by decide +kernel
theorem hdX6_readsWinds : yX6_readsWinds.cls ≠ "java/lang/invoke/MethodHandle" ∧ yX6_readsWinds.cls ≠ "java/lang/invoke/VarHandle" ∧ (parseMethodDescriptor yX6_readsWinds.desc).map (fun d => d.parameters.length) = some 0 := by decide +kernel
def jX6_readsWinds_85 (n : Nat) (r : Rf) (v0 : Nat) (v1 : Int32) (s0 : Int32) (s1 : Int32) (h : Hp) : Option ((Int32 × Hp) ⊕ ((Hp) ⊕ (Hp))) :=
  lE (pI h v0 2 (s1 + s0)) (fun (h15 : Hp) => some (.inl (v1, h15)))
def jX6_readsWinds_70 (n : Nat) (r : Rf) (v0 : Nat) (s0 : Int32) (h : Hp) : Option ((Int32 × Hp) ⊕ ((Hp) ⊕ (Hp))) :=
  if s0 = 0 then (jX6_readsWinds_85 n r v0 s0 0 (h.1 v0 2) h) else (jX6_readsWinds_85 n r v0 s0 1 (h.1 v0 2) h)
def bX6_readsWinds_2 (n : Nat) (r : Rf) (v0 : Nat) (v1 : Int32) (h : Hp) : Option ((Int32 × Hp) ⊕ ((Hp) ⊕ (Hp))) :=
  if v1 = 0 then (some (.inr (.inr (h)))) else (bd2 (fX6_readsNumber n r v0 0 9 h) (fun (x3 : Int32) (h4 : Hp) => ck (h.1 v0 8) 12 (lE (pI h4 (r v0 13) (Int32.toNatClampNeg (h.1 v0 8)) x3) (fun (h6 : Hp) => ck (h6.1 v0 8) 12 (if (h6.1 (r v0 13) (Int32.toNatClampNeg (h6.1 v0 8))) = (-1) then (some (.inr (.inl h6))) else (lE (pI h6 v0 8 ((h6.1 v0 8) + 1)) (fun (h9 : Hp) => bd2 (fX6_nextLetter n r v0 h9) (fun (x11 : Int32) (h12 : Hp) => if x11 = 44 then (if 12 ≤ (h12.1 v0 8) then (jX6_readsWinds_70 n r v0 0 h12) else (jX6_readsWinds_70 n r v0 1 h12)) else (jX6_readsWinds_70 n r v0 0 h12)))))))))
def lX6_readsWinds_2 (n : Nat) (r : Rf) (v0 : Nat) (v1 : Int32) (h : Hp) : Option (Int32 × Hp) :=
  (it (fun (s : Int32 × Hp) => bX6_readsWinds_2 n r v0 s.1 s.2) n (v1, h)).bind (fun z => match z with | .inl z => some (0, z) | .inr z => bd2 (fX6_readsSign n r v0 59 z) (fun (x18 : Int32) (h19 : Hp) => cb x18 (some (x18, h19))))
def fX6_readsWinds (n : Nat) (r : Rf) (v0 : Nat) (h : Hp) : Option (Int32 × Hp) :=
  lX6_readsWinds_2 n r v0 1 h
set_option maxHeartbeats 4000000 in
set_option maxRecDepth 100000 in
theorem ujX6_readsWinds_85 {S : Shp} {n : Nat} {r : Rf} {out : Option Int32 × Hp} {r' : Rf} {v0 : Nat} {v1 : Int32} {s0 : Int32} {s1 : Int32} {h : Hp} {w : (Int32 × Hp) ⊕ ((Hp) ⊕ (Hp))} (hW : WF S r) (hv0 : S[v0]? = some (6, 38)) (hf : jX6_readsWinds_85 n r v0 v1 s0 s1 h = some w) (hk : ∀ y, w = .inl y → GX6_readsWinds S r r' out 2 [(0, .ref v0), (1, .int (y.1))] [] (y.2)) (he : ∀ z, w = .inr z → (match z with | .inl z => GX6_readsWinds S r r' out 35 [(0, .ref v0)] [] (z) | .inr z => GX6_readsWinds S r r' out 92 [(0, .ref v0)] [] (z))) : GX6_readsWinds S r r' out 85 [(0, .ref v0), (1, .int v1)] [.int s0, .int s1, .ref v0] h := by
  unfold jX6_readsWinds_85 at hf
  refine g_iadd dX6_readsWinds_85 ?_
  refine g_putI cf6 hv0 nX6_readsWinds_X6 (j := 2) (by decide) rfl mX6_readsWinds_91 rfl dX6_readsWinds_86 ?_
  refine g_topH (fun h15 eh15 => ?_)
  have hf := lE_s hf eh15
  refine g_goto (tgt := 2) dX6_readsWinds_89 (by decide) ?_
  exact g_pick [0, 1] rfl (hk _ (Option.some.inj hf).symm)
set_option maxHeartbeats 4000000 in
set_option maxRecDepth 100000 in
theorem ujX6_readsWinds_70 {S : Shp} {n : Nat} {r : Rf} {out : Option Int32 × Hp} {r' : Rf} {v0 : Nat} {s0 : Int32} {h : Hp} {w : (Int32 × Hp) ⊕ ((Hp) ⊕ (Hp))} (hW : WF S r) (hv0 : S[v0]? = some (6, 38)) (hf : jX6_readsWinds_70 n r v0 s0 h = some w) (hk : ∀ y, w = .inl y → GX6_readsWinds S r r' out 2 [(0, .ref v0), (1, .int (y.1))] [] (y.2)) (he : ∀ z, w = .inr z → (match z with | .inl z => GX6_readsWinds S r r' out 35 [(0, .ref v0)] [] (z) | .inr z => GX6_readsWinds S r r' out 92 [(0, .ref v0)] [] (z))) : GX6_readsWinds S r r' out 70 [(0, .ref v0)] [.int s0] h := by
  unfold jX6_readsWinds_70 at hf
  refine g_istore_n (L' := [(1, .int s0), (0, .ref v0)]) dX6_readsWinds_70 rfl (by decide) rfl ?_
  refine g_aload_n (ps := 1) dX6_readsWinds_71 rfl rfl ?_
  refine g_dup dX6_readsWinds_72 rfl ?_
  refine g_getI cf6 hv0 nX6_readsWinds_X6 (j := 2) (by decide) rfl mX6_readsWinds_91 dX6_readsWinds_73 ?_
  refine g_iload_n (ps := 0) dX6_readsWinds_76 rfl rfl ?_
  refine g_if_eq (tgt := 84) dX6_readsWinds_77 (by decide) (fun c14 => ?_) (fun c14 => ?_)
  · have hf := if_t hf c14
    refine g_iconst (v := 0) dX6_readsWinds_84 (by decide +kernel) ?_
    exact g_pick [1, 0] rfl (ujX6_readsWinds_85 hW hv0 hf hk he)
  · have hf := if_f hf c14
    refine g_iconst (v := 1) dX6_readsWinds_80 (by decide +kernel) ?_
    refine g_goto (tgt := 85) dX6_readsWinds_81 (by decide) ?_
    exact g_pick [1, 0] rfl (ujX6_readsWinds_85 hW hv0 hf hk he)
set_option maxHeartbeats 4000000 in
set_option maxRecDepth 100000 in
theorem ubX6_readsWinds_2 {S : Shp} {n : Nat} {r : Rf} {out : Option Int32 × Hp} {r' : Rf} {v0 : Nat} {v1 : Int32}  {h : Hp} {w : (Int32 × Hp) ⊕ ((Hp) ⊕ (Hp))} (hW : WF S r) (hv0 : S[v0]? = some (6, 38)) (hf : bX6_readsWinds_2 n r v0 v1 h = some w) (hk : ∀ y, w = .inl y → GX6_readsWinds S r r' out 2 [(0, .ref v0), (1, .int (y.1))] [] (y.2)) (he : ∀ z, w = .inr z → (match z with | .inl z => GX6_readsWinds S r r' out 35 [(0, .ref v0)] [] (z) | .inr z => GX6_readsWinds S r r' out 92 [(0, .ref v0)] [] (z))) : GX6_readsWinds S r r' out 2 [(0, .ref v0), (1, .int v1)] [] h := by
  unfold bX6_readsWinds_2 at hf
  refine g_iload_n (ps := 1) dX6_readsWinds_2 rfl rfl ?_
  refine g_if_eq (tgt := 92) dX6_readsWinds_3 (by decide) (fun c1 => ?_) (fun c1 => ?_)
  · have hf := if_t hf c1
    exact g_pick [0] rfl (he _ (Option.some.inj hf).symm)
  · have hf := if_f hf c1
    refine g_aload_n (ps := 0) dX6_readsWinds_6 rfl rfl ?_
    refine g_getR cf6 hv0 nX6_readsWinds_X6 (j := 13) (by decide) rfl mX6_readsWinds_29 dX6_readsWinds_7 ?_
    refine g_aload_n (ps := 0) dX6_readsWinds_10 rfl rfl ?_
    refine g_getI cf6 hv0 nX6_readsWinds_X6 (j := 8) (by decide) rfl mX6_readsWinds_125 dX6_readsWinds_11 ?_
    refine g_aload_n (ps := 0) dX6_readsWinds_14 rfl rfl ?_
    refine g_iconst (v := 0) dX6_readsWinds_15 (by decide +kernel) ?_
    refine g_bipush (v := 9) dX6_readsWinds_16 (by decide +kernel) ?_
    obtain ⟨x3, h4, e2, hf⟩ := bd2_s hf
    refine g_callVi (As := [.int 0, .int 9]) (n := 2) (kX6_readsNumber hW hv0 e2) gX6_readsWinds_X6_readsNumber rfl ⟨rfl, rfl⟩ ⟨rfl, hdX6_readsNumber⟩ ⟨Nat.le_of_ble_eq_true rfl, Nat.le_of_ble_eq_true rfl⟩ cf6 hv0 rfl rfl (Nat.le_of_ble_eq_true rfl) dX6_readsWinds_18 ?_
    obtain ⟨z5, hf⟩ := ck_s hf
    refine g_iast (hW _ _ _ hv0 13 _ rfl) z5 dX6_readsWinds_21 ?_
    refine g_topH (fun h6 eh6 => ?_)
    have hf := lE_s hf eh6
    refine g_aload_n (ps := 0) dX6_readsWinds_22 rfl rfl ?_
    refine g_getR cf6 hv0 nX6_readsWinds_X6 (j := 13) (by decide) rfl mX6_readsWinds_29 dX6_readsWinds_23 ?_
    refine g_aload_n (ps := 0) dX6_readsWinds_26 rfl rfl ?_
    refine g_getI cf6 hv0 nX6_readsWinds_X6 (j := 8) (by decide) rfl mX6_readsWinds_125 dX6_readsWinds_27 ?_
    obtain ⟨z7, hf⟩ := ck_s hf
    refine g_iald (hW _ _ _ hv0 13 _ rfl) z7 dX6_readsWinds_30 ?_
    refine g_iconst (v := (-1)) dX6_readsWinds_31 (by decide +kernel) ?_
    refine g_icmp_ne (tgt := 37) dX6_readsWinds_32 (by decide) (fun c8 => ?_) (fun c8 => ?_)
    · have hf := if_f hf c8
      refine g_aload_n (ps := 0) dX6_readsWinds_37 rfl rfl ?_
      refine g_dup dX6_readsWinds_38 rfl ?_
      refine g_getI cf6 hv0 nX6_readsWinds_X6 (j := 8) (by decide) rfl mX6_readsWinds_125 dX6_readsWinds_39 ?_
      refine g_iconst (v := 1) dX6_readsWinds_42 (by decide +kernel) ?_
      refine g_iadd dX6_readsWinds_43 ?_
      refine g_putI cf6 hv0 nX6_readsWinds_X6 (j := 8) (by decide) rfl mX6_readsWinds_125 rfl dX6_readsWinds_44 ?_
      refine g_topH (fun h9 eh9 => ?_)
      have hf := lE_s hf eh9
      refine g_aload_n (ps := 0) dX6_readsWinds_47 rfl rfl ?_
      obtain ⟨x11, h12, e10, hf⟩ := bd2_s hf
      refine g_callVi (As := []) (n := 0) (kX6_nextLetter hW hv0 e10) gX6_readsWinds_X6_nextLetter rfl ⟨rfl, rfl⟩ ⟨rfl, hdX6_nextLetter⟩ ⟨Nat.le_of_ble_eq_true rfl, Nat.le_of_ble_eq_true rfl⟩ cf6 hv0 rfl rfl (Nat.le_of_ble_eq_true rfl) dX6_readsWinds_48 ?_
      refine g_bipush (v := 44) dX6_readsWinds_51 (by decide +kernel) ?_
      refine g_icmp_ne (tgt := 69) dX6_readsWinds_53 (by decide) (fun c13 => ?_) (fun c13 => ?_)
      · have hf := if_f hf c13
        refine g_iconst (v := 0) dX6_readsWinds_69 (by decide +kernel) ?_
        exact g_pick [0] rfl (ujX6_readsWinds_70 hW hv0 hf hk he)
      · have hf := if_t hf c13
        refine g_aload_n (ps := 0) dX6_readsWinds_56 rfl rfl ?_
        refine g_getI cf6 hv0 nX6_readsWinds_X6 (j := 8) (by decide) rfl mX6_readsWinds_125 dX6_readsWinds_57 ?_
        refine g_bipush (v := 12) dX6_readsWinds_60 (by decide +kernel) ?_
        refine g_icmp_ge (tgt := 69) dX6_readsWinds_62 (by decide) (fun c16 => ?_) (fun c16 => ?_)
        · have hf := if_t hf c16
          refine g_iconst (v := 0) dX6_readsWinds_69 (by decide +kernel) ?_
          exact g_pick [0] rfl (ujX6_readsWinds_70 hW hv0 hf hk he)
        · have hf := if_f hf c16
          refine g_iconst (v := 1) dX6_readsWinds_65 (by decide +kernel) ?_
          refine g_goto (tgt := 70) dX6_readsWinds_66 (by decide) ?_
          exact g_pick [0] rfl (ujX6_readsWinds_70 hW hv0 hf hk he)
    · have hf := if_t hf c8
      exact g_pick [0] rfl (he _ (Option.some.inj hf).symm)
set_option maxHeartbeats 4000000 in
set_option maxRecDepth 100000 in
theorem ulX6_readsWinds_2 {S : Shp} {n : Nat} {r : Rf} {v0 : Nat} {v1 : Int32}  {h : Hp} {o : (Int32 × Hp)} (hW : WF S r) (hv0 : S[v0]? = some (6, 38)) (hf : lX6_readsWinds_2 n r v0 v1 h = some o)  : GX6_readsWinds S r r (some o.1, o.2) 2 [(0, .ref v0), (1, .int v1)] [] h := by
  unfold lX6_readsWinds_2 at hf
  obtain ⟨z0, ei, hf⟩ := bd_s hf
  refine it_ind (P := fun (s : Int32 × Hp) => GX6_readsWinds S r r (some o.1, o.2) 2 [(0, .ref v0), (1, .int (s.1))] [] (s.2)) (fun s w hb hk2 he2 => ?_) n _ ei
  refine ubX6_readsWinds_2 (out := (some o.1, o.2)) (r' := r) hW hv0 hb hk2 (fun z hz => ?_)
  have hz := he2 z hz
  subst hz
  rcases z with z | z
  · refine g_iconst (v := 0) dX6_readsWinds_35 (by decide +kernel) ?_
    have hf := Option.some.inj hf
    subst hf
    exact g_zret (Or.inl rfl) dX6_readsWinds_36
  · refine g_aload_n (ps := 0) dX6_readsWinds_92 rfl rfl ?_
    refine g_bipush (v := 59) dX6_readsWinds_93 (by decide +kernel) ?_
    obtain ⟨x18, h19, e17, hf⟩ := bd2_s hf
    refine g_callVi (As := [.int 59]) (n := 1) (kX6_readsSign hW hv0 e17) gX6_readsWinds_X6_readsSign rfl ⟨rfl, rfl⟩ ⟨rfl, hdX6_readsSign⟩ ⟨Nat.le_of_ble_eq_true rfl, Nat.le_of_ble_eq_true rfl⟩ cf6 hv0 rfl rfl (Nat.le_of_ble_eq_true rfl) dX6_readsWinds_95 ?_
    obtain ⟨z20, hf⟩ := cb_s hf
    have hf := Option.some.inj hf
    subst hf
    exact g_zret z20 dX6_readsWinds_98
set_option maxHeartbeats 4000000 in
set_option maxRecDepth 100000 in
theorem uX6_readsWinds {S : Shp} {n : Nat} {r : Rf} {v0 : Nat} {h : Hp} {o : (Int32 × Hp)} (hW : WF S r) (hv0 : S[v0]? = some (6, 38)) (hf : fX6_readsWinds n r v0 h = some o) : GX6_readsWinds S r r (some o.1, o.2) 0 [(0, .ref v0)] [] h := by
  unfold fX6_readsWinds at hf
  refine g_iconst (v := 1) dX6_readsWinds_0 (by decide +kernel) ?_
  refine g_istore_n (L' := [(1, .int 1), (0, .ref v0)]) dX6_readsWinds_1 rfl (by decide) rfl ?_
  exact g_pick [1, 0] rfl (ulX6_readsWinds_2 hW hv0 hf)
theorem kX6_readsWinds {S : Shp} {n : Nat} {r : Rf} {v0 : Nat} {h : Hp} {o : (Int32 × Hp)} (hW : WF S r) (hv0 : S[v0]? = some (6, 38)) (hf : fX6_readsWinds n r v0 h = some o) : CTi yX6_readsWinds wsX6_readsWinds rmX6_readsWinds S r [.ref v0] h r o.1 o.2 :=
  cti_of rfl (by decide +kernel) rfl (Nat.le_of_ble_eq_true rfl) rfl (uX6_readsWinds hW hv0 hf)
/-! X6_readsClause readsClause -/
def rmX6_readsClause : Room := { frames := 4, cells := 0, slots := 0, locals := 87 }
abbrev GX6_readsClause (S : Shp) (r r' : Rf) (out : Option Int32 × Hp) (pc : Nat) (L : List (Nat × Value)) (st : List Value) (h : Hp) : Prop := G RX6 cX6_readsClause 5 (some .boolean) wsX6_readsClause rmX6_readsClause S r r' out pc L st h
theorem nX6_readsClause_X6 : ∀ w ∈ wsX60, w ∈ wsX6_readsClause := by decide +kernel
theorem mX6_readsClause_112 : Cond.fieldLink RX6 112 "LinkedIslesModel" "readLinks" "I" ∈ wsX6_readsClause := by decide +kernel
theorem mX6_readsClause_115 : Cond.fieldLink RX6 115 "LinkedIslesModel" "readIslands" "I" ∈ wsX6_readsClause := by decide +kernel
theorem mX6_readsClause_125 : Cond.fieldLink RX6 125 "LinkedIslesModel" "readWinds" "I" ∈ wsX6_readsClause := by decide +kernel
theorem mX6_readsClause_91 : Cond.fieldLink RX6 91 "LinkedIslesModel" "readAt" "I" ∈ wsX6_readsClause := by decide +kernel
theorem hdX6_readsClause : yX6_readsClause.cls ≠ "java/lang/invoke/MethodHandle" ∧ yX6_readsClause.cls ≠ "java/lang/invoke/VarHandle" ∧ (parseMethodDescriptor yX6_readsClause.desc).map (fun d => d.parameters.length) = some 0 := by decide +kernel
def jX6_readsClause_110 (n : Nat) (r : Rf) (v0 : Nat) (v2 : Int32)  (h : Hp) : Option (Int32 × Hp) :=
  bd2 (fX6_fails n r v0 1 v2 h) (fun (x10 : Int32) (h11 : Hp) => some (0, h11))
def jX6_readsClause_155 (n : Nat) (r : Rf) (v0 : Nat) (v1 : Int32) (v2 : Int32) (s0 : Int32) (h : Hp) : Option (Int32 × Hp) :=
  if s0 = 0 then (if v1 = 108 then (bd2 (fX6_readsLink n r v0 h) (fun (x21 : Int32) (h22 : Hp) => cb x21 (some (x21, h22)))) else (bd2 (fX6_readsWinds n r v0 h) (fun (x17 : Int32) (h18 : Hp) => cb x17 (some (x17, h18))))) else (bd2 (fX6_fails n r v0 3 v2 h) (fun (x25 : Int32) (h26 : Hp) => some (0, h26)))
def jX6_readsClause_98 (n : Nat) (r : Rf) (v0 : Nat) (v1 : Int32) (v2 : Int32) (s0 : Int32) (h : Hp) : Option (Int32 × Hp) :=
  if s0 = 0 then (jX6_readsClause_110 n r v0 v2  h) else (if (h.1 v0 6) = 0 then (jX6_readsClause_110 n r v0 v2  h) else (if v1 = 115 then (jX6_readsClause_155 n r v0 v1 v2 1 h) else (if v1 = 119 then (if (h.1 v0 8) ≤ 0 then (jX6_readsClause_155 n r v0 v1 v2 0 h) else (jX6_readsClause_155 n r v0 v1 v2 1 h)) else (if (h.1 v0 7) = 10 then (jX6_readsClause_155 n r v0 v1 v2 1 h) else (jX6_readsClause_155 n r v0 v1 v2 0 h)))))
def jX6_readsClause_75 (n : Nat) (r : Rf) (v0 : Nat) (v1 : Int32) (v2 : Int32)  (h : Hp) : Option (Int32 × Hp) :=
  if v1 = 115 then (jX6_readsClause_98 n r v0 v1 v2 1 h) else (if v1 = 108 then (jX6_readsClause_98 n r v0 v1 v2 1 h) else (if v1 = 119 then (jX6_readsClause_98 n r v0 v1 v2 1 h) else (jX6_readsClause_98 n r v0 v1 v2 0 h)))
def jX6_readsClause_52 (n : Nat) (r : Rf) (v0 : Nat) (v3 : Int32) (s0 : Int32) (h : Hp) : Option (Int32 × Hp) :=
  lE (pI h v0 6 s0) (fun (h37 : Hp) => if v3 = (-1) then (some (0, h37)) else (bd2 (fX6_readsSign n r v0 59 h37) (fun (x40 : Int32) (h41 : Hp) => if x40 = 0 then (some (0, h41)) else (some (1, h41)))))
def fX6_readsClause (n : Nat) (r : Rf) (v0 : Nat) (h : Hp) : Option (Int32 × Hp) :=
  bd2 (fX6_nextLetter n r v0 h) (fun (x2 : Int32) (h3 : Hp) => lE ((h3.1 v0 2)) (fun (x4 : Int32) => lE (pI h3 v0 2 ((h3.1 v0 2) + 1)) (fun (h5 : Hp) => if x2 = 115 then (if (h5.1 v0 6) = 0 then (bd2 (fX6_readsNumber n r v0 2 8 h5) (fun (x34 : Int32) (h35 : Hp) => if x34 = (-1) then (jX6_readsClause_52 n r v0 x34 0 h35) else (jX6_readsClause_52 n r v0 x34 x34 h35))) else (jX6_readsClause_75 n r v0 x2 x4  h5)) else (jX6_readsClause_75 n r v0 x2 x4  h5))))
set_option maxHeartbeats 4000000 in
set_option maxRecDepth 100000 in
theorem ujX6_readsClause_110 {S : Shp} {n : Nat} {r : Rf} {v0 : Nat} {v2 : Int32}  {h : Hp} {o : (Int32 × Hp)} (hW : WF S r) (hv0 : S[v0]? = some (6, 38)) (hf : jX6_readsClause_110 n r v0 v2  h = some o)  : GX6_readsClause S r r (some o.1, o.2) 110 [(0, .ref v0), (2, .int v2)] [] h := by
  unfold jX6_readsClause_110 at hf
  refine g_aload_n (ps := 0) dX6_readsClause_110 rfl rfl ?_
  refine g_iconst (v := 1) dX6_readsClause_111 (by decide +kernel) ?_
  refine g_iload_n (ps := 1) dX6_readsClause_112 rfl rfl ?_
  obtain ⟨x10, h11, e9, hf⟩ := bd2_s hf
  refine g_callVi (As := [.int 1, .int v2]) (n := 2) (kX6_fails hW hv0 e9) gX6_readsClause_X6_fails rfl ⟨rfl, rfl⟩ ⟨rfl, hdX6_fails⟩ ⟨Nat.le_of_ble_eq_true rfl, Nat.le_of_ble_eq_true rfl⟩ cf6 hv0 rfl rfl (Nat.le_of_ble_eq_true rfl) dX6_readsClause_113 ?_
  refine g_pop dX6_readsClause_116 rfl ?_
  refine g_iconst (v := 0) dX6_readsClause_117 (by decide +kernel) ?_
  have hf := Option.some.inj hf
  subst hf
  exact g_zret (Or.inl rfl) dX6_readsClause_118
set_option maxHeartbeats 4000000 in
set_option maxRecDepth 100000 in
theorem ujX6_readsClause_155 {S : Shp} {n : Nat} {r : Rf} {v0 : Nat} {v1 : Int32} {v2 : Int32} {s0 : Int32} {h : Hp} {o : (Int32 × Hp)} (hW : WF S r) (hv0 : S[v0]? = some (6, 38)) (hf : jX6_readsClause_155 n r v0 v1 v2 s0 h = some o)  : GX6_readsClause S r r (some o.1, o.2) 155 [(0, .ref v0), (1, .int v1), (2, .int v2)] [.int s0] h := by
  unfold jX6_readsClause_155 at hf
  refine g_istore (L' := [(4, .int s0), (0, .ref v0), (1, .int v1), (2, .int v2)]) dX6_readsClause_155 (by decide) rfl ?_
  refine g_iload (ps := 0) dX6_readsClause_157 rfl ?_
  refine g_if_eq (tgt := 171) dX6_readsClause_159 (by decide) (fun c14 => ?_) (fun c14 => ?_)
  · have hf := if_t hf c14
    refine g_iload_n (ps := 2) dX6_readsClause_171 rfl rfl ?_
    refine g_bipush (v := 108) dX6_readsClause_172 (by decide +kernel) ?_
    refine g_icmp_ne (tgt := 184) dX6_readsClause_174 (by decide) (fun c15 => ?_) (fun c15 => ?_)
    · have hf := if_f hf c15
      refine g_aload_n (ps := 1) dX6_readsClause_184 rfl rfl ?_
      obtain ⟨x17, h18, e16, hf⟩ := bd2_s hf
      refine g_callVi (As := []) (n := 0) (kX6_readsWinds hW hv0 e16) gX6_readsClause_X6_readsWinds rfl ⟨rfl, rfl⟩ ⟨rfl, hdX6_readsWinds⟩ ⟨Nat.le_of_ble_eq_true rfl, Nat.le_of_ble_eq_true rfl⟩ cf6 hv0 rfl rfl (Nat.le_of_ble_eq_true rfl) dX6_readsClause_185 ?_
      obtain ⟨z19, hf⟩ := cb_s hf
      have hf := Option.some.inj hf
      subst hf
      exact g_zret z19 dX6_readsClause_188
    · have hf := if_t hf c15
      refine g_aload_n (ps := 1) dX6_readsClause_177 rfl rfl ?_
      obtain ⟨x21, h22, e20, hf⟩ := bd2_s hf
      refine g_callVi (As := []) (n := 0) (kX6_readsLink hW hv0 e20) gX6_readsClause_X6_readsLink rfl ⟨rfl, rfl⟩ ⟨rfl, hdX6_readsLink⟩ ⟨Nat.le_of_ble_eq_true rfl, Nat.le_of_ble_eq_true rfl⟩ cf6 hv0 rfl rfl (Nat.le_of_ble_eq_true rfl) dX6_readsClause_178 ?_
      refine g_goto (tgt := 188) dX6_readsClause_181 (by decide) ?_
      obtain ⟨z23, hf⟩ := cb_s hf
      have hf := Option.some.inj hf
      subst hf
      exact g_zret z23 dX6_readsClause_188
  · have hf := if_f hf c14
    refine g_aload_n (ps := 1) dX6_readsClause_162 rfl rfl ?_
    refine g_iconst (v := 3) dX6_readsClause_163 (by decide +kernel) ?_
    refine g_iload_n (ps := 3) dX6_readsClause_164 rfl rfl ?_
    obtain ⟨x25, h26, e24, hf⟩ := bd2_s hf
    refine g_callVi (As := [.int 3, .int v2]) (n := 2) (kX6_fails hW hv0 e24) gX6_readsClause_X6_fails rfl ⟨rfl, rfl⟩ ⟨rfl, hdX6_fails⟩ ⟨Nat.le_of_ble_eq_true rfl, Nat.le_of_ble_eq_true rfl⟩ cf6 hv0 rfl rfl (Nat.le_of_ble_eq_true rfl) dX6_readsClause_165 ?_
    refine g_pop dX6_readsClause_168 rfl ?_
    refine g_iconst (v := 0) dX6_readsClause_169 (by decide +kernel) ?_
    have hf := Option.some.inj hf
    subst hf
    exact g_zret (Or.inl rfl) dX6_readsClause_170
set_option maxHeartbeats 4000000 in
set_option maxRecDepth 100000 in
theorem ujX6_readsClause_98 {S : Shp} {n : Nat} {r : Rf} {v0 : Nat} {v1 : Int32} {v2 : Int32} {s0 : Int32} {h : Hp} {o : (Int32 × Hp)} (hW : WF S r) (hv0 : S[v0]? = some (6, 38)) (hf : jX6_readsClause_98 n r v0 v1 v2 s0 h = some o)  : GX6_readsClause S r r (some o.1, o.2) 98 [(0, .ref v0), (1, .int v1), (2, .int v2)] [.int s0] h := by
  unfold jX6_readsClause_98 at hf
  refine g_istore_n (L' := [(3, .int s0), (0, .ref v0), (1, .int v1), (2, .int v2)]) dX6_readsClause_98 rfl (by decide) rfl ?_
  refine g_iload_n (ps := 0) dX6_readsClause_99 rfl rfl ?_
  refine g_if_eq (tgt := 110) dX6_readsClause_100 (by decide) (fun c8 => ?_) (fun c8 => ?_)
  · have hf := if_t hf c8
    exact g_pick [1, 3] rfl (ujX6_readsClause_110 hW hv0 hf)
  · have hf := if_f hf c8
    refine g_aload_n (ps := 1) dX6_readsClause_103 rfl rfl ?_
    refine g_getI cf6 hv0 nX6_readsClause_X6 (j := 6) (by decide) rfl mX6_readsClause_115 dX6_readsClause_104 ?_
    refine g_if_ne (tgt := 119) dX6_readsClause_107 (by decide) (fun c12 => ?_) (fun c12 => ?_)
    · have hf := if_f hf c12
      refine g_iload_n (ps := 2) dX6_readsClause_119 rfl rfl ?_
      refine g_bipush (v := 115) dX6_readsClause_120 (by decide +kernel) ?_
      refine g_icmp_eq (tgt := 150) dX6_readsClause_122 (by decide) (fun c13 => ?_) (fun c13 => ?_)
      · have hf := if_t hf c13
        refine g_iconst (v := 1) dX6_readsClause_150 (by decide +kernel) ?_
        refine g_goto (tgt := 155) dX6_readsClause_151 (by decide) ?_
        exact g_pick [1, 2, 3] rfl (ujX6_readsClause_155 hW hv0 hf)
      · have hf := if_f hf c13
        refine g_iload_n (ps := 2) dX6_readsClause_125 rfl rfl ?_
        refine g_bipush (v := 119) dX6_readsClause_126 (by decide +kernel) ?_
        refine g_icmp_ne (tgt := 141) dX6_readsClause_128 (by decide) (fun c27 => ?_) (fun c27 => ?_)
        · have hf := if_f hf c27
          refine g_aload_n (ps := 1) dX6_readsClause_141 rfl rfl ?_
          refine g_getI cf6 hv0 nX6_readsClause_X6 (j := 7) (by decide) rfl mX6_readsClause_112 dX6_readsClause_142 ?_
          refine g_bipush (v := 10) dX6_readsClause_145 (by decide +kernel) ?_
          refine g_icmp_ne (tgt := 154) dX6_readsClause_147 (by decide) (fun c28 => ?_) (fun c28 => ?_)
          · have hf := if_f hf c28
            refine g_iconst (v := 0) dX6_readsClause_154 (by decide +kernel) ?_
            exact g_pick [1, 2, 3] rfl (ujX6_readsClause_155 hW hv0 hf)
          · have hf := if_t hf c28
            refine g_iconst (v := 1) dX6_readsClause_150 (by decide +kernel) ?_
            refine g_goto (tgt := 155) dX6_readsClause_151 (by decide) ?_
            exact g_pick [1, 2, 3] rfl (ujX6_readsClause_155 hW hv0 hf)
        · have hf := if_t hf c27
          refine g_aload_n (ps := 1) dX6_readsClause_131 rfl rfl ?_
          refine g_getI cf6 hv0 nX6_readsClause_X6 (j := 8) (by decide) rfl mX6_readsClause_125 dX6_readsClause_132 ?_
          refine g_if_le (tgt := 154) dX6_readsClause_135 (by decide) (fun c29 => ?_) (fun c29 => ?_)
          · have hf := if_t hf c29
            refine g_iconst (v := 0) dX6_readsClause_154 (by decide +kernel) ?_
            exact g_pick [1, 2, 3] rfl (ujX6_readsClause_155 hW hv0 hf)
          · have hf := if_f hf c29
            refine g_goto (tgt := 150) dX6_readsClause_138 (by decide) ?_
            refine g_iconst (v := 1) dX6_readsClause_150 (by decide +kernel) ?_
            refine g_goto (tgt := 155) dX6_readsClause_151 (by decide) ?_
            exact g_pick [1, 2, 3] rfl (ujX6_readsClause_155 hW hv0 hf)
    · have hf := if_t hf c12
      exact g_pick [1, 3] rfl (ujX6_readsClause_110 hW hv0 hf)
set_option maxHeartbeats 4000000 in
set_option maxRecDepth 100000 in
theorem ujX6_readsClause_75 {S : Shp} {n : Nat} {r : Rf} {v0 : Nat} {v1 : Int32} {v2 : Int32}  {h : Hp} {o : (Int32 × Hp)} (hW : WF S r) (hv0 : S[v0]? = some (6, 38)) (hf : jX6_readsClause_75 n r v0 v1 v2  h = some o)  : GX6_readsClause S r r (some o.1, o.2) 75 [(0, .ref v0), (1, .int v1), (2, .int v2)] [] h := by
  unfold jX6_readsClause_75 at hf
  refine g_iload_n (ps := 1) dX6_readsClause_75 rfl rfl ?_
  refine g_bipush (v := 115) dX6_readsClause_76 (by decide +kernel) ?_
  refine g_icmp_eq (tgt := 93) dX6_readsClause_78 (by decide) (fun c7 => ?_) (fun c7 => ?_)
  · have hf := if_t hf c7
    refine g_iconst (v := 1) dX6_readsClause_93 (by decide +kernel) ?_
    refine g_goto (tgt := 98) dX6_readsClause_94 (by decide) ?_
    exact g_pick [0, 1, 2] rfl (ujX6_readsClause_98 hW hv0 hf)
  · have hf := if_f hf c7
    refine g_iload_n (ps := 1) dX6_readsClause_81 rfl rfl ?_
    refine g_bipush (v := 108) dX6_readsClause_82 (by decide +kernel) ?_
    refine g_icmp_eq (tgt := 93) dX6_readsClause_84 (by decide) (fun c30 => ?_) (fun c30 => ?_)
    · have hf := if_t hf c30
      refine g_iconst (v := 1) dX6_readsClause_93 (by decide +kernel) ?_
      refine g_goto (tgt := 98) dX6_readsClause_94 (by decide) ?_
      exact g_pick [0, 1, 2] rfl (ujX6_readsClause_98 hW hv0 hf)
    · have hf := if_f hf c30
      refine g_iload_n (ps := 1) dX6_readsClause_87 rfl rfl ?_
      refine g_bipush (v := 119) dX6_readsClause_88 (by decide +kernel) ?_
      refine g_icmp_ne (tgt := 97) dX6_readsClause_90 (by decide) (fun c31 => ?_) (fun c31 => ?_)
      · have hf := if_f hf c31
        refine g_iconst (v := 0) dX6_readsClause_97 (by decide +kernel) ?_
        exact g_pick [0, 1, 2] rfl (ujX6_readsClause_98 hW hv0 hf)
      · have hf := if_t hf c31
        refine g_iconst (v := 1) dX6_readsClause_93 (by decide +kernel) ?_
        refine g_goto (tgt := 98) dX6_readsClause_94 (by decide) ?_
        exact g_pick [0, 1, 2] rfl (ujX6_readsClause_98 hW hv0 hf)
set_option maxHeartbeats 4000000 in
set_option maxRecDepth 100000 in
theorem ujX6_readsClause_52 {S : Shp} {n : Nat} {r : Rf} {v0 : Nat} {v3 : Int32} {s0 : Int32} {h : Hp} {o : (Int32 × Hp)} (hW : WF S r) (hv0 : S[v0]? = some (6, 38)) (hf : jX6_readsClause_52 n r v0 v3 s0 h = some o)  : GX6_readsClause S r r (some o.1, o.2) 52 [(0, .ref v0), (3, .int v3)] [.int s0, .ref v0] h := by
  unfold jX6_readsClause_52 at hf
  refine g_putI cf6 hv0 nX6_readsClause_X6 (j := 6) (by decide) rfl mX6_readsClause_115 rfl dX6_readsClause_52 ?_
  refine g_topH (fun h37 eh37 => ?_)
  have hf := lE_s hf eh37
  refine g_iload_n (ps := 1) dX6_readsClause_55 rfl rfl ?_
  refine g_iconst (v := (-1)) dX6_readsClause_56 (by decide +kernel) ?_
  refine g_icmp_eq (tgt := 73) dX6_readsClause_57 (by decide) (fun c38 => ?_) (fun c38 => ?_)
  · have hf := if_t hf c38
    refine g_iconst (v := 0) dX6_readsClause_73 (by decide +kernel) ?_
    have hf := Option.some.inj hf
    subst hf
    exact g_zret (Or.inl rfl) dX6_readsClause_74
  · have hf := if_f hf c38
    refine g_aload_n (ps := 0) dX6_readsClause_60 rfl rfl ?_
    refine g_bipush (v := 59) dX6_readsClause_61 (by decide +kernel) ?_
    obtain ⟨x40, h41, e39, hf⟩ := bd2_s hf
    refine g_callVi (As := [.int 59]) (n := 1) (kX6_readsSign hW hv0 e39) gX6_readsClause_X6_readsSign rfl ⟨rfl, rfl⟩ ⟨rfl, hdX6_readsSign⟩ ⟨Nat.le_of_ble_eq_true rfl, Nat.le_of_ble_eq_true rfl⟩ cf6 hv0 rfl rfl (Nat.le_of_ble_eq_true rfl) dX6_readsClause_63 ?_
    refine g_if_eq (tgt := 73) dX6_readsClause_66 (by decide) (fun c42 => ?_) (fun c42 => ?_)
    · have hf := if_t hf c42
      refine g_iconst (v := 0) dX6_readsClause_73 (by decide +kernel) ?_
      have hf := Option.some.inj hf
      subst hf
      exact g_zret (Or.inl rfl) dX6_readsClause_74
    · have hf := if_f hf c42
      refine g_iconst (v := 1) dX6_readsClause_69 (by decide +kernel) ?_
      refine g_goto (tgt := 74) dX6_readsClause_70 (by decide) ?_
      have hf := Option.some.inj hf
      subst hf
      exact g_zret (Or.inr rfl) dX6_readsClause_74
set_option maxHeartbeats 4000000 in
set_option maxRecDepth 100000 in
theorem uX6_readsClause {S : Shp} {n : Nat} {r : Rf} {v0 : Nat} {h : Hp} {o : (Int32 × Hp)} (hW : WF S r) (hv0 : S[v0]? = some (6, 38)) (hf : fX6_readsClause n r v0 h = some o) : GX6_readsClause S r r (some o.1, o.2) 0 [(0, .ref v0)] [] h := by
  unfold fX6_readsClause at hf
  refine g_aload_n (ps := 0) dX6_readsClause_0 rfl rfl ?_
  obtain ⟨x2, h3, e1, hf⟩ := bd2_s hf
  refine g_callVi (As := []) (n := 0) (kX6_nextLetter hW hv0 e1) gX6_readsClause_X6_nextLetter rfl ⟨rfl, rfl⟩ ⟨rfl, hdX6_nextLetter⟩ ⟨Nat.le_of_ble_eq_true rfl, Nat.le_of_ble_eq_true rfl⟩ cf6 hv0 rfl rfl (Nat.le_of_ble_eq_true rfl) dX6_readsClause_1 ?_
  refine g_istore_n (L' := [(1, .int x2), (0, .ref v0)]) dX6_readsClause_4 rfl (by decide) rfl ?_
  refine g_aload_n (ps := 1) dX6_readsClause_5 rfl rfl ?_
  refine g_getI cf6 hv0 nX6_readsClause_X6 (j := 2) (by decide) rfl mX6_readsClause_91 dX6_readsClause_6 ?_
  refine g_topi (fun x4 ex4 => ?_)
  have hf := lE_s hf ex4
  refine g_istore_n (L' := [(2, .int x4), (1, .int x2), (0, .ref v0)]) dX6_readsClause_9 rfl (by decide) rfl ?_
  refine g_aload_n (ps := 2) dX6_readsClause_10 rfl rfl ?_
  refine g_dup dX6_readsClause_11 rfl ?_
  refine g_getI cf6 hv0 nX6_readsClause_X6 (j := 2) (by decide) rfl mX6_readsClause_91 dX6_readsClause_12 ?_
  refine g_iconst (v := 1) dX6_readsClause_15 (by decide +kernel) ?_
  refine g_iadd dX6_readsClause_16 ?_
  refine g_putI cf6 hv0 nX6_readsClause_X6 (j := 2) (by decide) rfl mX6_readsClause_91 rfl dX6_readsClause_17 ?_
  refine g_topH (fun h5 eh5 => ?_)
  have hf := lE_s hf eh5
  refine g_iload_n (ps := 1) dX6_readsClause_20 rfl rfl ?_
  refine g_bipush (v := 115) dX6_readsClause_21 (by decide +kernel) ?_
  refine g_icmp_ne (tgt := 75) dX6_readsClause_23 (by decide) (fun c6 => ?_) (fun c6 => ?_)
  · have hf := if_f hf c6
    exact g_pick [2, 1, 0] rfl (ujX6_readsClause_75 hW hv0 hf)
  · have hf := if_t hf c6
    refine g_aload_n (ps := 2) dX6_readsClause_26 rfl rfl ?_
    refine g_getI cf6 hv0 nX6_readsClause_X6 (j := 6) (by decide) rfl mX6_readsClause_115 dX6_readsClause_27 ?_
    refine g_if_ne (tgt := 75) dX6_readsClause_30 (by decide) (fun c32 => ?_) (fun c32 => ?_)
    · have hf := if_f hf c32
      exact g_pick [2, 1, 0] rfl (ujX6_readsClause_75 hW hv0 hf)
    · have hf := if_t hf c32
      refine g_aload_n (ps := 2) dX6_readsClause_33 rfl rfl ?_
      refine g_iconst (v := 2) dX6_readsClause_34 (by decide +kernel) ?_
      refine g_bipush (v := 8) dX6_readsClause_35 (by decide +kernel) ?_
      obtain ⟨x34, h35, e33, hf⟩ := bd2_s hf
      refine g_callVi (As := [.int 2, .int 8]) (n := 2) (kX6_readsNumber hW hv0 e33) gX6_readsClause_X6_readsNumber rfl ⟨rfl, rfl⟩ ⟨rfl, hdX6_readsNumber⟩ ⟨Nat.le_of_ble_eq_true rfl, Nat.le_of_ble_eq_true rfl⟩ cf6 hv0 rfl rfl (Nat.le_of_ble_eq_true rfl) dX6_readsClause_37 ?_
      refine g_istore_n (L' := [(3, .int x34), (2, .int x4), (1, .int x2), (0, .ref v0)]) dX6_readsClause_40 rfl (by decide) rfl ?_
      refine g_aload_n (ps := 3) dX6_readsClause_41 rfl rfl ?_
      refine g_iload_n (ps := 0) dX6_readsClause_42 rfl rfl ?_
      refine g_iconst (v := (-1)) dX6_readsClause_43 (by decide +kernel) ?_
      refine g_icmp_ne (tgt := 51) dX6_readsClause_44 (by decide) (fun c36 => ?_) (fun c36 => ?_)
      · have hf := if_f hf c36
        refine g_iload_n (ps := 0) dX6_readsClause_51 rfl rfl ?_
        exact g_pick [3, 0] rfl (ujX6_readsClause_52 hW hv0 hf)
      · have hf := if_t hf c36
        refine g_iconst (v := 0) dX6_readsClause_47 (by decide +kernel) ?_
        refine g_goto (tgt := 52) dX6_readsClause_48 (by decide) ?_
        exact g_pick [3, 0] rfl (ujX6_readsClause_52 hW hv0 hf)
theorem kX6_readsClause {S : Shp} {n : Nat} {r : Rf} {v0 : Nat} {h : Hp} {o : (Int32 × Hp)} (hW : WF S r) (hv0 : S[v0]? = some (6, 38)) (hf : fX6_readsClause n r v0 h = some o) : CTi yX6_readsClause wsX6_readsClause rmX6_readsClause S r [.ref v0] h r o.1 o.2 :=
  cti_of rfl (by decide +kernel) rfl (Nat.le_of_ble_eq_true rfl) rfl (uX6_readsClause hW hv0 hf)
