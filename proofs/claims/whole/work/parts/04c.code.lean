/-! X4_readWinds readWinds -/
def rmX4_readWinds : Room := { frames := 3, cells := 0, slots := 0, locals := 62 }
abbrev GX4_readWinds (S : Shp) (r r' : Rf) (out : Option Int32 × Hp) (pc : Nat) (L : List (Nat × Value)) (st : List Value) (h : Hp) : Prop := G RX4 cX4_readWinds 4 none wsX4_readWinds rmX4_readWinds S r r' out pc L st h
theorem nX4_readWinds_X1 : ∀ w ∈ wsX10, w ∈ wsX4_readWinds := by decide +kernel
theorem mX4_readWinds_57 : Cond.fieldLink RX4 57 "LinkedIsles$Chart" "windCount" "I" ∈ wsX4_readWinds := by decide +kernel
theorem mX4_readWinds_95 : Cond.fieldLink RX4 95 "LinkedIsles$Chart" "winds" "[I" ∈ wsX4_readWinds := by decide +kernel
theorem hdX4_readWinds : yX4_readWinds.cls ≠ "java/lang/invoke/MethodHandle" ∧ yX4_readWinds.cls ≠ "java/lang/invoke/VarHandle" ∧ (parseMethodDescriptor yX4_readWinds.desc).map (fun d => d.parameters.length) = some 1 := by decide +kernel
def bX4_readWinds_4 (n : Nat) (r : Rf) (v0 : Nat) (v1 : Nat) (v2 : Int32) (v3 : Int32) (h : Hp) : Option ((Int32 × Int32 × Hp) ⊕ (Hp)) :=
  if 12 ≤ v3 then (some (.inr h)) else (if v2 = 0 then (some (.inr h)) else (bd2 (fX4_number n r v0 0 9 h) (fun (x4 : Int32) (h5 : Hp) => ck v3 12 (lE (pI h5 (r v1 7) (Int32.toNatClampNeg v3) x4) (fun (h7 : Hp) => lE (pI h7 v1 11 (v3 + 1)) (fun (h8 : Hp) => if 12 ≤ (v3 + 1) then (lE (v3 + 1) (fun (x10 : Int32) => some (.inl (0, x10, h8)))) else (bd2 (fX4_take n r v0 44 h8) (fun (x12 : Int32) (h13 : Hp) => if x12 = 0 then (lE (v3 + 1) (fun (x15 : Int32) => some (.inl (0, x15, h13)))) else (lE (v3 + 1) (fun (x16 : Int32) => some (.inl (1, x16, h13))))))))))))
def jX4_readWinds_63 (n : Nat) (r : Rf) (v0 : Nat) (v1 : Nat)  (h : Hp) : Option Hp :=
  (fX4_expect n r v0 59 h).bind (fun (h18 : Hp) => some h18)
def lX4_readWinds_4 (n : Nat) (r : Rf) (v0 : Nat) (v1 : Nat) (v2 : Int32) (v3 : Int32) (h : Hp) : Option Hp :=
  (it (fun (s : Int32 × Int32 × Hp) => bX4_readWinds_4 n r v0 v1 s.1 s.2.1 s.2.2) n (v2, v3, h)).bind (fun z => jX4_readWinds_63 n r v0 v1  z)
def fX4_readWinds (n : Nat) (r : Rf) (v0 : Nat) (v1 : Nat) (h : Hp) : Option Hp :=
  lX4_readWinds_4 n r v0 v1 1 0 h
set_option maxHeartbeats 4000000 in
set_option maxRecDepth 100000 in
theorem ubX4_readWinds_4 {S : Shp} {n : Nat} {r : Rf} {out : Option Int32 × Hp} {r' : Rf} {v0 : Nat} {v1 : Nat} {v2 : Int32} {v3 : Int32}  {h : Hp} {w : (Int32 × Int32 × Hp) ⊕ (Hp)} (hW : WF S r) (hv0 : S[v0]? = some (4, 5)) (hv1 : S[v1]? = some (1, 12)) (hf : bX4_readWinds_4 n r v0 v1 v2 v3 h = some w) (hk : ∀ y, w = .inl y → GX4_readWinds S r r' out 4 [(0, .ref v0), (1, .ref v1), (2, .int (y.1)), (3, .int (y.2.1))] [] (y.2.2)) (he : ∀ z, w = .inr z → GX4_readWinds S r r' out 63 [(0, .ref v0), (1, .ref v1)] [] (z)) : GX4_readWinds S r r' out 4 [(0, .ref v0), (1, .ref v1), (2, .int v2), (3, .int v3)] [] h := by
  unfold bX4_readWinds_4 at hf
  refine g_iload_n (ps := 3) dX4_readWinds_4 rfl rfl ?_
  refine g_bipush (v := 12) dX4_readWinds_5 (by decide +kernel) ?_
  refine g_icmp_ge (tgt := 63) dX4_readWinds_7 (by decide) (fun c1 => ?_) (fun c1 => ?_)
  · have hf := if_t hf c1
    exact g_pick [0, 1] rfl (he _ (Option.some.inj hf).symm)
  · have hf := if_f hf c1
    refine g_iload_n (ps := 2) dX4_readWinds_10 rfl rfl ?_
    refine g_if_eq (tgt := 63) dX4_readWinds_11 (by decide) (fun c2 => ?_) (fun c2 => ?_)
    · have hf := if_t hf c2
      exact g_pick [0, 1] rfl (he _ (Option.some.inj hf).symm)
    · have hf := if_f hf c2
      refine g_aload_n (ps := 1) dX4_readWinds_14 rfl rfl ?_
      refine g_getR cf1 hv1 nX4_readWinds_X1 (j := 7) (by decide) rfl mX4_readWinds_95 dX4_readWinds_15 ?_
      refine g_iload_n (ps := 3) dX4_readWinds_18 rfl rfl ?_
      refine g_aload_n (ps := 0) dX4_readWinds_19 rfl rfl ?_
      refine g_iconst (v := 0) dX4_readWinds_20 (by decide +kernel) ?_
      refine g_bipush (v := 9) dX4_readWinds_21 (by decide +kernel) ?_
      obtain ⟨x4, h5, e3, hf⟩ := bd2_s hf
      refine g_callVi (As := [.int 0, .int 9]) (n := 2) (kX4_number hW hv0 e3) gX4_readWinds_X4_number rfl ⟨rfl, rfl⟩ ⟨rfl, hdX4_number⟩ ⟨Nat.le_of_ble_eq_true rfl, Nat.le_of_ble_eq_true rfl⟩ cf4 hv0 rfl rfl (Nat.le_of_ble_eq_true rfl) dX4_readWinds_23 ?_
      obtain ⟨z6, hf⟩ := ck_s hf
      refine g_iast (hW _ _ _ hv1 7 _ rfl) z6 dX4_readWinds_26 ?_
      refine g_topH (fun h7 eh7 => ?_)
      have hf := lE_s hf eh7
      refine g_aload_n (ps := 1) dX4_readWinds_27 rfl rfl ?_
      refine g_iload_n (ps := 3) dX4_readWinds_28 rfl rfl ?_
      refine g_iconst (v := 1) dX4_readWinds_29 (by decide +kernel) ?_
      refine g_iadd dX4_readWinds_30 ?_
      refine g_putI cf1 hv1 nX4_readWinds_X1 (j := 11) (by decide) rfl mX4_readWinds_57 rfl dX4_readWinds_31 ?_
      refine g_topH (fun h8 eh8 => ?_)
      have hf := lE_s hf eh8
      refine g_iload_n (ps := 3) dX4_readWinds_34 rfl rfl ?_
      refine g_iconst (v := 1) dX4_readWinds_35 (by decide +kernel) ?_
      refine g_iadd dX4_readWinds_36 ?_
      refine g_bipush (v := 12) dX4_readWinds_37 (by decide +kernel) ?_
      refine g_icmp_ge (tgt := 55) dX4_readWinds_39 (by decide) (fun c9 => ?_) (fun c9 => ?_)
      · have hf := if_t hf c9
        refine g_iconst (v := 0) dX4_readWinds_55 (by decide +kernel) ?_
        refine g_istore_n (L' := [(2, .int 0), (0, .ref v0), (1, .ref v1), (3, .int v3)]) dX4_readWinds_56 rfl (by decide) rfl ?_
        obtain ⟨x10, ex10⟩ : ∃ y : Int32, y = v3 + 1 := ⟨_, rfl⟩
        have hf := lE_s hf ex10
        refine g_iinc (ps := 3) (v := x10) (L' := [(3, .int x10), (2, .int 0), (0, .ref v0), (1, .ref v1)]) dX4_readWinds_57 rfl (by rw [ex10]; rfl) (by decide) rfl ?_
        refine g_goto (tgt := 4) dX4_readWinds_60 (by decide) ?_
        exact g_pick [2, 3, 1, 0] rfl (hk _ (Option.some.inj hf).symm)
      · have hf := if_f hf c9
        refine g_aload_n (ps := 0) dX4_readWinds_42 rfl rfl ?_
        refine g_bipush (v := 44) dX4_readWinds_43 (by decide +kernel) ?_
        obtain ⟨x12, h13, e11, hf⟩ := bd2_s hf
        refine g_callVi (As := [.int 44]) (n := 1) (kX4_take hW hv0 e11) gX4_readWinds_X4_take rfl ⟨rfl, rfl⟩ ⟨rfl, hdX4_take⟩ ⟨Nat.le_of_ble_eq_true rfl, Nat.le_of_ble_eq_true rfl⟩ cf4 hv0 rfl rfl (Nat.le_of_ble_eq_true rfl) dX4_readWinds_45 ?_
        refine g_if_eq (tgt := 55) dX4_readWinds_48 (by decide) (fun c14 => ?_) (fun c14 => ?_)
        · have hf := if_t hf c14
          refine g_iconst (v := 0) dX4_readWinds_55 (by decide +kernel) ?_
          refine g_istore_n (L' := [(2, .int 0), (0, .ref v0), (1, .ref v1), (3, .int v3)]) dX4_readWinds_56 rfl (by decide) rfl ?_
          obtain ⟨x15, ex15⟩ : ∃ y : Int32, y = v3 + 1 := ⟨_, rfl⟩
          have hf := lE_s hf ex15
          refine g_iinc (ps := 3) (v := x15) (L' := [(3, .int x15), (2, .int 0), (0, .ref v0), (1, .ref v1)]) dX4_readWinds_57 rfl (by rw [ex15]; rfl) (by decide) rfl ?_
          refine g_goto (tgt := 4) dX4_readWinds_60 (by decide) ?_
          exact g_pick [2, 3, 1, 0] rfl (hk _ (Option.some.inj hf).symm)
        · have hf := if_f hf c14
          refine g_iconst (v := 1) dX4_readWinds_51 (by decide +kernel) ?_
          refine g_goto (tgt := 56) dX4_readWinds_52 (by decide) ?_
          refine g_istore_n (L' := [(2, .int 1), (0, .ref v0), (1, .ref v1), (3, .int v3)]) dX4_readWinds_56 rfl (by decide) rfl ?_
          obtain ⟨x16, ex16⟩ : ∃ y : Int32, y = v3 + 1 := ⟨_, rfl⟩
          have hf := lE_s hf ex16
          refine g_iinc (ps := 3) (v := x16) (L' := [(3, .int x16), (2, .int 1), (0, .ref v0), (1, .ref v1)]) dX4_readWinds_57 rfl (by rw [ex16]; rfl) (by decide) rfl ?_
          refine g_goto (tgt := 4) dX4_readWinds_60 (by decide) ?_
          exact g_pick [2, 3, 1, 0] rfl (hk _ (Option.some.inj hf).symm)
set_option maxHeartbeats 4000000 in
set_option maxRecDepth 100000 in
theorem ujX4_readWinds_63 {S : Shp} {n : Nat} {r : Rf} {v0 : Nat} {v1 : Nat}  {h : Hp} {o : Hp} (hW : WF S r) (hv0 : S[v0]? = some (4, 5)) (hv1 : S[v1]? = some (1, 12)) (hf : jX4_readWinds_63 n r v0 v1  h = some o)  : GX4_readWinds S r r (none, o) 63 [(0, .ref v0), (1, .ref v1)] [] h := by
  unfold jX4_readWinds_63 at hf
  refine g_aload_n (ps := 0) dX4_readWinds_63 rfl rfl ?_
  refine g_bipush (v := 59) dX4_readWinds_64 (by decide +kernel) ?_
  obtain ⟨h18, e17, hf⟩ := bd_s hf
  refine g_callVv (As := [.int 59]) (n := 1) (kX4_expect hW hv0 e17) gX4_readWinds_X4_expect rfl ⟨rfl, rfl⟩ ⟨rfl, hdX4_expect⟩ ⟨Nat.le_of_ble_eq_true rfl, Nat.le_of_ble_eq_true rfl⟩ cf4 hv0 rfl rfl (Nat.le_of_ble_eq_true rfl) dX4_readWinds_66 ?_
  have hf := Option.some.inj hf
  subst hf
  exact g_vret dX4_readWinds_69
set_option maxHeartbeats 4000000 in
set_option maxRecDepth 100000 in
theorem ulX4_readWinds_4 {S : Shp} {n : Nat} {r : Rf} {v0 : Nat} {v1 : Nat} {v2 : Int32} {v3 : Int32}  {h : Hp} {o : Hp} (hW : WF S r) (hv0 : S[v0]? = some (4, 5)) (hv1 : S[v1]? = some (1, 12)) (hf : lX4_readWinds_4 n r v0 v1 v2 v3 h = some o)  : GX4_readWinds S r r (none, o) 4 [(0, .ref v0), (1, .ref v1), (2, .int v2), (3, .int v3)] [] h := by
  unfold lX4_readWinds_4 at hf
  obtain ⟨z0, ei, hf⟩ := bd_s hf
  refine it_ind (P := fun (s : Int32 × Int32 × Hp) => GX4_readWinds S r r (none, o) 4 [(0, .ref v0), (1, .ref v1), (2, .int (s.1)), (3, .int (s.2.1))] [] (s.2.2)) (fun s w hb hk2 he2 => ?_) n _ ei
  refine ubX4_readWinds_4 (out := (none, o)) (r' := r) hW hv0 hv1 hb hk2 (fun z hz => ?_)
  have hz := he2 z hz
  subst hz
  exact g_pick [0, 1] rfl (ujX4_readWinds_63 hW hv0 hv1 hf)
set_option maxHeartbeats 4000000 in
set_option maxRecDepth 100000 in
theorem uX4_readWinds {S : Shp} {n : Nat} {r : Rf} {v0 : Nat} {v1 : Nat} {h : Hp} {o : Hp} (hW : WF S r) (hv0 : S[v0]? = some (4, 5)) (hv1 : S[v1]? = some (1, 12)) (hf : fX4_readWinds n r v0 v1 h = some o) : GX4_readWinds S r r (none, o) 0 [(0, .ref v0), (1, .ref v1)] [] h := by
  unfold fX4_readWinds at hf
  refine g_iconst (v := 1) dX4_readWinds_0 (by decide +kernel) ?_
  refine g_istore_n (L' := [(2, .int 1), (0, .ref v0), (1, .ref v1)]) dX4_readWinds_1 rfl (by decide) rfl ?_
  refine g_iconst (v := 0) dX4_readWinds_2 (by decide +kernel) ?_
  refine g_istore_n (L' := [(3, .int 0), (2, .int 1), (0, .ref v0), (1, .ref v1)]) dX4_readWinds_3 rfl (by decide) rfl ?_
  exact g_pick [2, 3, 1, 0] rfl (ulX4_readWinds_4 hW hv0 hv1 hf)
theorem kX4_readWinds {S : Shp} {n : Nat} {r : Rf} {v0 : Nat} {v1 : Nat} {h : Hp} {o : Hp} (hW : WF S r) (hv0 : S[v0]? = some (4, 5)) (hv1 : S[v1]? = some (1, 12)) (hf : fX4_readWinds n r v0 v1 h = some o) : CTv yX4_readWinds wsX4_readWinds rmX4_readWinds S r [.ref v0, .ref v1] h r o :=
  ctv_of rfl (by decide +kernel) rfl (Nat.le_of_ble_eq_true rfl) rfl (uX4_readWinds hW hv0 hv1 hf)
/-! X4_readClause readClause -/
def rmX4_readClause : Room := { frames := 4, cells := 0, slots := 0, locals := 91 }
abbrev GX4_readClause (S : Shp) (r r' : Rf) (out : Option Int32 × Hp) (pc : Nat) (L : List (Nat × Value)) (st : List Value) (h : Hp) : Prop := G RX4 cX4_readClause 4 none wsX4_readClause rmX4_readClause S r r' out pc L st h
theorem nX4_readClause_X1 : ∀ w ∈ wsX10, w ∈ wsX4_readClause := by decide +kernel
theorem nX4_readClause_X4 : ∀ w ∈ wsX40, w ∈ wsX4_readClause := by decide +kernel
theorem mX4_readClause_19 : Cond.fieldLink RX4 19 "LinkedIsles$Text" "at" "I" ∈ wsX4_readClause := by decide +kernel
theorem mX4_readClause_51 : Cond.fieldLink RX4 51 "LinkedIsles$Chart" "links" "I" ∈ wsX4_readClause := by decide +kernel
theorem mX4_readClause_57 : Cond.fieldLink RX4 57 "LinkedIsles$Chart" "windCount" "I" ∈ wsX4_readClause := by decide +kernel
theorem mX4_readClause_9 : Cond.fieldLink RX4 9 "LinkedIsles$Text" "letters" "[I" ∈ wsX4_readClause := by decide +kernel
theorem hdX4_readClause : yX4_readClause.cls ≠ "java/lang/invoke/MethodHandle" ∧ yX4_readClause.cls ≠ "java/lang/invoke/VarHandle" ∧ (parseMethodDescriptor yX4_readClause.desc).map (fun d => d.parameters.length) = some 1 := by decide +kernel
def jX4_readClause_123 (n : Nat) (r : Rf) (v0 : Nat) (v1 : Nat) (v2 : Int32) (s0 : Int32) (h : Hp) : Option Hp :=
  (fX4_fail n r v0 s0 v2 h).bind (fun (h12 : Hp) => some h12)
def jX4_readClause_99 (n : Nat) (r : Rf) (v0 : Nat) (v1 : Nat) (v2 : Int32) (v3 : Int32)  (h : Hp) : Option Hp :=
  if v3 = 115 then (jX4_readClause_123 n r v0 v1 v2 3 h) else (if v3 = 108 then (jX4_readClause_123 n r v0 v1 v2 3 h) else (if v3 = 119 then (jX4_readClause_123 n r v0 v1 v2 3 h) else (jX4_readClause_123 n r v0 v1 v2 1 h)))
def jX4_readClause_78 (n : Nat) (r : Rf) (v0 : Nat) (v1 : Nat) (v2 : Int32) (v3 : Int32)  (h : Hp) : Option Hp :=
  if v3 = 119 then (if (h.1 v1 11) = 0 then ((fX4_readWinds n r v0 v1 h).bind (fun (h17 : Hp) => some h17)) else (jX4_readClause_99 n r v0 v1 v2 v3  h)) else (jX4_readClause_99 n r v0 v1 v2 v3  h)
def fX4_readClause (n : Nat) (r : Rf) (v0 : Nat) (v1 : Nat) (h : Hp) : Option Hp :=
  lE ((h.1 v0 2)) (fun (x1 : Int32) => ck (h.1 v0 2) 240 (lE ((h.1 (r v0 0) (Int32.toNatClampNeg (h.1 v0 2)))) (fun (x3 : Int32) => lE (pI h v0 2 ((h.1 v0 2) + 1)) (fun (h4 : Hp) => (fX1_isThere n r v1 h4).bind (fun (x6 : Int32) => if x6 = 0 then (if x3 = 115 then ((fX4_readIslands n r v0 v1 h4).bind (fun (h25 : Hp) => some h25)) else ((fX4_fail n r v0 1 x1 h4).bind (fun (h23 : Hp) => some h23))) else (if x3 = 108 then (if 10 ≤ (h4.1 v1 10) then (jX4_readClause_78 n r v0 v1 x1 x3  h4) else ((fX4_readLink n r v0 v1 h4).bind (fun (h20 : Hp) => some h20))) else (jX4_readClause_78 n r v0 v1 x1 x3  h4)))))))
set_option maxHeartbeats 4000000 in
set_option maxRecDepth 100000 in
theorem ujX4_readClause_123 {S : Shp} {n : Nat} {r : Rf} {v0 : Nat} {v1 : Nat} {v2 : Int32} {s0 : Int32} {h : Hp} {o : Hp} (hW : WF S r) (hv0 : S[v0]? = some (4, 5)) (hv1 : S[v1]? = some (1, 12)) (hf : jX4_readClause_123 n r v0 v1 v2 s0 h = some o)  : GX4_readClause S r r (none, o) 123 [(0, .ref v0), (1, .ref v1), (2, .int v2)] [.int s0, .ref v0] h := by
  unfold jX4_readClause_123 at hf
  refine g_iload_n (ps := 2) dX4_readClause_123 rfl rfl ?_
  obtain ⟨h12, e11, hf⟩ := bd_s hf
  refine g_callVv (As := [.int s0, .int v2]) (n := 2) (kX4_fail hW hv0 e11) gX4_readClause_X4_fail rfl ⟨rfl, rfl⟩ ⟨rfl, hdX4_fail⟩ ⟨Nat.le_of_ble_eq_true rfl, Nat.le_of_ble_eq_true rfl⟩ cf4 hv0 rfl rfl (Nat.le_of_ble_eq_true rfl) dX4_readClause_124 ?_
  have hf := Option.some.inj hf
  subst hf
  exact g_vret dX4_readClause_127
set_option maxHeartbeats 4000000 in
set_option maxRecDepth 100000 in
theorem ujX4_readClause_99 {S : Shp} {n : Nat} {r : Rf} {v0 : Nat} {v1 : Nat} {v2 : Int32} {v3 : Int32}  {h : Hp} {o : Hp} (hW : WF S r) (hv0 : S[v0]? = some (4, 5)) (hv1 : S[v1]? = some (1, 12)) (hf : jX4_readClause_99 n r v0 v1 v2 v3  h = some o)  : GX4_readClause S r r (none, o) 99 [(0, .ref v0), (1, .ref v1), (2, .int v2), (3, .int v3)] [] h := by
  unfold jX4_readClause_99 at hf
  refine g_aload_n (ps := 0) dX4_readClause_99 rfl rfl ?_
  refine g_iload_n (ps := 3) dX4_readClause_100 rfl rfl ?_
  refine g_bipush (v := 115) dX4_readClause_101 (by decide +kernel) ?_
  refine g_icmp_eq (tgt := 118) dX4_readClause_103 (by decide) (fun c10 => ?_) (fun c10 => ?_)
  · have hf := if_t hf c10
    refine g_iconst (v := 3) dX4_readClause_118 (by decide +kernel) ?_
    refine g_goto (tgt := 123) dX4_readClause_119 (by decide) ?_
    exact g_pick [0, 1, 2] rfl (ujX4_readClause_123 hW hv0 hv1 hf)
  · have hf := if_f hf c10
    refine g_iload_n (ps := 3) dX4_readClause_106 rfl rfl ?_
    refine g_bipush (v := 108) dX4_readClause_107 (by decide +kernel) ?_
    refine g_icmp_eq (tgt := 118) dX4_readClause_109 (by decide) (fun c13 => ?_) (fun c13 => ?_)
    · have hf := if_t hf c13
      refine g_iconst (v := 3) dX4_readClause_118 (by decide +kernel) ?_
      refine g_goto (tgt := 123) dX4_readClause_119 (by decide) ?_
      exact g_pick [0, 1, 2] rfl (ujX4_readClause_123 hW hv0 hv1 hf)
    · have hf := if_f hf c13
      refine g_iload_n (ps := 3) dX4_readClause_112 rfl rfl ?_
      refine g_bipush (v := 119) dX4_readClause_113 (by decide +kernel) ?_
      refine g_icmp_ne (tgt := 122) dX4_readClause_115 (by decide) (fun c14 => ?_) (fun c14 => ?_)
      · have hf := if_f hf c14
        refine g_iconst (v := 1) dX4_readClause_122 (by decide +kernel) ?_
        exact g_pick [0, 1, 2] rfl (ujX4_readClause_123 hW hv0 hv1 hf)
      · have hf := if_t hf c14
        refine g_iconst (v := 3) dX4_readClause_118 (by decide +kernel) ?_
        refine g_goto (tgt := 123) dX4_readClause_119 (by decide) ?_
        exact g_pick [0, 1, 2] rfl (ujX4_readClause_123 hW hv0 hv1 hf)
set_option maxHeartbeats 4000000 in
set_option maxRecDepth 100000 in
theorem ujX4_readClause_78 {S : Shp} {n : Nat} {r : Rf} {v0 : Nat} {v1 : Nat} {v2 : Int32} {v3 : Int32}  {h : Hp} {o : Hp} (hW : WF S r) (hv0 : S[v0]? = some (4, 5)) (hv1 : S[v1]? = some (1, 12)) (hf : jX4_readClause_78 n r v0 v1 v2 v3  h = some o)  : GX4_readClause S r r (none, o) 78 [(0, .ref v0), (1, .ref v1), (2, .int v2), (3, .int v3)] [] h := by
  unfold jX4_readClause_78 at hf
  refine g_iload_n (ps := 3) dX4_readClause_78 rfl rfl ?_
  refine g_bipush (v := 119) dX4_readClause_79 (by decide +kernel) ?_
  refine g_icmp_ne (tgt := 99) dX4_readClause_81 (by decide) (fun c9 => ?_) (fun c9 => ?_)
  · have hf := if_f hf c9
    exact g_pick [0, 1, 2, 3] rfl (ujX4_readClause_99 hW hv0 hv1 hf)
  · have hf := if_t hf c9
    refine g_aload_n (ps := 1) dX4_readClause_84 rfl rfl ?_
    refine g_getI cf1 hv1 nX4_readClause_X1 (j := 11) (by decide) rfl mX4_readClause_57 dX4_readClause_85 ?_
    refine g_if_ne (tgt := 99) dX4_readClause_88 (by decide) (fun c15 => ?_) (fun c15 => ?_)
    · have hf := if_f hf c15
      exact g_pick [0, 1, 2, 3] rfl (ujX4_readClause_99 hW hv0 hv1 hf)
    · have hf := if_t hf c15
      refine g_aload_n (ps := 0) dX4_readClause_91 rfl rfl ?_
      refine g_aload_n (ps := 1) dX4_readClause_92 rfl rfl ?_
      obtain ⟨h17, e16, hf⟩ := bd_s hf
      refine g_callVv (As := [.ref v1]) (n := 1) (kX4_readWinds hW hv0 hv1 e16) gX4_readClause_X4_readWinds rfl ⟨rfl, rfl⟩ ⟨rfl, hdX4_readWinds⟩ ⟨Nat.le_of_ble_eq_true rfl, Nat.le_of_ble_eq_true rfl⟩ cf4 hv0 rfl rfl (Nat.le_of_ble_eq_true rfl) dX4_readClause_93 ?_
      refine g_goto (tgt := 127) dX4_readClause_96 (by decide) ?_
      have hf := Option.some.inj hf
      subst hf
      exact g_vret dX4_readClause_127
set_option maxHeartbeats 4000000 in
set_option maxRecDepth 100000 in
theorem uX4_readClause {S : Shp} {n : Nat} {r : Rf} {v0 : Nat} {v1 : Nat} {h : Hp} {o : Hp} (hW : WF S r) (hv0 : S[v0]? = some (4, 5)) (hv1 : S[v1]? = some (1, 12)) (hf : fX4_readClause n r v0 v1 h = some o) : GX4_readClause S r r (none, o) 0 [(0, .ref v0), (1, .ref v1)] [] h := by
  unfold fX4_readClause at hf
  refine g_aload_n (ps := 0) dX4_readClause_0 rfl rfl ?_
  refine g_getI cf4 hv0 nX4_readClause_X4 (j := 2) (by decide) rfl mX4_readClause_19 dX4_readClause_1 ?_
  refine g_topi (fun x1 ex1 => ?_)
  have hf := lE_s hf ex1
  refine g_istore_n (L' := [(2, .int x1), (0, .ref v0), (1, .ref v1)]) dX4_readClause_4 rfl (by decide) rfl ?_
  refine g_aload_n (ps := 1) dX4_readClause_5 rfl rfl ?_
  refine g_getR cf4 hv0 nX4_readClause_X4 (j := 0) (by decide) rfl mX4_readClause_9 dX4_readClause_6 ?_
  refine g_aload_n (ps := 1) dX4_readClause_9 rfl rfl ?_
  refine g_getI cf4 hv0 nX4_readClause_X4 (j := 2) (by decide) rfl mX4_readClause_19 dX4_readClause_10 ?_
  obtain ⟨z2, hf⟩ := ck_s hf
  refine g_iald (hW _ _ _ hv0 0 _ rfl) z2 dX4_readClause_13 ?_
  refine g_topi (fun x3 ex3 => ?_)
  have hf := lE_s hf ex3
  refine g_istore_n (L' := [(3, .int x3), (2, .int x1), (0, .ref v0), (1, .ref v1)]) dX4_readClause_14 rfl (by decide) rfl ?_
  refine g_aload_n (ps := 2) dX4_readClause_15 rfl rfl ?_
  refine g_dup dX4_readClause_16 rfl ?_
  refine g_getI cf4 hv0 nX4_readClause_X4 (j := 2) (by decide) rfl mX4_readClause_19 dX4_readClause_17 ?_
  refine g_iconst (v := 1) dX4_readClause_20 (by decide +kernel) ?_
  refine g_iadd dX4_readClause_21 ?_
  refine g_putI cf4 hv0 nX4_readClause_X4 (j := 2) (by decide) rfl mX4_readClause_19 rfl dX4_readClause_22 ?_
  refine g_topH (fun h4 eh4 => ?_)
  have hf := lE_s hf eh4
  refine g_aload_n (ps := 3) dX4_readClause_25 rfl rfl ?_
  obtain ⟨x6, e5, hf⟩ := bd_s hf
  refine g_callVi (As := []) (n := 0) (kX1_isThere hW hv1 e5) gX4_readClause_X1_isThere rfl ⟨rfl, rfl⟩ ⟨rfl, hdX1_isThere⟩ ⟨Nat.le_of_ble_eq_true rfl, Nat.le_of_ble_eq_true rfl⟩ cf1 hv1 rfl rfl (Nat.le_of_ble_eq_true rfl) dX4_readClause_26 ?_
  refine g_if_ne (tgt := 55) dX4_readClause_29 (by decide) (fun c7 => ?_) (fun c7 => ?_)
  · have hf := if_f hf c7
    refine g_iload_n (ps := 0) dX4_readClause_55 rfl rfl ?_
    refine g_bipush (v := 108) dX4_readClause_56 (by decide +kernel) ?_
    refine g_icmp_ne (tgt := 78) dX4_readClause_58 (by decide) (fun c8 => ?_) (fun c8 => ?_)
    · have hf := if_f hf c8
      exact g_pick [2, 3, 1, 0] rfl (ujX4_readClause_78 hW hv0 hv1 hf)
    · have hf := if_t hf c8
      refine g_aload_n (ps := 3) dX4_readClause_61 rfl rfl ?_
      refine g_getI cf1 hv1 nX4_readClause_X1 (j := 10) (by decide) rfl mX4_readClause_51 dX4_readClause_62 ?_
      refine g_bipush (v := 10) dX4_readClause_65 (by decide +kernel) ?_
      refine g_icmp_ge (tgt := 78) dX4_readClause_67 (by decide) (fun c18 => ?_) (fun c18 => ?_)
      · have hf := if_t hf c18
        exact g_pick [2, 3, 1, 0] rfl (ujX4_readClause_78 hW hv0 hv1 hf)
      · have hf := if_f hf c18
        refine g_aload_n (ps := 2) dX4_readClause_70 rfl rfl ?_
        refine g_aload_n (ps := 3) dX4_readClause_71 rfl rfl ?_
        obtain ⟨h20, e19, hf⟩ := bd_s hf
        refine g_callVv (As := [.ref v1]) (n := 1) (kX4_readLink hW hv0 hv1 e19) gX4_readClause_X4_readLink rfl ⟨rfl, rfl⟩ ⟨rfl, hdX4_readLink⟩ ⟨Nat.le_of_ble_eq_true rfl, Nat.le_of_ble_eq_true rfl⟩ cf4 hv0 rfl rfl (Nat.le_of_ble_eq_true rfl) dX4_readClause_72 ?_
        refine g_goto (tgt := 127) dX4_readClause_75 (by decide) ?_
        have hf := Option.some.inj hf
        subst hf
        exact g_vret dX4_readClause_127
  · have hf := if_t hf c7
    refine g_iload_n (ps := 0) dX4_readClause_32 rfl rfl ?_
    refine g_bipush (v := 115) dX4_readClause_33 (by decide +kernel) ?_
    refine g_icmp_ne (tgt := 46) dX4_readClause_35 (by decide) (fun c21 => ?_) (fun c21 => ?_)
    · have hf := if_f hf c21
      refine g_aload_n (ps := 2) dX4_readClause_46 rfl rfl ?_
      refine g_iconst (v := 1) dX4_readClause_47 (by decide +kernel) ?_
      refine g_iload_n (ps := 1) dX4_readClause_48 rfl rfl ?_
      obtain ⟨h23, e22, hf⟩ := bd_s hf
      refine g_callVv (As := [.int 1, .int x1]) (n := 2) (kX4_fail hW hv0 e22) gX4_readClause_X4_fail rfl ⟨rfl, rfl⟩ ⟨rfl, hdX4_fail⟩ ⟨Nat.le_of_ble_eq_true rfl, Nat.le_of_ble_eq_true rfl⟩ cf4 hv0 rfl rfl (Nat.le_of_ble_eq_true rfl) dX4_readClause_49 ?_
      refine g_goto (tgt := 127) dX4_readClause_52 (by decide) ?_
      have hf := Option.some.inj hf
      subst hf
      exact g_vret dX4_readClause_127
    · have hf := if_t hf c21
      refine g_aload_n (ps := 2) dX4_readClause_38 rfl rfl ?_
      refine g_aload_n (ps := 3) dX4_readClause_39 rfl rfl ?_
      obtain ⟨h25, e24, hf⟩ := bd_s hf
      refine g_callVv (As := [.ref v1]) (n := 1) (kX4_readIslands hW hv0 hv1 e24) gX4_readClause_X4_readIslands rfl ⟨rfl, rfl⟩ ⟨rfl, hdX4_readIslands⟩ ⟨Nat.le_of_ble_eq_true rfl, Nat.le_of_ble_eq_true rfl⟩ cf4 hv0 rfl rfl (Nat.le_of_ble_eq_true rfl) dX4_readClause_40 ?_
      refine g_goto (tgt := 127) dX4_readClause_43 (by decide) ?_
      have hf := Option.some.inj hf
      subst hf
      exact g_vret dX4_readClause_127
theorem kX4_readClause {S : Shp} {n : Nat} {r : Rf} {v0 : Nat} {v1 : Nat} {h : Hp} {o : Hp} (hW : WF S r) (hv0 : S[v0]? = some (4, 5)) (hv1 : S[v1]? = some (1, 12)) (hf : fX4_readClause n r v0 v1 h = some o) : CTv yX4_readClause wsX4_readClause rmX4_readClause S r [.ref v0, .ref v1] h r o :=
  ctv_of rfl (by decide +kernel) rfl (Nat.le_of_ble_eq_true rfl) rfl (uX4_readClause hW hv0 hv1 hf)
/-! X4_tell tell -/
def rmX4_tell : Room := { frames := 5, cells := 0, slots := 0, locals := 114 }
abbrev GX4_tell (S : Shp) (r r' : Rf) (out : Option Int32 × Hp) (pc : Nat) (L : List (Nat × Value)) (st : List Value) (h : Hp) : Prop := G RX4 cX4_tell 3 (some .int) wsX4_tell rmX4_tell S r r' out pc L st h
theorem nX4_tell_X4 : ∀ w ∈ wsX40, w ∈ wsX4_tell := by decide +kernel
theorem mX4_tell_15 : Cond.fieldLink RX4 15 "LinkedIsles$Text" "count" "I" ∈ wsX4_tell := by decide +kernel
theorem mX4_tell_19 : Cond.fieldLink RX4 19 "LinkedIsles$Text" "at" "I" ∈ wsX4_tell := by decide +kernel
theorem mX4_tell_22 : Cond.fieldLink RX4 22 "LinkedIsles$Text" "fault" "I" ∈ wsX4_tell := by decide +kernel
theorem mX4_tell_25 : Cond.fieldLink RX4 25 "LinkedIsles$Text" "faultAt" "I" ∈ wsX4_tell := by decide +kernel
theorem hdX4_tell : yX4_tell.cls ≠ "java/lang/invoke/MethodHandle" ∧ yX4_tell.cls ≠ "java/lang/invoke/VarHandle" ∧ (parseMethodDescriptor yX4_tell.desc).map (fun d => d.parameters.length) = some 1 := by decide +kernel
def bX4_tell_21 (n : Nat) (r : Rf) (v0 : Nat) (v1 : Nat) (v2 : Int32) (h : Hp) : Option ((Int32 × Hp) ⊕ ((Hp) ⊕ (Hp))) :=
  if 240 ≤ v2 then (some (.inr (.inr (h)))) else (if (h.1 v0 3) = 0 then ((fX4_skipBlanks n r v0 h).bind (fun (h9 : Hp) => if (h9.1 v0 2) < (h9.1 v0 1) then ((fX4_readClause n r v0 v1 h9).bind (fun (h12 : Hp) => lE (v2 + 1) (fun (x13 : Int32) => some (.inl (x13, h12))))) else (some (.inr (.inl h9))))) else (some (.inr (.inr (h)))))
def jX4_tell_64 (n : Nat) (r : Rf) (v0 : Nat) (v1 : Nat)  (h : Hp) : Option (Int32 × Hp) :=
  lE (pI h v0 1 0) (fun (h14 : Hp) => some ((h14.1 v0 3), h14))
def lX4_tell_21 (n : Nat) (r : Rf) (v0 : Nat) (v1 : Nat) (v2 : Int32) (h : Hp) : Option (Int32 × Hp) :=
  (it (fun (s : Int32 × Hp) => bX4_tell_21 n r v0 v1 s.1 s.2) n (v2, h)).bind (fun z => match z with | .inl z => jX4_tell_64 n r v0 v1  z | .inr z => jX4_tell_64 n r v0 v1  z)
def fX4_tell (n : Nat) (r : Rf) (v0 : Nat) (v1 : Nat) (h : Hp) : Option (Int32 × Hp) :=
  (fX1_clear n r v1 h).bind (fun (h2 : Hp) => lE (pI h2 v0 2 0) (fun (h3 : Hp) => lE (pI h3 v0 3 0) (fun (h4 : Hp) => lE (pI h4 v0 4 (-1)) (fun (h5 : Hp) => lX4_tell_21 n r v0 v1 0 h5))))
set_option maxHeartbeats 4000000 in
set_option maxRecDepth 100000 in
theorem ubX4_tell_21 {S : Shp} {n : Nat} {r : Rf} {out : Option Int32 × Hp} {r' : Rf} {v0 : Nat} {v1 : Nat} {v2 : Int32}  {h : Hp} {w : (Int32 × Hp) ⊕ ((Hp) ⊕ (Hp))} (hW : WF S r) (hv0 : S[v0]? = some (4, 5)) (hv1 : S[v1]? = some (1, 12)) (hf : bX4_tell_21 n r v0 v1 v2 h = some w) (hk : ∀ y, w = .inl y → GX4_tell S r r' out 21 [(0, .ref v0), (1, .ref v1), (2, .int (y.1))] [] (y.2)) (he : ∀ z, w = .inr z → (match z with | .inl z => GX4_tell S r r' out 50 [(0, .ref v0), (1, .ref v1)] [] (z) | .inr z => GX4_tell S r r' out 64 [(0, .ref v0), (1, .ref v1)] [] (z))) : GX4_tell S r r' out 21 [(0, .ref v0), (1, .ref v1), (2, .int v2)] [] h := by
  unfold bX4_tell_21 at hf
  refine g_iload_n (ps := 2) dX4_tell_21 rfl rfl ?_
  refine g_sipush (v := 240) dX4_tell_22 (by decide +kernel) ?_
  refine g_icmp_ge (tgt := 64) dX4_tell_25 (by decide) (fun c6 => ?_) (fun c6 => ?_)
  · have hf := if_t hf c6
    exact g_pick [0, 1] rfl (he _ (Option.some.inj hf).symm)
  · have hf := if_f hf c6
    refine g_aload_n (ps := 0) dX4_tell_28 rfl rfl ?_
    refine g_getI cf4 hv0 nX4_tell_X4 (j := 3) (by decide) rfl mX4_tell_22 dX4_tell_29 ?_
    refine g_if_ne (tgt := 64) dX4_tell_32 (by decide) (fun c7 => ?_) (fun c7 => ?_)
    · have hf := if_f hf c7
      exact g_pick [0, 1] rfl (he _ (Option.some.inj hf).symm)
    · have hf := if_t hf c7
      refine g_aload_n (ps := 0) dX4_tell_35 rfl rfl ?_
      obtain ⟨h9, e8, hf⟩ := bd_s hf
      refine g_callVv (As := []) (n := 0) (kX4_skipBlanks hW hv0 e8) gX4_tell_X4_skipBlanks rfl ⟨rfl, rfl⟩ ⟨rfl, hdX4_skipBlanks⟩ ⟨Nat.le_of_ble_eq_true rfl, Nat.le_of_ble_eq_true rfl⟩ cf4 hv0 rfl rfl (Nat.le_of_ble_eq_true rfl) dX4_tell_36 ?_
      refine g_aload_n (ps := 0) dX4_tell_39 rfl rfl ?_
      refine g_getI cf4 hv0 nX4_tell_X4 (j := 2) (by decide) rfl mX4_tell_19 dX4_tell_40 ?_
      refine g_aload_n (ps := 0) dX4_tell_43 rfl rfl ?_
      refine g_getI cf4 hv0 nX4_tell_X4 (j := 1) (by decide) rfl mX4_tell_15 dX4_tell_44 ?_
      refine g_icmp_lt (tgt := 53) dX4_tell_47 (by decide) (fun c10 => ?_) (fun c10 => ?_)
      · have hf := if_t hf c10
        refine g_aload_n (ps := 0) dX4_tell_53 rfl rfl ?_
        refine g_aload_n (ps := 1) dX4_tell_54 rfl rfl ?_
        obtain ⟨h12, e11, hf⟩ := bd_s hf
        refine g_callVv (As := [.ref v1]) (n := 1) (kX4_readClause hW hv0 hv1 e11) gX4_tell_X4_readClause rfl ⟨rfl, rfl⟩ ⟨rfl, hdX4_readClause⟩ ⟨Nat.le_of_ble_eq_true rfl, Nat.le_of_ble_eq_true rfl⟩ cf4 hv0 rfl rfl (Nat.le_of_ble_eq_true rfl) dX4_tell_55 ?_
        obtain ⟨x13, ex13⟩ : ∃ y : Int32, y = v2 + 1 := ⟨_, rfl⟩
        have hf := lE_s hf ex13
        refine g_iinc (ps := 2) (v := x13) (L' := [(2, .int x13), (0, .ref v0), (1, .ref v1)]) dX4_tell_58 rfl (by rw [ex13]; rfl) (by decide) rfl ?_
        refine g_goto (tgt := 21) dX4_tell_61 (by decide) ?_
        exact g_pick [1, 2, 0] rfl (hk _ (Option.some.inj hf).symm)
      · have hf := if_f hf c10
        exact g_pick [0, 1] rfl (he _ (Option.some.inj hf).symm)
set_option maxHeartbeats 4000000 in
set_option maxRecDepth 100000 in
theorem ujX4_tell_64 {S : Shp} {n : Nat} {r : Rf} {v0 : Nat} {v1 : Nat}  {h : Hp} {o : (Int32 × Hp)} (hW : WF S r) (hv0 : S[v0]? = some (4, 5)) (hv1 : S[v1]? = some (1, 12)) (hf : jX4_tell_64 n r v0 v1  h = some o)  : GX4_tell S r r (some o.1, o.2) 64 [(0, .ref v0), (1, .ref v1)] [] h := by
  unfold jX4_tell_64 at hf
  refine g_aload_n (ps := 0) dX4_tell_64 rfl rfl ?_
  refine g_iconst (v := 0) dX4_tell_65 (by decide +kernel) ?_
  refine g_putI cf4 hv0 nX4_tell_X4 (j := 1) (by decide) rfl mX4_tell_15 rfl dX4_tell_66 ?_
  refine g_topH (fun h14 eh14 => ?_)
  have hf := lE_s hf eh14
  refine g_aload_n (ps := 0) dX4_tell_69 rfl rfl ?_
  refine g_getI cf4 hv0 nX4_tell_X4 (j := 3) (by decide) rfl mX4_tell_22 dX4_tell_70 ?_
  have hf := Option.some.inj hf
  subst hf
  exact g_iret dX4_tell_73
set_option maxHeartbeats 4000000 in
set_option maxRecDepth 100000 in
theorem ulX4_tell_21 {S : Shp} {n : Nat} {r : Rf} {v0 : Nat} {v1 : Nat} {v2 : Int32}  {h : Hp} {o : (Int32 × Hp)} (hW : WF S r) (hv0 : S[v0]? = some (4, 5)) (hv1 : S[v1]? = some (1, 12)) (hf : lX4_tell_21 n r v0 v1 v2 h = some o)  : GX4_tell S r r (some o.1, o.2) 21 [(0, .ref v0), (1, .ref v1), (2, .int v2)] [] h := by
  unfold lX4_tell_21 at hf
  obtain ⟨z0, ei, hf⟩ := bd_s hf
  refine it_ind (P := fun (s : Int32 × Hp) => GX4_tell S r r (some o.1, o.2) 21 [(0, .ref v0), (1, .ref v1), (2, .int (s.1))] [] (s.2)) (fun s w hb hk2 he2 => ?_) n _ ei
  refine ubX4_tell_21 (out := (some o.1, o.2)) (r' := r) hW hv0 hv1 hb hk2 (fun z hz => ?_)
  have hz := he2 z hz
  subst hz
  rcases z with z | z
  · refine g_goto (tgt := 64) dX4_tell_50 (by decide) ?_
    exact g_pick [0, 1] rfl (ujX4_tell_64 hW hv0 hv1 hf)
  · exact g_pick [0, 1] rfl (ujX4_tell_64 hW hv0 hv1 hf)
set_option maxHeartbeats 4000000 in
set_option maxRecDepth 100000 in
theorem uX4_tell {S : Shp} {n : Nat} {r : Rf} {v0 : Nat} {v1 : Nat} {h : Hp} {o : (Int32 × Hp)} (hW : WF S r) (hv0 : S[v0]? = some (4, 5)) (hv1 : S[v1]? = some (1, 12)) (hf : fX4_tell n r v0 v1 h = some o) : GX4_tell S r r (some o.1, o.2) 0 [(0, .ref v0), (1, .ref v1)] [] h := by
  unfold fX4_tell at hf
  refine g_aload_n (ps := 1) dX4_tell_0 rfl rfl ?_
  obtain ⟨h2, e1, hf⟩ := bd_s hf
  refine g_callVv (As := []) (n := 0) (kX1_clear hW hv1 e1) gX4_tell_X1_clear rfl ⟨rfl, rfl⟩ ⟨rfl, hdX1_clear⟩ ⟨Nat.le_of_ble_eq_true rfl, Nat.le_of_ble_eq_true rfl⟩ cf1 hv1 rfl rfl (Nat.le_of_ble_eq_true rfl) dX4_tell_1 ?_
  refine g_aload_n (ps := 0) dX4_tell_4 rfl rfl ?_
  refine g_iconst (v := 0) dX4_tell_5 (by decide +kernel) ?_
  refine g_putI cf4 hv0 nX4_tell_X4 (j := 2) (by decide) rfl mX4_tell_19 rfl dX4_tell_6 ?_
  refine g_topH (fun h3 eh3 => ?_)
  have hf := lE_s hf eh3
  refine g_aload_n (ps := 0) dX4_tell_9 rfl rfl ?_
  refine g_iconst (v := 0) dX4_tell_10 (by decide +kernel) ?_
  refine g_putI cf4 hv0 nX4_tell_X4 (j := 3) (by decide) rfl mX4_tell_22 rfl dX4_tell_11 ?_
  refine g_topH (fun h4 eh4 => ?_)
  have hf := lE_s hf eh4
  refine g_aload_n (ps := 0) dX4_tell_14 rfl rfl ?_
  refine g_iconst (v := (-1)) dX4_tell_15 (by decide +kernel) ?_
  refine g_putI cf4 hv0 nX4_tell_X4 (j := 4) (by decide) rfl mX4_tell_25 rfl dX4_tell_16 ?_
  refine g_topH (fun h5 eh5 => ?_)
  have hf := lE_s hf eh5
  refine g_iconst (v := 0) dX4_tell_19 (by decide +kernel) ?_
  refine g_istore_n (L' := [(2, .int 0), (0, .ref v0), (1, .ref v1)]) dX4_tell_20 rfl (by decide) rfl ?_
  exact g_pick [1, 2, 0] rfl (ulX4_tell_21 hW hv0 hv1 hf)
theorem kX4_tell {S : Shp} {n : Nat} {r : Rf} {v0 : Nat} {v1 : Nat} {h : Hp} {o : (Int32 × Hp)} (hW : WF S r) (hv0 : S[v0]? = some (4, 5)) (hv1 : S[v1]? = some (1, 12)) (hf : fX4_tell n r v0 v1 h = some o) : CTi yX4_tell wsX4_tell rmX4_tell S r [.ref v0, .ref v1] h r o.1 o.2 :=
  cti_of rfl (by decide +kernel) rfl (Nat.le_of_ble_eq_true rfl) rfl (uX4_tell hW hv0 hv1 hf)
/-! X5_feed feed -/
def rmX5_feed : Room := { frames := 1, cells := 0, slots := 0, locals := 22 }
abbrev GX5_feed (S : Shp) (r r' : Rf) (out : Option Int32 × Hp) (pc : Nat) (L : List (Nat × Value)) (st : List Value) (h : Hp) : Prop := G RX5 cX5_feed 2 (some .int) wsX5_feed rmX5_feed S r r' out pc L st h
theorem nX5_feed_X4 : ∀ w ∈ wsX40, w ∈ wsX5_feed := by decide +kernel
theorem nX5_feed_X5 : ∀ w ∈ wsX50, w ∈ wsX5_feed := by decide +kernel
theorem mX5_feed_68 : Cond.constant RX5 68 (-1000000002) ∈ wsX5_feed := by decide +kernel
theorem mX5_feed_72 : Cond.constant RX5 72 (-1000000004) ∈ wsX5_feed := by decide +kernel
theorem mX5_feed_12 : Cond.fieldLink RX5 12 "LinkedIsles" "text" "LLinkedIsles$Text;" ∈ wsX5_feed := by decide +kernel
theorem mX5_feed_69 : Cond.fieldLink RX5 69 "LinkedIsles$Text" "count" "I" ∈ wsX5_feed := by decide +kernel
theorem hdX5_feed : yX5_feed.cls ≠ "java/lang/invoke/MethodHandle" ∧ yX5_feed.cls ≠ "java/lang/invoke/VarHandle" ∧ (parseMethodDescriptor yX5_feed.desc).map (fun d => d.parameters.length) = some 1 := by decide +kernel
def fX5_feed (n : Nat) (r : Rf) (v0 : Nat) (v1 : Int32) (h : Hp) : Option (Int32 × Hp) :=
  (fX5_isWithin n r v1 0 255 h).bind (fun (x2 : Int32) => if x2 = 0 then (some ((-1000000002), h)) else (if (h.1 (r v0 0) 1) < 240 then (bd2 (fX4_add n r (r v0 0) v1 h) (fun (x6 : Int32) (h7 : Hp) => some (x6, h7))) else (some ((-1000000004), h))))
set_option maxHeartbeats 4000000 in
set_option maxRecDepth 100000 in
theorem uX5_feed {S : Shp} {n : Nat} {r : Rf} {v0 : Nat} {v1 : Int32} {h : Hp} {o : (Int32 × Hp)} (hW : WF S r) (hv0 : S[v0]? = some (5, 11)) (hf : fX5_feed n r v0 v1 h = some o) : GX5_feed S r r (some o.1, o.2) 0 [(0, .ref v0), (1, .int v1)] [] h := by
  unfold fX5_feed at hf
  refine g_iload_n (ps := 1) dX5_feed_0 rfl rfl ?_
  refine g_iconst (v := 0) dX5_feed_1 (by decide +kernel) ?_
  refine g_sipush (v := 255) dX5_feed_2 (by decide +kernel) ?_
  obtain ⟨x2, e1, hf⟩ := bd_s hf
  refine g_callSi (As := [.int v1, .int 0, .int 255]) (n := 3) (kX5_isWithin hW  e1) gX5_feed_X5_isWithin rfl ⟨rfl, rfl⟩ hdX5_isWithin ⟨Nat.le_of_ble_eq_true rfl, Nat.le_of_ble_eq_true rfl⟩ rfl rfl (Nat.le_of_ble_eq_true rfl) dX5_feed_5 ?_
  refine g_if_ne (tgt := 14) dX5_feed_8 (by decide) (fun c3 => ?_) (fun c3 => ?_)
  · have hf := if_f hf c3
    refine g_aload_n (ps := 0) dX5_feed_14 rfl rfl ?_
    refine g_getR cf5 hv0 nX5_feed_X5 (j := 0) (by decide) rfl mX5_feed_12 dX5_feed_15 ?_
    refine g_getI cf4 (hW _ _ _ hv0 0 _ rfl) nX5_feed_X4 (j := 1) (by decide) rfl mX5_feed_69 dX5_feed_18 ?_
    refine g_sipush (v := 240) dX5_feed_21 (by decide +kernel) ?_
    refine g_icmp_lt (tgt := 30) dX5_feed_24 (by decide) (fun c4 => ?_) (fun c4 => ?_)
    · have hf := if_t hf c4
      refine g_aload_n (ps := 0) dX5_feed_30 rfl rfl ?_
      refine g_getR cf5 hv0 nX5_feed_X5 (j := 0) (by decide) rfl mX5_feed_12 dX5_feed_31 ?_
      refine g_iload_n (ps := 1) dX5_feed_34 rfl rfl ?_
      obtain ⟨x6, h7, e5, hf⟩ := bd2_s hf
      refine g_callVi (As := [.int v1]) (n := 1) (kX4_add hW (hW _ _ _ hv0 0 _ rfl) e5) gX5_feed_X4_add rfl ⟨rfl, rfl⟩ ⟨rfl, hdX4_add⟩ ⟨Nat.le_of_ble_eq_true rfl, Nat.le_of_ble_eq_true rfl⟩ cf4 (hW _ _ _ hv0 0 _ rfl) rfl rfl (Nat.le_of_ble_eq_true rfl) dX5_feed_35 ?_
      have hf := Option.some.inj hf
      subst hf
      exact g_iret dX5_feed_38
    · have hf := if_f hf c4
      refine g_ldc (v := (-1000000004)) mX5_feed_72 dX5_feed_27 ?_
      have hf := Option.some.inj hf
      subst hf
      exact g_iret dX5_feed_29
  · have hf := if_t hf c3
    refine g_ldc (v := (-1000000002)) mX5_feed_68 dX5_feed_11 ?_
    have hf := Option.some.inj hf
    subst hf
    exact g_iret dX5_feed_13
theorem kX5_feed {S : Shp} {n : Nat} {r : Rf} {v0 : Nat} {v1 : Int32} {h : Hp} {o : (Int32 × Hp)} (hW : WF S r) (hv0 : S[v0]? = some (5, 11)) (hf : fX5_feed n r v0 v1 h = some o) : CTi yX5_feed wsX5_feed rmX5_feed S r [.ref v0, .int v1] h r o.1 o.2 :=
  cti_of rfl (by decide +kernel) rfl (Nat.le_of_ble_eq_true rfl) rfl (uX5_feed hW hv0 hf)
/-! X5_sea sea -/
def rmX5_sea : Room := { frames := 6, cells := 0, slots := 0, locals := 136 }
abbrev GX5_sea (S : Shp) (r r' : Rf) (out : Option Int32 × Hp) (pc : Nat) (L : List (Nat × Value)) (st : List Value) (h : Hp) : Prop := G RX5 cX5_sea 3 (some .int) wsX5_sea rmX5_sea S r r' out pc L st h
theorem nX5_sea_X1 : ∀ w ∈ wsX10, w ∈ wsX5_sea := by decide +kernel
theorem nX5_sea_X5 : ∀ w ∈ wsX50, w ∈ wsX5_sea := by decide +kernel
theorem mX5_sea_12 : Cond.fieldLink RX5 12 "LinkedIsles" "text" "LLinkedIsles$Text;" ∈ wsX5_sea := by decide +kernel
theorem mX5_sea_19 : Cond.fieldLink RX5 19 "LinkedIsles" "chart" "LLinkedIsles$Chart;" ∈ wsX5_sea := by decide +kernel
theorem mX5_sea_23 : Cond.fieldLink RX5 23 "LinkedIsles" "draft" "LLinkedIsles$Chart;" ∈ wsX5_sea := by decide +kernel
theorem mX5_sea_29 : Cond.fieldLink RX5 29 "LinkedIsles" "now" "LLinkedIsles$Bonds;" ∈ wsX5_sea := by decide +kernel
theorem mX5_sea_39 : Cond.fieldLink RX5 39 "LinkedIsles" "log" "LLinkedIsles$Log;" ∈ wsX5_sea := by decide +kernel
theorem mX5_sea_46 : Cond.fieldLink RX5 46 "LinkedIsles" "talk" "LLinkedIsles$Talk;" ∈ wsX5_sea := by decide +kernel
theorem mX5_sea_57 : Cond.fieldLink RX5 57 "LinkedIsles" "imagesKept" "I" ∈ wsX5_sea := by decide +kernel
theorem mX5_sea_89 : Cond.fieldLink RX5 89 "LinkedIsles$Chart" "links" "I" ∈ wsX5_sea := by decide +kernel
theorem hdX5_sea : yX5_sea.cls ≠ "java/lang/invoke/MethodHandle" ∧ yX5_sea.cls ≠ "java/lang/invoke/VarHandle" ∧ (parseMethodDescriptor yX5_sea.desc).map (fun d => d.parameters.length) = some 0 := by decide +kernel
def fX5_sea (n : Nat) (r : Rf) (v0 : Nat) (h : Hp) : Option (Int32 × Hp × Rf) :=
  bd2 (fX4_tell n r (r v0 0) (r v0 2) h) (fun (x2 : Int32) (h3 : Hp) => if x2 = 0 then (lE (pR r v0 1 (r v0 2)) (fun (r5 : Rf) => lE (pR r5 v0 2 (r v0 1)) (fun (r6 : Rf) => (fX0_begin n r6 (r6 v0 3) (r6 v0 1) h3).bind (fun (h8 : Hp) => (fX2_forget n r6 (r6 v0 5) h8).bind (fun (h10 : Hp) => (fX3_forget n r6 (r6 v0 6) h10).bind (fun (h12 : Hp) => lE (pI h12 v0 9 0) (fun (h13 : Hp) => some ((h13.1 (r6 v0 1) 10), h13, r6)))))))) else (some (((-10) - x2), h3, r)))
set_option maxHeartbeats 4000000 in
set_option maxRecDepth 100000 in
theorem uX5_sea {S : Shp} {n : Nat} {r : Rf} {v0 : Nat} {h : Hp} {o : (Int32 × Hp × Rf)} (hW : WF S r) (hv0 : S[v0]? = some (5, 11)) (hf : fX5_sea n r v0 h = some o) : GX5_sea S r o.2.2 (some o.1, o.2.1) 0 [(0, .ref v0)] [] h := by
  unfold fX5_sea at hf
  refine g_aload_n (ps := 0) dX5_sea_0 rfl rfl ?_
  refine g_getR cf5 hv0 nX5_sea_X5 (j := 0) (by decide) rfl mX5_sea_12 dX5_sea_1 ?_
  refine g_aload_n (ps := 0) dX5_sea_4 rfl rfl ?_
  refine g_getR cf5 hv0 nX5_sea_X5 (j := 2) (by decide) rfl mX5_sea_23 dX5_sea_5 ?_
  obtain ⟨x2, h3, e1, hf⟩ := bd2_s hf
  refine g_callVi (As := [.ref (r v0 2)]) (n := 1) (kX4_tell hW (hW _ _ _ hv0 0 _ rfl) (hW _ _ _ hv0 2 _ rfl) e1) gX5_sea_X4_tell rfl ⟨rfl, rfl⟩ ⟨rfl, hdX4_tell⟩ ⟨Nat.le_of_ble_eq_true rfl, Nat.le_of_ble_eq_true rfl⟩ cf4 (hW _ _ _ hv0 0 _ rfl) rfl rfl (Nat.le_of_ble_eq_true rfl) dX5_sea_8 ?_
  refine g_istore_n (L' := [(1, .int x2), (0, .ref v0)]) dX5_sea_11 rfl (by decide) rfl ?_
  refine g_iload_n (ps := 0) dX5_sea_12 rfl rfl ?_
  refine g_if_eq (tgt := 21) dX5_sea_13 (by decide) (fun c4 => ?_) (fun c4 => ?_)
  · have hf := if_t hf c4
    refine g_aload_n (ps := 1) dX5_sea_21 rfl rfl ?_
    refine g_getR cf5 hv0 nX5_sea_X5 (j := 1) (by decide) rfl mX5_sea_19 dX5_sea_22 ?_
    refine g_astore_n (L' := [(2, .ref (r v0 1)), (1, .int x2), (0, .ref v0)]) dX5_sea_25 rfl (by decide) rfl ?_
    refine g_aload_n (ps := 2) dX5_sea_26 rfl rfl ?_
    refine g_aload_n (ps := 2) dX5_sea_27 rfl rfl ?_
    refine g_getR cf5 hv0 nX5_sea_X5 (j := 2) (by decide) rfl mX5_sea_23 dX5_sea_28 ?_
    refine g_putR cf5 hv0 nX5_sea_X5 (j := 1) (by decide) rfl mX5_sea_19 rfl ⟨_, rfl⟩ (v := (r v0 2)) dX5_sea_31 ?_
    refine g_topR (fun r5 er5 => ?_)
    have hf := lE_s hf er5
    have hWr5 : WF S r5 := by rw [er5]; exact WF.put hW hv0 (j := 1) rfl (hW _ _ _ hv0 2 _ rfl)
    refine g_aload_n (ps := 2) dX5_sea_34 rfl rfl ?_
    refine g_aload_n (ps := 0) dX5_sea_35 rfl rfl ?_
    refine g_putR cf5 hv0 nX5_sea_X5 (j := 2) (by decide) rfl mX5_sea_23 rfl ⟨_, rfl⟩ (v := (r v0 1)) dX5_sea_36 ?_
    refine g_topR (fun r6 er6 => ?_)
    have hf := lE_s hf er6
    have hWr6 : WF S r6 := by rw [er6]; exact WF.put hWr5 hv0 (j := 2) rfl (hW _ _ _ hv0 1 _ rfl)
    refine g_aload_n (ps := 2) dX5_sea_39 rfl rfl ?_
    refine g_getR cf5 hv0 nX5_sea_X5 (j := 3) (by decide) rfl mX5_sea_29 dX5_sea_40 ?_
    refine g_aload_n (ps := 2) dX5_sea_43 rfl rfl ?_
    refine g_getR cf5 hv0 nX5_sea_X5 (j := 1) (by decide) rfl mX5_sea_19 dX5_sea_44 ?_
    obtain ⟨h8, e7, hf⟩ := bd_s hf
    refine g_callVv (As := [.ref (r6 v0 1)]) (n := 1) (kX0_begin hWr6 (hWr6 _ _ _ hv0 3 _ rfl) (hWr6 _ _ _ hv0 1 _ rfl) e7) gX5_sea_X0_begin rfl ⟨rfl, rfl⟩ ⟨rfl, hdX0_begin⟩ ⟨Nat.le_of_ble_eq_true rfl, Nat.le_of_ble_eq_true rfl⟩ cf0 (hWr6 _ _ _ hv0 3 _ rfl) rfl rfl (Nat.le_of_ble_eq_true rfl) dX5_sea_47 ?_
    refine g_aload_n (ps := 2) dX5_sea_50 rfl rfl ?_
    refine g_getR cf5 hv0 nX5_sea_X5 (j := 5) (by decide) rfl mX5_sea_39 dX5_sea_51 ?_
    obtain ⟨h10, e9, hf⟩ := bd_s hf
    refine g_callVv (As := []) (n := 0) (kX2_forget hWr6 (hWr6 _ _ _ hv0 5 _ rfl) e9) gX5_sea_X2_forget rfl ⟨rfl, rfl⟩ ⟨rfl, hdX2_forget⟩ ⟨Nat.le_of_ble_eq_true rfl, Nat.le_of_ble_eq_true rfl⟩ cf2 (hWr6 _ _ _ hv0 5 _ rfl) rfl rfl (Nat.le_of_ble_eq_true rfl) dX5_sea_54 ?_
    refine g_aload_n (ps := 2) dX5_sea_57 rfl rfl ?_
    refine g_getR cf5 hv0 nX5_sea_X5 (j := 6) (by decide) rfl mX5_sea_46 dX5_sea_58 ?_
    obtain ⟨h12, e11, hf⟩ := bd_s hf
    refine g_callVv (As := []) (n := 0) (kX3_forget hWr6 (hWr6 _ _ _ hv0 6 _ rfl) e11) gX5_sea_X3_forget rfl ⟨rfl, rfl⟩ ⟨rfl, hdX3_forget⟩ ⟨Nat.le_of_ble_eq_true rfl, Nat.le_of_ble_eq_true rfl⟩ cf3 (hWr6 _ _ _ hv0 6 _ rfl) rfl rfl (Nat.le_of_ble_eq_true rfl) dX5_sea_61 ?_
    refine g_aload_n (ps := 2) dX5_sea_64 rfl rfl ?_
    refine g_iconst (v := 0) dX5_sea_65 (by decide +kernel) ?_
    refine g_putI cf5 hv0 nX5_sea_X5 (j := 9) (by decide) rfl mX5_sea_57 rfl dX5_sea_66 ?_
    refine g_topH (fun h13 eh13 => ?_)
    have hf := lE_s hf eh13
    refine g_aload_n (ps := 2) dX5_sea_69 rfl rfl ?_
    refine g_getR cf5 hv0 nX5_sea_X5 (j := 1) (by decide) rfl mX5_sea_19 dX5_sea_70 ?_
    refine g_getI cf1 (hWr6 _ _ _ hv0 1 _ rfl) nX5_sea_X1 (j := 10) (by decide) rfl mX5_sea_89 dX5_sea_73 ?_
    have hf := Option.some.inj hf
    subst hf
    exact g_iret dX5_sea_76
  · have hf := if_f hf c4
    refine g_bipush (v := (-10)) dX5_sea_16 (by decide +kernel) ?_
    refine g_iload_n (ps := 0) dX5_sea_18 rfl rfl ?_
    refine g_isub dX5_sea_19 ?_
    have hf := Option.some.inj hf
    subst hf
    exact g_iret dX5_sea_20
theorem kX5_sea {S : Shp} {n : Nat} {r : Rf} {v0 : Nat} {h : Hp} {o : (Int32 × Hp × Rf)} (hW : WF S r) (hv0 : S[v0]? = some (5, 11)) (hf : fX5_sea n r v0 h = some o) : CTi yX5_sea wsX5_sea rmX5_sea S r [.ref v0] h o.2.2 o.1 o.2.1 :=
  cti_of rfl (by decide +kernel) rfl (Nat.le_of_ble_eq_true rfl) rfl (uX5_sea hW hv0 hf)
/-! X5_fault fault -/
def rmX5_fault : Room := { frames := 0, cells := 0, slots := 0, locals := 0 }
abbrev GX5_fault (S : Shp) (r r' : Rf) (out : Option Int32 × Hp) (pc : Nat) (L : List (Nat × Value)) (st : List Value) (h : Hp) : Prop := G RX5 cX5_fault 1 (some .int) wsX5_fault rmX5_fault S r r' out pc L st h
theorem nX5_fault_X4 : ∀ w ∈ wsX40, w ∈ wsX5_fault := by decide +kernel
theorem nX5_fault_X5 : ∀ w ∈ wsX50, w ∈ wsX5_fault := by decide +kernel
theorem mX5_fault_12 : Cond.fieldLink RX5 12 "LinkedIsles" "text" "LLinkedIsles$Text;" ∈ wsX5_fault := by decide +kernel
theorem mX5_fault_92 : Cond.fieldLink RX5 92 "LinkedIsles$Text" "faultAt" "I" ∈ wsX5_fault := by decide +kernel
theorem hdX5_fault : yX5_fault.cls ≠ "java/lang/invoke/MethodHandle" ∧ yX5_fault.cls ≠ "java/lang/invoke/VarHandle" ∧ (parseMethodDescriptor yX5_fault.desc).map (fun d => d.parameters.length) = some 0 := by decide +kernel
def fX5_fault (n : Nat) (r : Rf) (v0 : Nat) (h : Hp) : Option Int32 :=
  some (h.1 (r v0 0) 4)
set_option maxHeartbeats 4000000 in
set_option maxRecDepth 100000 in
theorem uX5_fault {S : Shp} {n : Nat} {r : Rf} {v0 : Nat} {h : Hp} {o : Int32} (hW : WF S r) (hv0 : S[v0]? = some (5, 11)) (hf : fX5_fault n r v0 h = some o) : GX5_fault S r r (some o, h) 0 [(0, .ref v0)] [] h := by
  unfold fX5_fault at hf
  refine g_aload_n (ps := 0) dX5_fault_0 rfl rfl ?_
  refine g_getR cf5 hv0 nX5_fault_X5 (j := 0) (by decide) rfl mX5_fault_12 dX5_fault_1 ?_
  refine g_getI cf4 (hW _ _ _ hv0 0 _ rfl) nX5_fault_X4 (j := 4) (by decide) rfl mX5_fault_92 dX5_fault_4 ?_
  have hf := Option.some.inj hf
  subst hf
  exact g_iret dX5_fault_7
theorem kX5_fault {S : Shp} {n : Nat} {r : Rf} {v0 : Nat} {h : Hp} {o : Int32} (hW : WF S r) (hv0 : S[v0]? = some (5, 11)) (hf : fX5_fault n r v0 h = some o) : CTi yX5_fault wsX5_fault rmX5_fault S r [.ref v0] h r o h :=
  cti_of rfl (by decide +kernel) rfl (Nat.le_of_ble_eq_true rfl) rfl (uX5_fault hW hv0 hf)
/-! X5_doneUpWithout doneUpWithout -/
def rmX5_doneUpWithout : Room := { frames := 0, cells := 0, slots := 0, locals := 0 }
abbrev GX5_doneUpWithout (S : Shp) (r r' : Rf) (out : Option Int32 × Hp) (pc : Nat) (L : List (Nat × Value)) (st : List Value) (h : Hp) : Prop := G RX5 cX5_doneUpWithout 2 (some .int) wsX5_doneUpWithout rmX5_doneUpWithout S r r' out pc L st h
theorem nX5_doneUpWithout_X0 : ∀ w ∈ wsX00, w ∈ wsX5_doneUpWithout := by decide +kernel
theorem nX5_doneUpWithout_X5 : ∀ w ∈ wsX50, w ∈ wsX5_doneUpWithout := by decide +kernel
theorem mX5_doneUpWithout_110 : Cond.fieldLink RX5 110 "LinkedIsles$Bonds" "doneUp" "I" ∈ wsX5_doneUpWithout := by decide +kernel
theorem mX5_doneUpWithout_29 : Cond.fieldLink RX5 29 "LinkedIsles" "now" "LLinkedIsles$Bonds;" ∈ wsX5_doneUpWithout := by decide +kernel
theorem hdX5_doneUpWithout : yX5_doneUpWithout.cls ≠ "java/lang/invoke/MethodHandle" ∧ yX5_doneUpWithout.cls ≠ "java/lang/invoke/VarHandle" ∧ (parseMethodDescriptor yX5_doneUpWithout.desc).map (fun d => d.parameters.length) = some 1 := by decide +kernel
def fX5_doneUpWithout (n : Nat) (r : Rf) (v0 : Nat) (v1 : Int32) (h : Hp) : Option Int32 :=
  some ((h.1 (r v0 3) 1) &&& ((1 <<< (v1 &&& 31)) ^^^ (-1)))
set_option maxHeartbeats 4000000 in
set_option maxRecDepth 100000 in
theorem uX5_doneUpWithout {S : Shp} {n : Nat} {r : Rf} {v0 : Nat} {v1 : Int32} {h : Hp} {o : Int32} (hW : WF S r) (hv0 : S[v0]? = some (5, 11)) (hf : fX5_doneUpWithout n r v0 v1 h = some o) : GX5_doneUpWithout S r r (some o, h) 0 [(0, .ref v0), (1, .int v1)] [] h := by
  unfold fX5_doneUpWithout at hf
  refine g_aload_n (ps := 0) dX5_doneUpWithout_0 rfl rfl ?_
  refine g_getR cf5 hv0 nX5_doneUpWithout_X5 (j := 3) (by decide) rfl mX5_doneUpWithout_29 dX5_doneUpWithout_1 ?_
  refine g_getI cf0 (hW _ _ _ hv0 3 _ rfl) nX5_doneUpWithout_X0 (j := 1) (by decide) rfl mX5_doneUpWithout_110 dX5_doneUpWithout_4 ?_
  refine g_iconst (v := 1) dX5_doneUpWithout_7 (by decide +kernel) ?_
  refine g_iload_n (ps := 1) dX5_doneUpWithout_8 rfl rfl ?_
  refine g_ishl dX5_doneUpWithout_9 ?_
  refine g_iconst (v := (-1)) dX5_doneUpWithout_10 (by decide +kernel) ?_
  refine g_ixor dX5_doneUpWithout_11 ?_
  refine g_iand dX5_doneUpWithout_12 ?_
  have hf := Option.some.inj hf
  subst hf
  exact g_iret dX5_doneUpWithout_13
theorem kX5_doneUpWithout {S : Shp} {n : Nat} {r : Rf} {v0 : Nat} {v1 : Int32} {h : Hp} {o : Int32} (hW : WF S r) (hv0 : S[v0]? = some (5, 11)) (hf : fX5_doneUpWithout n r v0 v1 h = some o) : CTi yX5_doneUpWithout wsX5_doneUpWithout rmX5_doneUpWithout S r [.ref v0, .int v1] h r o h :=
  cti_of rfl (by decide +kernel) rfl (Nat.le_of_ble_eq_true rfl) rfl (uX5_doneUpWithout hW hv0 hf)
/-! X5_linksAlone linksAlone -/
def rmX5_linksAlone : Room := { frames := 4, cells := 0, slots := 0, locals := 94 }
abbrev GX5_linksAlone (S : Shp) (r r' : Rf) (out : Option Int32 × Hp) (pc : Nat) (L : List (Nat × Value)) (st : List Value) (h : Hp) : Prop := G RX5 cX5_linksAlone 4 (some .int) wsX5_linksAlone rmX5_linksAlone S r r' out pc L st h
theorem nX5_linksAlone_X0 : ∀ w ∈ wsX00, w ∈ wsX5_linksAlone := by decide +kernel
theorem nX5_linksAlone_X1 : ∀ w ∈ wsX10, w ∈ wsX5_linksAlone := by decide +kernel
theorem nX5_linksAlone_X5 : ∀ w ∈ wsX50, w ∈ wsX5_linksAlone := by decide +kernel
theorem mX5_linksAlone_110 : Cond.fieldLink RX5 110 "LinkedIsles$Bonds" "doneUp" "I" ∈ wsX5_linksAlone := by decide +kernel
theorem mX5_linksAlone_19 : Cond.fieldLink RX5 19 "LinkedIsles" "chart" "LLinkedIsles$Chart;" ∈ wsX5_linksAlone := by decide +kernel
theorem mX5_linksAlone_29 : Cond.fieldLink RX5 29 "LinkedIsles" "now" "LLinkedIsles$Bonds;" ∈ wsX5_linksAlone := by decide +kernel
theorem mX5_linksAlone_89 : Cond.fieldLink RX5 89 "LinkedIsles$Chart" "links" "I" ∈ wsX5_linksAlone := by decide +kernel
theorem hdX5_linksAlone : yX5_linksAlone.cls ≠ "java/lang/invoke/MethodHandle" ∧ yX5_linksAlone.cls ≠ "java/lang/invoke/VarHandle" ∧ (parseMethodDescriptor yX5_linksAlone.desc).map (fun d => d.parameters.length) = some 0 := by decide +kernel
def bX5_linksAlone_19 (n : Nat) (r : Rf) (v0 : Nat) (v1 : Int32) (v2 : Int32) (v3 : Int32) (h : Hp) : Option ((Int32 × Int32) ⊕ (Int32)) :=
  if (h.1 (r v0 1) 10) ≤ v3 then (some (.inr v2)) else ((fX5_has n r (h.1 (r v0 3) 1) v3 h).bind (fun (x5 : Int32) => if x5 = 0 then (lE (v3 + 1) (fun (x7 : Int32) => some (.inl (v2, x7)))) else ((fX5_doneUpWithout n r v0 v3 h).bind (fun (x9 : Int32) => (fX1_partsBy n r (r v0 1) x9 h).bind (fun (x11 : Int32) => if x11 ≤ v1 then (lE (v3 + 1) (fun (x13 : Int32) => some (.inl (v2, x13)))) else (lE ((v2 ||| (1 <<< (v3 &&& 31)))) (fun (x14 : Int32) => lE (v3 + 1) (fun (x15 : Int32) => some (.inl (x14, x15))))))))))
def lX5_linksAlone_19 (n : Nat) (r : Rf) (v0 : Nat) (v1 : Int32) (v2 : Int32) (v3 : Int32) (h : Hp) : Option Int32 :=
  (it (fun (s : Int32 × Int32) => bX5_linksAlone_19 n r v0 v1 s.1 s.2 h) n (v2, v3)).bind (fun z => some z)
def fX5_linksAlone (n : Nat) (r : Rf) (v0 : Nat) (h : Hp) : Option Int32 :=
  (fX1_partsBy n r (r v0 1) (h.1 (r v0 3) 1) h).bind (fun (x2 : Int32) => lX5_linksAlone_19 n r v0 x2 0 0 h)
set_option maxHeartbeats 4000000 in
set_option maxRecDepth 100000 in
theorem ubX5_linksAlone_19 {S : Shp} {n : Nat} {r : Rf} {out : Option Int32 × Hp} {r' : Rf} {v0 : Nat} {v1 : Int32} {v2 : Int32} {v3 : Int32}  {h : Hp} {w : (Int32 × Int32) ⊕ (Int32)} (hW : WF S r) (hv0 : S[v0]? = some (5, 11)) (hf : bX5_linksAlone_19 n r v0 v1 v2 v3 h = some w) (hk : ∀ y, w = .inl y → GX5_linksAlone S r r' out 19 [(0, .ref v0), (1, .int v1), (2, .int (y.1)), (3, .int (y.2))] [] h) (he : ∀ z, w = .inr z → GX5_linksAlone S r r' out 72 [(0, .ref v0), (2, .int (z))] [] h) : GX5_linksAlone S r r' out 19 [(0, .ref v0), (1, .int v1), (2, .int v2), (3, .int v3)] [] h := by
  unfold bX5_linksAlone_19 at hf
  refine g_iload_n (ps := 3) dX5_linksAlone_19 rfl rfl ?_
  refine g_aload_n (ps := 0) dX5_linksAlone_20 rfl rfl ?_
  refine g_getR cf5 hv0 nX5_linksAlone_X5 (j := 1) (by decide) rfl mX5_linksAlone_19 dX5_linksAlone_21 ?_
  refine g_getI cf1 (hW _ _ _ hv0 1 _ rfl) nX5_linksAlone_X1 (j := 10) (by decide) rfl mX5_linksAlone_89 dX5_linksAlone_24 ?_
  refine g_icmp_ge (tgt := 72) dX5_linksAlone_27 (by decide) (fun c3 => ?_) (fun c3 => ?_)
  · have hf := if_t hf c3
    exact g_pick [0, 2] rfl (he _ (Option.some.inj hf).symm)
  · have hf := if_f hf c3
    refine g_aload_n (ps := 0) dX5_linksAlone_30 rfl rfl ?_
    refine g_getR cf5 hv0 nX5_linksAlone_X5 (j := 3) (by decide) rfl mX5_linksAlone_29 dX5_linksAlone_31 ?_
    refine g_getI cf0 (hW _ _ _ hv0 3 _ rfl) nX5_linksAlone_X0 (j := 1) (by decide) rfl mX5_linksAlone_110 dX5_linksAlone_34 ?_
    refine g_iload_n (ps := 3) dX5_linksAlone_37 rfl rfl ?_
    obtain ⟨x5, e4, hf⟩ := bd_s hf
    refine g_callSi (As := [.int (h.1 (r v0 3) 1), .int v3]) (n := 2) (kX5_has hW  e4) gX5_linksAlone_X5_has rfl ⟨rfl, rfl⟩ hdX5_has ⟨Nat.le_of_ble_eq_true rfl, Nat.le_of_ble_eq_true rfl⟩ rfl rfl (Nat.le_of_ble_eq_true rfl) dX5_linksAlone_38 ?_
    refine g_if_eq (tgt := 66) dX5_linksAlone_41 (by decide) (fun c6 => ?_) (fun c6 => ?_)
    · have hf := if_t hf c6
      obtain ⟨x7, ex7⟩ : ∃ y : Int32, y = v3 + 1 := ⟨_, rfl⟩
      have hf := lE_s hf ex7
      refine g_iinc (ps := 3) (v := x7) (L' := [(3, .int x7), (0, .ref v0), (1, .int v1), (2, .int v2)]) dX5_linksAlone_66 rfl (by rw [ex7]; rfl) (by decide) rfl ?_
      refine g_goto (tgt := 19) dX5_linksAlone_69 (by decide) ?_
      exact g_pick [1, 2, 3, 0] rfl (hk _ (Option.some.inj hf).symm)
    · have hf := if_f hf c6
      refine g_aload_n (ps := 0) dX5_linksAlone_44 rfl rfl ?_
      refine g_getR cf5 hv0 nX5_linksAlone_X5 (j := 1) (by decide) rfl mX5_linksAlone_19 dX5_linksAlone_45 ?_
      refine g_aload_n (ps := 0) dX5_linksAlone_48 rfl rfl ?_
      refine g_iload_n (ps := 3) dX5_linksAlone_49 rfl rfl ?_
      obtain ⟨x9, e8, hf⟩ := bd_s hf
      refine g_callVi (As := [.int v3]) (n := 1) (kX5_doneUpWithout hW hv0 e8) gX5_linksAlone_X5_doneUpWithout rfl ⟨rfl, rfl⟩ ⟨rfl, hdX5_doneUpWithout⟩ ⟨Nat.le_of_ble_eq_true rfl, Nat.le_of_ble_eq_true rfl⟩ cf5 hv0 rfl rfl (Nat.le_of_ble_eq_true rfl) dX5_linksAlone_50 ?_
      obtain ⟨x11, e10, hf⟩ := bd_s hf
      refine g_callVi (As := [.int x9]) (n := 1) (kX1_partsBy hW (hW _ _ _ hv0 1 _ rfl) e10) gX5_linksAlone_X1_partsBy rfl ⟨rfl, rfl⟩ ⟨rfl, hdX1_partsBy⟩ ⟨Nat.le_of_ble_eq_true rfl, Nat.le_of_ble_eq_true rfl⟩ cf1 (hW _ _ _ hv0 1 _ rfl) rfl rfl (Nat.le_of_ble_eq_true rfl) dX5_linksAlone_53 ?_
      refine g_iload_n (ps := 1) dX5_linksAlone_56 rfl rfl ?_
      refine g_icmp_le (tgt := 66) dX5_linksAlone_57 (by decide) (fun c12 => ?_) (fun c12 => ?_)
      · have hf := if_t hf c12
        obtain ⟨x13, ex13⟩ : ∃ y : Int32, y = v3 + 1 := ⟨_, rfl⟩
        have hf := lE_s hf ex13
        refine g_iinc (ps := 3) (v := x13) (L' := [(3, .int x13), (0, .ref v0), (1, .int v1), (2, .int v2)]) dX5_linksAlone_66 rfl (by rw [ex13]; rfl) (by decide) rfl ?_
        refine g_goto (tgt := 19) dX5_linksAlone_69 (by decide) ?_
        exact g_pick [1, 2, 3, 0] rfl (hk _ (Option.some.inj hf).symm)
      · have hf := if_f hf c12
        refine g_iload_n (ps := 2) dX5_linksAlone_60 rfl rfl ?_
        refine g_iconst (v := 1) dX5_linksAlone_61 (by decide +kernel) ?_
        refine g_iload_n (ps := 3) dX5_linksAlone_62 rfl rfl ?_
        refine g_ishl dX5_linksAlone_63 ?_
        refine g_ior dX5_linksAlone_64 ?_
        refine g_topi (fun x14 ex14 => ?_)
        have hf := lE_s hf ex14
        refine g_istore_n (L' := [(2, .int x14), (0, .ref v0), (1, .int v1), (3, .int v3)]) dX5_linksAlone_65 rfl (by decide) rfl ?_
        obtain ⟨x15, ex15⟩ : ∃ y : Int32, y = v3 + 1 := ⟨_, rfl⟩
        have hf := lE_s hf ex15
        refine g_iinc (ps := 3) (v := x15) (L' := [(3, .int x15), (2, .int x14), (0, .ref v0), (1, .int v1)]) dX5_linksAlone_66 rfl (by rw [ex15]; rfl) (by decide) rfl ?_
        refine g_goto (tgt := 19) dX5_linksAlone_69 (by decide) ?_
        exact g_pick [2, 3, 1, 0] rfl (hk _ (Option.some.inj hf).symm)
set_option maxHeartbeats 4000000 in
set_option maxRecDepth 100000 in
theorem ulX5_linksAlone_19 {S : Shp} {n : Nat} {r : Rf} {v0 : Nat} {v1 : Int32} {v2 : Int32} {v3 : Int32}  {h : Hp} {o : Int32} (hW : WF S r) (hv0 : S[v0]? = some (5, 11)) (hf : lX5_linksAlone_19 n r v0 v1 v2 v3 h = some o)  : GX5_linksAlone S r r (some o, h) 19 [(0, .ref v0), (1, .int v1), (2, .int v2), (3, .int v3)] [] h := by
  unfold lX5_linksAlone_19 at hf
  obtain ⟨z0, ei, hf⟩ := bd_s hf
  refine it_ind (P := fun (s : Int32 × Int32) => GX5_linksAlone S r r (some o, h) 19 [(0, .ref v0), (1, .int v1), (2, .int (s.1)), (3, .int (s.2))] [] h) (fun s w hb hk2 he2 => ?_) n _ ei
  refine ubX5_linksAlone_19 (out := (some o, h)) (r' := r) hW hv0 hb hk2 (fun z hz => ?_)
  have hz := he2 z hz
  subst hz
  refine g_iload_n (ps := 1) dX5_linksAlone_72 rfl rfl ?_
  have hf := Option.some.inj hf
  subst hf
  exact g_iret dX5_linksAlone_73
set_option maxHeartbeats 4000000 in
set_option maxRecDepth 100000 in
theorem uX5_linksAlone {S : Shp} {n : Nat} {r : Rf} {v0 : Nat} {h : Hp} {o : Int32} (hW : WF S r) (hv0 : S[v0]? = some (5, 11)) (hf : fX5_linksAlone n r v0 h = some o) : GX5_linksAlone S r r (some o, h) 0 [(0, .ref v0)] [] h := by
  unfold fX5_linksAlone at hf
  refine g_aload_n (ps := 0) dX5_linksAlone_0 rfl rfl ?_
  refine g_getR cf5 hv0 nX5_linksAlone_X5 (j := 1) (by decide) rfl mX5_linksAlone_19 dX5_linksAlone_1 ?_
  refine g_aload_n (ps := 0) dX5_linksAlone_4 rfl rfl ?_
  refine g_getR cf5 hv0 nX5_linksAlone_X5 (j := 3) (by decide) rfl mX5_linksAlone_29 dX5_linksAlone_5 ?_
  refine g_getI cf0 (hW _ _ _ hv0 3 _ rfl) nX5_linksAlone_X0 (j := 1) (by decide) rfl mX5_linksAlone_110 dX5_linksAlone_8 ?_
  obtain ⟨x2, e1, hf⟩ := bd_s hf
  refine g_callVi (As := [.int (h.1 (r v0 3) 1)]) (n := 1) (kX1_partsBy hW (hW _ _ _ hv0 1 _ rfl) e1) gX5_linksAlone_X1_partsBy rfl ⟨rfl, rfl⟩ ⟨rfl, hdX1_partsBy⟩ ⟨Nat.le_of_ble_eq_true rfl, Nat.le_of_ble_eq_true rfl⟩ cf1 (hW _ _ _ hv0 1 _ rfl) rfl rfl (Nat.le_of_ble_eq_true rfl) dX5_linksAlone_11 ?_
  refine g_istore_n (L' := [(1, .int x2), (0, .ref v0)]) dX5_linksAlone_14 rfl (by decide) rfl ?_
  refine g_iconst (v := 0) dX5_linksAlone_15 (by decide +kernel) ?_
  refine g_istore_n (L' := [(2, .int 0), (1, .int x2), (0, .ref v0)]) dX5_linksAlone_16 rfl (by decide) rfl ?_
  refine g_iconst (v := 0) dX5_linksAlone_17 (by decide +kernel) ?_
  refine g_istore_n (L' := [(3, .int 0), (2, .int 0), (1, .int x2), (0, .ref v0)]) dX5_linksAlone_18 rfl (by decide) rfl ?_
  exact g_pick [3, 2, 1, 0] rfl (ulX5_linksAlone_19 hW hv0 hf)
theorem kX5_linksAlone {S : Shp} {n : Nat} {r : Rf} {v0 : Nat} {h : Hp} {o : Int32} (hW : WF S r) (hv0 : S[v0]? = some (5, 11)) (hf : fX5_linksAlone n r v0 h = some o) : CTi yX5_linksAlone wsX5_linksAlone rmX5_linksAlone S r [.ref v0] h r o h :=
  cti_of rfl (by decide +kernel) rfl (Nat.le_of_ble_eq_true rfl) rfl (uX5_linksAlone hW hv0 hf)
/-! X5_told told -/
def rmX5_told : Room := { frames := 5, cells := 0, slots := 0, locals := 117 }
abbrev GX5_told (S : Shp) (r r' : Rf) (out : Option Int32 × Hp) (pc : Nat) (L : List (Nat × Value)) (st : List Value) (h : Hp) : Prop := G RX5 cX5_told 2 (some .int) wsX5_told rmX5_told S r r' out pc L st h
theorem nX5_told_X0 : ∀ w ∈ wsX00, w ∈ wsX5_told := by decide +kernel
theorem nX5_told_X1 : ∀ w ∈ wsX10, w ∈ wsX5_told := by decide +kernel
theorem nX5_told_X2 : ∀ w ∈ wsX20, w ∈ wsX5_told := by decide +kernel
theorem nX5_told_X3 : ∀ w ∈ wsX30, w ∈ wsX5_told := by decide +kernel
theorem nX5_told_X4 : ∀ w ∈ wsX40, w ∈ wsX5_told := by decide +kernel
theorem nX5_told_X5 : ∀ w ∈ wsX50, w ∈ wsX5_told := by decide +kernel
theorem mX5_told_68 : Cond.constant RX5 68 (-1000000002) ∈ wsX5_told := by decide +kernel
theorem mX5_told_101 : Cond.fieldLink RX5 101 "LinkedIsles$Bonds" "hours" "I" ∈ wsX5_told := by decide +kernel
theorem mX5_told_104 : Cond.fieldLink RX5 104 "LinkedIsles$Bonds" "silver" "I" ∈ wsX5_told := by decide +kernel
theorem mX5_told_107 : Cond.fieldLink RX5 107 "LinkedIsles$Bonds" "broke" "I" ∈ wsX5_told := by decide +kernel
theorem mX5_told_110 : Cond.fieldLink RX5 110 "LinkedIsles$Bonds" "doneUp" "I" ∈ wsX5_told := by decide +kernel
theorem mX5_told_117 : Cond.fieldLink RX5 117 "LinkedIsles$Bonds" "turned" "I" ∈ wsX5_told := by decide +kernel
theorem mX5_told_12 : Cond.fieldLink RX5 12 "LinkedIsles" "text" "LLinkedIsles$Text;" ∈ wsX5_told := by decide +kernel
theorem mX5_told_124 : Cond.fieldLink RX5 124 "LinkedIsles$Talk" "heardCount" "I" ∈ wsX5_told := by decide +kernel
theorem mX5_told_127 : Cond.fieldLink RX5 127 "LinkedIsles$Talk" "entryCount" "I" ∈ wsX5_told := by decide +kernel
theorem mX5_told_130 : Cond.fieldLink RX5 130 "LinkedIsles$Log" "count" "I" ∈ wsX5_told := by decide +kernel
theorem mX5_told_19 : Cond.fieldLink RX5 19 "LinkedIsles" "chart" "LLinkedIsles$Chart;" ∈ wsX5_told := by decide +kernel
theorem mX5_told_29 : Cond.fieldLink RX5 29 "LinkedIsles" "now" "LLinkedIsles$Bonds;" ∈ wsX5_told := by decide +kernel
theorem mX5_told_39 : Cond.fieldLink RX5 39 "LinkedIsles" "log" "LLinkedIsles$Log;" ∈ wsX5_told := by decide +kernel
theorem mX5_told_46 : Cond.fieldLink RX5 46 "LinkedIsles" "talk" "LLinkedIsles$Talk;" ∈ wsX5_told := by decide +kernel
theorem mX5_told_69 : Cond.fieldLink RX5 69 "LinkedIsles$Text" "count" "I" ∈ wsX5_told := by decide +kernel
theorem mX5_told_89 : Cond.fieldLink RX5 89 "LinkedIsles$Chart" "links" "I" ∈ wsX5_told := by decide +kernel
theorem mX5_told_95 : Cond.fieldLink RX5 95 "LinkedIsles$Chart" "islands" "I" ∈ wsX5_told := by decide +kernel
theorem mX5_told_98 : Cond.fieldLink RX5 98 "LinkedIsles$Chart" "windCount" "I" ∈ wsX5_told := by decide +kernel
theorem hdX5_told : yX5_told.cls ≠ "java/lang/invoke/MethodHandle" ∧ yX5_told.cls ≠ "java/lang/invoke/VarHandle" ∧ (parseMethodDescriptor yX5_told.desc).map (fun d => d.parameters.length) = some 1 := by decide +kernel
def fX5_told (n : Nat) (r : Rf) (v0 : Nat) (v1 : Int32) (h : Hp) : Option (Int32 × Hp) :=
  lE (v1) (fun (x1 : Int32) => if x1 = 0 then (some ((h.1 (r v0 1) 9), h)) else (if x1 = 1 then (some ((h.1 (r v0 1) 10), h)) else (if x1 = 2 then (some ((h.1 (r v0 1) 11), h)) else (if x1 = 3 then (some ((h.1 (r v0 0) 1), h)) else (if x1 = 4 then (some ((h.1 (r v0 3) 4), h)) else (if x1 = 5 then (some ((h.1 (r v0 3) 5), h)) else (if x1 = 6 then (some ((h.1 (r v0 3) 6), h)) else (if x1 = 7 then (some ((h.1 (r v0 3) 1), h)) else (if x1 = 8 then ((fX5_linksAlone n r v0 h).bind (fun (x12 : Int32) => some (x12, h))) else (if x1 = 9 then (bd2 (fX1_clashing n r (r v0 1) (h.1 (r v0 3) 1) (h.1 (r v0 3) 2) h) (fun (x15 : Int32) (h16 : Hp) => some (x15, h16))) else (if x1 = 10 then (some ((h.1 (r v0 6) 3), h)) else (if x1 = 11 then (some ((h.1 (r v0 6) 4), h)) else (if x1 = 12 then (some ((h.1 (r v0 5) 2), h)) else (some ((-1000000002), h)))))))))))))))
set_option maxHeartbeats 4000000 in
set_option maxRecDepth 100000 in
theorem uX5_told {S : Shp} {n : Nat} {r : Rf} {v0 : Nat} {v1 : Int32} {h : Hp} {o : (Int32 × Hp)} (hW : WF S r) (hv0 : S[v0]? = some (5, 11)) (hf : fX5_told n r v0 v1 h = some o) : GX5_told S r r (some o.1, o.2) 0 [(0, .ref v0), (1, .int v1)] [] h := by
  unfold fX5_told at hf
  refine g_iload_n (ps := 1) dX5_told_0 rfl rfl ?_
  refine g_topi (fun x1 ex1 => ?_)
  have hf := lE_s hf ex1
  by_cases c2 : x1 = 0
  · have hf := if_t hf c2
    refine g_tableIn (off := 67) (tgt := 68) dX5_told_1 (by rw [c2]; decide +kernel) (by rw [c2]; decide +kernel) (by rw [c2]; decide +kernel) (by decide) ?_
    refine g_aload_n (ps := 0) dX5_told_68 rfl rfl ?_
    refine g_getR cf5 hv0 nX5_told_X5 (j := 1) (by decide) rfl mX5_told_19 dX5_told_69 ?_
    refine g_getI cf1 (hW _ _ _ hv0 1 _ rfl) nX5_told_X1 (j := 9) (by decide) rfl mX5_told_95 dX5_told_72 ?_
    have hf := Option.some.inj hf
    subst hf
    exact g_iret dX5_told_75
  have hf := if_f hf c2
  by_cases c3 : x1 = 1
  · have hf := if_t hf c3
    refine g_tableIn (off := 75) (tgt := 76) dX5_told_1 (by rw [c3]; decide +kernel) (by rw [c3]; decide +kernel) (by rw [c3]; decide +kernel) (by decide) ?_
    refine g_aload_n (ps := 0) dX5_told_76 rfl rfl ?_
    refine g_getR cf5 hv0 nX5_told_X5 (j := 1) (by decide) rfl mX5_told_19 dX5_told_77 ?_
    refine g_getI cf1 (hW _ _ _ hv0 1 _ rfl) nX5_told_X1 (j := 10) (by decide) rfl mX5_told_89 dX5_told_80 ?_
    have hf := Option.some.inj hf
    subst hf
    exact g_iret dX5_told_83
  have hf := if_f hf c3
  by_cases c4 : x1 = 2
  · have hf := if_t hf c4
    refine g_tableIn (off := 83) (tgt := 84) dX5_told_1 (by rw [c4]; decide +kernel) (by rw [c4]; decide +kernel) (by rw [c4]; decide +kernel) (by decide) ?_
    refine g_aload_n (ps := 0) dX5_told_84 rfl rfl ?_
    refine g_getR cf5 hv0 nX5_told_X5 (j := 1) (by decide) rfl mX5_told_19 dX5_told_85 ?_
    refine g_getI cf1 (hW _ _ _ hv0 1 _ rfl) nX5_told_X1 (j := 11) (by decide) rfl mX5_told_98 dX5_told_88 ?_
    have hf := Option.some.inj hf
    subst hf
    exact g_iret dX5_told_91
  have hf := if_f hf c4
  by_cases c5 : x1 = 3
  · have hf := if_t hf c5
    refine g_tableIn (off := 91) (tgt := 92) dX5_told_1 (by rw [c5]; decide +kernel) (by rw [c5]; decide +kernel) (by rw [c5]; decide +kernel) (by decide) ?_
    refine g_aload_n (ps := 0) dX5_told_92 rfl rfl ?_
    refine g_getR cf5 hv0 nX5_told_X5 (j := 0) (by decide) rfl mX5_told_12 dX5_told_93 ?_
    refine g_getI cf4 (hW _ _ _ hv0 0 _ rfl) nX5_told_X4 (j := 1) (by decide) rfl mX5_told_69 dX5_told_96 ?_
    have hf := Option.some.inj hf
    subst hf
    exact g_iret dX5_told_99
  have hf := if_f hf c5
  by_cases c6 : x1 = 4
  · have hf := if_t hf c6
    refine g_tableIn (off := 99) (tgt := 100) dX5_told_1 (by rw [c6]; decide +kernel) (by rw [c6]; decide +kernel) (by rw [c6]; decide +kernel) (by decide) ?_
    refine g_aload_n (ps := 0) dX5_told_100 rfl rfl ?_
    refine g_getR cf5 hv0 nX5_told_X5 (j := 3) (by decide) rfl mX5_told_29 dX5_told_101 ?_
    refine g_getI cf0 (hW _ _ _ hv0 3 _ rfl) nX5_told_X0 (j := 4) (by decide) rfl mX5_told_101 dX5_told_104 ?_
    have hf := Option.some.inj hf
    subst hf
    exact g_iret dX5_told_107
  have hf := if_f hf c6
  by_cases c7 : x1 = 5
  · have hf := if_t hf c7
    refine g_tableIn (off := 107) (tgt := 108) dX5_told_1 (by rw [c7]; decide +kernel) (by rw [c7]; decide +kernel) (by rw [c7]; decide +kernel) (by decide) ?_
    refine g_aload_n (ps := 0) dX5_told_108 rfl rfl ?_
    refine g_getR cf5 hv0 nX5_told_X5 (j := 3) (by decide) rfl mX5_told_29 dX5_told_109 ?_
    refine g_getI cf0 (hW _ _ _ hv0 3 _ rfl) nX5_told_X0 (j := 5) (by decide) rfl mX5_told_104 dX5_told_112 ?_
    have hf := Option.some.inj hf
    subst hf
    exact g_iret dX5_told_115
  have hf := if_f hf c7
  by_cases c8 : x1 = 6
  · have hf := if_t hf c8
    refine g_tableIn (off := 115) (tgt := 116) dX5_told_1 (by rw [c8]; decide +kernel) (by rw [c8]; decide +kernel) (by rw [c8]; decide +kernel) (by decide) ?_
    refine g_aload_n (ps := 0) dX5_told_116 rfl rfl ?_
    refine g_getR cf5 hv0 nX5_told_X5 (j := 3) (by decide) rfl mX5_told_29 dX5_told_117 ?_
    refine g_getI cf0 (hW _ _ _ hv0 3 _ rfl) nX5_told_X0 (j := 6) (by decide) rfl mX5_told_107 dX5_told_120 ?_
    have hf := Option.some.inj hf
    subst hf
    exact g_iret dX5_told_123
  have hf := if_f hf c8
  by_cases c9 : x1 = 7
  · have hf := if_t hf c9
    refine g_tableIn (off := 123) (tgt := 124) dX5_told_1 (by rw [c9]; decide +kernel) (by rw [c9]; decide +kernel) (by rw [c9]; decide +kernel) (by decide) ?_
    refine g_aload_n (ps := 0) dX5_told_124 rfl rfl ?_
    refine g_getR cf5 hv0 nX5_told_X5 (j := 3) (by decide) rfl mX5_told_29 dX5_told_125 ?_
    refine g_getI cf0 (hW _ _ _ hv0 3 _ rfl) nX5_told_X0 (j := 1) (by decide) rfl mX5_told_110 dX5_told_128 ?_
    have hf := Option.some.inj hf
    subst hf
    exact g_iret dX5_told_131
  have hf := if_f hf c9
  by_cases c10 : x1 = 8
  · have hf := if_t hf c10
    refine g_tableIn (off := 131) (tgt := 132) dX5_told_1 (by rw [c10]; decide +kernel) (by rw [c10]; decide +kernel) (by rw [c10]; decide +kernel) (by decide) ?_
    refine g_aload_n (ps := 0) dX5_told_132 rfl rfl ?_
    obtain ⟨x12, e11, hf⟩ := bd_s hf
    refine g_callVi (As := []) (n := 0) (kX5_linksAlone hW hv0 e11) gX5_told_X5_linksAlone rfl ⟨rfl, rfl⟩ ⟨rfl, hdX5_linksAlone⟩ ⟨Nat.le_of_ble_eq_true rfl, Nat.le_of_ble_eq_true rfl⟩ cf5 hv0 rfl rfl (Nat.le_of_ble_eq_true rfl) dX5_told_133 ?_
    have hf := Option.some.inj hf
    subst hf
    exact g_iret dX5_told_136
  have hf := if_f hf c10
  by_cases c13 : x1 = 9
  · have hf := if_t hf c13
    refine g_tableIn (off := 136) (tgt := 137) dX5_told_1 (by rw [c13]; decide +kernel) (by rw [c13]; decide +kernel) (by rw [c13]; decide +kernel) (by decide) ?_
    refine g_aload_n (ps := 0) dX5_told_137 rfl rfl ?_
    refine g_getR cf5 hv0 nX5_told_X5 (j := 1) (by decide) rfl mX5_told_19 dX5_told_138 ?_
    refine g_aload_n (ps := 0) dX5_told_141 rfl rfl ?_
    refine g_getR cf5 hv0 nX5_told_X5 (j := 3) (by decide) rfl mX5_told_29 dX5_told_142 ?_
    refine g_getI cf0 (hW _ _ _ hv0 3 _ rfl) nX5_told_X0 (j := 1) (by decide) rfl mX5_told_110 dX5_told_145 ?_
    refine g_aload_n (ps := 0) dX5_told_148 rfl rfl ?_
    refine g_getR cf5 hv0 nX5_told_X5 (j := 3) (by decide) rfl mX5_told_29 dX5_told_149 ?_
    refine g_getI cf0 (hW _ _ _ hv0 3 _ rfl) nX5_told_X0 (j := 2) (by decide) rfl mX5_told_117 dX5_told_152 ?_
    obtain ⟨x15, h16, e14, hf⟩ := bd2_s hf
    refine g_callVi (As := [.int (h.1 (r v0 3) 1), .int (h.1 (r v0 3) 2)]) (n := 2) (kX1_clashing hW (hW _ _ _ hv0 1 _ rfl) e14) gX5_told_X1_clashing rfl ⟨rfl, rfl⟩ ⟨rfl, hdX1_clashing⟩ ⟨Nat.le_of_ble_eq_true rfl, Nat.le_of_ble_eq_true rfl⟩ cf1 (hW _ _ _ hv0 1 _ rfl) rfl rfl (Nat.le_of_ble_eq_true rfl) dX5_told_155 ?_
    have hf := Option.some.inj hf
    subst hf
    exact g_iret dX5_told_158
  have hf := if_f hf c13
  by_cases c17 : x1 = 10
  · have hf := if_t hf c17
    refine g_tableIn (off := 158) (tgt := 159) dX5_told_1 (by rw [c17]; decide +kernel) (by rw [c17]; decide +kernel) (by rw [c17]; decide +kernel) (by decide) ?_
    refine g_aload_n (ps := 0) dX5_told_159 rfl rfl ?_
    refine g_getR cf5 hv0 nX5_told_X5 (j := 6) (by decide) rfl mX5_told_46 dX5_told_160 ?_
    refine g_getI cf3 (hW _ _ _ hv0 6 _ rfl) nX5_told_X3 (j := 3) (by decide) rfl mX5_told_124 dX5_told_163 ?_
    have hf := Option.some.inj hf
    subst hf
    exact g_iret dX5_told_166
  have hf := if_f hf c17
  by_cases c18 : x1 = 11
  · have hf := if_t hf c18
    refine g_tableIn (off := 166) (tgt := 167) dX5_told_1 (by rw [c18]; decide +kernel) (by rw [c18]; decide +kernel) (by rw [c18]; decide +kernel) (by decide) ?_
    refine g_aload_n (ps := 0) dX5_told_167 rfl rfl ?_
    refine g_getR cf5 hv0 nX5_told_X5 (j := 6) (by decide) rfl mX5_told_46 dX5_told_168 ?_
    refine g_getI cf3 (hW _ _ _ hv0 6 _ rfl) nX5_told_X3 (j := 4) (by decide) rfl mX5_told_127 dX5_told_171 ?_
    have hf := Option.some.inj hf
    subst hf
    exact g_iret dX5_told_174
  have hf := if_f hf c18
  by_cases c19 : x1 = 12
  · have hf := if_t hf c19
    refine g_tableIn (off := 174) (tgt := 175) dX5_told_1 (by rw [c19]; decide +kernel) (by rw [c19]; decide +kernel) (by rw [c19]; decide +kernel) (by decide) ?_
    refine g_aload_n (ps := 0) dX5_told_175 rfl rfl ?_
    refine g_getR cf5 hv0 nX5_told_X5 (j := 5) (by decide) rfl mX5_told_39 dX5_told_176 ?_
    refine g_getI cf2 (hW _ _ _ hv0 5 _ rfl) nX5_told_X2 (j := 2) (by decide) rfl mX5_told_130 dX5_told_179 ?_
    have hf := Option.some.inj hf
    subst hf
    exact g_iret dX5_told_182
  have hf := if_f hf c19
  refine g_tableOut (tgt := 183) dX5_told_1 (by have q0 := lv_neT c2 (a := 0) (by decide +kernel); have q1 := lv_neT c3 (a := 1) (by decide +kernel); have q2 := lv_neT c4 (a := 2) (by decide +kernel); have q3 := lv_neT c5 (a := 3) (by decide +kernel); have q4 := lv_neT c6 (a := 4) (by decide +kernel); have q5 := lv_neT c7 (a := 5) (by decide +kernel); have q6 := lv_neT c8 (a := 6) (by decide +kernel); have q7 := lv_neT c9 (a := 7) (by decide +kernel); have q8 := lv_neT c10 (a := 8) (by decide +kernel); have q9 := lv_neT c13 (a := 9) (by decide +kernel); have q10 := lv_neT c17 (a := 10) (by decide +kernel); have q11 := lv_neT c18 (a := 11) (by decide +kernel); have q12 := lv_neT c19 (a := 12) (by decide +kernel); omega) (by decide) ?_
  refine g_ldc (v := (-1000000002)) mX5_told_68 dX5_told_183 ?_
  have hf := Option.some.inj hf
  subst hf
  exact g_iret dX5_told_185
theorem kX5_told {S : Shp} {n : Nat} {r : Rf} {v0 : Nat} {v1 : Int32} {h : Hp} {o : (Int32 × Hp)} (hW : WF S r) (hv0 : S[v0]? = some (5, 11)) (hf : fX5_told n r v0 v1 h = some o) : CTi yX5_told wsX5_told rmX5_told S r [.ref v0, .int v1] h r o.1 o.2 :=
  cti_of rfl (by decide +kernel) rfl (Nat.le_of_ble_eq_true rfl) rfl (uX5_told hW hv0 hf)
/-! X5_link link -/
def rmX5_link : Room := { frames := 1, cells := 0, slots := 0, locals := 21 }
abbrev GX5_link (S : Shp) (r r' : Rf) (out : Option Int32 × Hp) (pc : Nat) (L : List (Nat × Value)) (st : List Value) (h : Hp) : Prop := G RX5 cX5_link 3 (some .int) wsX5_link rmX5_link S r r' out pc L st h
theorem nX5_link_X0 : ∀ w ∈ wsX00, w ∈ wsX5_link := by decide +kernel
theorem nX5_link_X1 : ∀ w ∈ wsX10, w ∈ wsX5_link := by decide +kernel
theorem nX5_link_X5 : ∀ w ∈ wsX50, w ∈ wsX5_link := by decide +kernel
theorem mX5_link_135 : Cond.constant RX5 135 (-1000000001) ∈ wsX5_link := by decide +kernel
theorem mX5_link_68 : Cond.constant RX5 68 (-1000000002) ∈ wsX5_link := by decide +kernel
theorem mX5_link_110 : Cond.fieldLink RX5 110 "LinkedIsles$Bonds" "doneUp" "I" ∈ wsX5_link := by decide +kernel
theorem mX5_link_117 : Cond.fieldLink RX5 117 "LinkedIsles$Bonds" "turned" "I" ∈ wsX5_link := by decide +kernel
theorem mX5_link_136 : Cond.fieldLink RX5 136 "LinkedIsles$Chart" "endA" "[I" ∈ wsX5_link := by decide +kernel
theorem mX5_link_139 : Cond.fieldLink RX5 139 "LinkedIsles$Chart" "endB" "[I" ∈ wsX5_link := by decide +kernel
theorem mX5_link_142 : Cond.fieldLink RX5 142 "LinkedIsles$Chart" "kind" "[I" ∈ wsX5_link := by decide +kernel
theorem mX5_link_145 : Cond.fieldLink RX5 145 "LinkedIsles$Chart" "strength" "[I" ∈ wsX5_link := by decide +kernel
theorem mX5_link_148 : Cond.fieldLink RX5 148 "LinkedIsles$Bonds" "strain" "[I" ∈ wsX5_link := by decide +kernel
theorem mX5_link_155 : Cond.fieldLink RX5 155 "LinkedIsles$Bonds" "held" "I" ∈ wsX5_link := by decide +kernel
theorem mX5_link_158 : Cond.fieldLink RX5 158 "LinkedIsles$Chart" "sideA" "[I" ∈ wsX5_link := by decide +kernel
theorem mX5_link_161 : Cond.fieldLink RX5 161 "LinkedIsles$Chart" "sideB" "[I" ∈ wsX5_link := by decide +kernel
theorem mX5_link_19 : Cond.fieldLink RX5 19 "LinkedIsles" "chart" "LLinkedIsles$Chart;" ∈ wsX5_link := by decide +kernel
theorem mX5_link_29 : Cond.fieldLink RX5 29 "LinkedIsles" "now" "LLinkedIsles$Bonds;" ∈ wsX5_link := by decide +kernel
theorem hdX5_link : yX5_link.cls ≠ "java/lang/invoke/MethodHandle" ∧ yX5_link.cls ≠ "java/lang/invoke/VarHandle" ∧ (parseMethodDescriptor yX5_link.desc).map (fun d => d.parameters.length) = some 2 := by decide +kernel
def fX5_link (n : Nat) (r : Rf) (v0 : Nat) (v1 : Int32) (v2 : Int32) (h : Hp) : Option Int32 :=
  (fX1_hasLink n r (r v0 1) v1 h).bind (fun (x2 : Int32) => if x2 = 0 then (some (-1000000001)) else (lE (v2) (fun (x4 : Int32) => if x4 = 0 then (ck v1 10 (some (h.1 (r (r v0 1) 0) (Int32.toNatClampNeg v1)))) else (if x4 = 1 then (ck v1 10 (some (h.1 (r (r v0 1) 1) (Int32.toNatClampNeg v1)))) else (if x4 = 2 then (ck v1 10 (some (h.1 (r (r v0 1) 3) (Int32.toNatClampNeg v1)))) else (if x4 = 3 then (ck v1 10 (some (h.1 (r (r v0 1) 4) (Int32.toNatClampNeg v1)))) else (if x4 = 4 then (ck v1 10 (some (h.1 (r (r v0 3) 0) (Int32.toNatClampNeg v1)))) else (if x4 = 5 then ((fX5_has n r (h.1 (r v0 3) 1) v1 h).bind (fun (x17 : Int32) => if x17 = 0 then (some 0) else (some 1))) else (if x4 = 6 then ((fX5_has n r (h.1 (r v0 3) 2) v1 h).bind (fun (x21 : Int32) => if x21 = 0 then (some 0) else (some 1))) else (if x4 = 7 then ((fX5_has n r (h.1 (r v0 3) 3) v1 h).bind (fun (x25 : Int32) => if x25 = 0 then (some 0) else (some 1))) else (if x4 = 8 then (ck v1 10 (some (h.1 (r (r v0 1) 5) (Int32.toNatClampNeg v1)))) else (if x4 = 9 then (ck v1 10 (some (h.1 (r (r v0 1) 6) (Int32.toNatClampNeg v1)))) else (some (-1000000002))))))))))))))
set_option maxHeartbeats 4000000 in
set_option maxRecDepth 100000 in
theorem uX5_link {S : Shp} {n : Nat} {r : Rf} {v0 : Nat} {v1 : Int32} {v2 : Int32} {h : Hp} {o : Int32} (hW : WF S r) (hv0 : S[v0]? = some (5, 11)) (hf : fX5_link n r v0 v1 v2 h = some o) : GX5_link S r r (some o, h) 0 [(0, .ref v0), (1, .int v1), (2, .int v2)] [] h := by
  unfold fX5_link at hf
  refine g_aload_n (ps := 0) dX5_link_0 rfl rfl ?_
  refine g_getR cf5 hv0 nX5_link_X5 (j := 1) (by decide) rfl mX5_link_19 dX5_link_1 ?_
  refine g_iload_n (ps := 1) dX5_link_4 rfl rfl ?_
  obtain ⟨x2, e1, hf⟩ := bd_s hf
  refine g_callVi (As := [.int v1]) (n := 1) (kX1_hasLink hW (hW _ _ _ hv0 1 _ rfl) e1) gX5_link_X1_hasLink rfl ⟨rfl, rfl⟩ ⟨rfl, hdX1_hasLink⟩ ⟨Nat.le_of_ble_eq_true rfl, Nat.le_of_ble_eq_true rfl⟩ cf1 (hW _ _ _ hv0 1 _ rfl) rfl rfl (Nat.le_of_ble_eq_true rfl) dX5_link_5 ?_
  refine g_if_ne (tgt := 14) dX5_link_8 (by decide) (fun c3 => ?_) (fun c3 => ?_)
  · have hf := if_f hf c3
    refine g_iload_n (ps := 2) dX5_link_14 rfl rfl ?_
    refine g_topi (fun x4 ex4 => ?_)
    have hf := lE_s hf ex4
    by_cases c5 : x4 = 0
    · have hf := if_t hf c5
      refine g_tableIn (off := 53) (tgt := 68) dX5_link_15 (by rw [c5]; decide +kernel) (by rw [c5]; decide +kernel) (by rw [c5]; decide +kernel) (by decide) ?_
      refine g_aload_n (ps := 0) dX5_link_68 rfl rfl ?_
      refine g_getR cf5 hv0 nX5_link_X5 (j := 1) (by decide) rfl mX5_link_19 dX5_link_69 ?_
      refine g_getR cf1 (hW _ _ _ hv0 1 _ rfl) nX5_link_X1 (j := 0) (by decide) rfl mX5_link_136 dX5_link_72 ?_
      refine g_iload_n (ps := 1) dX5_link_75 rfl rfl ?_
      obtain ⟨z6, hf⟩ := ck_s hf
      refine g_iald (hW _ _ _ (hW _ _ _ hv0 1 _ rfl) 0 _ rfl) z6 dX5_link_76 ?_
      have hf := Option.some.inj hf
      subst hf
      exact g_iret dX5_link_77
    have hf := if_f hf c5
    by_cases c7 : x4 = 1
    · have hf := if_t hf c7
      refine g_tableIn (off := 63) (tgt := 78) dX5_link_15 (by rw [c7]; decide +kernel) (by rw [c7]; decide +kernel) (by rw [c7]; decide +kernel) (by decide) ?_
      refine g_aload_n (ps := 0) dX5_link_78 rfl rfl ?_
      refine g_getR cf5 hv0 nX5_link_X5 (j := 1) (by decide) rfl mX5_link_19 dX5_link_79 ?_
      refine g_getR cf1 (hW _ _ _ hv0 1 _ rfl) nX5_link_X1 (j := 1) (by decide) rfl mX5_link_139 dX5_link_82 ?_
      refine g_iload_n (ps := 1) dX5_link_85 rfl rfl ?_
      obtain ⟨z8, hf⟩ := ck_s hf
      refine g_iald (hW _ _ _ (hW _ _ _ hv0 1 _ rfl) 1 _ rfl) z8 dX5_link_86 ?_
      have hf := Option.some.inj hf
      subst hf
      exact g_iret dX5_link_87
    have hf := if_f hf c7
    by_cases c9 : x4 = 2
    · have hf := if_t hf c9
      refine g_tableIn (off := 73) (tgt := 88) dX5_link_15 (by rw [c9]; decide +kernel) (by rw [c9]; decide +kernel) (by rw [c9]; decide +kernel) (by decide) ?_
      refine g_aload_n (ps := 0) dX5_link_88 rfl rfl ?_
      refine g_getR cf5 hv0 nX5_link_X5 (j := 1) (by decide) rfl mX5_link_19 dX5_link_89 ?_
      refine g_getR cf1 (hW _ _ _ hv0 1 _ rfl) nX5_link_X1 (j := 3) (by decide) rfl mX5_link_142 dX5_link_92 ?_
      refine g_iload_n (ps := 1) dX5_link_95 rfl rfl ?_
      obtain ⟨z10, hf⟩ := ck_s hf
      refine g_iald (hW _ _ _ (hW _ _ _ hv0 1 _ rfl) 3 _ rfl) z10 dX5_link_96 ?_
      have hf := Option.some.inj hf
      subst hf
      exact g_iret dX5_link_97
    have hf := if_f hf c9
    by_cases c11 : x4 = 3
    · have hf := if_t hf c11
      refine g_tableIn (off := 83) (tgt := 98) dX5_link_15 (by rw [c11]; decide +kernel) (by rw [c11]; decide +kernel) (by rw [c11]; decide +kernel) (by decide) ?_
      refine g_aload_n (ps := 0) dX5_link_98 rfl rfl ?_
      refine g_getR cf5 hv0 nX5_link_X5 (j := 1) (by decide) rfl mX5_link_19 dX5_link_99 ?_
      refine g_getR cf1 (hW _ _ _ hv0 1 _ rfl) nX5_link_X1 (j := 4) (by decide) rfl mX5_link_145 dX5_link_102 ?_
      refine g_iload_n (ps := 1) dX5_link_105 rfl rfl ?_
      obtain ⟨z12, hf⟩ := ck_s hf
      refine g_iald (hW _ _ _ (hW _ _ _ hv0 1 _ rfl) 4 _ rfl) z12 dX5_link_106 ?_
      have hf := Option.some.inj hf
      subst hf
      exact g_iret dX5_link_107
    have hf := if_f hf c11
    by_cases c13 : x4 = 4
    · have hf := if_t hf c13
      refine g_tableIn (off := 93) (tgt := 108) dX5_link_15 (by rw [c13]; decide +kernel) (by rw [c13]; decide +kernel) (by rw [c13]; decide +kernel) (by decide) ?_
      refine g_aload_n (ps := 0) dX5_link_108 rfl rfl ?_
      refine g_getR cf5 hv0 nX5_link_X5 (j := 3) (by decide) rfl mX5_link_29 dX5_link_109 ?_
      refine g_getR cf0 (hW _ _ _ hv0 3 _ rfl) nX5_link_X0 (j := 0) (by decide) rfl mX5_link_148 dX5_link_112 ?_
      refine g_iload_n (ps := 1) dX5_link_115 rfl rfl ?_
      obtain ⟨z14, hf⟩ := ck_s hf
      refine g_iald (hW _ _ _ (hW _ _ _ hv0 3 _ rfl) 0 _ rfl) z14 dX5_link_116 ?_
      have hf := Option.some.inj hf
      subst hf
      exact g_iret dX5_link_117
    have hf := if_f hf c13
    by_cases c15 : x4 = 5
    · have hf := if_t hf c15
      refine g_tableIn (off := 103) (tgt := 118) dX5_link_15 (by rw [c15]; decide +kernel) (by rw [c15]; decide +kernel) (by rw [c15]; decide +kernel) (by decide) ?_
      refine g_aload_n (ps := 0) dX5_link_118 rfl rfl ?_
      refine g_getR cf5 hv0 nX5_link_X5 (j := 3) (by decide) rfl mX5_link_29 dX5_link_119 ?_
      refine g_getI cf0 (hW _ _ _ hv0 3 _ rfl) nX5_link_X0 (j := 1) (by decide) rfl mX5_link_110 dX5_link_122 ?_
      refine g_iload_n (ps := 1) dX5_link_125 rfl rfl ?_
      obtain ⟨x17, e16, hf⟩ := bd_s hf
      refine g_callSi (As := [.int (h.1 (r v0 3) 1), .int v1]) (n := 2) (kX5_has hW  e16) gX5_link_X5_has rfl ⟨rfl, rfl⟩ hdX5_has ⟨Nat.le_of_ble_eq_true rfl, Nat.le_of_ble_eq_true rfl⟩ rfl rfl (Nat.le_of_ble_eq_true rfl) dX5_link_126 ?_
      refine g_if_eq (tgt := 136) dX5_link_129 (by decide) (fun c18 => ?_) (fun c18 => ?_)
      · have hf := if_t hf c18
        refine g_iconst (v := 0) dX5_link_136 (by decide +kernel) ?_
        have hf := Option.some.inj hf
        subst hf
        exact g_iret dX5_link_137
      · have hf := if_f hf c18
        refine g_iconst (v := 1) dX5_link_132 (by decide +kernel) ?_
        refine g_goto (tgt := 137) dX5_link_133 (by decide) ?_
        have hf := Option.some.inj hf
        subst hf
        exact g_iret dX5_link_137
    have hf := if_f hf c15
    by_cases c19 : x4 = 6
    · have hf := if_t hf c19
      refine g_tableIn (off := 123) (tgt := 138) dX5_link_15 (by rw [c19]; decide +kernel) (by rw [c19]; decide +kernel) (by rw [c19]; decide +kernel) (by decide) ?_
      refine g_aload_n (ps := 0) dX5_link_138 rfl rfl ?_
      refine g_getR cf5 hv0 nX5_link_X5 (j := 3) (by decide) rfl mX5_link_29 dX5_link_139 ?_
      refine g_getI cf0 (hW _ _ _ hv0 3 _ rfl) nX5_link_X0 (j := 2) (by decide) rfl mX5_link_117 dX5_link_142 ?_
      refine g_iload_n (ps := 1) dX5_link_145 rfl rfl ?_
      obtain ⟨x21, e20, hf⟩ := bd_s hf
      refine g_callSi (As := [.int (h.1 (r v0 3) 2), .int v1]) (n := 2) (kX5_has hW  e20) gX5_link_X5_has rfl ⟨rfl, rfl⟩ hdX5_has ⟨Nat.le_of_ble_eq_true rfl, Nat.le_of_ble_eq_true rfl⟩ rfl rfl (Nat.le_of_ble_eq_true rfl) dX5_link_146 ?_
      refine g_if_eq (tgt := 156) dX5_link_149 (by decide) (fun c22 => ?_) (fun c22 => ?_)
      · have hf := if_t hf c22
        refine g_iconst (v := 0) dX5_link_156 (by decide +kernel) ?_
        have hf := Option.some.inj hf
        subst hf
        exact g_iret dX5_link_157
      · have hf := if_f hf c22
        refine g_iconst (v := 1) dX5_link_152 (by decide +kernel) ?_
        refine g_goto (tgt := 157) dX5_link_153 (by decide) ?_
        have hf := Option.some.inj hf
        subst hf
        exact g_iret dX5_link_157
    have hf := if_f hf c19
    by_cases c23 : x4 = 7
    · have hf := if_t hf c23
      refine g_tableIn (off := 143) (tgt := 158) dX5_link_15 (by rw [c23]; decide +kernel) (by rw [c23]; decide +kernel) (by rw [c23]; decide +kernel) (by decide) ?_
      refine g_aload_n (ps := 0) dX5_link_158 rfl rfl ?_
      refine g_getR cf5 hv0 nX5_link_X5 (j := 3) (by decide) rfl mX5_link_29 dX5_link_159 ?_
      refine g_getI cf0 (hW _ _ _ hv0 3 _ rfl) nX5_link_X0 (j := 3) (by decide) rfl mX5_link_155 dX5_link_162 ?_
      refine g_iload_n (ps := 1) dX5_link_165 rfl rfl ?_
      obtain ⟨x25, e24, hf⟩ := bd_s hf
      refine g_callSi (As := [.int (h.1 (r v0 3) 3), .int v1]) (n := 2) (kX5_has hW  e24) gX5_link_X5_has rfl ⟨rfl, rfl⟩ hdX5_has ⟨Nat.le_of_ble_eq_true rfl, Nat.le_of_ble_eq_true rfl⟩ rfl rfl (Nat.le_of_ble_eq_true rfl) dX5_link_166 ?_
      refine g_if_eq (tgt := 176) dX5_link_169 (by decide) (fun c26 => ?_) (fun c26 => ?_)
      · have hf := if_t hf c26
        refine g_iconst (v := 0) dX5_link_176 (by decide +kernel) ?_
        have hf := Option.some.inj hf
        subst hf
        exact g_iret dX5_link_177
      · have hf := if_f hf c26
        refine g_iconst (v := 1) dX5_link_172 (by decide +kernel) ?_
        refine g_goto (tgt := 177) dX5_link_173 (by decide) ?_
        have hf := Option.some.inj hf
        subst hf
        exact g_iret dX5_link_177
    have hf := if_f hf c23
    by_cases c27 : x4 = 8
    · have hf := if_t hf c27
      refine g_tableIn (off := 163) (tgt := 178) dX5_link_15 (by rw [c27]; decide +kernel) (by rw [c27]; decide +kernel) (by rw [c27]; decide +kernel) (by decide) ?_
      refine g_aload_n (ps := 0) dX5_link_178 rfl rfl ?_
      refine g_getR cf5 hv0 nX5_link_X5 (j := 1) (by decide) rfl mX5_link_19 dX5_link_179 ?_
      refine g_getR cf1 (hW _ _ _ hv0 1 _ rfl) nX5_link_X1 (j := 5) (by decide) rfl mX5_link_158 dX5_link_182 ?_
      refine g_iload_n (ps := 1) dX5_link_185 rfl rfl ?_
      obtain ⟨z28, hf⟩ := ck_s hf
      refine g_iald (hW _ _ _ (hW _ _ _ hv0 1 _ rfl) 5 _ rfl) z28 dX5_link_186 ?_
      have hf := Option.some.inj hf
      subst hf
      exact g_iret dX5_link_187
    have hf := if_f hf c27
    by_cases c29 : x4 = 9
    · have hf := if_t hf c29
      refine g_tableIn (off := 173) (tgt := 188) dX5_link_15 (by rw [c29]; decide +kernel) (by rw [c29]; decide +kernel) (by rw [c29]; decide +kernel) (by decide) ?_
      refine g_aload_n (ps := 0) dX5_link_188 rfl rfl ?_
      refine g_getR cf5 hv0 nX5_link_X5 (j := 1) (by decide) rfl mX5_link_19 dX5_link_189 ?_
      refine g_getR cf1 (hW _ _ _ hv0 1 _ rfl) nX5_link_X1 (j := 6) (by decide) rfl mX5_link_161 dX5_link_192 ?_
      refine g_iload_n (ps := 1) dX5_link_195 rfl rfl ?_
      obtain ⟨z30, hf⟩ := ck_s hf
      refine g_iald (hW _ _ _ (hW _ _ _ hv0 1 _ rfl) 6 _ rfl) z30 dX5_link_196 ?_
      have hf := Option.some.inj hf
      subst hf
      exact g_iret dX5_link_197
    have hf := if_f hf c29
    refine g_tableOut (tgt := 198) dX5_link_15 (by have q0 := lv_neT c5 (a := 0) (by decide +kernel); have q1 := lv_neT c7 (a := 1) (by decide +kernel); have q2 := lv_neT c9 (a := 2) (by decide +kernel); have q3 := lv_neT c11 (a := 3) (by decide +kernel); have q4 := lv_neT c13 (a := 4) (by decide +kernel); have q5 := lv_neT c15 (a := 5) (by decide +kernel); have q6 := lv_neT c19 (a := 6) (by decide +kernel); have q7 := lv_neT c23 (a := 7) (by decide +kernel); have q8 := lv_neT c27 (a := 8) (by decide +kernel); have q9 := lv_neT c29 (a := 9) (by decide +kernel); omega) (by decide) ?_
    refine g_ldc (v := (-1000000002)) mX5_link_68 dX5_link_198 ?_
    have hf := Option.some.inj hf
    subst hf
    exact g_iret dX5_link_200
  · have hf := if_t hf c3
    refine g_ldc (v := (-1000000001)) mX5_link_135 dX5_link_11 ?_
    have hf := Option.some.inj hf
    subst hf
    exact g_iret dX5_link_13
theorem kX5_link {S : Shp} {n : Nat} {r : Rf} {v0 : Nat} {v1 : Int32} {v2 : Int32} {h : Hp} {o : Int32} (hW : WF S r) (hv0 : S[v0]? = some (5, 11)) (hf : fX5_link n r v0 v1 v2 h = some o) : CTi yX5_link wsX5_link rmX5_link S r [.ref v0, .int v1, .int v2] h r o h :=
  cti_of rfl (by decide +kernel) rfl (Nat.le_of_ble_eq_true rfl) rfl (uX5_link hW hv0 hf)
/-! X5_reads reads -/
def rmX5_reads : Room := { frames := 1, cells := 0, slots := 0, locals := 23 }
abbrev GX5_reads (S : Shp) (r r' : Rf) (out : Option Int32 × Hp) (pc : Nat) (L : List (Nat × Value)) (st : List Value) (h : Hp) : Prop := G RX5 cX5_reads 3 (some .int) wsX5_reads rmX5_reads S r r' out pc L st h
theorem nX5_reads_X0 : ∀ w ∈ wsX00, w ∈ wsX5_reads := by decide +kernel
theorem nX5_reads_X1 : ∀ w ∈ wsX10, w ∈ wsX5_reads := by decide +kernel
theorem nX5_reads_X5 : ∀ w ∈ wsX50, w ∈ wsX5_reads := by decide +kernel
theorem mX5_reads_135 : Cond.constant RX5 135 (-1000000001) ∈ wsX5_reads := by decide +kernel
theorem mX5_reads_110 : Cond.fieldLink RX5 110 "LinkedIsles$Bonds" "doneUp" "I" ∈ wsX5_reads := by decide +kernel
theorem mX5_reads_117 : Cond.fieldLink RX5 117 "LinkedIsles$Bonds" "turned" "I" ∈ wsX5_reads := by decide +kernel
theorem mX5_reads_136 : Cond.fieldLink RX5 136 "LinkedIsles$Chart" "endA" "[I" ∈ wsX5_reads := by decide +kernel
theorem mX5_reads_167 : Cond.fieldLink RX5 167 "LinkedIsles$Chart" "ends" "[I" ∈ wsX5_reads := by decide +kernel
theorem mX5_reads_19 : Cond.fieldLink RX5 19 "LinkedIsles" "chart" "LLinkedIsles$Chart;" ∈ wsX5_reads := by decide +kernel
theorem mX5_reads_29 : Cond.fieldLink RX5 29 "LinkedIsles" "now" "LLinkedIsles$Bonds;" ∈ wsX5_reads := by decide +kernel
theorem hdX5_reads : yX5_reads.cls ≠ "java/lang/invoke/MethodHandle" ∧ yX5_reads.cls ≠ "java/lang/invoke/VarHandle" ∧ (parseMethodDescriptor yX5_reads.desc).map (fun d => d.parameters.length) = some 2 := by decide +kernel
def jX5_reads_80 (n : Nat) (r : Rf) (v0 : Nat) (v2 : Int32) (s0 : Int32) (s1 : Int32) (h : Hp) : Option Int32 :=
  (fX5_has n r (h.1 (r v0 3) 2) v2 h).bind (fun (x17 : Int32) => (fX1_sideRead n r (r v0 1) s1 s0 x17 h).bind (fun (x19 : Int32) => some x19))
def fX5_reads (n : Nat) (r : Rf) (v0 : Nat) (v1 : Int32) (v2 : Int32) (h : Hp) : Option Int32 :=
  (fX1_hasIsland n r (r v0 1) v1 h).bind (fun (x2 : Int32) => if x2 = 0 then (some (-1000000001)) else ((fX1_hasLink n r (r v0 1) v2 h).bind (fun (x5 : Int32) => if x5 = 0 then (some (-1000000001)) else ((fX5_has n r (h.1 (r v0 3) 1) v2 h).bind (fun (x8 : Int32) => if x8 = 0 then (some (-1)) else (ck v2 10 ((fX5_has n r (h.1 (r (r v0 1) 2) (Int32.toNatClampNeg v2)) v1 h).bind (fun (x12 : Int32) => if x12 = 0 then (some (-1)) else (ck v2 10 (if v1 = (h.1 (r (r v0 1) 0) (Int32.toNatClampNeg v2)) then (jX5_reads_80 n r v0 v2 1 v2 h) else (jX5_reads_80 n r v0 v2 0 v2 h)))))))))))
set_option maxHeartbeats 4000000 in
set_option maxRecDepth 100000 in
theorem ujX5_reads_80 {S : Shp} {n : Nat} {r : Rf} {v0 : Nat} {v2 : Int32} {s0 : Int32} {s1 : Int32} {h : Hp} {o : Int32} (hW : WF S r) (hv0 : S[v0]? = some (5, 11)) (hf : jX5_reads_80 n r v0 v2 s0 s1 h = some o)  : GX5_reads S r r (some o, h) 80 [(0, .ref v0), (2, .int v2)] [.int s0, .int s1, .ref (r v0 1)] h := by
  unfold jX5_reads_80 at hf
  refine g_aload_n (ps := 0) dX5_reads_80 rfl rfl ?_
  refine g_getR cf5 hv0 nX5_reads_X5 (j := 3) (by decide) rfl mX5_reads_29 dX5_reads_81 ?_
  refine g_getI cf0 (hW _ _ _ hv0 3 _ rfl) nX5_reads_X0 (j := 2) (by decide) rfl mX5_reads_117 dX5_reads_84 ?_
  refine g_iload_n (ps := 1) dX5_reads_87 rfl rfl ?_
  obtain ⟨x17, e16, hf⟩ := bd_s hf
  refine g_callSi (As := [.int (h.1 (r v0 3) 2), .int v2]) (n := 2) (kX5_has hW  e16) gX5_reads_X5_has rfl ⟨rfl, rfl⟩ hdX5_has ⟨Nat.le_of_ble_eq_true rfl, Nat.le_of_ble_eq_true rfl⟩ rfl rfl (Nat.le_of_ble_eq_true rfl) dX5_reads_88 ?_
  obtain ⟨x19, e18, hf⟩ := bd_s hf
  refine g_callVi (As := [.int s1, .int s0, .int x17]) (n := 3) (kX1_sideRead hW (hW _ _ _ hv0 1 _ rfl) e18) gX5_reads_X1_sideRead rfl ⟨rfl, rfl⟩ ⟨rfl, hdX1_sideRead⟩ ⟨Nat.le_of_ble_eq_true rfl, Nat.le_of_ble_eq_true rfl⟩ cf1 (hW _ _ _ hv0 1 _ rfl) rfl rfl (Nat.le_of_ble_eq_true rfl) dX5_reads_91 ?_
  have hf := Option.some.inj hf
  subst hf
  exact g_iret dX5_reads_94
set_option maxHeartbeats 4000000 in
set_option maxRecDepth 100000 in
theorem uX5_reads {S : Shp} {n : Nat} {r : Rf} {v0 : Nat} {v1 : Int32} {v2 : Int32} {h : Hp} {o : Int32} (hW : WF S r) (hv0 : S[v0]? = some (5, 11)) (hf : fX5_reads n r v0 v1 v2 h = some o) : GX5_reads S r r (some o, h) 0 [(0, .ref v0), (1, .int v1), (2, .int v2)] [] h := by
  unfold fX5_reads at hf
  refine g_aload_n (ps := 0) dX5_reads_0 rfl rfl ?_
  refine g_getR cf5 hv0 nX5_reads_X5 (j := 1) (by decide) rfl mX5_reads_19 dX5_reads_1 ?_
  refine g_iload_n (ps := 1) dX5_reads_4 rfl rfl ?_
  obtain ⟨x2, e1, hf⟩ := bd_s hf
  refine g_callVi (As := [.int v1]) (n := 1) (kX1_hasIsland hW (hW _ _ _ hv0 1 _ rfl) e1) gX5_reads_X1_hasIsland rfl ⟨rfl, rfl⟩ ⟨rfl, hdX1_hasIsland⟩ ⟨Nat.le_of_ble_eq_true rfl, Nat.le_of_ble_eq_true rfl⟩ cf1 (hW _ _ _ hv0 1 _ rfl) rfl rfl (Nat.le_of_ble_eq_true rfl) dX5_reads_5 ?_
  refine g_if_eq (tgt := 22) dX5_reads_8 (by decide) (fun c3 => ?_) (fun c3 => ?_)
  · have hf := if_t hf c3
    refine g_ldc (v := (-1000000001)) mX5_reads_135 dX5_reads_22 ?_
    have hf := Option.some.inj hf
    subst hf
    exact g_iret dX5_reads_24
  · have hf := if_f hf c3
    refine g_aload_n (ps := 0) dX5_reads_11 rfl rfl ?_
    refine g_getR cf5 hv0 nX5_reads_X5 (j := 1) (by decide) rfl mX5_reads_19 dX5_reads_12 ?_
    refine g_iload_n (ps := 2) dX5_reads_15 rfl rfl ?_
    obtain ⟨x5, e4, hf⟩ := bd_s hf
    refine g_callVi (As := [.int v2]) (n := 1) (kX1_hasLink hW (hW _ _ _ hv0 1 _ rfl) e4) gX5_reads_X1_hasLink rfl ⟨rfl, rfl⟩ ⟨rfl, hdX1_hasLink⟩ ⟨Nat.le_of_ble_eq_true rfl, Nat.le_of_ble_eq_true rfl⟩ cf1 (hW _ _ _ hv0 1 _ rfl) rfl rfl (Nat.le_of_ble_eq_true rfl) dX5_reads_16 ?_
    refine g_if_ne (tgt := 25) dX5_reads_19 (by decide) (fun c6 => ?_) (fun c6 => ?_)
    · have hf := if_f hf c6
      refine g_aload_n (ps := 0) dX5_reads_25 rfl rfl ?_
      refine g_getR cf5 hv0 nX5_reads_X5 (j := 3) (by decide) rfl mX5_reads_29 dX5_reads_26 ?_
      refine g_getI cf0 (hW _ _ _ hv0 3 _ rfl) nX5_reads_X0 (j := 1) (by decide) rfl mX5_reads_110 dX5_reads_29 ?_
      refine g_iload_n (ps := 2) dX5_reads_32 rfl rfl ?_
      obtain ⟨x8, e7, hf⟩ := bd_s hf
      refine g_callSi (As := [.int (h.1 (r v0 3) 1), .int v2]) (n := 2) (kX5_has hW  e7) gX5_reads_X5_has rfl ⟨rfl, rfl⟩ hdX5_has ⟨Nat.le_of_ble_eq_true rfl, Nat.le_of_ble_eq_true rfl⟩ rfl rfl (Nat.le_of_ble_eq_true rfl) dX5_reads_33 ?_
      refine g_if_eq (tgt := 55) dX5_reads_36 (by decide) (fun c9 => ?_) (fun c9 => ?_)
      · have hf := if_t hf c9
        refine g_iconst (v := (-1)) dX5_reads_55 (by decide +kernel) ?_
        have hf := Option.some.inj hf
        subst hf
        exact g_iret dX5_reads_56
      · have hf := if_f hf c9
        refine g_aload_n (ps := 0) dX5_reads_39 rfl rfl ?_
        refine g_getR cf5 hv0 nX5_reads_X5 (j := 1) (by decide) rfl mX5_reads_19 dX5_reads_40 ?_
        refine g_getR cf1 (hW _ _ _ hv0 1 _ rfl) nX5_reads_X1 (j := 2) (by decide) rfl mX5_reads_167 dX5_reads_43 ?_
        refine g_iload_n (ps := 2) dX5_reads_46 rfl rfl ?_
        obtain ⟨z10, hf⟩ := ck_s hf
        refine g_iald (hW _ _ _ (hW _ _ _ hv0 1 _ rfl) 2 _ rfl) z10 dX5_reads_47 ?_
        refine g_iload_n (ps := 1) dX5_reads_48 rfl rfl ?_
        obtain ⟨x12, e11, hf⟩ := bd_s hf
        refine g_callSi (As := [.int (h.1 (r (r v0 1) 2) (Int32.toNatClampNeg v2)), .int v1]) (n := 2) (kX5_has hW  e11) gX5_reads_X5_has rfl ⟨rfl, rfl⟩ hdX5_has ⟨Nat.le_of_ble_eq_true rfl, Nat.le_of_ble_eq_true rfl⟩ rfl rfl (Nat.le_of_ble_eq_true rfl) dX5_reads_49 ?_
        refine g_if_ne (tgt := 57) dX5_reads_52 (by decide) (fun c13 => ?_) (fun c13 => ?_)
        · have hf := if_f hf c13
          refine g_aload_n (ps := 0) dX5_reads_57 rfl rfl ?_
          refine g_getR cf5 hv0 nX5_reads_X5 (j := 1) (by decide) rfl mX5_reads_19 dX5_reads_58 ?_
          refine g_iload_n (ps := 2) dX5_reads_61 rfl rfl ?_
          refine g_iload_n (ps := 1) dX5_reads_62 rfl rfl ?_
          refine g_aload_n (ps := 0) dX5_reads_63 rfl rfl ?_
          refine g_getR cf5 hv0 nX5_reads_X5 (j := 1) (by decide) rfl mX5_reads_19 dX5_reads_64 ?_
          refine g_getR cf1 (hW _ _ _ hv0 1 _ rfl) nX5_reads_X1 (j := 0) (by decide) rfl mX5_reads_136 dX5_reads_67 ?_
          refine g_iload_n (ps := 2) dX5_reads_70 rfl rfl ?_
          obtain ⟨z14, hf⟩ := ck_s hf
          refine g_iald (hW _ _ _ (hW _ _ _ hv0 1 _ rfl) 0 _ rfl) z14 dX5_reads_71 ?_
          refine g_icmp_ne (tgt := 79) dX5_reads_72 (by decide) (fun c15 => ?_) (fun c15 => ?_)
          · have hf := if_f hf c15
            refine g_iconst (v := 0) dX5_reads_79 (by decide +kernel) ?_
            exact g_pick [0, 2] rfl (ujX5_reads_80 hW hv0 hf)
          · have hf := if_t hf c15
            refine g_iconst (v := 1) dX5_reads_75 (by decide +kernel) ?_
            refine g_goto (tgt := 80) dX5_reads_76 (by decide) ?_
            exact g_pick [0, 2] rfl (ujX5_reads_80 hW hv0 hf)
        · have hf := if_t hf c13
          refine g_iconst (v := (-1)) dX5_reads_55 (by decide +kernel) ?_
          have hf := Option.some.inj hf
          subst hf
          exact g_iret dX5_reads_56
    · have hf := if_t hf c6
      refine g_ldc (v := (-1000000001)) mX5_reads_135 dX5_reads_22 ?_
      have hf := Option.some.inj hf
      subst hf
      exact g_iret dX5_reads_24
theorem kX5_reads {S : Shp} {n : Nat} {r : Rf} {v0 : Nat} {v1 : Int32} {v2 : Int32} {h : Hp} {o : Int32} (hW : WF S r) (hv0 : S[v0]? = some (5, 11)) (hf : fX5_reads n r v0 v1 v2 h = some o) : CTi yX5_reads wsX5_reads rmX5_reads S r [.ref v0, .int v1, .int v2] h r o h :=
  cti_of rfl (by decide +kernel) rfl (Nat.le_of_ble_eq_true rfl) rfl (uX5_reads hW hv0 hf)
/-! X5_wind wind -/
def rmX5_wind : Room := { frames := 1, cells := 0, slots := 0, locals := 22 }
abbrev GX5_wind (S : Shp) (r r' : Rf) (out : Option Int32 × Hp) (pc : Nat) (L : List (Nat × Value)) (st : List Value) (h : Hp) : Prop := G RX5 cX5_wind 2 (some .int) wsX5_wind rmX5_wind S r r' out pc L st h
theorem nX5_wind_X0 : ∀ w ∈ wsX00, w ∈ wsX5_wind := by decide +kernel
theorem nX5_wind_X5 : ∀ w ∈ wsX50, w ∈ wsX5_wind := by decide +kernel
theorem mX5_wind_178 : Cond.constant RX5 178 (-1000000003) ∈ wsX5_wind := by decide +kernel
theorem mX5_wind_68 : Cond.constant RX5 68 (-1000000002) ∈ wsX5_wind := by decide +kernel
theorem mX5_wind_101 : Cond.fieldLink RX5 101 "LinkedIsles$Bonds" "hours" "I" ∈ wsX5_wind := by decide +kernel
theorem mX5_wind_19 : Cond.fieldLink RX5 19 "LinkedIsles" "chart" "LLinkedIsles$Chart;" ∈ wsX5_wind := by decide +kernel
theorem mX5_wind_29 : Cond.fieldLink RX5 29 "LinkedIsles" "now" "LLinkedIsles$Bonds;" ∈ wsX5_wind := by decide +kernel
theorem hdX5_wind : yX5_wind.cls ≠ "java/lang/invoke/MethodHandle" ∧ yX5_wind.cls ≠ "java/lang/invoke/VarHandle" ∧ (parseMethodDescriptor yX5_wind.desc).map (fun d => d.parameters.length) = some 1 := by decide +kernel
def fX5_wind (n : Nat) (r : Rf) (v0 : Nat) (v1 : Int32) (h : Hp) : Option Int32 :=
  (fX5_isWithin n r v1 0 60 h).bind (fun (x2 : Int32) => if x2 = 0 then (some (-1000000002)) else ((fX1_isThere n r (r v0 1) h).bind (fun (x5 : Int32) => if x5 = 0 then (some (-1000000003)) else ((fX1_windOf n r (r v0 1) ((h.1 (r v0 3) 4) + v1) h).bind (fun (x8 : Int32) => some x8)))))
set_option maxHeartbeats 4000000 in
set_option maxRecDepth 100000 in
theorem uX5_wind {S : Shp} {n : Nat} {r : Rf} {v0 : Nat} {v1 : Int32} {h : Hp} {o : Int32} (hW : WF S r) (hv0 : S[v0]? = some (5, 11)) (hf : fX5_wind n r v0 v1 h = some o) : GX5_wind S r r (some o, h) 0 [(0, .ref v0), (1, .int v1)] [] h := by
  unfold fX5_wind at hf
  refine g_iload_n (ps := 1) dX5_wind_0 rfl rfl ?_
  refine g_iconst (v := 0) dX5_wind_1 (by decide +kernel) ?_
  refine g_bipush (v := 60) dX5_wind_2 (by decide +kernel) ?_
  obtain ⟨x2, e1, hf⟩ := bd_s hf
  refine g_callSi (As := [.int v1, .int 0, .int 60]) (n := 3) (kX5_isWithin hW  e1) gX5_wind_X5_isWithin rfl ⟨rfl, rfl⟩ hdX5_isWithin ⟨Nat.le_of_ble_eq_true rfl, Nat.le_of_ble_eq_true rfl⟩ rfl rfl (Nat.le_of_ble_eq_true rfl) dX5_wind_4 ?_
  refine g_if_ne (tgt := 13) dX5_wind_7 (by decide) (fun c3 => ?_) (fun c3 => ?_)
  · have hf := if_f hf c3
    refine g_aload_n (ps := 0) dX5_wind_13 rfl rfl ?_
    refine g_getR cf5 hv0 nX5_wind_X5 (j := 1) (by decide) rfl mX5_wind_19 dX5_wind_14 ?_
    obtain ⟨x5, e4, hf⟩ := bd_s hf
    refine g_callVi (As := []) (n := 0) (kX1_isThere hW (hW _ _ _ hv0 1 _ rfl) e4) gX5_wind_X1_isThere rfl ⟨rfl, rfl⟩ ⟨rfl, hdX1_isThere⟩ ⟨Nat.le_of_ble_eq_true rfl, Nat.le_of_ble_eq_true rfl⟩ cf1 (hW _ _ _ hv0 1 _ rfl) rfl rfl (Nat.le_of_ble_eq_true rfl) dX5_wind_17 ?_
    refine g_if_ne (tgt := 26) dX5_wind_20 (by decide) (fun c6 => ?_) (fun c6 => ?_)
    · have hf := if_f hf c6
      refine g_aload_n (ps := 0) dX5_wind_26 rfl rfl ?_
      refine g_getR cf5 hv0 nX5_wind_X5 (j := 1) (by decide) rfl mX5_wind_19 dX5_wind_27 ?_
      refine g_aload_n (ps := 0) dX5_wind_30 rfl rfl ?_
      refine g_getR cf5 hv0 nX5_wind_X5 (j := 3) (by decide) rfl mX5_wind_29 dX5_wind_31 ?_
      refine g_getI cf0 (hW _ _ _ hv0 3 _ rfl) nX5_wind_X0 (j := 4) (by decide) rfl mX5_wind_101 dX5_wind_34 ?_
      refine g_iload_n (ps := 1) dX5_wind_37 rfl rfl ?_
      refine g_iadd dX5_wind_38 ?_
      obtain ⟨x8, e7, hf⟩ := bd_s hf
      refine g_callVi (As := [.int ((h.1 (r v0 3) 4) + v1)]) (n := 1) (kX1_windOf hW (hW _ _ _ hv0 1 _ rfl) e7) gX5_wind_X1_windOf rfl ⟨rfl, rfl⟩ ⟨rfl, hdX1_windOf⟩ ⟨Nat.le_of_ble_eq_true rfl, Nat.le_of_ble_eq_true rfl⟩ cf1 (hW _ _ _ hv0 1 _ rfl) rfl rfl (Nat.le_of_ble_eq_true rfl) dX5_wind_39 ?_
      have hf := Option.some.inj hf
      subst hf
      exact g_iret dX5_wind_42
    · have hf := if_t hf c6
      refine g_ldc (v := (-1000000003)) mX5_wind_178 dX5_wind_23 ?_
      have hf := Option.some.inj hf
      subst hf
      exact g_iret dX5_wind_25
  · have hf := if_t hf c3
    refine g_ldc (v := (-1000000002)) mX5_wind_68 dX5_wind_10 ?_
    have hf := Option.some.inj hf
    subst hf
    exact g_iret dX5_wind_12
theorem kX5_wind {S : Shp} {n : Nat} {r : Rf} {v0 : Nat} {v1 : Int32} {h : Hp} {o : Int32} (hW : WF S r) (hv0 : S[v0]? = some (5, 11)) (hf : fX5_wind n r v0 v1 h = some o) : CTi yX5_wind wsX5_wind rmX5_wind S r [.ref v0, .int v1] h r o h :=
  cti_of rfl (by decide +kernel) rfl (Nat.le_of_ble_eq_true rfl) rfl (uX5_wind hW hv0 hf)
/-! X5_refusalOfHours refusalOfHours -/
def rmX5_refusalOfHours : Room := { frames := 1, cells := 0, slots := 0, locals := 22 }
abbrev GX5_refusalOfHours (S : Shp) (r r' : Rf) (out : Option Int32 × Hp) (pc : Nat) (L : List (Nat × Value)) (st : List Value) (h : Hp) : Prop := G RX5 cX5_refusalOfHours 2 (some .int) wsX5_refusalOfHours rmX5_refusalOfHours S r r' out pc L st h
theorem nX5_refusalOfHours_X0 : ∀ w ∈ wsX00, w ∈ wsX5_refusalOfHours := by decide +kernel
theorem nX5_refusalOfHours_X5 : ∀ w ∈ wsX50, w ∈ wsX5_refusalOfHours := by decide +kernel
theorem mX5_refusalOfHours_178 : Cond.constant RX5 178 (-1000000003) ∈ wsX5_refusalOfHours := by decide +kernel
theorem mX5_refusalOfHours_302 : Cond.constant RX5 302 (90000) ∈ wsX5_refusalOfHours := by decide +kernel
theorem mX5_refusalOfHours_68 : Cond.constant RX5 68 (-1000000002) ∈ wsX5_refusalOfHours := by decide +kernel
theorem mX5_refusalOfHours_72 : Cond.constant RX5 72 (-1000000004) ∈ wsX5_refusalOfHours := by decide +kernel
theorem mX5_refusalOfHours_101 : Cond.fieldLink RX5 101 "LinkedIsles$Bonds" "hours" "I" ∈ wsX5_refusalOfHours := by decide +kernel
theorem mX5_refusalOfHours_19 : Cond.fieldLink RX5 19 "LinkedIsles" "chart" "LLinkedIsles$Chart;" ∈ wsX5_refusalOfHours := by decide +kernel
theorem mX5_refusalOfHours_29 : Cond.fieldLink RX5 29 "LinkedIsles" "now" "LLinkedIsles$Bonds;" ∈ wsX5_refusalOfHours := by decide +kernel
theorem hdX5_refusalOfHours : yX5_refusalOfHours.cls ≠ "java/lang/invoke/MethodHandle" ∧ yX5_refusalOfHours.cls ≠ "java/lang/invoke/VarHandle" ∧ (parseMethodDescriptor yX5_refusalOfHours.desc).map (fun d => d.parameters.length) = some 1 := by decide +kernel
def fX5_refusalOfHours (n : Nat) (r : Rf) (v0 : Nat) (v1 : Int32) (h : Hp) : Option Int32 :=
  (fX5_isWithin n r v1 1 30 h).bind (fun (x2 : Int32) => if x2 = 0 then (some (-1000000002)) else ((fX1_isThere n r (r v0 1) h).bind (fun (x5 : Int32) => if x5 = 0 then (some (-1000000003)) else (if (h.1 (r v0 3) 4) ≤ 90000 then (some 0) else (some (-1000000004))))))
set_option maxHeartbeats 4000000 in
set_option maxRecDepth 100000 in
theorem uX5_refusalOfHours {S : Shp} {n : Nat} {r : Rf} {v0 : Nat} {v1 : Int32} {h : Hp} {o : Int32} (hW : WF S r) (hv0 : S[v0]? = some (5, 11)) (hf : fX5_refusalOfHours n r v0 v1 h = some o) : GX5_refusalOfHours S r r (some o, h) 0 [(0, .ref v0), (1, .int v1)] [] h := by
  unfold fX5_refusalOfHours at hf
  refine g_iload_n (ps := 1) dX5_refusalOfHours_0 rfl rfl ?_
  refine g_iconst (v := 1) dX5_refusalOfHours_1 (by decide +kernel) ?_
  refine g_bipush (v := 30) dX5_refusalOfHours_2 (by decide +kernel) ?_
  obtain ⟨x2, e1, hf⟩ := bd_s hf
  refine g_callSi (As := [.int v1, .int 1, .int 30]) (n := 3) (kX5_isWithin hW  e1) gX5_refusalOfHours_X5_isWithin rfl ⟨rfl, rfl⟩ hdX5_isWithin ⟨Nat.le_of_ble_eq_true rfl, Nat.le_of_ble_eq_true rfl⟩ rfl rfl (Nat.le_of_ble_eq_true rfl) dX5_refusalOfHours_4 ?_
  refine g_if_ne (tgt := 13) dX5_refusalOfHours_7 (by decide) (fun c3 => ?_) (fun c3 => ?_)
  · have hf := if_f hf c3
    refine g_aload_n (ps := 0) dX5_refusalOfHours_13 rfl rfl ?_
    refine g_getR cf5 hv0 nX5_refusalOfHours_X5 (j := 1) (by decide) rfl mX5_refusalOfHours_19 dX5_refusalOfHours_14 ?_
    obtain ⟨x5, e4, hf⟩ := bd_s hf
    refine g_callVi (As := []) (n := 0) (kX1_isThere hW (hW _ _ _ hv0 1 _ rfl) e4) gX5_refusalOfHours_X1_isThere rfl ⟨rfl, rfl⟩ ⟨rfl, hdX1_isThere⟩ ⟨Nat.le_of_ble_eq_true rfl, Nat.le_of_ble_eq_true rfl⟩ cf1 (hW _ _ _ hv0 1 _ rfl) rfl rfl (Nat.le_of_ble_eq_true rfl) dX5_refusalOfHours_17 ?_
    refine g_if_ne (tgt := 26) dX5_refusalOfHours_20 (by decide) (fun c6 => ?_) (fun c6 => ?_)
    · have hf := if_f hf c6
      refine g_aload_n (ps := 0) dX5_refusalOfHours_26 rfl rfl ?_
      refine g_getR cf5 hv0 nX5_refusalOfHours_X5 (j := 3) (by decide) rfl mX5_refusalOfHours_29 dX5_refusalOfHours_27 ?_
      refine g_getI cf0 (hW _ _ _ hv0 3 _ rfl) nX5_refusalOfHours_X0 (j := 4) (by decide) rfl mX5_refusalOfHours_101 dX5_refusalOfHours_30 ?_
      refine g_ldcw (v := 90000) mX5_refusalOfHours_302 dX5_refusalOfHours_33 ?_
      refine g_icmp_le (tgt := 44) dX5_refusalOfHours_36 (by decide) (fun c7 => ?_) (fun c7 => ?_)
      · have hf := if_t hf c7
        refine g_iconst (v := 0) dX5_refusalOfHours_44 (by decide +kernel) ?_
        have hf := Option.some.inj hf
        subst hf
        exact g_iret dX5_refusalOfHours_45
      · have hf := if_f hf c7
        refine g_ldc (v := (-1000000004)) mX5_refusalOfHours_72 dX5_refusalOfHours_39 ?_
        refine g_goto (tgt := 45) dX5_refusalOfHours_41 (by decide) ?_
        have hf := Option.some.inj hf
        subst hf
        exact g_iret dX5_refusalOfHours_45
    · have hf := if_t hf c6
      refine g_ldc (v := (-1000000003)) mX5_refusalOfHours_178 dX5_refusalOfHours_23 ?_
      have hf := Option.some.inj hf
      subst hf
      exact g_iret dX5_refusalOfHours_25
  · have hf := if_t hf c3
    refine g_ldc (v := (-1000000002)) mX5_refusalOfHours_68 dX5_refusalOfHours_10 ?_
    have hf := Option.some.inj hf
    subst hf
    exact g_iret dX5_refusalOfHours_12
theorem kX5_refusalOfHours {S : Shp} {n : Nat} {r : Rf} {v0 : Nat} {v1 : Int32} {h : Hp} {o : Int32} (hW : WF S r) (hv0 : S[v0]? = some (5, 11)) (hf : fX5_refusalOfHours n r v0 v1 h = some o) : CTi yX5_refusalOfHours wsX5_refusalOfHours rmX5_refusalOfHours S r [.ref v0, .int v1] h r o h :=
  cti_of rfl (by decide +kernel) rfl (Nat.le_of_ble_eq_true rfl) rfl (uX5_refusalOfHours hW hv0 hf)
/-! X5_hour hour -/
def rmX5_hour : Room := { frames := 3, cells := 0, slots := 0, locals := 84 }
abbrev GX5_hour (S : Shp) (r r' : Rf) (out : Option Int32 × Hp) (pc : Nat) (L : List (Nat × Value)) (st : List Value) (h : Hp) : Prop := G RX5 cX5_hour 4 (some .int) wsX5_hour rmX5_hour S r r' out pc L st h
theorem nX5_hour_X0 : ∀ w ∈ wsX00, w ∈ wsX5_hour := by decide +kernel
theorem nX5_hour_X5 : ∀ w ∈ wsX50, w ∈ wsX5_hour := by decide +kernel
theorem mX5_hour_110 : Cond.fieldLink RX5 110 "LinkedIsles$Bonds" "doneUp" "I" ∈ wsX5_hour := by decide +kernel
theorem mX5_hour_19 : Cond.fieldLink RX5 19 "LinkedIsles" "chart" "LLinkedIsles$Chart;" ∈ wsX5_hour := by decide +kernel
theorem mX5_hour_29 : Cond.fieldLink RX5 29 "LinkedIsles" "now" "LLinkedIsles$Bonds;" ∈ wsX5_hour := by decide +kernel
theorem mX5_hour_39 : Cond.fieldLink RX5 39 "LinkedIsles" "log" "LLinkedIsles$Log;" ∈ wsX5_hour := by decide +kernel
theorem hdX5_hour : yX5_hour.cls ≠ "java/lang/invoke/MethodHandle" ∧ yX5_hour.cls ≠ "java/lang/invoke/VarHandle" ∧ (parseMethodDescriptor yX5_hour.desc).map (fun d => d.parameters.length) = some 1 := by decide +kernel
def bX5_hour_14 (n : Nat) (r : Rf) (v0 : Nat) (v1 : Int32) (v3 : Int32) (h : Hp) : Option ((Int32 × Hp) ⊕ (Hp)) :=
  if v1 ≤ v3 then (some (.inr h)) else ((fX2_note n r (r v0 5) (r v0 3) h).bind (fun (h6 : Hp) => bd2 (fX0_passHour n r (r v0 3) (r v0 1) h6) (fun (x8 : Int32) (h9 : Hp) => lE (v3 + 1) (fun (x10 : Int32) => some (.inl (x10, h9))))))
def lX5_hour_14 (n : Nat) (r : Rf) (v0 : Nat) (v1 : Int32) (v3 : Int32) (h : Hp) : Option (Int32 × Hp) :=
  (it (fun (s : Int32 × Hp) => bX5_hour_14 n r v0 v1 s.1 s.2) n (v3, h)).bind (fun z => some ((z.1 (r v0 3) 1), z))
def fX5_hour (n : Nat) (r : Rf) (v0 : Nat) (v1 : Int32) (h : Hp) : Option (Int32 × Hp) :=
  (fX5_refusalOfHours n r v0 v1 h).bind (fun (x2 : Int32) => if x2 = 0 then (lX5_hour_14 n r v0 v1 0 h) else (some (x2, h)))
set_option maxHeartbeats 4000000 in
set_option maxRecDepth 100000 in
theorem ubX5_hour_14 {S : Shp} {n : Nat} {r : Rf} {out : Option Int32 × Hp} {r' : Rf} {v0 : Nat} {v1 : Int32} {v3 : Int32}  {h : Hp} {w : (Int32 × Hp) ⊕ (Hp)} (hW : WF S r) (hv0 : S[v0]? = some (5, 11)) (hf : bX5_hour_14 n r v0 v1 v3 h = some w) (hk : ∀ y, w = .inl y → GX5_hour S r r' out 14 [(0, .ref v0), (1, .int v1), (3, .int (y.1))] [] (y.2)) (he : ∀ z, w = .inr z → GX5_hour S r r' out 48 [(0, .ref v0)] [] (z)) : GX5_hour S r r' out 14 [(0, .ref v0), (1, .int v1), (3, .int v3)] [] h := by
  unfold bX5_hour_14 at hf
  refine g_iload_n (ps := 2) dX5_hour_14 rfl rfl ?_
  refine g_iload_n (ps := 1) dX5_hour_15 rfl rfl ?_
  refine g_icmp_ge (tgt := 48) dX5_hour_16 (by decide) (fun c4 => ?_) (fun c4 => ?_)
  · have hf := if_t hf c4
    exact g_pick [0] rfl (he _ (Option.some.inj hf).symm)
  · have hf := if_f hf c4
    refine g_aload_n (ps := 0) dX5_hour_19 rfl rfl ?_
    refine g_getR cf5 hv0 nX5_hour_X5 (j := 5) (by decide) rfl mX5_hour_39 dX5_hour_20 ?_
    refine g_aload_n (ps := 0) dX5_hour_23 rfl rfl ?_
    refine g_getR cf5 hv0 nX5_hour_X5 (j := 3) (by decide) rfl mX5_hour_29 dX5_hour_24 ?_
    obtain ⟨h6, e5, hf⟩ := bd_s hf
    refine g_callVv (As := [.ref (r v0 3)]) (n := 1) (kX2_note hW (hW _ _ _ hv0 5 _ rfl) (hW _ _ _ hv0 3 _ rfl) e5) gX5_hour_X2_note rfl ⟨rfl, rfl⟩ ⟨rfl, hdX2_note⟩ ⟨Nat.le_of_ble_eq_true rfl, Nat.le_of_ble_eq_true rfl⟩ cf2 (hW _ _ _ hv0 5 _ rfl) rfl rfl (Nat.le_of_ble_eq_true rfl) dX5_hour_27 ?_
    refine g_aload_n (ps := 0) dX5_hour_30 rfl rfl ?_
    refine g_getR cf5 hv0 nX5_hour_X5 (j := 3) (by decide) rfl mX5_hour_29 dX5_hour_31 ?_
    refine g_aload_n (ps := 0) dX5_hour_34 rfl rfl ?_
    refine g_getR cf5 hv0 nX5_hour_X5 (j := 1) (by decide) rfl mX5_hour_19 dX5_hour_35 ?_
    obtain ⟨x8, h9, e7, hf⟩ := bd2_s hf
    refine g_callVi (As := [.ref (r v0 1)]) (n := 1) (kX0_passHour hW (hW _ _ _ hv0 3 _ rfl) (hW _ _ _ hv0 1 _ rfl) e7) gX5_hour_X0_passHour rfl ⟨rfl, rfl⟩ ⟨rfl, hdX0_passHour⟩ ⟨Nat.le_of_ble_eq_true rfl, Nat.le_of_ble_eq_true rfl⟩ cf0 (hW _ _ _ hv0 3 _ rfl) rfl rfl (Nat.le_of_ble_eq_true rfl) dX5_hour_38 ?_
    refine g_pop dX5_hour_41 rfl ?_
    obtain ⟨x10, ex10⟩ : ∃ y : Int32, y = v3 + 1 := ⟨_, rfl⟩
    have hf := lE_s hf ex10
    refine g_iinc (ps := 2) (v := x10) (L' := [(3, .int x10), (0, .ref v0), (1, .int v1)]) dX5_hour_42 rfl (by rw [ex10]; rfl) (by decide) rfl ?_
    refine g_goto (tgt := 14) dX5_hour_45 (by decide) ?_
    exact g_pick [1, 2, 0] rfl (hk _ (Option.some.inj hf).symm)
set_option maxHeartbeats 4000000 in
set_option maxRecDepth 100000 in
theorem ulX5_hour_14 {S : Shp} {n : Nat} {r : Rf} {v0 : Nat} {v1 : Int32} {v3 : Int32}  {h : Hp} {o : (Int32 × Hp)} (hW : WF S r) (hv0 : S[v0]? = some (5, 11)) (hf : lX5_hour_14 n r v0 v1 v3 h = some o)  : GX5_hour S r r (some o.1, o.2) 14 [(0, .ref v0), (1, .int v1), (3, .int v3)] [] h := by
  unfold lX5_hour_14 at hf
  obtain ⟨z0, ei, hf⟩ := bd_s hf
  refine it_ind (P := fun (s : Int32 × Hp) => GX5_hour S r r (some o.1, o.2) 14 [(0, .ref v0), (1, .int v1), (3, .int (s.1))] [] (s.2)) (fun s w hb hk2 he2 => ?_) n _ ei
  refine ubX5_hour_14 (out := (some o.1, o.2)) (r' := r) hW hv0 hb hk2 (fun z hz => ?_)
  have hz := he2 z hz
  subst hz
  refine g_aload_n (ps := 0) dX5_hour_48 rfl rfl ?_
  refine g_getR cf5 hv0 nX5_hour_X5 (j := 3) (by decide) rfl mX5_hour_29 dX5_hour_49 ?_
  refine g_getI cf0 (hW _ _ _ hv0 3 _ rfl) nX5_hour_X0 (j := 1) (by decide) rfl mX5_hour_110 dX5_hour_52 ?_
  have hf := Option.some.inj hf
  subst hf
  exact g_iret dX5_hour_55
set_option maxHeartbeats 4000000 in
set_option maxRecDepth 100000 in
theorem uX5_hour {S : Shp} {n : Nat} {r : Rf} {v0 : Nat} {v1 : Int32} {h : Hp} {o : (Int32 × Hp)} (hW : WF S r) (hv0 : S[v0]? = some (5, 11)) (hf : fX5_hour n r v0 v1 h = some o) : GX5_hour S r r (some o.1, o.2) 0 [(0, .ref v0), (1, .int v1)] [] h := by
  unfold fX5_hour at hf
  refine g_aload_n (ps := 0) dX5_hour_0 rfl rfl ?_
  refine g_iload_n (ps := 1) dX5_hour_1 rfl rfl ?_
  obtain ⟨x2, e1, hf⟩ := bd_s hf
  refine g_callVi (As := [.int v1]) (n := 1) (kX5_refusalOfHours hW hv0 e1) gX5_hour_X5_refusalOfHours rfl ⟨rfl, rfl⟩ ⟨rfl, hdX5_refusalOfHours⟩ ⟨Nat.le_of_ble_eq_true rfl, Nat.le_of_ble_eq_true rfl⟩ cf5 hv0 rfl rfl (Nat.le_of_ble_eq_true rfl) dX5_hour_2 ?_
  refine g_istore_n (L' := [(2, .int x2), (0, .ref v0), (1, .int v1)]) dX5_hour_5 rfl (by decide) rfl ?_
  refine g_iload_n (ps := 0) dX5_hour_6 rfl rfl ?_
  refine g_if_eq (tgt := 12) dX5_hour_7 (by decide) (fun c3 => ?_) (fun c3 => ?_)
  · have hf := if_t hf c3
    refine g_iconst (v := 0) dX5_hour_12 (by decide +kernel) ?_
    refine g_istore_n (L' := [(3, .int 0), (2, .int x2), (0, .ref v0), (1, .int v1)]) dX5_hour_13 rfl (by decide) rfl ?_
    exact g_pick [2, 3, 0] rfl (ulX5_hour_14 hW hv0 hf)
  · have hf := if_f hf c3
    refine g_iload_n (ps := 0) dX5_hour_10 rfl rfl ?_
    have hf := Option.some.inj hf
    subst hf
    exact g_iret dX5_hour_11
theorem kX5_hour {S : Shp} {n : Nat} {r : Rf} {v0 : Nat} {v1 : Int32} {h : Hp} {o : (Int32 × Hp)} (hW : WF S r) (hv0 : S[v0]? = some (5, 11)) (hf : fX5_hour n r v0 v1 h = some o) : CTi yX5_hour wsX5_hour rmX5_hour S r [.ref v0, .int v1] h r o.1 o.2 :=
  cti_of rfl (by decide +kernel) rfl (Nat.le_of_ble_eq_true rfl) rfl (uX5_hour hW hv0 hf)
