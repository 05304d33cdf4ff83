/-! X6_drift drift -/
def rmX6_drift : Room := { frames := 3, cells := 0, slots := 0, locals := 69 }
abbrev GX6_drift (S : Shp) (r r' : Rf) (out : Option Int32 × Hp) (pc : Nat) (L : List (Nat × Value)) (st : List Value) (h : Hp) : Prop := G RX6 cX6_drift 4 (some .int) wsX6_drift rmX6_drift S r r' out pc L st h
theorem nX6_drift_X6 : ∀ w ∈ wsX60, w ∈ wsX6_drift := by decide +kernel
theorem mX6_drift_144 : Cond.fieldLink RX6 144 "LinkedIslesModel" "m" "I" ∈ wsX6_drift := by decide +kernel
theorem mX6_drift_47 : Cond.fieldLink RX6 47 "LinkedIslesModel" "now" "[I" ∈ wsX6_drift := by decide +kernel
theorem hdX6_drift : yX6_drift.cls ≠ "java/lang/invoke/MethodHandle" ∧ yX6_drift.cls ≠ "java/lang/invoke/VarHandle" ∧ (parseMethodDescriptor yX6_drift.desc).map (fun d => d.parameters.length) = some 1 := by decide +kernel
def jX6_drift_34 (n : Nat) (r : Rf) (v0 : Nat) (v1 : Int32) (v3 : Int32)  (h : Hp) : Option ((Int32 × Hp) ⊕ (Hp)) :=
  bd2 (fX6_passes n r v0 (r v0 22) 16 h) (fun (x9 : Int32) (h10 : Hp) => lE (v3 + 1) (fun (x11 : Int32) => some (.inl (x11, h10))))
def bX6_drift_14 (n : Nat) (r : Rf) (v0 : Nat) (v1 : Int32) (v3 : Int32) (h : Hp) : Option ((Int32 × Hp) ⊕ (Hp)) :=
  if v1 ≤ v3 then (some (.inr h)) else ((fX6_remember n r v0 h).bind (fun (h6 : Hp) => if (h6.1 v0 15) ≤ 0 then (jX6_drift_34 n r v0 v1 v3  h6) else ((fX6_draws n r v0 h6).bind (fun (h13 : Hp) => jX6_drift_34 n r v0 v1 v3  h13))))
def lX6_drift_14 (n : Nat) (r : Rf) (v0 : Nat) (v1 : Int32) (v3 : Int32) (h : Hp) : Option (Int32 × Hp) :=
  (it (fun (s : Int32 × Hp) => bX6_drift_14 n r v0 v1 s.1 s.2) n (v3, h)).bind (fun z => ck 0 16 (some ((z.1 (r v0 22) (Int32.toNatClampNeg 0)), z)))
def fX6_drift (n : Nat) (r : Rf) (v0 : Nat) (v1 : Int32) (h : Hp) : Option (Int32 × Hp) :=
  (fX6_needHours n r v0 v1 h).bind (fun (x2 : Int32) => if 0 ≤ x2 then (lX6_drift_14 n r v0 v1 0 h) else (some (x2, h)))
set_option maxHeartbeats 4000000 in
set_option maxRecDepth 100000 in
theorem ujX6_drift_34 {S : Shp} {n : Nat} {r : Rf} {out : Option Int32 × Hp} {r' : Rf} {v0 : Nat} {v1 : Int32} {v3 : Int32}  {h : Hp} {w : (Int32 × Hp) ⊕ (Hp)} (hW : WF S r) (hv0 : S[v0]? = some (6, 38)) (hf : jX6_drift_34 n r v0 v1 v3  h = some w) (hk : ∀ y, w = .inl y → GX6_drift S r r' out 14 [(0, .ref v0), (1, .int v1), (3, .int (y.1))] [] (y.2)) (he : ∀ z, w = .inr z → GX6_drift S r r' out 49 [(0, .ref v0)] [] (z)) : GX6_drift S r r' out 34 [(0, .ref v0), (1, .int v1), (3, .int v3)] [] h := by
  unfold jX6_drift_34 at hf
  refine g_aload_n (ps := 0) dX6_drift_34 rfl rfl ?_
  refine g_aload_n (ps := 0) dX6_drift_35 rfl rfl ?_
  refine g_getR cf6 hv0 nX6_drift_X6 (j := 22) (by decide) rfl mX6_drift_47 dX6_drift_36 ?_
  obtain ⟨x9, h10, e8, hf⟩ := bd2_s hf
  refine g_callVi (As := [.ref (r v0 22)]) (n := 1) (kX6_passes hW hv0 (hW _ _ _ hv0 22 _ rfl) e8) gX6_drift_X6_passes rfl ⟨rfl, rfl⟩ ⟨rfl, hdX6_passes⟩ ⟨Nat.le_of_ble_eq_true rfl, Nat.le_of_ble_eq_true rfl⟩ cf6 hv0 rfl rfl (Nat.le_of_ble_eq_true rfl) dX6_drift_39 ?_
  refine g_pop dX6_drift_42 rfl ?_
  obtain ⟨x11, ex11⟩ : ∃ y : Int32, y = v3 + 1 := ⟨_, rfl⟩
  have hf := lE_s hf ex11
  refine g_iinc (ps := 2) (v := x11) (L' := [(3, .int x11), (0, .ref v0), (1, .int v1)]) dX6_drift_43 rfl (by rw [ex11]; rfl) (by decide) rfl ?_
  refine g_goto (tgt := 14) dX6_drift_46 (by decide) ?_
  exact g_pick [1, 2, 0] rfl (hk _ (Option.some.inj hf).symm)
set_option maxHeartbeats 4000000 in
set_option maxRecDepth 100000 in
theorem ubX6_drift_14 {S : Shp} {n : Nat} {r : Rf} {out : Option Int32 × Hp} {r' : Rf} {v0 : Nat} {v1 : Int32} {v3 : Int32}  {h : Hp} {w : (Int32 × Hp) ⊕ (Hp)} (hW : WF S r) (hv0 : S[v0]? = some (6, 38)) (hf : bX6_drift_14 n r v0 v1 v3 h = some w) (hk : ∀ y, w = .inl y → GX6_drift S r r' out 14 [(0, .ref v0), (1, .int v1), (3, .int (y.1))] [] (y.2)) (he : ∀ z, w = .inr z → GX6_drift S r r' out 49 [(0, .ref v0)] [] (z)) : GX6_drift S r r' out 14 [(0, .ref v0), (1, .int v1), (3, .int v3)] [] h := by
  unfold bX6_drift_14 at hf
  refine g_iload_n (ps := 2) dX6_drift_14 rfl rfl ?_
  refine g_iload_n (ps := 1) dX6_drift_15 rfl rfl ?_
  refine g_icmp_ge (tgt := 49) dX6_drift_16 (by decide) (fun c4 => ?_) (fun c4 => ?_)
  · have hf := if_t hf c4
    exact g_pick [0] rfl (he _ (Option.some.inj hf).symm)
  · have hf := if_f hf c4
    refine g_aload_n (ps := 0) dX6_drift_19 rfl rfl ?_
    obtain ⟨h6, e5, hf⟩ := bd_s hf
    refine g_callVv (As := []) (n := 0) (kX6_remember hW hv0 e5) gX6_drift_X6_remember rfl ⟨rfl, rfl⟩ ⟨rfl, hdX6_remember⟩ ⟨Nat.le_of_ble_eq_true rfl, Nat.le_of_ble_eq_true rfl⟩ cf6 hv0 rfl rfl (Nat.le_of_ble_eq_true rfl) dX6_drift_20 ?_
    refine g_aload_n (ps := 0) dX6_drift_23 rfl rfl ?_
    refine g_getI cf6 hv0 nX6_drift_X6 (j := 15) (by decide) rfl mX6_drift_144 dX6_drift_24 ?_
    refine g_if_le (tgt := 34) dX6_drift_27 (by decide) (fun c7 => ?_) (fun c7 => ?_)
    · have hf := if_t hf c7
      exact g_pick [0, 1, 2] rfl (ujX6_drift_34 hW hv0 hf hk he)
    · have hf := if_f hf c7
      refine g_aload_n (ps := 0) dX6_drift_30 rfl rfl ?_
      obtain ⟨h13, e12, hf⟩ := bd_s hf
      refine g_callVv (As := []) (n := 0) (kX6_draws hW hv0 e12) gX6_drift_X6_draws rfl ⟨rfl, rfl⟩ ⟨rfl, hdX6_draws⟩ ⟨Nat.le_of_ble_eq_true rfl, Nat.le_of_ble_eq_true rfl⟩ cf6 hv0 rfl rfl (Nat.le_of_ble_eq_true rfl) dX6_drift_31 ?_
      exact g_pick [0, 1, 2] rfl (ujX6_drift_34 hW hv0 hf hk he)
set_option maxHeartbeats 4000000 in
set_option maxRecDepth 100000 in
theorem ulX6_drift_14 {S : Shp} {n : Nat} {r : Rf} {v0 : Nat} {v1 : Int32} {v3 : Int32}  {h : Hp} {o : (Int32 × Hp)} (hW : WF S r) (hv0 : S[v0]? = some (6, 38)) (hf : lX6_drift_14 n r v0 v1 v3 h = some o)  : GX6_drift S r r (some o.1, o.2) 14 [(0, .ref v0), (1, .int v1), (3, .int v3)] [] h := by
  unfold lX6_drift_14 at hf
  obtain ⟨z0, ei, hf⟩ := bd_s hf
  refine it_ind (P := fun (s : Int32 × Hp) => GX6_drift S r r (some o.1, o.2) 14 [(0, .ref v0), (1, .int v1), (3, .int (s.1))] [] (s.2)) (fun s w hb hk2 he2 => ?_) n _ ei
  refine ubX6_drift_14 (out := (some o.1, o.2)) (r' := r) hW hv0 hb hk2 (fun z hz => ?_)
  have hz := he2 z hz
  subst hz
  refine g_aload_n (ps := 0) dX6_drift_49 rfl rfl ?_
  refine g_getR cf6 hv0 nX6_drift_X6 (j := 22) (by decide) rfl mX6_drift_47 dX6_drift_50 ?_
  refine g_iconst (v := 0) dX6_drift_53 (by decide +kernel) ?_
  obtain ⟨z14, hf⟩ := ck_s hf
  refine g_iald (hW _ _ _ hv0 22 _ rfl) z14 dX6_drift_54 ?_
  have hf := Option.some.inj hf
  subst hf
  exact g_iret dX6_drift_55
set_option maxHeartbeats 4000000 in
set_option maxRecDepth 100000 in
theorem uX6_drift {S : Shp} {n : Nat} {r : Rf} {v0 : Nat} {v1 : Int32} {h : Hp} {o : (Int32 × Hp)} (hW : WF S r) (hv0 : S[v0]? = some (6, 38)) (hf : fX6_drift n r v0 v1 h = some o) : GX6_drift S r r (some o.1, o.2) 0 [(0, .ref v0), (1, .int v1)] [] h := by
  unfold fX6_drift at hf
  refine g_aload_n (ps := 0) dX6_drift_0 rfl rfl ?_
  refine g_iload_n (ps := 1) dX6_drift_1 rfl rfl ?_
  obtain ⟨x2, e1, hf⟩ := bd_s hf
  refine g_callVi (As := [.int v1]) (n := 1) (kX6_needHours hW hv0 e1) gX6_drift_X6_needHours rfl ⟨rfl, rfl⟩ ⟨rfl, hdX6_needHours⟩ ⟨Nat.le_of_ble_eq_true rfl, Nat.le_of_ble_eq_true rfl⟩ cf6 hv0 rfl rfl (Nat.le_of_ble_eq_true rfl) dX6_drift_2 ?_
  refine g_istore_n (L' := [(2, .int x2), (0, .ref v0), (1, .int v1)]) dX6_drift_5 rfl (by decide) rfl ?_
  refine g_iload_n (ps := 0) dX6_drift_6 rfl rfl ?_
  refine g_if_ge (tgt := 12) dX6_drift_7 (by decide) (fun c3 => ?_) (fun c3 => ?_)
  · have hf := if_t hf c3
    refine g_iconst (v := 0) dX6_drift_12 (by decide +kernel) ?_
    refine g_istore_n (L' := [(3, .int 0), (2, .int x2), (0, .ref v0), (1, .int v1)]) dX6_drift_13 rfl (by decide) rfl ?_
    exact g_pick [2, 3, 0] rfl (ulX6_drift_14 hW hv0 hf)
  · have hf := if_f hf c3
    refine g_iload_n (ps := 0) dX6_drift_10 rfl rfl ?_
    have hf := Option.some.inj hf
    subst hf
    exact g_iret dX6_drift_11
theorem kX6_drift {S : Shp} {n : Nat} {r : Rf} {v0 : Nat} {v1 : Int32} {h : Hp} {o : (Int32 × Hp)} (hW : WF S r) (hv0 : S[v0]? = some (6, 38)) (hf : fX6_drift n r v0 v1 h = some o) : CTi yX6_drift wsX6_drift rmX6_drift S r [.ref v0, .int v1] h r o.1 o.2 :=
  cti_of rfl (by decide +kernel) rfl (Nat.le_of_ble_eq_true rfl) rfl (uX6_drift hW hv0 hf)
/-! X6_undo undo -/
def rmX6_undo : Room := { frames := 1, cells := 0, slots := 0, locals := 22 }
abbrev GX6_undo (S : Shp) (r r' : Rf) (out : Option Int32 × Hp) (pc : Nat) (L : List (Nat × Value)) (st : List Value) (h : Hp) : Prop := G RX6 cX6_undo 3 (some .int) wsX6_undo rmX6_undo S r r' out pc L st h
theorem nX6_undo_X6 : ∀ w ∈ wsX60, w ∈ wsX6_undo := by decide +kernel
theorem mX6_undo_181 : Cond.constant RX6 181 (-1000000003) ∈ wsX6_undo := by decide +kernel
theorem mX6_undo_86 : Cond.constant RX6 86 (-1000000002) ∈ wsX6_undo := by decide +kernel
theorem mX6_undo_150 : Cond.fieldLink RX6 150 "LinkedIslesModel" "undoMany" "I" ∈ wsX6_undo := by decide +kernel
theorem mX6_undo_197 : Cond.fieldLink RX6 197 "LinkedIslesModel" "undoAt" "I" ∈ wsX6_undo := by decide +kernel
theorem mX6_undo_47 : Cond.fieldLink RX6 47 "LinkedIslesModel" "now" "[I" ∈ wsX6_undo := by decide +kernel
theorem mX6_undo_53 : Cond.fieldLink RX6 53 "LinkedIslesModel" "undos" "[I" ∈ wsX6_undo := by decide +kernel
theorem hdX6_undo : yX6_undo.cls ≠ "java/lang/invoke/MethodHandle" ∧ yX6_undo.cls ≠ "java/lang/invoke/VarHandle" ∧ (parseMethodDescriptor yX6_undo.desc).map (fun d => d.parameters.length) = some 1 := by decide +kernel
def bX6_undo_52 (n : Nat) (r : Rf) (v0 : Nat) (v2 : Int32) (h : Hp) : Option ((Int32 × Hp) ⊕ (Hp)) :=
  if 16 ≤ v2 then (some (.inr h)) else (ck ((16 * (h.1 v0 25)) + v2) 480 (ck v2 16 (lE (pI h (r v0 22) (Int32.toNatClampNeg v2) (h.1 (r v0 26) (Int32.toNatClampNeg ((16 * (h.1 v0 25)) + v2)))) (fun (h10 : Hp) => lE (v2 + 1) (fun (x11 : Int32) => some (.inl (x11, h10)))))))
def lX6_undo_52 (n : Nat) (r : Rf) (v0 : Nat) (v2 : Int32) (h : Hp) : Option (Int32 × Hp) :=
  (it (fun (s : Int32 × Hp) => bX6_undo_52 n r v0 s.1 s.2) n (v2, h)).bind (fun z => ck 3 16 (some ((z.1 (r v0 22) (Int32.toNatClampNeg 3)), z)))
def fX6_undo (n : Nat) (r : Rf) (v0 : Nat) (v1 : Int32) (h : Hp) : Option (Int32 × Hp) :=
  (fX6_in n r v1 1 30 h).bind (fun (x2 : Int32) => if x2 = 0 then (some ((-1000000002), h)) else (if v1 ≤ (h.1 v0 24) then (lE (pI h v0 25 ((((h.1 v0 25) + 30) - v1) - (((h.1 v0 25) + 30) - v1) / 30 * 30)) (fun (h5 : Hp) => lE (pI h5 v0 24 ((h5.1 v0 24) - v1)) (fun (h6 : Hp) => lX6_undo_52 n r v0 0 h6))) else (some ((-1000000003), h))))
set_option maxHeartbeats 4000000 in
set_option maxRecDepth 100000 in
theorem ubX6_undo_52 {S : Shp} {n : Nat} {r : Rf} {out : Option Int32 × Hp} {r' : Rf} {v0 : Nat} {v2 : Int32}  {h : Hp} {w : (Int32 × Hp) ⊕ (Hp)} (hW : WF S r) (hv0 : S[v0]? = some (6, 38)) (hf : bX6_undo_52 n r v0 v2 h = some w) (hk : ∀ y, w = .inl y → GX6_undo S r r' out 52 [(0, .ref v0), (2, .int (y.1))] [] (y.2)) (he : ∀ z, w = .inr z → GX6_undo S r r' out 84 [(0, .ref v0)] [] (z)) : GX6_undo S r r' out 52 [(0, .ref v0), (2, .int v2)] [] h := by
  unfold bX6_undo_52 at hf
  refine g_iload_n (ps := 1) dX6_undo_52 rfl rfl ?_
  refine g_bipush (v := 16) dX6_undo_53 (by decide +kernel) ?_
  refine g_icmp_ge (tgt := 84) dX6_undo_55 (by decide) (fun c7 => ?_) (fun c7 => ?_)
  · have hf := if_t hf c7
    exact g_pick [0] rfl (he _ (Option.some.inj hf).symm)
  · have hf := if_f hf c7
    refine g_aload_n (ps := 0) dX6_undo_58 rfl rfl ?_
    refine g_getR cf6 hv0 nX6_undo_X6 (j := 22) (by decide) rfl mX6_undo_47 dX6_undo_59 ?_
    refine g_iload_n (ps := 1) dX6_undo_62 rfl rfl ?_
    refine g_aload_n (ps := 0) dX6_undo_63 rfl rfl ?_
    refine g_getR cf6 hv0 nX6_undo_X6 (j := 26) (by decide) rfl mX6_undo_53 dX6_undo_64 ?_
    refine g_bipush (v := 16) dX6_undo_67 (by decide +kernel) ?_
    refine g_aload_n (ps := 0) dX6_undo_69 rfl rfl ?_
    refine g_getI cf6 hv0 nX6_undo_X6 (j := 25) (by decide) rfl mX6_undo_197 dX6_undo_70 ?_
    refine g_imul dX6_undo_73 ?_
    refine g_iload_n (ps := 1) dX6_undo_74 rfl rfl ?_
    refine g_iadd dX6_undo_75 ?_
    obtain ⟨z8, hf⟩ := ck_s hf
    refine g_iald (hW _ _ _ hv0 26 _ rfl) z8 dX6_undo_76 ?_
    obtain ⟨z9, hf⟩ := ck_s hf
    refine g_iast (hW _ _ _ hv0 22 _ rfl) z9 dX6_undo_77 ?_
    refine g_topH (fun h10 eh10 => ?_)
    have hf := lE_s hf eh10
    obtain ⟨x11, ex11⟩ : ∃ y : Int32, y = v2 + 1 := ⟨_, rfl⟩
    have hf := lE_s hf ex11
    refine g_iinc (ps := 1) (v := x11) (L' := [(2, .int x11), (0, .ref v0)]) dX6_undo_78 rfl (by rw [ex11]; rfl) (by decide) rfl ?_
    refine g_goto (tgt := 52) dX6_undo_81 (by decide) ?_
    exact g_pick [1, 0] rfl (hk _ (Option.some.inj hf).symm)
set_option maxHeartbeats 4000000 in
set_option maxRecDepth 100000 in
theorem ulX6_undo_52 {S : Shp} {n : Nat} {r : Rf} {v0 : Nat} {v2 : Int32}  {h : Hp} {o : (Int32 × Hp)} (hW : WF S r) (hv0 : S[v0]? = some (6, 38)) (hf : lX6_undo_52 n r v0 v2 h = some o)  : GX6_undo S r r (some o.1, o.2) 52 [(0, .ref v0), (2, .int v2)] [] h := by
  unfold lX6_undo_52 at hf
  obtain ⟨z0, ei, hf⟩ := bd_s hf
  refine it_ind (P := fun (s : Int32 × Hp) => GX6_undo S r r (some o.1, o.2) 52 [(0, .ref v0), (2, .int (s.1))] [] (s.2)) (fun s w hb hk2 he2 => ?_) n _ ei
  refine ubX6_undo_52 (out := (some o.1, o.2)) (r' := r) hW hv0 hb hk2 (fun z hz => ?_)
  have hz := he2 z hz
  subst hz
  refine g_aload_n (ps := 0) dX6_undo_84 rfl rfl ?_
  refine g_getR cf6 hv0 nX6_undo_X6 (j := 22) (by decide) rfl mX6_undo_47 dX6_undo_85 ?_
  refine g_iconst (v := 3) dX6_undo_88 (by decide +kernel) ?_
  obtain ⟨z12, hf⟩ := ck_s hf
  refine g_iald (hW _ _ _ hv0 22 _ rfl) z12 dX6_undo_89 ?_
  have hf := Option.some.inj hf
  subst hf
  exact g_iret dX6_undo_90
set_option maxHeartbeats 4000000 in
set_option maxRecDepth 100000 in
theorem uX6_undo {S : Shp} {n : Nat} {r : Rf} {v0 : Nat} {v1 : Int32} {h : Hp} {o : (Int32 × Hp)} (hW : WF S r) (hv0 : S[v0]? = some (6, 38)) (hf : fX6_undo n r v0 v1 h = some o) : GX6_undo S r r (some o.1, o.2) 0 [(0, .ref v0), (1, .int v1)] [] h := by
  unfold fX6_undo at hf
  refine g_iload_n (ps := 1) dX6_undo_0 rfl rfl ?_
  refine g_iconst (v := 1) dX6_undo_1 (by decide +kernel) ?_
  refine g_bipush (v := 30) dX6_undo_2 (by decide +kernel) ?_
  obtain ⟨x2, e1, hf⟩ := bd_s hf
  refine g_callSi (As := [.int v1, .int 1, .int 30]) (n := 3) (kX6_in hW  e1) gX6_undo_X6_in rfl ⟨rfl, rfl⟩ hdX6_in ⟨Nat.le_of_ble_eq_true rfl, Nat.le_of_ble_eq_true rfl⟩ rfl rfl (Nat.le_of_ble_eq_true rfl) dX6_undo_4 ?_
  refine g_if_ne (tgt := 13) dX6_undo_7 (by decide) (fun c3 => ?_) (fun c3 => ?_)
  · have hf := if_f hf c3
    refine g_iload_n (ps := 1) dX6_undo_13 rfl rfl ?_
    refine g_aload_n (ps := 0) dX6_undo_14 rfl rfl ?_
    refine g_getI cf6 hv0 nX6_undo_X6 (j := 24) (by decide) rfl mX6_undo_150 dX6_undo_15 ?_
    refine g_icmp_le (tgt := 24) dX6_undo_18 (by decide) (fun c4 => ?_) (fun c4 => ?_)
    · have hf := if_t hf c4
      refine g_aload_n (ps := 0) dX6_undo_24 rfl rfl ?_
      refine g_aload_n (ps := 0) dX6_undo_25 rfl rfl ?_
      refine g_getI cf6 hv0 nX6_undo_X6 (j := 25) (by decide) rfl mX6_undo_197 dX6_undo_26 ?_
      refine g_bipush (v := 30) dX6_undo_29 (by decide +kernel) ?_
      refine g_iadd dX6_undo_31 ?_
      refine g_iload_n (ps := 1) dX6_undo_32 rfl rfl ?_
      refine g_isub dX6_undo_33 ?_
      refine g_bipush (v := 30) dX6_undo_34 (by decide +kernel) ?_
      refine g_irem dX6_undo_36 (by decide +kernel) ?_
      refine g_putI cf6 hv0 nX6_undo_X6 (j := 25) (by decide) rfl mX6_undo_197 rfl dX6_undo_37 ?_
      refine g_topH (fun h5 eh5 => ?_)
      have hf := lE_s hf eh5
      refine g_aload_n (ps := 0) dX6_undo_40 rfl rfl ?_
      refine g_dup dX6_undo_41 rfl ?_
      refine g_getI cf6 hv0 nX6_undo_X6 (j := 24) (by decide) rfl mX6_undo_150 dX6_undo_42 ?_
      refine g_iload_n (ps := 1) dX6_undo_45 rfl rfl ?_
      refine g_isub dX6_undo_46 ?_
      refine g_putI cf6 hv0 nX6_undo_X6 (j := 24) (by decide) rfl mX6_undo_150 rfl dX6_undo_47 ?_
      refine g_topH (fun h6 eh6 => ?_)
      have hf := lE_s hf eh6
      refine g_iconst (v := 0) dX6_undo_50 (by decide +kernel) ?_
      refine g_istore_n (L' := [(2, .int 0), (0, .ref v0), (1, .int v1)]) dX6_undo_51 rfl (by decide) rfl ?_
      exact g_pick [1, 0] rfl (ulX6_undo_52 hW hv0 hf)
    · have hf := if_f hf c4
      refine g_ldc (v := (-1000000003)) mX6_undo_181 dX6_undo_21 ?_
      have hf := Option.some.inj hf
      subst hf
      exact g_iret dX6_undo_23
  · have hf := if_t hf c3
    refine g_ldc (v := (-1000000002)) mX6_undo_86 dX6_undo_10 ?_
    have hf := Option.some.inj hf
    subst hf
    exact g_iret dX6_undo_12
theorem kX6_undo {S : Shp} {n : Nat} {r : Rf} {v0 : Nat} {v1 : Int32} {h : Hp} {o : (Int32 × Hp)} (hW : WF S r) (hv0 : S[v0]? = some (6, 38)) (hf : fX6_undo n r v0 v1 h = some o) : CTi yX6_undo wsX6_undo rmX6_undo S r [.ref v0, .int v1] h r o.1 o.2 :=
  cti_of rfl (by decide +kernel) rfl (Nat.le_of_ble_eq_true rfl) rfl (uX6_undo hW hv0 hf)
/-! X6_copyNow copyNow -/
def rmX6_copyNow : Room := { frames := 0, cells := 0, slots := 0, locals := 0 }
abbrev GX6_copyNow (S : Shp) (r r' : Rf) (out : Option Int32 × Hp) (pc : Nat) (L : List (Nat × Value)) (st : List Value) (h : Hp) : Prop := G RX6 cX6_copyNow 2 none wsX6_copyNow rmX6_copyNow S r r' out pc L st h
theorem nX6_copyNow_X6 : ∀ w ∈ wsX60, w ∈ wsX6_copyNow := by decide +kernel
theorem mX6_copyNow_47 : Cond.fieldLink RX6 47 "LinkedIslesModel" "now" "[I" ∈ wsX6_copyNow := by decide +kernel
theorem mX6_copyNow_50 : Cond.fieldLink RX6 50 "LinkedIslesModel" "tried" "[I" ∈ wsX6_copyNow := by decide +kernel
theorem hdX6_copyNow : yX6_copyNow.cls ≠ "java/lang/invoke/MethodHandle" ∧ yX6_copyNow.cls ≠ "java/lang/invoke/VarHandle" ∧ (parseMethodDescriptor yX6_copyNow.desc).map (fun d => d.parameters.length) = some 0 := by decide +kernel
def bX6_copyNow_2 (n : Nat) (r : Rf) (v0 : Nat) (v1 : Int32) (h : Hp) : Option ((Int32 × Hp) ⊕ (Hp)) :=
  if 16 ≤ v1 then (some (.inr h)) else (ck v1 16 (ck v1 16 (lE (pI h (r v0 23) (Int32.toNatClampNeg v1) (h.1 (r v0 22) (Int32.toNatClampNeg v1))) (fun (h4 : Hp) => lE (v1 + 1) (fun (x5 : Int32) => some (.inl (x5, h4)))))))
def lX6_copyNow_2 (n : Nat) (r : Rf) (v0 : Nat) (v1 : Int32) (h : Hp) : Option Hp :=
  (it (fun (s : Int32 × Hp) => bX6_copyNow_2 n r v0 s.1 s.2) n (v1, h)).bind (fun z => some z)
def fX6_copyNow (n : Nat) (r : Rf) (v0 : Nat) (h : Hp) : Option Hp :=
  lX6_copyNow_2 n r v0 0 h
set_option maxHeartbeats 4000000 in
set_option maxRecDepth 100000 in
theorem ubX6_copyNow_2 {S : Shp} {n : Nat} {r : Rf} {out : Option Int32 × Hp} {r' : Rf} {v0 : Nat} {v1 : Int32}  {h : Hp} {w : (Int32 × Hp) ⊕ (Hp)} (hW : WF S r) (hv0 : S[v0]? = some (6, 38)) (hf : bX6_copyNow_2 n r v0 v1 h = some w) (hk : ∀ y, w = .inl y → GX6_copyNow S r r' out 2 [(0, .ref v0), (1, .int (y.1))] [] (y.2)) (he : ∀ z, w = .inr z → GX6_copyNow S r r' out 26 [(0, .ref v0)] [] (z)) : GX6_copyNow S r r' out 2 [(0, .ref v0), (1, .int v1)] [] h := by
  unfold bX6_copyNow_2 at hf
  refine g_iload_n (ps := 1) dX6_copyNow_2 rfl rfl ?_
  refine g_bipush (v := 16) dX6_copyNow_3 (by decide +kernel) ?_
  refine g_icmp_ge (tgt := 26) dX6_copyNow_5 (by decide) (fun c1 => ?_) (fun c1 => ?_)
  · have hf := if_t hf c1
    exact g_pick [0] rfl (he _ (Option.some.inj hf).symm)
  · have hf := if_f hf c1
    refine g_aload_n (ps := 0) dX6_copyNow_8 rfl rfl ?_
    refine g_getR cf6 hv0 nX6_copyNow_X6 (j := 23) (by decide) rfl mX6_copyNow_50 dX6_copyNow_9 ?_
    refine g_iload_n (ps := 1) dX6_copyNow_12 rfl rfl ?_
    refine g_aload_n (ps := 0) dX6_copyNow_13 rfl rfl ?_
    refine g_getR cf6 hv0 nX6_copyNow_X6 (j := 22) (by decide) rfl mX6_copyNow_47 dX6_copyNow_14 ?_
    refine g_iload_n (ps := 1) dX6_copyNow_17 rfl rfl ?_
    obtain ⟨z2, hf⟩ := ck_s hf
    refine g_iald (hW _ _ _ hv0 22 _ rfl) z2 dX6_copyNow_18 ?_
    obtain ⟨z3, hf⟩ := ck_s hf
    refine g_iast (hW _ _ _ hv0 23 _ rfl) z3 dX6_copyNow_19 ?_
    refine g_topH (fun h4 eh4 => ?_)
    have hf := lE_s hf eh4
    obtain ⟨x5, ex5⟩ : ∃ y : Int32, y = v1 + 1 := ⟨_, rfl⟩
    have hf := lE_s hf ex5
    refine g_iinc (ps := 1) (v := x5) (L' := [(1, .int x5), (0, .ref v0)]) dX6_copyNow_20 rfl (by rw [ex5]; rfl) (by decide) rfl ?_
    refine g_goto (tgt := 2) dX6_copyNow_23 (by decide) ?_
    exact g_pick [1, 0] rfl (hk _ (Option.some.inj hf).symm)
set_option maxHeartbeats 4000000 in
set_option maxRecDepth 100000 in
theorem ulX6_copyNow_2 {S : Shp} {n : Nat} {r : Rf} {v0 : Nat} {v1 : Int32}  {h : Hp} {o : Hp} (hW : WF S r) (hv0 : S[v0]? = some (6, 38)) (hf : lX6_copyNow_2 n r v0 v1 h = some o)  : GX6_copyNow S r r (none, o) 2 [(0, .ref v0), (1, .int v1)] [] h := by
  unfold lX6_copyNow_2 at hf
  obtain ⟨z0, ei, hf⟩ := bd_s hf
  refine it_ind (P := fun (s : Int32 × Hp) => GX6_copyNow S r r (none, o) 2 [(0, .ref v0), (1, .int (s.1))] [] (s.2)) (fun s w hb hk2 he2 => ?_) n _ ei
  refine ubX6_copyNow_2 (out := (none, o)) (r' := r) hW hv0 hb hk2 (fun z hz => ?_)
  have hz := he2 z hz
  subst hz
  have hf := Option.some.inj hf
  subst hf
  exact g_vret dX6_copyNow_26
set_option maxHeartbeats 4000000 in
set_option maxRecDepth 100000 in
theorem uX6_copyNow {S : Shp} {n : Nat} {r : Rf} {v0 : Nat} {h : Hp} {o : Hp} (hW : WF S r) (hv0 : S[v0]? = some (6, 38)) (hf : fX6_copyNow n r v0 h = some o) : GX6_copyNow S r r (none, o) 0 [(0, .ref v0)] [] h := by
  unfold fX6_copyNow at hf
  refine g_iconst (v := 0) dX6_copyNow_0 (by decide +kernel) ?_
  refine g_istore_n (L' := [(1, .int 0), (0, .ref v0)]) dX6_copyNow_1 rfl (by decide) rfl ?_
  exact g_pick [1, 0] rfl (ulX6_copyNow_2 hW hv0 hf)
theorem kX6_copyNow {S : Shp} {n : Nat} {r : Rf} {v0 : Nat} {h : Hp} {o : Hp} (hW : WF S r) (hv0 : S[v0]? = some (6, 38)) (hf : fX6_copyNow n r v0 h = some o) : CTv yX6_copyNow wsX6_copyNow rmX6_copyNow S r [.ref v0] h r o :=
  ctv_of rfl (by decide +kernel) rfl (Nat.le_of_ble_eq_true rfl) rfl (uX6_copyNow hW hv0 hf)
/-! X6_lasts lasts -/
def rmX6_lasts : Room := { frames := 3, cells := 0, slots := 0, locals := 69 }
abbrev GX6_lasts (S : Shp) (r r' : Rf) (out : Option Int32 × Hp) (pc : Nat) (L : List (Nat × Value)) (st : List Value) (h : Hp) : Prop := G RX6 cX6_lasts 3 (some .int) wsX6_lasts rmX6_lasts S r r' out pc L st h
theorem nX6_lasts_X6 : ∀ w ∈ wsX60, w ∈ wsX6_lasts := by decide +kernel
theorem mX6_lasts_176 : Cond.constant RX6 176 (-1000000001) ∈ wsX6_lasts := by decide +kernel
theorem mX6_lasts_47 : Cond.fieldLink RX6 47 "LinkedIslesModel" "now" "[I" ∈ wsX6_lasts := by decide +kernel
theorem mX6_lasts_50 : Cond.fieldLink RX6 50 "LinkedIslesModel" "tried" "[I" ∈ wsX6_lasts := by decide +kernel
theorem hdX6_lasts : yX6_lasts.cls ≠ "java/lang/invoke/MethodHandle" ∧ yX6_lasts.cls ≠ "java/lang/invoke/VarHandle" ∧ (parseMethodDescriptor yX6_lasts.desc).map (fun d => d.parameters.length) = some 1 := by decide +kernel
def bX6_lasts_17 (n : Nat) (r : Rf) (v0 : Nat) (v1 : Int32) (v2 : Int32) (h : Hp) : Option ((Int32 × Hp) ⊕ ((Int32 × Hp) ⊕ (Hp))) :=
  if 200 < v2 then (some (.inr (.inr (h)))) else (ck 0 16 ((fX6_has n r (h.1 (r v0 22) (Int32.toNatClampNeg 0)) v1 h).bind (fun (x9 : Int32) => if x9 = 0 then (some (.inr (.inr (h)))) else (bd2 (fX6_passes n r v0 (r v0 23) 16 h) (fun (x12 : Int32) (h13 : Hp) => ck 0 16 ((fX6_has n r (h13.1 (r v0 23) (Int32.toNatClampNeg 0)) v1 h13).bind (fun (x16 : Int32) => if x16 = 0 then (some (.inr (.inl (v2, h13)))) else (lE (v2 + 1) (fun (x18 : Int32) => some (.inl (x18, h13)))))))))))
def lX6_lasts_17 (n : Nat) (r : Rf) (v0 : Nat) (v1 : Int32) (v2 : Int32) (h : Hp) : Option (Int32 × Hp) :=
  (it (fun (s : Int32 × Hp) => bX6_lasts_17 n r v0 v1 s.1 s.2) n (v2, h)).bind (fun z => match z with | .inl z => some ((z.1), (z.2)) | .inr z => some ((-1), z))
def fX6_lasts (n : Nat) (r : Rf) (v0 : Nat) (v1 : Int32) (h : Hp) : Option (Int32 × Hp) :=
  (fX6_isLink n r v0 v1 h).bind (fun (x2 : Int32) => if x2 = 0 then (some ((-1000000001), h)) else ((fX6_copyNow n r v0 h).bind (fun (h5 : Hp) => lX6_lasts_17 n r v0 v1 1 h5)))
set_option maxHeartbeats 4000000 in
set_option maxRecDepth 100000 in
theorem ubX6_lasts_17 {S : Shp} {n : Nat} {r : Rf} {out : Option Int32 × Hp} {r' : Rf} {v0 : Nat} {v1 : Int32} {v2 : Int32}  {h : Hp} {w : (Int32 × Hp) ⊕ ((Int32 × Hp) ⊕ (Hp))} (hW : WF S r) (hv0 : S[v0]? = some (6, 38)) (hf : bX6_lasts_17 n r v0 v1 v2 h = some w) (hk : ∀ y, w = .inl y → GX6_lasts S r r' out 17 [(0, .ref v0), (1, .int v1), (2, .int (y.1))] [] (y.2)) (he : ∀ z, w = .inr z → (match z with | .inl z => GX6_lasts S r r' out 59 [(0, .ref v0), (2, .int (z.1))] [] (z.2) | .inr z => GX6_lasts S r r' out 67 [(0, .ref v0)] [] (z))) : GX6_lasts S r r' out 17 [(0, .ref v0), (1, .int v1), (2, .int v2)] [] h := by
  unfold bX6_lasts_17 at hf
  refine g_iload_n (ps := 2) dX6_lasts_17 rfl rfl ?_
  refine g_sipush (v := 200) dX6_lasts_18 (by decide +kernel) ?_
  refine g_icmp_gt (tgt := 67) dX6_lasts_21 (by decide) (fun c6 => ?_) (fun c6 => ?_)
  · have hf := if_t hf c6
    exact g_pick [0] rfl (he _ (Option.some.inj hf).symm)
  · have hf := if_f hf c6
    refine g_aload_n (ps := 0) dX6_lasts_24 rfl rfl ?_
    refine g_getR cf6 hv0 nX6_lasts_X6 (j := 22) (by decide) rfl mX6_lasts_47 dX6_lasts_25 ?_
    refine g_iconst (v := 0) dX6_lasts_28 (by decide +kernel) ?_
    obtain ⟨z7, hf⟩ := ck_s hf
    refine g_iald (hW _ _ _ hv0 22 _ rfl) z7 dX6_lasts_29 ?_
    refine g_iload_n (ps := 1) dX6_lasts_30 rfl rfl ?_
    obtain ⟨x9, e8, hf⟩ := bd_s hf
    refine g_callSi (As := [.int (h.1 (r v0 22) (Int32.toNatClampNeg 0)), .int v1]) (n := 2) (kX6_has hW  e8) gX6_lasts_X6_has rfl ⟨rfl, rfl⟩ hdX6_has ⟨Nat.le_of_ble_eq_true rfl, Nat.le_of_ble_eq_true rfl⟩ rfl rfl (Nat.le_of_ble_eq_true rfl) dX6_lasts_31 ?_
    refine g_if_eq (tgt := 67) dX6_lasts_34 (by decide) (fun c10 => ?_) (fun c10 => ?_)
    · have hf := if_t hf c10
      exact g_pick [0] rfl (he _ (Option.some.inj hf).symm)
    · have hf := if_f hf c10
      refine g_aload_n (ps := 0) dX6_lasts_37 rfl rfl ?_
      refine g_aload_n (ps := 0) dX6_lasts_38 rfl rfl ?_
      refine g_getR cf6 hv0 nX6_lasts_X6 (j := 23) (by decide) rfl mX6_lasts_50 dX6_lasts_39 ?_
      obtain ⟨x12, h13, e11, hf⟩ := bd2_s hf
      refine g_callVi (As := [.ref (r v0 23)]) (n := 1) (kX6_passes hW hv0 (hW _ _ _ hv0 23 _ rfl) e11) gX6_lasts_X6_passes rfl ⟨rfl, rfl⟩ ⟨rfl, hdX6_passes⟩ ⟨Nat.le_of_ble_eq_true rfl, Nat.le_of_ble_eq_true rfl⟩ cf6 hv0 rfl rfl (Nat.le_of_ble_eq_true rfl) dX6_lasts_42 ?_
      refine g_pop dX6_lasts_45 rfl ?_
      refine g_aload_n (ps := 0) dX6_lasts_46 rfl rfl ?_
      refine g_getR cf6 hv0 nX6_lasts_X6 (j := 23) (by decide) rfl mX6_lasts_50 dX6_lasts_47 ?_
      refine g_iconst (v := 0) dX6_lasts_50 (by decide +kernel) ?_
      obtain ⟨z14, hf⟩ := ck_s hf
      refine g_iald (hW _ _ _ hv0 23 _ rfl) z14 dX6_lasts_51 ?_
      refine g_iload_n (ps := 1) dX6_lasts_52 rfl rfl ?_
      obtain ⟨x16, e15, hf⟩ := bd_s hf
      refine g_callSi (As := [.int (h13.1 (r v0 23) (Int32.toNatClampNeg 0)), .int v1]) (n := 2) (kX6_has hW  e15) gX6_lasts_X6_has rfl ⟨rfl, rfl⟩ hdX6_has ⟨Nat.le_of_ble_eq_true rfl, Nat.le_of_ble_eq_true rfl⟩ rfl rfl (Nat.le_of_ble_eq_true rfl) dX6_lasts_53 ?_
      refine g_if_ne (tgt := 61) dX6_lasts_56 (by decide) (fun c17 => ?_) (fun c17 => ?_)
      · have hf := if_f hf c17
        obtain ⟨x18, ex18⟩ : ∃ y : Int32, y = v2 + 1 := ⟨_, rfl⟩
        have hf := lE_s hf ex18
        refine g_iinc (ps := 2) (v := x18) (L' := [(2, .int x18), (0, .ref v0), (1, .int v1)]) dX6_lasts_61 rfl (by rw [ex18]; rfl) (by decide) rfl ?_
        refine g_goto (tgt := 17) dX6_lasts_64 (by decide) ?_
        exact g_pick [1, 2, 0] rfl (hk _ (Option.some.inj hf).symm)
      · have hf := if_t hf c17
        exact g_pick [0, 2] rfl (he _ (Option.some.inj hf).symm)
set_option maxHeartbeats 4000000 in
set_option maxRecDepth 100000 in
theorem ulX6_lasts_17 {S : Shp} {n : Nat} {r : Rf} {v0 : Nat} {v1 : Int32} {v2 : Int32}  {h : Hp} {o : (Int32 × Hp)} (hW : WF S r) (hv0 : S[v0]? = some (6, 38)) (hf : lX6_lasts_17 n r v0 v1 v2 h = some o)  : GX6_lasts S r r (some o.1, o.2) 17 [(0, .ref v0), (1, .int v1), (2, .int v2)] [] h := by
  unfold lX6_lasts_17 at hf
  obtain ⟨z0, ei, hf⟩ := bd_s hf
  refine it_ind (P := fun (s : Int32 × Hp) => GX6_lasts S r r (some o.1, o.2) 17 [(0, .ref v0), (1, .int v1), (2, .int (s.1))] [] (s.2)) (fun s w hb hk2 he2 => ?_) n _ ei
  refine ubX6_lasts_17 (out := (some o.1, o.2)) (r' := r) hW hv0 hb hk2 (fun z hz => ?_)
  have hz := he2 z hz
  subst hz
  rcases z with z | z
  · refine g_iload_n (ps := 1) dX6_lasts_59 rfl rfl ?_
    have hf := Option.some.inj hf
    subst hf
    exact g_iret dX6_lasts_60
  · refine g_iconst (v := (-1)) dX6_lasts_67 (by decide +kernel) ?_
    have hf := Option.some.inj hf
    subst hf
    exact g_iret dX6_lasts_68
set_option maxHeartbeats 4000000 in
set_option maxRecDepth 100000 in
theorem uX6_lasts {S : Shp} {n : Nat} {r : Rf} {v0 : Nat} {v1 : Int32} {h : Hp} {o : (Int32 × Hp)} (hW : WF S r) (hv0 : S[v0]? = some (6, 38)) (hf : fX6_lasts n r v0 v1 h = some o) : GX6_lasts S r r (some o.1, o.2) 0 [(0, .ref v0), (1, .int v1)] [] h := by
  unfold fX6_lasts at hf
  refine g_aload_n (ps := 0) dX6_lasts_0 rfl rfl ?_
  refine g_iload_n (ps := 1) dX6_lasts_1 rfl rfl ?_
  obtain ⟨x2, e1, hf⟩ := bd_s hf
  refine g_callVi (As := [.int v1]) (n := 1) (kX6_isLink hW hv0 e1) gX6_lasts_X6_isLink rfl ⟨rfl, rfl⟩ ⟨rfl, hdX6_isLink⟩ ⟨Nat.le_of_ble_eq_true rfl, Nat.le_of_ble_eq_true rfl⟩ cf6 hv0 rfl rfl (Nat.le_of_ble_eq_true rfl) dX6_lasts_2 ?_
  refine g_if_ne (tgt := 11) dX6_lasts_5 (by decide) (fun c3 => ?_) (fun c3 => ?_)
  · have hf := if_f hf c3
    refine g_aload_n (ps := 0) dX6_lasts_11 rfl rfl ?_
    obtain ⟨h5, e4, hf⟩ := bd_s hf
    refine g_callVv (As := []) (n := 0) (kX6_copyNow hW hv0 e4) gX6_lasts_X6_copyNow rfl ⟨rfl, rfl⟩ ⟨rfl, hdX6_copyNow⟩ ⟨Nat.le_of_ble_eq_true rfl, Nat.le_of_ble_eq_true rfl⟩ cf6 hv0 rfl rfl (Nat.le_of_ble_eq_true rfl) dX6_lasts_12 ?_
    refine g_iconst (v := 1) dX6_lasts_15 (by decide +kernel) ?_
    refine g_istore_n (L' := [(2, .int 1), (0, .ref v0), (1, .int v1)]) dX6_lasts_16 rfl (by decide) rfl ?_
    exact g_pick [1, 2, 0] rfl (ulX6_lasts_17 hW hv0 hf)
  · have hf := if_t hf c3
    refine g_ldc (v := (-1000000001)) mX6_lasts_176 dX6_lasts_8 ?_
    have hf := Option.some.inj hf
    subst hf
    exact g_iret dX6_lasts_10
theorem kX6_lasts {S : Shp} {n : Nat} {r : Rf} {v0 : Nat} {v1 : Int32} {h : Hp} {o : (Int32 × Hp)} (hW : WF S r) (hv0 : S[v0]? = some (6, 38)) (hf : fX6_lasts n r v0 v1 h = some o) : CTi yX6_lasts wsX6_lasts rmX6_lasts S r [.ref v0, .int v1] h r o.1 o.2 :=
  cti_of rfl (by decide +kernel) rfl (Nat.le_of_ble_eq_true rfl) rfl (uX6_lasts hW hv0 hf)
/-! X6_first first -/
def rmX6_first : Room := { frames := 3, cells := 0, slots := 0, locals := 69 }
abbrev GX6_first (S : Shp) (r r' : Rf) (out : Option Int32 × Hp) (pc : Nat) (L : List (Nat × Value)) (st : List Value) (h : Hp) : Prop := G RX6 cX6_first 4 (some .int) wsX6_first rmX6_first S r r' out pc L st h
theorem nX6_first_X6 : ∀ w ∈ wsX60, w ∈ wsX6_first := by decide +kernel
theorem mX6_first_86 : Cond.constant RX6 86 (-1000000002) ∈ wsX6_first := by decide +kernel
theorem mX6_first_50 : Cond.fieldLink RX6 50 "LinkedIslesModel" "tried" "[I" ∈ wsX6_first := by decide +kernel
theorem hdX6_first : yX6_first.cls ≠ "java/lang/invoke/MethodHandle" ∧ yX6_first.cls ≠ "java/lang/invoke/VarHandle" ∧ (parseMethodDescriptor yX6_first.desc).map (fun d => d.parameters.length) = some 1 := by decide +kernel
def bX6_first_18 (n : Nat) (r : Rf) (v0 : Nat) (v1 : Int32) (v2 : Int32) (h : Hp) : Option ((Int32 × Hp) ⊕ ((Int32 × Int32 × Hp) ⊕ (Hp))) :=
  if 200 < v2 then (some (.inr (.inr (h)))) else (bd2 (fX6_passes n r v0 (r v0 23) 16 h) (fun (x8 : Int32) (h9 : Hp) => if x8 = (-1) then (lE (v2 + 1) (fun (x11 : Int32) => some (.inl (x11, h9)))) else (some (.inr (.inl (v2, x8, h9))))))
def lX6_first_18 (n : Nat) (r : Rf) (v0 : Nat) (v1 : Int32) (v2 : Int32) (h : Hp) : Option (Int32 × Hp) :=
  (it (fun (s : Int32 × Hp) => bX6_first_18 n r v0 v1 s.1 s.2) n (v2, h)).bind (fun z => match z with | .inl z => if v1 = 0 then (some ((z.2.1), (z.2.2))) else (some ((z.1), (z.2.2))) | .inr z => some ((-1), z))
def fX6_first (n : Nat) (r : Rf) (v0 : Nat) (v1 : Int32) (h : Hp) : Option (Int32 × Hp) :=
  (fX6_in n r v1 0 1 h).bind (fun (x2 : Int32) => if x2 = 0 then (some ((-1000000002), h)) else ((fX6_copyNow n r v0 h).bind (fun (h5 : Hp) => lX6_first_18 n r v0 v1 1 h5)))
set_option maxHeartbeats 4000000 in
set_option maxRecDepth 100000 in
theorem ubX6_first_18 {S : Shp} {n : Nat} {r : Rf} {out : Option Int32 × Hp} {r' : Rf} {v0 : Nat} {v1 : Int32} {v2 : Int32}  {h : Hp} {w : (Int32 × Hp) ⊕ ((Int32 × Int32 × Hp) ⊕ (Hp))} (hW : WF S r) (hv0 : S[v0]? = some (6, 38)) (hf : bX6_first_18 n r v0 v1 v2 h = some w) (hk : ∀ y, w = .inl y → GX6_first S r r' out 18 [(0, .ref v0), (1, .int v1), (2, .int (y.1))] [] (y.2)) (he : ∀ z, w = .inr z → (match z with | .inl z => GX6_first S r r' out 39 [(0, .ref v0), (1, .int v1), (2, .int (z.1)), (3, .int (z.2.1))] [] (z.2.2) | .inr z => GX6_first S r r' out 55 [(0, .ref v0)] [] (z))) : GX6_first S r r' out 18 [(0, .ref v0), (1, .int v1), (2, .int v2)] [] h := by
  unfold bX6_first_18 at hf
  refine g_iload_n (ps := 2) dX6_first_18 rfl rfl ?_
  refine g_sipush (v := 200) dX6_first_19 (by decide +kernel) ?_
  refine g_icmp_gt (tgt := 55) dX6_first_22 (by decide) (fun c6 => ?_) (fun c6 => ?_)
  · have hf := if_t hf c6
    exact g_pick [0] rfl (he _ (Option.some.inj hf).symm)
  · have hf := if_f hf c6
    refine g_aload_n (ps := 0) dX6_first_25 rfl rfl ?_
    refine g_aload_n (ps := 0) dX6_first_26 rfl rfl ?_
    refine g_getR cf6 hv0 nX6_first_X6 (j := 23) (by decide) rfl mX6_first_50 dX6_first_27 ?_
    obtain ⟨x8, h9, e7, hf⟩ := bd2_s hf
    refine g_callVi (As := [.ref (r v0 23)]) (n := 1) (kX6_passes hW hv0 (hW _ _ _ hv0 23 _ rfl) e7) gX6_first_X6_passes rfl ⟨rfl, rfl⟩ ⟨rfl, hdX6_passes⟩ ⟨Nat.le_of_ble_eq_true rfl, Nat.le_of_ble_eq_true rfl⟩ cf6 hv0 rfl rfl (Nat.le_of_ble_eq_true rfl) dX6_first_30 ?_
    refine g_istore_n (L' := [(3, .int x8), (0, .ref v0), (1, .int v1), (2, .int v2)]) dX6_first_33 rfl (by decide) rfl ?_
    refine g_iload_n (ps := 0) dX6_first_34 rfl rfl ?_
    refine g_iconst (v := (-1)) dX6_first_35 (by decide +kernel) ?_
    refine g_icmp_eq (tgt := 49) dX6_first_36 (by decide) (fun c10 => ?_) (fun c10 => ?_)
    · have hf := if_t hf c10
      obtain ⟨x11, ex11⟩ : ∃ y : Int32, y = v2 + 1 := ⟨_, rfl⟩
      have hf := lE_s hf ex11
      refine g_iinc (ps := 3) (v := x11) (L' := [(2, .int x11), (3, .int x8), (0, .ref v0), (1, .int v1)]) dX6_first_49 rfl (by rw [ex11]; rfl) (by decide) rfl ?_
      refine g_goto (tgt := 18) dX6_first_52 (by decide) ?_
      exact g_pick [2, 3, 0] rfl (hk _ (Option.some.inj hf).symm)
    · have hf := if_f hf c10
      exact g_pick [1, 2, 3, 0] rfl (he _ (Option.some.inj hf).symm)
set_option maxHeartbeats 4000000 in
set_option maxRecDepth 100000 in
theorem ulX6_first_18 {S : Shp} {n : Nat} {r : Rf} {v0 : Nat} {v1 : Int32} {v2 : Int32}  {h : Hp} {o : (Int32 × Hp)} (hW : WF S r) (hv0 : S[v0]? = some (6, 38)) (hf : lX6_first_18 n r v0 v1 v2 h = some o)  : GX6_first S r r (some o.1, o.2) 18 [(0, .ref v0), (1, .int v1), (2, .int v2)] [] h := by
  unfold lX6_first_18 at hf
  obtain ⟨z0, ei, hf⟩ := bd_s hf
  refine it_ind (P := fun (s : Int32 × Hp) => GX6_first S r r (some o.1, o.2) 18 [(0, .ref v0), (1, .int v1), (2, .int (s.1))] [] (s.2)) (fun s w hb hk2 he2 => ?_) n _ ei
  refine ubX6_first_18 (out := (some o.1, o.2)) (r' := r) hW hv0 hb hk2 (fun z hz => ?_)
  have hz := he2 z hz
  subst hz
  rcases z with z | z
  · refine g_iload_n (ps := 1) dX6_first_39 rfl rfl ?_
    refine g_if_ne (tgt := 47) dX6_first_40 (by decide) (fun c12 => ?_) (fun c12 => ?_)
    · have hf := if_f hf c12
      refine g_iload_n (ps := 2) dX6_first_47 rfl rfl ?_
      have hf := Option.some.inj hf
      subst hf
      exact g_iret dX6_first_48
    · have hf := if_t hf c12
      refine g_iload_n (ps := 3) dX6_first_43 rfl rfl ?_
      refine g_goto (tgt := 48) dX6_first_44 (by decide) ?_
      have hf := Option.some.inj hf
      subst hf
      exact g_iret dX6_first_48
  · refine g_iconst (v := (-1)) dX6_first_55 (by decide +kernel) ?_
    have hf := Option.some.inj hf
    subst hf
    exact g_iret dX6_first_56
set_option maxHeartbeats 4000000 in
set_option maxRecDepth 100000 in
theorem uX6_first {S : Shp} {n : Nat} {r : Rf} {v0 : Nat} {v1 : Int32} {h : Hp} {o : (Int32 × Hp)} (hW : WF S r) (hv0 : S[v0]? = some (6, 38)) (hf : fX6_first n r v0 v1 h = some o) : GX6_first S r r (some o.1, o.2) 0 [(0, .ref v0), (1, .int v1)] [] h := by
  unfold fX6_first at hf
  refine g_iload_n (ps := 1) dX6_first_0 rfl rfl ?_
  refine g_iconst (v := 0) dX6_first_1 (by decide +kernel) ?_
  refine g_iconst (v := 1) dX6_first_2 (by decide +kernel) ?_
  obtain ⟨x2, e1, hf⟩ := bd_s hf
  refine g_callSi (As := [.int v1, .int 0, .int 1]) (n := 3) (kX6_in hW  e1) gX6_first_X6_in rfl ⟨rfl, rfl⟩ hdX6_in ⟨Nat.le_of_ble_eq_true rfl, Nat.le_of_ble_eq_true rfl⟩ rfl rfl (Nat.le_of_ble_eq_true rfl) dX6_first_3 ?_
  refine g_if_ne (tgt := 12) dX6_first_6 (by decide) (fun c3 => ?_) (fun c3 => ?_)
  · have hf := if_f hf c3
    refine g_aload_n (ps := 0) dX6_first_12 rfl rfl ?_
    obtain ⟨h5, e4, hf⟩ := bd_s hf
    refine g_callVv (As := []) (n := 0) (kX6_copyNow hW hv0 e4) gX6_first_X6_copyNow rfl ⟨rfl, rfl⟩ ⟨rfl, hdX6_copyNow⟩ ⟨Nat.le_of_ble_eq_true rfl, Nat.le_of_ble_eq_true rfl⟩ cf6 hv0 rfl rfl (Nat.le_of_ble_eq_true rfl) dX6_first_13 ?_
    refine g_iconst (v := 1) dX6_first_16 (by decide +kernel) ?_
    refine g_istore_n (L' := [(2, .int 1), (0, .ref v0), (1, .int v1)]) dX6_first_17 rfl (by decide) rfl ?_
    exact g_pick [1, 2, 0] rfl (ulX6_first_18 hW hv0 hf)
  · have hf := if_t hf c3
    refine g_ldc (v := (-1000000002)) mX6_first_86 dX6_first_9 ?_
    have hf := Option.some.inj hf
    subst hf
    exact g_iret dX6_first_11
theorem kX6_first {S : Shp} {n : Nat} {r : Rf} {v0 : Nat} {v1 : Int32} {h : Hp} {o : (Int32 × Hp)} (hW : WF S r) (hv0 : S[v0]? = some (6, 38)) (hf : fX6_first n r v0 v1 h = some o) : CTi yX6_first wsX6_first rmX6_first S r [.ref v0, .int v1] h r o.1 o.2 :=
  cti_of rfl (by decide +kernel) rfl (Nat.le_of_ble_eq_true rfl) rfl (uX6_first hW hv0 hf)
/-! X6_doneBehind doneBehind -/
def rmX6_doneBehind : Room := { frames := 3, cells := 0, slots := 0, locals := 69 }
abbrev GX6_doneBehind (S : Shp) (r r' : Rf) (out : Option Int32 × Hp) (pc : Nat) (L : List (Nat × Value)) (st : List Value) (h : Hp) : Prop := G RX6 cX6_doneBehind 3 (some .int) wsX6_doneBehind rmX6_doneBehind S r r' out pc L st h
theorem nX6_doneBehind_X6 : ∀ w ∈ wsX60, w ∈ wsX6_doneBehind := by decide +kernel
theorem mX6_doneBehind_50 : Cond.fieldLink RX6 50 "LinkedIslesModel" "tried" "[I" ∈ wsX6_doneBehind := by decide +kernel
theorem hdX6_doneBehind : yX6_doneBehind.cls ≠ "java/lang/invoke/MethodHandle" ∧ yX6_doneBehind.cls ≠ "java/lang/invoke/VarHandle" ∧ (parseMethodDescriptor yX6_doneBehind.desc).map (fun d => d.parameters.length) = some 1 := by decide +kernel
def bX6_doneBehind_6 (n : Nat) (r : Rf) (v0 : Nat) (v1 : Int32) (v2 : Int32) (h : Hp) : Option ((Int32 × Hp) ⊕ (Hp)) :=
  if v1 ≤ v2 then (some (.inr h)) else (bd2 (fX6_passes n r v0 (r v0 23) 16 h) (fun (x5 : Int32) (h6 : Hp) => lE (v2 + 1) (fun (x7 : Int32) => some (.inl (x7, h6)))))
def lX6_doneBehind_6 (n : Nat) (r : Rf) (v0 : Nat) (v1 : Int32) (v2 : Int32) (h : Hp) : Option (Int32 × Hp) :=
  (it (fun (s : Int32 × Hp) => bX6_doneBehind_6 n r v0 v1 s.1 s.2) n (v2, h)).bind (fun z => ck 0 16 (some ((z.1 (r v0 23) (Int32.toNatClampNeg 0)), z)))
def fX6_doneBehind (n : Nat) (r : Rf) (v0 : Nat) (v1 : Int32) (h : Hp) : Option (Int32 × Hp) :=
  (fX6_copyNow n r v0 h).bind (fun (h2 : Hp) => lX6_doneBehind_6 n r v0 v1 0 h2)
set_option maxHeartbeats 4000000 in
set_option maxRecDepth 100000 in
theorem ubX6_doneBehind_6 {S : Shp} {n : Nat} {r : Rf} {out : Option Int32 × Hp} {r' : Rf} {v0 : Nat} {v1 : Int32} {v2 : Int32}  {h : Hp} {w : (Int32 × Hp) ⊕ (Hp)} (hW : WF S r) (hv0 : S[v0]? = some (6, 38)) (hf : bX6_doneBehind_6 n r v0 v1 v2 h = some w) (hk : ∀ y, w = .inl y → GX6_doneBehind S r r' out 6 [(0, .ref v0), (1, .int v1), (2, .int (y.1))] [] (y.2)) (he : ∀ z, w = .inr z → GX6_doneBehind S r r' out 26 [(0, .ref v0)] [] (z)) : GX6_doneBehind S r r' out 6 [(0, .ref v0), (1, .int v1), (2, .int v2)] [] h := by
  unfold bX6_doneBehind_6 at hf
  refine g_iload_n (ps := 2) dX6_doneBehind_6 rfl rfl ?_
  refine g_iload_n (ps := 1) dX6_doneBehind_7 rfl rfl ?_
  refine g_icmp_ge (tgt := 26) dX6_doneBehind_8 (by decide) (fun c3 => ?_) (fun c3 => ?_)
  · have hf := if_t hf c3
    exact g_pick [0] rfl (he _ (Option.some.inj hf).symm)
  · have hf := if_f hf c3
    refine g_aload_n (ps := 0) dX6_doneBehind_11 rfl rfl ?_
    refine g_aload_n (ps := 0) dX6_doneBehind_12 rfl rfl ?_
    refine g_getR cf6 hv0 nX6_doneBehind_X6 (j := 23) (by decide) rfl mX6_doneBehind_50 dX6_doneBehind_13 ?_
    obtain ⟨x5, h6, e4, hf⟩ := bd2_s hf
    refine g_callVi (As := [.ref (r v0 23)]) (n := 1) (kX6_passes hW hv0 (hW _ _ _ hv0 23 _ rfl) e4) gX6_doneBehind_X6_passes rfl ⟨rfl, rfl⟩ ⟨rfl, hdX6_passes⟩ ⟨Nat.le_of_ble_eq_true rfl, Nat.le_of_ble_eq_true rfl⟩ cf6 hv0 rfl rfl (Nat.le_of_ble_eq_true rfl) dX6_doneBehind_16 ?_
    refine g_pop dX6_doneBehind_19 rfl ?_
    obtain ⟨x7, ex7⟩ : ∃ y : Int32, y = v2 + 1 := ⟨_, rfl⟩
    have hf := lE_s hf ex7
    refine g_iinc (ps := 2) (v := x7) (L' := [(2, .int x7), (0, .ref v0), (1, .int v1)]) dX6_doneBehind_20 rfl (by rw [ex7]; rfl) (by decide) rfl ?_
    refine g_goto (tgt := 6) dX6_doneBehind_23 (by decide) ?_
    exact g_pick [1, 2, 0] rfl (hk _ (Option.some.inj hf).symm)
set_option maxHeartbeats 4000000 in
set_option maxRecDepth 100000 in
theorem ulX6_doneBehind_6 {S : Shp} {n : Nat} {r : Rf} {v0 : Nat} {v1 : Int32} {v2 : Int32}  {h : Hp} {o : (Int32 × Hp)} (hW : WF S r) (hv0 : S[v0]? = some (6, 38)) (hf : lX6_doneBehind_6 n r v0 v1 v2 h = some o)  : GX6_doneBehind S r r (some o.1, o.2) 6 [(0, .ref v0), (1, .int v1), (2, .int v2)] [] h := by
  unfold lX6_doneBehind_6 at hf
  obtain ⟨z0, ei, hf⟩ := bd_s hf
  refine it_ind (P := fun (s : Int32 × Hp) => GX6_doneBehind S r r (some o.1, o.2) 6 [(0, .ref v0), (1, .int v1), (2, .int (s.1))] [] (s.2)) (fun s w hb hk2 he2 => ?_) n _ ei
  refine ubX6_doneBehind_6 (out := (some o.1, o.2)) (r' := r) hW hv0 hb hk2 (fun z hz => ?_)
  have hz := he2 z hz
  subst hz
  refine g_aload_n (ps := 0) dX6_doneBehind_26 rfl rfl ?_
  refine g_getR cf6 hv0 nX6_doneBehind_X6 (j := 23) (by decide) rfl mX6_doneBehind_50 dX6_doneBehind_27 ?_
  refine g_iconst (v := 0) dX6_doneBehind_30 (by decide +kernel) ?_
  obtain ⟨z8, hf⟩ := ck_s hf
  refine g_iald (hW _ _ _ hv0 23 _ rfl) z8 dX6_doneBehind_31 ?_
  have hf := Option.some.inj hf
  subst hf
  exact g_iret dX6_doneBehind_32
set_option maxHeartbeats 4000000 in
set_option maxRecDepth 100000 in
theorem uX6_doneBehind {S : Shp} {n : Nat} {r : Rf} {v0 : Nat} {v1 : Int32} {h : Hp} {o : (Int32 × Hp)} (hW : WF S r) (hv0 : S[v0]? = some (6, 38)) (hf : fX6_doneBehind n r v0 v1 h = some o) : GX6_doneBehind S r r (some o.1, o.2) 0 [(0, .ref v0), (1, .int v1)] [] h := by
  unfold fX6_doneBehind at hf
  refine g_aload_n (ps := 0) dX6_doneBehind_0 rfl rfl ?_
  obtain ⟨h2, e1, hf⟩ := bd_s hf
  refine g_callVv (As := []) (n := 0) (kX6_copyNow hW hv0 e1) gX6_doneBehind_X6_copyNow rfl ⟨rfl, rfl⟩ ⟨rfl, hdX6_copyNow⟩ ⟨Nat.le_of_ble_eq_true rfl, Nat.le_of_ble_eq_true rfl⟩ cf6 hv0 rfl rfl (Nat.le_of_ble_eq_true rfl) dX6_doneBehind_1 ?_
  refine g_iconst (v := 0) dX6_doneBehind_4 (by decide +kernel) ?_
  refine g_istore_n (L' := [(2, .int 0), (0, .ref v0), (1, .int v1)]) dX6_doneBehind_5 rfl (by decide) rfl ?_
  exact g_pick [1, 2, 0] rfl (ulX6_doneBehind_6 hW hv0 hf)
theorem kX6_doneBehind {S : Shp} {n : Nat} {r : Rf} {v0 : Nat} {v1 : Int32} {h : Hp} {o : (Int32 × Hp)} (hW : WF S r) (hv0 : S[v0]? = some (6, 38)) (hf : fX6_doneBehind n r v0 v1 h = some o) : CTi yX6_doneBehind wsX6_doneBehind rmX6_doneBehind S r [.ref v0, .int v1] h r o.1 o.2 :=
  cti_of rfl (by decide +kernel) rfl (Nat.le_of_ble_eq_true rfl) rfl (uX6_doneBehind hW hv0 hf)
/-! X6_still still -/
def rmX6_still : Room := { frames := 4, cells := 0, slots := 0, locals := 91 }
abbrev GX6_still (S : Shp) (r r' : Rf) (out : Option Int32 × Hp) (pc : Nat) (L : List (Nat × Value)) (st : List Value) (h : Hp) : Prop := G RX6 cX6_still 2 (some .int) wsX6_still rmX6_still S r r' out pc L st h
theorem mX6_still_86 : Cond.constant RX6 86 (-1000000002) ∈ wsX6_still := by decide +kernel
theorem hdX6_still : yX6_still.cls ≠ "java/lang/invoke/MethodHandle" ∧ yX6_still.cls ≠ "java/lang/invoke/VarHandle" ∧ (parseMethodDescriptor yX6_still.desc).map (fun d => d.parameters.length) = some 1 := by decide +kernel
def fX6_still (n : Nat) (r : Rf) (v0 : Nat) (v1 : Int32) (h : Hp) : Option (Int32 × Hp) :=
  (fX6_in n r v1 0 60 h).bind (fun (x2 : Int32) => if x2 = 0 then (some ((-1000000002), h)) else (bd2 (fX6_doneBehind n r v0 v1 h) (fun (x5 : Int32) (h6 : Hp) => some (x5, h6))))
set_option maxHeartbeats 4000000 in
set_option maxRecDepth 100000 in
theorem uX6_still {S : Shp} {n : Nat} {r : Rf} {v0 : Nat} {v1 : Int32} {h : Hp} {o : (Int32 × Hp)} (hW : WF S r) (hv0 : S[v0]? = some (6, 38)) (hf : fX6_still n r v0 v1 h = some o) : GX6_still S r r (some o.1, o.2) 0 [(0, .ref v0), (1, .int v1)] [] h := by
  unfold fX6_still at hf
  refine g_iload_n (ps := 1) dX6_still_0 rfl rfl ?_
  refine g_iconst (v := 0) dX6_still_1 (by decide +kernel) ?_
  refine g_bipush (v := 60) dX6_still_2 (by decide +kernel) ?_
  obtain ⟨x2, e1, hf⟩ := bd_s hf
  refine g_callSi (As := [.int v1, .int 0, .int 60]) (n := 3) (kX6_in hW  e1) gX6_still_X6_in rfl ⟨rfl, rfl⟩ hdX6_in ⟨Nat.le_of_ble_eq_true rfl, Nat.le_of_ble_eq_true rfl⟩ rfl rfl (Nat.le_of_ble_eq_true rfl) dX6_still_4 ?_
  refine g_if_eq (tgt := 18) dX6_still_7 (by decide) (fun c3 => ?_) (fun c3 => ?_)
  · have hf := if_t hf c3
    refine g_ldc (v := (-1000000002)) mX6_still_86 dX6_still_18 ?_
    have hf := Option.some.inj hf
    subst hf
    exact g_iret dX6_still_20
  · have hf := if_f hf c3
    refine g_aload_n (ps := 0) dX6_still_10 rfl rfl ?_
    refine g_iload_n (ps := 1) dX6_still_11 rfl rfl ?_
    obtain ⟨x5, h6, e4, hf⟩ := bd2_s hf
    refine g_callVi (As := [.int v1]) (n := 1) (kX6_doneBehind hW hv0 e4) gX6_still_X6_doneBehind rfl ⟨rfl, rfl⟩ ⟨rfl, hdX6_doneBehind⟩ ⟨Nat.le_of_ble_eq_true rfl, Nat.le_of_ble_eq_true rfl⟩ cf6 hv0 rfl rfl (Nat.le_of_ble_eq_true rfl) dX6_still_12 ?_
    refine g_goto (tgt := 20) dX6_still_15 (by decide) ?_
    have hf := Option.some.inj hf
    subst hf
    exact g_iret dX6_still_20
theorem kX6_still {S : Shp} {n : Nat} {r : Rf} {v0 : Nat} {v1 : Int32} {h : Hp} {o : (Int32 × Hp)} (hW : WF S r) (hv0 : S[v0]? = some (6, 38)) (hf : fX6_still n r v0 v1 h = some o) : CTi yX6_still wsX6_still rmX6_still S r [.ref v0, .int v1] h r o.1 o.2 :=
  cti_of rfl (by decide +kernel) rfl (Nat.le_of_ble_eq_true rfl) rfl (uX6_still hW hv0 hf)
/-! X6_parts parts -/
def rmX6_parts : Room := { frames := 4, cells := 0, slots := 0, locals := 93 }
abbrev GX6_parts (S : Shp) (r r' : Rf) (out : Option Int32 × Hp) (pc : Nat) (L : List (Nat × Value)) (st : List Value) (h : Hp) : Prop := G RX6 cX6_parts 2 (some .int) wsX6_parts rmX6_parts S r r' out pc L st h
theorem mX6_parts_86 : Cond.constant RX6 86 (-1000000002) ∈ wsX6_parts := by decide +kernel
theorem hdX6_parts : yX6_parts.cls ≠ "java/lang/invoke/MethodHandle" ∧ yX6_parts.cls ≠ "java/lang/invoke/VarHandle" ∧ (parseMethodDescriptor yX6_parts.desc).map (fun d => d.parameters.length) = some 1 := by decide +kernel
def fX6_parts (n : Nat) (r : Rf) (v0 : Nat) (v1 : Int32) (h : Hp) : Option (Int32 × Hp) :=
  (fX6_in n r v1 0 60 h).bind (fun (x2 : Int32) => if x2 = 0 then (some ((-1000000002), h)) else (bd2 (fX6_doneBehind n r v0 v1 h) (fun (x5 : Int32) (h6 : Hp) => (fX6_partsOf n r v0 x5 h6).bind (fun (x8 : Int32) => some (x8, h6)))))
set_option maxHeartbeats 4000000 in
set_option maxRecDepth 100000 in
theorem uX6_parts {S : Shp} {n : Nat} {r : Rf} {v0 : Nat} {v1 : Int32} {h : Hp} {o : (Int32 × Hp)} (hW : WF S r) (hv0 : S[v0]? = some (6, 38)) (hf : fX6_parts n r v0 v1 h = some o) : GX6_parts S r r (some o.1, o.2) 0 [(0, .ref v0), (1, .int v1)] [] h := by
  unfold fX6_parts at hf
  refine g_iload_n (ps := 1) dX6_parts_0 rfl rfl ?_
  refine g_iconst (v := 0) dX6_parts_1 (by decide +kernel) ?_
  refine g_bipush (v := 60) dX6_parts_2 (by decide +kernel) ?_
  obtain ⟨x2, e1, hf⟩ := bd_s hf
  refine g_callSi (As := [.int v1, .int 0, .int 60]) (n := 3) (kX6_in hW  e1) gX6_parts_X6_in rfl ⟨rfl, rfl⟩ hdX6_in ⟨Nat.le_of_ble_eq_true rfl, Nat.le_of_ble_eq_true rfl⟩ rfl rfl (Nat.le_of_ble_eq_true rfl) dX6_parts_4 ?_
  refine g_if_eq (tgt := 22) dX6_parts_7 (by decide) (fun c3 => ?_) (fun c3 => ?_)
  · have hf := if_t hf c3
    refine g_ldc (v := (-1000000002)) mX6_parts_86 dX6_parts_22 ?_
    have hf := Option.some.inj hf
    subst hf
    exact g_iret dX6_parts_24
  · have hf := if_f hf c3
    refine g_aload_n (ps := 0) dX6_parts_10 rfl rfl ?_
    refine g_aload_n (ps := 0) dX6_parts_11 rfl rfl ?_
    refine g_iload_n (ps := 1) dX6_parts_12 rfl rfl ?_
    obtain ⟨x5, h6, e4, hf⟩ := bd2_s hf
    refine g_callVi (As := [.int v1]) (n := 1) (kX6_doneBehind hW hv0 e4) gX6_parts_X6_doneBehind rfl ⟨rfl, rfl⟩ ⟨rfl, hdX6_doneBehind⟩ ⟨Nat.le_of_ble_eq_true rfl, Nat.le_of_ble_eq_true rfl⟩ cf6 hv0 rfl rfl (Nat.le_of_ble_eq_true rfl) dX6_parts_13 ?_
    obtain ⟨x8, e7, hf⟩ := bd_s hf
    refine g_callVi (As := [.int x5]) (n := 1) (kX6_partsOf hW hv0 e7) gX6_parts_X6_partsOf rfl ⟨rfl, rfl⟩ ⟨rfl, hdX6_partsOf⟩ ⟨Nat.le_of_ble_eq_true rfl, Nat.le_of_ble_eq_true rfl⟩ cf6 hv0 rfl rfl (Nat.le_of_ble_eq_true rfl) dX6_parts_16 ?_
    refine g_goto (tgt := 24) dX6_parts_19 (by decide) ?_
    have hf := Option.some.inj hf
    subst hf
    exact g_iret dX6_parts_24
theorem kX6_parts {S : Shp} {n : Nat} {r : Rf} {v0 : Nat} {v1 : Int32} {h : Hp} {o : (Int32 × Hp)} (hW : WF S r) (hv0 : S[v0]? = some (6, 38)) (hf : fX6_parts n r v0 v1 h = some o) : CTi yX6_parts wsX6_parts rmX6_parts S r [.ref v0, .int v1] h r o.1 o.2 :=
  cti_of rfl (by decide +kernel) rfl (Nat.le_of_ble_eq_true rfl) rfl (uX6_parts hW hv0 hf)
/-! X6_together together -/
def rmX6_together : Room := { frames := 3, cells := 0, slots := 0, locals := 69 }
abbrev GX6_together (S : Shp) (r r' : Rf) (out : Option Int32 × Hp) (pc : Nat) (L : List (Nat × Value)) (st : List Value) (h : Hp) : Prop := G RX6 cX6_together 2 (some .int) wsX6_together rmX6_together S r r' out pc L st h
theorem nX6_together_X6 : ∀ w ∈ wsX60, w ∈ wsX6_together := by decide +kernel
theorem mX6_together_176 : Cond.constant RX6 176 (-1000000001) ∈ wsX6_together := by decide +kernel
theorem mX6_together_47 : Cond.fieldLink RX6 47 "LinkedIslesModel" "now" "[I" ∈ wsX6_together := by decide +kernel
theorem hdX6_together : yX6_together.cls ≠ "java/lang/invoke/MethodHandle" ∧ yX6_together.cls ≠ "java/lang/invoke/VarHandle" ∧ (parseMethodDescriptor yX6_together.desc).map (fun d => d.parameters.length) = some 1 := by decide +kernel
def fX6_together (n : Nat) (r : Rf) (v0 : Nat) (v1 : Int32) (h : Hp) : Option Int32 :=
  (fX6_isIsland n r v0 v1 h).bind (fun (x2 : Int32) => if x2 = 0 then (some (-1000000001)) else (ck 0 16 ((fX6_reached n r v0 v1 (h.1 (r v0 22) (Int32.toNatClampNeg 0)) h).bind (fun (x6 : Int32) => some x6))))
set_option maxHeartbeats 4000000 in
set_option maxRecDepth 100000 in
theorem uX6_together {S : Shp} {n : Nat} {r : Rf} {v0 : Nat} {v1 : Int32} {h : Hp} {o : Int32} (hW : WF S r) (hv0 : S[v0]? = some (6, 38)) (hf : fX6_together n r v0 v1 h = some o) : GX6_together S r r (some o, h) 0 [(0, .ref v0), (1, .int v1)] [] h := by
  unfold fX6_together at hf
  refine g_aload_n (ps := 0) dX6_together_0 rfl rfl ?_
  refine g_iload_n (ps := 1) dX6_together_1 rfl rfl ?_
  obtain ⟨x2, e1, hf⟩ := bd_s hf
  refine g_callVi (As := [.int v1]) (n := 1) (kX6_isIsland hW hv0 e1) gX6_together_X6_isIsland rfl ⟨rfl, rfl⟩ ⟨rfl, hdX6_isIsland⟩ ⟨Nat.le_of_ble_eq_true rfl, Nat.le_of_ble_eq_true rfl⟩ cf6 hv0 rfl rfl (Nat.le_of_ble_eq_true rfl) dX6_together_2 ?_
  refine g_if_eq (tgt := 22) dX6_together_5 (by decide) (fun c3 => ?_) (fun c3 => ?_)
  · have hf := if_t hf c3
    refine g_ldc (v := (-1000000001)) mX6_together_176 dX6_together_22 ?_
    have hf := Option.some.inj hf
    subst hf
    exact g_iret dX6_together_24
  · have hf := if_f hf c3
    refine g_aload_n (ps := 0) dX6_together_8 rfl rfl ?_
    refine g_iload_n (ps := 1) dX6_together_9 rfl rfl ?_
    refine g_aload_n (ps := 0) dX6_together_10 rfl rfl ?_
    refine g_getR cf6 hv0 nX6_together_X6 (j := 22) (by decide) rfl mX6_together_47 dX6_together_11 ?_
    refine g_iconst (v := 0) dX6_together_14 (by decide +kernel) ?_
    obtain ⟨z4, hf⟩ := ck_s hf
    refine g_iald (hW _ _ _ hv0 22 _ rfl) z4 dX6_together_15 ?_
    obtain ⟨x6, e5, hf⟩ := bd_s hf
    refine g_callVi (As := [.int v1, .int (h.1 (r v0 22) (Int32.toNatClampNeg 0))]) (n := 2) (kX6_reached hW hv0 e5) gX6_together_X6_reached rfl ⟨rfl, rfl⟩ ⟨rfl, hdX6_reached⟩ ⟨Nat.le_of_ble_eq_true rfl, Nat.le_of_ble_eq_true rfl⟩ cf6 hv0 rfl rfl (Nat.le_of_ble_eq_true rfl) dX6_together_16 ?_
    refine g_goto (tgt := 24) dX6_together_19 (by decide) ?_
    have hf := Option.some.inj hf
    subst hf
    exact g_iret dX6_together_24
theorem kX6_together {S : Shp} {n : Nat} {r : Rf} {v0 : Nat} {v1 : Int32} {h : Hp} {o : Int32} (hW : WF S r) (hv0 : S[v0]? = some (6, 38)) (hf : fX6_together n r v0 v1 h = some o) : CTi yX6_together wsX6_together rmX6_together S r [.ref v0, .int v1] h r o h :=
  cti_of rfl (by decide +kernel) rfl (Nat.le_of_ble_eq_true rfl) rfl (uX6_together hW hv0 hf)
/-! X6_between between -/
def rmX6_between : Room := { frames := 3, cells := 0, slots := 0, locals := 69 }
abbrev GX6_between (S : Shp) (r r' : Rf) (out : Option Int32 × Hp) (pc : Nat) (L : List (Nat × Value)) (st : List Value) (h : Hp) : Prop := G RX6 cX6_between 7 (some .int) wsX6_between rmX6_between S r r' out pc L st h
theorem nX6_between_X6 : ∀ w ∈ wsX60, w ∈ wsX6_between := by decide +kernel
theorem mX6_between_176 : Cond.constant RX6 176 (-1000000001) ∈ wsX6_between := by decide +kernel
theorem mX6_between_86 : Cond.constant RX6 86 (-1000000002) ∈ wsX6_between := by decide +kernel
theorem mX6_between_47 : Cond.fieldLink RX6 47 "LinkedIslesModel" "now" "[I" ∈ wsX6_between := by decide +kernel
theorem hdX6_between : yX6_between.cls ≠ "java/lang/invoke/MethodHandle" ∧ yX6_between.cls ≠ "java/lang/invoke/VarHandle" ∧ (parseMethodDescriptor yX6_between.desc).map (fun d => d.parameters.length) = some 3 := by decide +kernel
def jX6_between_77 (n : Nat) (r : Rf) (v0 : Nat) (v1 : Int32) (v2 : Int32) (v3 : Int32) (v4 : Int32) (v5 : Int32) (s0 : Int32) (h : Hp) : Option ((Int32 × Int32) ⊕ (Int32)) :=
  if s0 = 0 then (lE (v5 + (-1)) (fun (x15 : Int32) => some (.inl (v4, x15)))) else (ck 0 16 ((fX6_reached n r v0 v1 ((h.1 (r v0 22) (Int32.toNatClampNeg 0)) &&& (v5 ^^^ (-1))) h).bind (fun (x18 : Int32) => (fX6_has n r x18 v2 h).bind (fun (x20 : Int32) => if x20 = 0 then (lE (v5 + (-1)) (fun (x23 : Int32) => some (.inl (v5, x23)))) else (lE (v5 + (-1)) (fun (x22 : Int32) => some (.inl (v4, x22))))))))
def bX6_between_40 (n : Nat) (r : Rf) (v0 : Nat) (v1 : Int32) (v2 : Int32) (v3 : Int32) (v4 : Int32) (v5 : Int32) (h : Hp) : Option ((Int32 × Int32) ⊕ (Int32)) :=
  if v5 < 0 then (some (.inr v4)) else (ck 0 16 (if (v5 &&& ((h.1 (r v0 22) (Int32.toNatClampNeg 0)) ^^^ (-1))) = 0 then ((fX6_bits n r v5 h).bind (fun (x25 : Int32) => (fX6_bits n r v4 h).bind (fun (x27 : Int32) => if x27 < x25 then (jX6_between_77 n r v0 v1 v2 v3 v4 v5 0 h) else (jX6_between_77 n r v0 v1 v2 v3 v4 v5 1 h)))) else (jX6_between_77 n r v0 v1 v2 v3 v4 v5 0 h)))
def lX6_between_40 (n : Nat) (r : Rf) (v0 : Nat) (v1 : Int32) (v2 : Int32) (v3 : Int32) (v4 : Int32) (v5 : Int32) (h : Hp) : Option Int32 :=
  (it (fun (s : Int32 × Int32) => bX6_between_40 n r v0 v1 v2 v3 s.1 s.2 h) n (v4, v5)).bind (fun z => if v3 = 0 then ((fX6_bits n r z h).bind (fun (x31 : Int32) => some x31)) else (some z))
def fX6_between (n : Nat) (r : Rf) (v0 : Nat) (v1 : Int32) (v2 : Int32) (v3 : Int32) (h : Hp) : Option Int32 :=
  (fX6_areTwo n r v0 v1 v2 h).bind (fun (x2 : Int32) => if x2 = 0 then (some (-1000000001)) else ((fX6_in n r v3 0 1 h).bind (fun (x5 : Int32) => if x5 = 0 then (some (-1000000002)) else (ck 0 16 (lE ((h.1 (r v0 22) (Int32.toNatClampNeg 0))) (fun (x8 : Int32) => ck 0 16 (lE ((h.1 (r v0 22) (Int32.toNatClampNeg 0))) (fun (x10 : Int32) => lX6_between_40 n r v0 v1 v2 v3 x8 x10 h))))))))
set_option maxHeartbeats 4000000 in
set_option maxRecDepth 100000 in
theorem ujX6_between_77 {S : Shp} {n : Nat} {r : Rf} {out : Option Int32 × Hp} {r' : Rf} {v0 : Nat} {v1 : Int32} {v2 : Int32} {v3 : Int32} {v4 : Int32} {v5 : Int32} {s0 : Int32} {h : Hp} {w : (Int32 × Int32) ⊕ (Int32)} (hW : WF S r) (hv0 : S[v0]? = some (6, 38)) (hf : jX6_between_77 n r v0 v1 v2 v3 v4 v5 s0 h = some w) (hk : ∀ y, w = .inl y → GX6_between S r r' out 40 [(0, .ref v0), (1, .int v1), (2, .int v2), (3, .int v3), (4, .int (y.1)), (5, .int (y.2))] [] h) (he : ∀ z, w = .inr z → GX6_between S r r' out 122 [(0, .ref v0), (3, .int v3), (4, .int (z))] [] h) : GX6_between S r r' out 77 [(0, .ref v0), (1, .int v1), (2, .int v2), (3, .int v3), (4, .int v4), (5, .int v5)] [.int s0] h := by
  unfold jX6_between_77 at hf
  refine g_istore (L' := [(6, .int s0), (0, .ref v0), (1, .int v1), (2, .int v2), (3, .int v3), (4, .int v4), (5, .int v5)]) dX6_between_77 (by decide) rfl ?_
  refine g_iload (ps := 0) dX6_between_79 rfl ?_
  refine g_if_eq (tgt := 112) dX6_between_81 (by decide) (fun c14 => ?_) (fun c14 => ?_)
  · have hf := if_t hf c14
    refine g_iload (ps := 5) dX6_between_112 rfl ?_
    refine g_istore (L' := [(4, .int v4), (6, .int s0), (0, .ref v0), (1, .int v1), (2, .int v2), (3, .int v3), (5, .int v5)]) dX6_between_114 (by decide) rfl ?_
    obtain ⟨x15, ex15⟩ : ∃ y : Int32, y = v5 + (-1) := ⟨_, rfl⟩
    have hf := lE_s hf ex15
    refine g_iinc (ps := 6) (v := x15) (L' := [(5, .int x15), (4, .int v4), (6, .int s0), (0, .ref v0), (1, .int v1), (2, .int v2), (3, .int v3)]) dX6_between_116 rfl (by rw [ex15]; rfl) (by decide) rfl ?_
    refine g_goto (tgt := 40) dX6_between_119 (by decide) ?_
    exact g_pick [3, 4, 5, 6, 1, 0] rfl (hk _ (Option.some.inj hf).symm)
  · have hf := if_f hf c14
    refine g_aload_n (ps := 1) dX6_between_84 rfl rfl ?_
    refine g_iload_n (ps := 2) dX6_between_85 rfl rfl ?_
    refine g_aload_n (ps := 1) dX6_between_86 rfl rfl ?_
    refine g_getR cf6 hv0 nX6_between_X6 (j := 22) (by decide) rfl mX6_between_47 dX6_between_87 ?_
    refine g_iconst (v := 0) dX6_between_90 (by decide +kernel) ?_
    obtain ⟨z16, hf⟩ := ck_s hf
    refine g_iald (hW _ _ _ hv0 22 _ rfl) z16 dX6_between_91 ?_
    refine g_iload (ps := 6) dX6_between_92 rfl ?_
    refine g_iconst (v := (-1)) dX6_between_94 (by decide +kernel) ?_
    refine g_ixor dX6_between_95 ?_
    refine g_iand dX6_between_96 ?_
    obtain ⟨x18, e17, hf⟩ := bd_s hf
    refine g_callVi (As := [.int v1, .int ((h.1 (r v0 22) (Int32.toNatClampNeg 0)) &&& (v5 ^^^ (-1)))]) (n := 2) (kX6_reached hW hv0 e17) gX6_between_X6_reached rfl ⟨rfl, rfl⟩ ⟨rfl, hdX6_reached⟩ ⟨Nat.le_of_ble_eq_true rfl, Nat.le_of_ble_eq_true rfl⟩ cf6 hv0 rfl rfl (Nat.le_of_ble_eq_true rfl) dX6_between_97 ?_
    refine g_iload_n (ps := 3) dX6_between_100 rfl rfl ?_
    obtain ⟨x20, e19, hf⟩ := bd_s hf
    refine g_callSi (As := [.int x18, .int v2]) (n := 2) (kX6_has hW  e19) gX6_between_X6_has rfl ⟨rfl, rfl⟩ hdX6_has ⟨Nat.le_of_ble_eq_true rfl, Nat.le_of_ble_eq_true rfl⟩ rfl rfl (Nat.le_of_ble_eq_true rfl) dX6_between_101 ?_
    refine g_if_ne (tgt := 112) dX6_between_104 (by decide) (fun c21 => ?_) (fun c21 => ?_)
    · have hf := if_f hf c21
      refine g_iload (ps := 5) dX6_between_112 rfl ?_
      refine g_istore (L' := [(4, .int v4), (6, .int s0), (0, .ref v0), (1, .int v1), (2, .int v2), (3, .int v3), (5, .int v5)]) dX6_between_114 (by decide) rfl ?_
      obtain ⟨x22, ex22⟩ : ∃ y : Int32, y = v5 + (-1) := ⟨_, rfl⟩
      have hf := lE_s hf ex22
      refine g_iinc (ps := 6) (v := x22) (L' := [(5, .int x22), (4, .int v4), (6, .int s0), (0, .ref v0), (1, .int v1), (2, .int v2), (3, .int v3)]) dX6_between_116 rfl (by rw [ex22]; rfl) (by decide) rfl ?_
      refine g_goto (tgt := 40) dX6_between_119 (by decide) ?_
      exact g_pick [3, 4, 5, 6, 1, 0] rfl (hk _ (Option.some.inj hf).symm)
    · have hf := if_t hf c21
      refine g_iload (ps := 6) dX6_between_107 rfl ?_
      refine g_goto (tgt := 114) dX6_between_109 (by decide) ?_
      refine g_istore (L' := [(4, .int v5), (6, .int s0), (0, .ref v0), (1, .int v1), (2, .int v2), (3, .int v3), (5, .int v5)]) dX6_between_114 (by decide) rfl ?_
      obtain ⟨x23, ex23⟩ : ∃ y : Int32, y = v5 + (-1) := ⟨_, rfl⟩
      have hf := lE_s hf ex23
      refine g_iinc (ps := 6) (v := x23) (L' := [(5, .int x23), (4, .int v5), (6, .int s0), (0, .ref v0), (1, .int v1), (2, .int v2), (3, .int v3)]) dX6_between_116 rfl (by rw [ex23]; rfl) (by decide) rfl ?_
      refine g_goto (tgt := 40) dX6_between_119 (by decide) ?_
      exact g_pick [3, 4, 5, 6, 1, 0] rfl (hk _ (Option.some.inj hf).symm)
set_option maxHeartbeats 4000000 in
set_option maxRecDepth 100000 in
theorem ubX6_between_40 {S : Shp} {n : Nat} {r : Rf} {out : Option Int32 × Hp} {r' : Rf} {v0 : Nat} {v1 : Int32} {v2 : Int32} {v3 : Int32} {v4 : Int32} {v5 : Int32}  {h : Hp} {w : (Int32 × Int32) ⊕ (Int32)} (hW : WF S r) (hv0 : S[v0]? = some (6, 38)) (hf : bX6_between_40 n r v0 v1 v2 v3 v4 v5 h = some w) (hk : ∀ y, w = .inl y → GX6_between S r r' out 40 [(0, .ref v0), (1, .int v1), (2, .int v2), (3, .int v3), (4, .int (y.1)), (5, .int (y.2))] [] h) (he : ∀ z, w = .inr z → GX6_between S r r' out 122 [(0, .ref v0), (3, .int v3), (4, .int (z))] [] h) : GX6_between S r r' out 40 [(0, .ref v0), (1, .int v1), (2, .int v2), (3, .int v3), (4, .int v4), (5, .int v5)] [] h := by
  unfold bX6_between_40 at hf
  refine g_iload (ps := 5) dX6_between_40 rfl ?_
  refine g_if_lt (tgt := 122) dX6_between_42 (by decide) (fun c11 => ?_) (fun c11 => ?_)
  · have hf := if_t hf c11
    exact g_pick [0, 3, 4] rfl (he _ (Option.some.inj hf).symm)
  · have hf := if_f hf c11
    refine g_iload (ps := 5) dX6_between_45 rfl ?_
    refine g_aload_n (ps := 0) dX6_between_47 rfl rfl ?_
    refine g_getR cf6 hv0 nX6_between_X6 (j := 22) (by decide) rfl mX6_between_47 dX6_between_48 ?_
    refine g_iconst (v := 0) dX6_between_51 (by decide +kernel) ?_
    obtain ⟨z12, hf⟩ := ck_s hf
    refine g_iald (hW _ _ _ hv0 22 _ rfl) z12 dX6_between_52 ?_
    refine g_iconst (v := (-1)) dX6_between_53 (by decide +kernel) ?_
    refine g_ixor dX6_between_54 ?_
    refine g_iand dX6_between_55 ?_
    refine g_if_ne (tgt := 76) dX6_between_56 (by decide) (fun c13 => ?_) (fun c13 => ?_)
    · have hf := if_f hf c13
      refine g_iconst (v := 0) dX6_between_76 (by decide +kernel) ?_
      exact g_pick [0, 1, 2, 3, 4, 5] rfl (ujX6_between_77 hW hv0 hf hk he)
    · have hf := if_t hf c13
      refine g_iload (ps := 5) dX6_between_59 rfl ?_
      obtain ⟨x25, e24, hf⟩ := bd_s hf
      refine g_callSi (As := [.int v5]) (n := 1) (kX6_bits hW  e24) gX6_between_X6_bits rfl ⟨rfl, rfl⟩ hdX6_bits ⟨Nat.le_of_ble_eq_true rfl, Nat.le_of_ble_eq_true rfl⟩ rfl rfl (Nat.le_of_ble_eq_true rfl) dX6_between_61 ?_
      refine g_iload (ps := 4) dX6_between_64 rfl ?_
      obtain ⟨x27, e26, hf⟩ := bd_s hf
      refine g_callSi (As := [.int v4]) (n := 1) (kX6_bits hW  e26) gX6_between_X6_bits rfl ⟨rfl, rfl⟩ hdX6_bits ⟨Nat.le_of_ble_eq_true rfl, Nat.le_of_ble_eq_true rfl⟩ rfl rfl (Nat.le_of_ble_eq_true rfl) dX6_between_66 ?_
      refine g_icmp_gt (tgt := 76) dX6_between_69 (by decide) (fun c28 => ?_) (fun c28 => ?_)
      · have hf := if_t hf c28
        refine g_iconst (v := 0) dX6_between_76 (by decide +kernel) ?_
        exact g_pick [0, 1, 2, 3, 4, 5] rfl (ujX6_between_77 hW hv0 hf hk he)
      · have hf := if_f hf c28
        refine g_iconst (v := 1) dX6_between_72 (by decide +kernel) ?_
        refine g_goto (tgt := 77) dX6_between_73 (by decide) ?_
        exact g_pick [0, 1, 2, 3, 4, 5] rfl (ujX6_between_77 hW hv0 hf hk he)
set_option maxHeartbeats 4000000 in
set_option maxRecDepth 100000 in
theorem ulX6_between_40 {S : Shp} {n : Nat} {r : Rf} {v0 : Nat} {v1 : Int32} {v2 : Int32} {v3 : Int32} {v4 : Int32} {v5 : Int32}  {h : Hp} {o : Int32} (hW : WF S r) (hv0 : S[v0]? = some (6, 38)) (hf : lX6_between_40 n r v0 v1 v2 v3 v4 v5 h = some o)  : GX6_between S r r (some o, h) 40 [(0, .ref v0), (1, .int v1), (2, .int v2), (3, .int v3), (4, .int v4), (5, .int v5)] [] h := by
  unfold lX6_between_40 at hf
  obtain ⟨z0, ei, hf⟩ := bd_s hf
  refine it_ind (P := fun (s : Int32 × Int32) => GX6_between S r r (some o, h) 40 [(0, .ref v0), (1, .int v1), (2, .int v2), (3, .int v3), (4, .int (s.1)), (5, .int (s.2))] [] h) (fun s w hb hk2 he2 => ?_) n _ ei
  refine ubX6_between_40 (out := (some o, h)) (r' := r) hW hv0 hb hk2 (fun z hz => ?_)
  have hz := he2 z hz
  subst hz
  refine g_iload_n (ps := 1) dX6_between_122 rfl rfl ?_
  refine g_if_ne (tgt := 134) dX6_between_123 (by decide) (fun c29 => ?_) (fun c29 => ?_)
  · have hf := if_f hf c29
    refine g_iload (ps := 2) dX6_between_134 rfl ?_
    have hf := Option.some.inj hf
    subst hf
    exact g_iret dX6_between_136
  · have hf := if_t hf c29
    refine g_iload (ps := 2) dX6_between_126 rfl ?_
    obtain ⟨x31, e30, hf⟩ := bd_s hf
    refine g_callSi (As := [.int z]) (n := 1) (kX6_bits hW  e30) gX6_between_X6_bits rfl ⟨rfl, rfl⟩ hdX6_bits ⟨Nat.le_of_ble_eq_true rfl, Nat.le_of_ble_eq_true rfl⟩ rfl rfl (Nat.le_of_ble_eq_true rfl) dX6_between_128 ?_
    refine g_goto (tgt := 136) dX6_between_131 (by decide) ?_
    have hf := Option.some.inj hf
    subst hf
    exact g_iret dX6_between_136
set_option maxHeartbeats 4000000 in
set_option maxRecDepth 100000 in
theorem uX6_between {S : Shp} {n : Nat} {r : Rf} {v0 : Nat} {v1 : Int32} {v2 : Int32} {v3 : Int32} {h : Hp} {o : Int32} (hW : WF S r) (hv0 : S[v0]? = some (6, 38)) (hf : fX6_between n r v0 v1 v2 v3 h = some o) : GX6_between S r r (some o, h) 0 [(0, .ref v0), (1, .int v1), (2, .int v2), (3, .int v3)] [] h := by
  unfold fX6_between at hf
  refine g_aload_n (ps := 0) dX6_between_0 rfl rfl ?_
  refine g_iload_n (ps := 1) dX6_between_1 rfl rfl ?_
  refine g_iload_n (ps := 2) dX6_between_2 rfl rfl ?_
  obtain ⟨x2, e1, hf⟩ := bd_s hf
  refine g_callVi (As := [.int v1, .int v2]) (n := 2) (kX6_areTwo hW hv0 e1) gX6_between_X6_areTwo rfl ⟨rfl, rfl⟩ ⟨rfl, hdX6_areTwo⟩ ⟨Nat.le_of_ble_eq_true rfl, Nat.le_of_ble_eq_true rfl⟩ cf6 hv0 rfl rfl (Nat.le_of_ble_eq_true rfl) dX6_between_3 ?_
  refine g_if_ne (tgt := 12) dX6_between_6 (by decide) (fun c3 => ?_) (fun c3 => ?_)
  · have hf := if_f hf c3
    refine g_iload_n (ps := 3) dX6_between_12 rfl rfl ?_
    refine g_iconst (v := 0) dX6_between_13 (by decide +kernel) ?_
    refine g_iconst (v := 1) dX6_between_14 (by decide +kernel) ?_
    obtain ⟨x5, e4, hf⟩ := bd_s hf
    refine g_callSi (As := [.int v3, .int 0, .int 1]) (n := 3) (kX6_in hW  e4) gX6_between_X6_in rfl ⟨rfl, rfl⟩ hdX6_in ⟨Nat.le_of_ble_eq_true rfl, Nat.le_of_ble_eq_true rfl⟩ rfl rfl (Nat.le_of_ble_eq_true rfl) dX6_between_15 ?_
    refine g_if_ne (tgt := 24) dX6_between_18 (by decide) (fun c6 => ?_) (fun c6 => ?_)
    · have hf := if_f hf c6
      refine g_aload_n (ps := 0) dX6_between_24 rfl rfl ?_
      refine g_getR cf6 hv0 nX6_between_X6 (j := 22) (by decide) rfl mX6_between_47 dX6_between_25 ?_
      refine g_iconst (v := 0) dX6_between_28 (by decide +kernel) ?_
      obtain ⟨z7, hf⟩ := ck_s hf
      refine g_iald (hW _ _ _ hv0 22 _ rfl) z7 dX6_between_29 ?_
      refine g_topi (fun x8 ex8 => ?_)
      have hf := lE_s hf ex8
      refine g_istore (L' := [(4, .int x8), (0, .ref v0), (1, .int v1), (2, .int v2), (3, .int v3)]) dX6_between_30 (by decide) rfl ?_
      refine g_aload_n (ps := 1) dX6_between_32 rfl rfl ?_
      refine g_getR cf6 hv0 nX6_between_X6 (j := 22) (by decide) rfl mX6_between_47 dX6_between_33 ?_
      refine g_iconst (v := 0) dX6_between_36 (by decide +kernel) ?_
      obtain ⟨z9, hf⟩ := ck_s hf
      refine g_iald (hW _ _ _ hv0 22 _ rfl) z9 dX6_between_37 ?_
      refine g_topi (fun x10 ex10 => ?_)
      have hf := lE_s hf ex10
      refine g_istore (L' := [(5, .int x10), (4, .int x8), (0, .ref v0), (1, .int v1), (2, .int v2), (3, .int v3)]) dX6_between_38 (by decide) rfl ?_
      exact g_pick [2, 3, 4, 5, 1, 0] rfl (ulX6_between_40 hW hv0 hf)
    · have hf := if_t hf c6
      refine g_ldc (v := (-1000000002)) mX6_between_86 dX6_between_21 ?_
      have hf := Option.some.inj hf
      subst hf
      exact g_iret dX6_between_23
  · have hf := if_t hf c3
    refine g_ldc (v := (-1000000001)) mX6_between_176 dX6_between_9 ?_
    have hf := Option.some.inj hf
    subst hf
    exact g_iret dX6_between_11
theorem kX6_between {S : Shp} {n : Nat} {r : Rf} {v0 : Nat} {v1 : Int32} {v2 : Int32} {v3 : Int32} {h : Hp} {o : Int32} (hW : WF S r) (hv0 : S[v0]? = some (6, 38)) (hf : fX6_between n r v0 v1 v2 v3 h = some o) : CTi yX6_between wsX6_between rmX6_between S r [.ref v0, .int v1, .int v2, .int v3] h r o h :=
  cti_of rfl (by decide +kernel) rfl (Nat.le_of_ble_eq_true rfl) rfl (uX6_between hW hv0 hf)
/-! X6_wayOf wayOf -/
def rmX6_wayOf : Room := { frames := 2, cells := 0, slots := 0, locals := 45 }
abbrev GX6_wayOf (S : Shp) (r r' : Rf) (out : Option Int32 × Hp) (pc : Nat) (L : List (Nat × Value)) (st : List Value) (h : Hp) : Prop := G RX6 cX6_wayOf 5 (some .int) wsX6_wayOf rmX6_wayOf S r r' out pc L st h
theorem nX6_wayOf_X6 : ∀ w ∈ wsX60, w ∈ wsX6_wayOf := by decide +kernel
theorem mX6_wayOf_141 : Cond.fieldLink RX6 141 "LinkedIslesModel" "n" "I" ∈ wsX6_wayOf := by decide +kernel
theorem mX6_wayOf_47 : Cond.fieldLink RX6 47 "LinkedIslesModel" "now" "[I" ∈ wsX6_wayOf := by decide +kernel
theorem hdX6_wayOf : yX6_wayOf.cls ≠ "java/lang/invoke/MethodHandle" ∧ yX6_wayOf.cls ≠ "java/lang/invoke/VarHandle" ∧ (parseMethodDescriptor yX6_wayOf.desc).map (fun d => d.parameters.length) = some 2 := by decide +kernel
def bX6_wayOf_7 (n : Nat) (r : Rf) (v0 : Nat) (v2 : Int32) (v3 : Int32) (v4 : Int32) (h : Hp) : Option ((Int32 × Int32) ⊕ ((Int32) ⊕ (Unit))) :=
  if (h.1 v0 14) ≤ v4 then (some (.inr (.inr ()))) else ((fX6_has n r v3 v2 h).bind (fun (x4 : Int32) => if x4 = 0 then (ck 0 16 ((fX6_onward n r v0 v3 (h.1 (r v0 22) (Int32.toNatClampNeg 0)) h).bind (fun (x8 : Int32) => lE (v4 + 1) (fun (x9 : Int32) => some (.inl (x8, x9)))))) else (some (.inr (.inl v4)))))
def lX6_wayOf_7 (n : Nat) (r : Rf) (v0 : Nat) (v2 : Int32) (v3 : Int32) (v4 : Int32) (h : Hp) : Option Int32 :=
  (it (fun (s : Int32 × Int32) => bX6_wayOf_7 n r v0 v2 s.1 s.2 h) n (v3, v4)).bind (fun z => match z with | .inl z => some z | .inr z => some (-1))
def fX6_wayOf (n : Nat) (r : Rf) (v0 : Nat) (v1 : Int32) (v2 : Int32) (h : Hp) : Option Int32 :=
  lE ((1 <<< (v1 &&& 31))) (fun (x1 : Int32) => lX6_wayOf_7 n r v0 v2 x1 0 h)
set_option maxHeartbeats 4000000 in
set_option maxRecDepth 100000 in
theorem ubX6_wayOf_7 {S : Shp} {n : Nat} {r : Rf} {out : Option Int32 × Hp} {r' : Rf} {v0 : Nat} {v2 : Int32} {v3 : Int32} {v4 : Int32}  {h : Hp} {w : (Int32 × Int32) ⊕ ((Int32) ⊕ (Unit))} (hW : WF S r) (hv0 : S[v0]? = some (6, 38)) (hf : bX6_wayOf_7 n r v0 v2 v3 v4 h = some w) (hk : ∀ y, w = .inl y → GX6_wayOf S r r' out 7 [(0, .ref v0), (2, .int v2), (3, .int (y.1)), (4, .int (y.2))] [] h) (he : ∀ z, w = .inr z → (match z with | .inl z => GX6_wayOf S r r' out 24 [(0, .ref v0), (4, .int (z))] [] h | .inr z => GX6_wayOf S r r' out 45 [(0, .ref v0)] [] h)) : GX6_wayOf S r r' out 7 [(0, .ref v0), (2, .int v2), (3, .int v3), (4, .int v4)] [] h := by
  unfold bX6_wayOf_7 at hf
  refine g_iload (ps := 3) dX6_wayOf_7 rfl ?_
  refine g_aload_n (ps := 0) dX6_wayOf_9 rfl rfl ?_
  refine g_getI cf6 hv0 nX6_wayOf_X6 (j := 14) (by decide) rfl mX6_wayOf_141 dX6_wayOf_10 ?_
  refine g_icmp_ge (tgt := 45) dX6_wayOf_13 (by decide) (fun c2 => ?_) (fun c2 => ?_)
  · have hf := if_t hf c2
    exact g_pick [0] rfl (he _ (Option.some.inj hf).symm)
  · have hf := if_f hf c2
    refine g_iload_n (ps := 2) dX6_wayOf_16 rfl rfl ?_
    refine g_iload_n (ps := 1) dX6_wayOf_17 rfl rfl ?_
    obtain ⟨x4, e3, hf⟩ := bd_s hf
    refine g_callSi (As := [.int v3, .int v2]) (n := 2) (kX6_has hW  e3) gX6_wayOf_X6_has rfl ⟨rfl, rfl⟩ hdX6_has ⟨Nat.le_of_ble_eq_true rfl, Nat.le_of_ble_eq_true rfl⟩ rfl rfl (Nat.le_of_ble_eq_true rfl) dX6_wayOf_18 ?_
    refine g_if_eq (tgt := 27) dX6_wayOf_21 (by decide) (fun c5 => ?_) (fun c5 => ?_)
    · have hf := if_t hf c5
      refine g_aload_n (ps := 0) dX6_wayOf_27 rfl rfl ?_
      refine g_iload_n (ps := 2) dX6_wayOf_28 rfl rfl ?_
      refine g_aload_n (ps := 0) dX6_wayOf_29 rfl rfl ?_
      refine g_getR cf6 hv0 nX6_wayOf_X6 (j := 22) (by decide) rfl mX6_wayOf_47 dX6_wayOf_30 ?_
      refine g_iconst (v := 0) dX6_wayOf_33 (by decide +kernel) ?_
      obtain ⟨z6, hf⟩ := ck_s hf
      refine g_iald (hW _ _ _ hv0 22 _ rfl) z6 dX6_wayOf_34 ?_
      obtain ⟨x8, e7, hf⟩ := bd_s hf
      refine g_callVi (As := [.int v3, .int (h.1 (r v0 22) (Int32.toNatClampNeg 0))]) (n := 2) (kX6_onward hW hv0 e7) gX6_wayOf_X6_onward rfl ⟨rfl, rfl⟩ ⟨rfl, hdX6_onward⟩ ⟨Nat.le_of_ble_eq_true rfl, Nat.le_of_ble_eq_true rfl⟩ cf6 hv0 rfl rfl (Nat.le_of_ble_eq_true rfl) dX6_wayOf_35 ?_
      refine g_istore_n (L' := [(3, .int x8), (0, .ref v0), (2, .int v2), (4, .int v4)]) dX6_wayOf_38 rfl (by decide) rfl ?_
      obtain ⟨x9, ex9⟩ : ∃ y : Int32, y = v4 + 1 := ⟨_, rfl⟩
      have hf := lE_s hf ex9
      refine g_iinc (ps := 3) (v := x9) (L' := [(4, .int x9), (3, .int x8), (0, .ref v0), (2, .int v2)]) dX6_wayOf_39 rfl (by rw [ex9]; rfl) (by decide) rfl ?_
      refine g_goto (tgt := 7) dX6_wayOf_42 (by decide) ?_
      exact g_pick [2, 3, 1, 0] rfl (hk _ (Option.some.inj hf).symm)
    · have hf := if_f hf c5
      exact g_pick [0, 3] rfl (he _ (Option.some.inj hf).symm)
set_option maxHeartbeats 4000000 in
set_option maxRecDepth 100000 in
theorem ulX6_wayOf_7 {S : Shp} {n : Nat} {r : Rf} {v0 : Nat} {v2 : Int32} {v3 : Int32} {v4 : Int32}  {h : Hp} {o : Int32} (hW : WF S r) (hv0 : S[v0]? = some (6, 38)) (hf : lX6_wayOf_7 n r v0 v2 v3 v4 h = some o)  : GX6_wayOf S r r (some o, h) 7 [(0, .ref v0), (2, .int v2), (3, .int v3), (4, .int v4)] [] h := by
  unfold lX6_wayOf_7 at hf
  obtain ⟨z0, ei, hf⟩ := bd_s hf
  refine it_ind (P := fun (s : Int32 × Int32) => GX6_wayOf S r r (some o, h) 7 [(0, .ref v0), (2, .int v2), (3, .int (s.1)), (4, .int (s.2))] [] h) (fun s w hb hk2 he2 => ?_) n _ ei
  refine ubX6_wayOf_7 (out := (some o, h)) (r' := r) hW hv0 hb hk2 (fun z hz => ?_)
  have hz := he2 z hz
  subst hz
  rcases z with z | z
  · refine g_iload (ps := 1) dX6_wayOf_24 rfl ?_
    have hf := Option.some.inj hf
    subst hf
    exact g_iret dX6_wayOf_26
  · refine g_iconst (v := (-1)) dX6_wayOf_45 (by decide +kernel) ?_
    have hf := Option.some.inj hf
    subst hf
    exact g_iret dX6_wayOf_46
set_option maxHeartbeats 4000000 in
set_option maxRecDepth 100000 in
theorem uX6_wayOf {S : Shp} {n : Nat} {r : Rf} {v0 : Nat} {v1 : Int32} {v2 : Int32} {h : Hp} {o : Int32} (hW : WF S r) (hv0 : S[v0]? = some (6, 38)) (hf : fX6_wayOf n r v0 v1 v2 h = some o) : GX6_wayOf S r r (some o, h) 0 [(0, .ref v0), (1, .int v1), (2, .int v2)] [] h := by
  unfold fX6_wayOf at hf
  refine g_iconst (v := 1) dX6_wayOf_0 (by decide +kernel) ?_
  refine g_iload_n (ps := 1) dX6_wayOf_1 rfl rfl ?_
  refine g_ishl dX6_wayOf_2 ?_
  refine g_topi (fun x1 ex1 => ?_)
  have hf := lE_s hf ex1
  refine g_istore_n (L' := [(3, .int x1), (0, .ref v0), (1, .int v1), (2, .int v2)]) dX6_wayOf_3 rfl (by decide) rfl ?_
  refine g_iconst (v := 0) dX6_wayOf_4 (by decide +kernel) ?_
  refine g_istore (L' := [(4, .int 0), (3, .int x1), (0, .ref v0), (1, .int v1), (2, .int v2)]) dX6_wayOf_5 (by decide) rfl ?_
  exact g_pick [2, 4, 1, 0] rfl (ulX6_wayOf_7 hW hv0 hf)
theorem kX6_wayOf {S : Shp} {n : Nat} {r : Rf} {v0 : Nat} {v1 : Int32} {v2 : Int32} {h : Hp} {o : Int32} (hW : WF S r) (hv0 : S[v0]? = some (6, 38)) (hf : fX6_wayOf n r v0 v1 v2 h = some o) : CTi yX6_wayOf wsX6_wayOf rmX6_wayOf S r [.ref v0, .int v1, .int v2] h r o h :=
  cti_of rfl (by decide +kernel) rfl (Nat.le_of_ble_eq_true rfl) rfl (uX6_wayOf hW hv0 hf)
/-! X6_way way -/
def rmX6_way : Room := { frames := 3, cells := 0, slots := 0, locals := 69 }
abbrev GX6_way (S : Shp) (r r' : Rf) (out : Option Int32 × Hp) (pc : Nat) (L : List (Nat × Value)) (st : List Value) (h : Hp) : Prop := G RX6 cX6_way 7 (some .int) wsX6_way rmX6_way S r r' out pc L st h
theorem nX6_way_X6 : ∀ w ∈ wsX60, w ∈ wsX6_way := by decide +kernel
theorem mX6_way_176 : Cond.constant RX6 176 (-1000000001) ∈ wsX6_way := by decide +kernel
theorem mX6_way_86 : Cond.constant RX6 86 (-1000000002) ∈ wsX6_way := by decide +kernel
theorem mX6_way_144 : Cond.fieldLink RX6 144 "LinkedIslesModel" "m" "I" ∈ wsX6_way := by decide +kernel
theorem mX6_way_32 : Cond.fieldLink RX6 32 "LinkedIslesModel" "ends" "[I" ∈ wsX6_way := by decide +kernel
theorem mX6_way_47 : Cond.fieldLink RX6 47 "LinkedIslesModel" "now" "[I" ∈ wsX6_way := by decide +kernel
theorem hdX6_way : yX6_way.cls ≠ "java/lang/invoke/MethodHandle" ∧ yX6_way.cls ≠ "java/lang/invoke/VarHandle" ∧ (parseMethodDescriptor yX6_way.desc).map (fun d => d.parameters.length) = some 3 := by decide +kernel
def jX6_way_112 (n : Nat) (r : Rf) (v0 : Nat) (v1 : Int32) (v2 : Int32) (v4 : Int32) (v5 : Int32) (s0 : Int32) (h : Hp) : Option ((Int32) ⊕ ((Int32) ⊕ (Unit))) :=
  ck 0 16 ((fX6_has n r (h.1 (r v0 22) (Int32.toNatClampNeg 0)) v5 h).bind (fun (x18 : Int32) => if x18 = 0 then (lE (v5 + 1) (fun (x20 : Int32) => some (.inl x20))) else (if s0 = (-1) then (lE (v5 + 1) (fun (x22 : Int32) => some (.inl x22))) else ((fX6_wayOf n r v0 s0 v2 h).bind (fun (x24 : Int32) => if x24 = (v4 - 1) then (some (.inr (.inl v5))) else (lE (v5 + 1) (fun (x26 : Int32) => some (.inl x26))))))))
def bX6_way_48 (n : Nat) (r : Rf) (v0 : Nat) (v1 : Int32) (v2 : Int32) (v4 : Int32) (v5 : Int32) (h : Hp) : Option ((Int32) ⊕ ((Int32) ⊕ (Unit))) :=
  if (h.1 v0 15) ≤ v5 then (some (.inr (.inr ()))) else (ck (2 * v5) 20 (if (h.1 (r v0 17) (Int32.toNatClampNeg (2 * v5))) = v1 then (ck ((2 * v5) + 1) 20 (jX6_way_112 n r v0 v1 v2 v4 v5 (h.1 (r v0 17) (Int32.toNatClampNeg ((2 * v5) + 1))) h)) else (ck ((2 * v5) + 1) 20 (if (h.1 (r v0 17) (Int32.toNatClampNeg ((2 * v5) + 1))) = v1 then (ck (2 * v5) 20 (jX6_way_112 n r v0 v1 v2 v4 v5 (h.1 (r v0 17) (Int32.toNatClampNeg (2 * v5))) h)) else (jX6_way_112 n r v0 v1 v2 v4 v5 (-1) h)))))
def lX6_way_48 (n : Nat) (r : Rf) (v0 : Nat) (v1 : Int32) (v2 : Int32) (v4 : Int32) (v5 : Int32) (h : Hp) : Option Int32 :=
  (it (fun (s : Int32) => bX6_way_48 n r v0 v1 v2 v4 s h) n v5).bind (fun z => match z with | .inl z => some z | .inr z => some (-1))
def fX6_way (n : Nat) (r : Rf) (v0 : Nat) (v1 : Int32) (v2 : Int32) (v3 : Int32) (h : Hp) : Option Int32 :=
  (fX6_areTwo n r v0 v1 v2 h).bind (fun (x2 : Int32) => if x2 = 0 then (some (-1000000001)) else ((fX6_in n r v3 0 1 h).bind (fun (x5 : Int32) => if x5 = 0 then (some (-1000000002)) else ((fX6_wayOf n r v0 v1 v2 h).bind (fun (x8 : Int32) => if v3 = 0 then (some x8) else (if x8 = (-1) then (some x8) else (lX6_way_48 n r v0 v1 v2 x8 0 h)))))))
set_option maxHeartbeats 4000000 in
set_option maxRecDepth 100000 in
theorem ujX6_way_112 {S : Shp} {n : Nat} {r : Rf} {out : Option Int32 × Hp} {r' : Rf} {v0 : Nat} {v1 : Int32} {v2 : Int32} {v4 : Int32} {v5 : Int32} {s0 : Int32} {h : Hp} {w : (Int32) ⊕ ((Int32) ⊕ (Unit))} (hW : WF S r) (hv0 : S[v0]? = some (6, 38)) (hf : jX6_way_112 n r v0 v1 v2 v4 v5 s0 h = some w) (hk : ∀ y, w = .inl y → GX6_way S r r' out 48 [(0, .ref v0), (1, .int v1), (2, .int v2), (4, .int v4), (5, .int (y))] [] h) (he : ∀ z, w = .inr z → (match z with | .inl z => GX6_way S r r' out 148 [(0, .ref v0), (5, .int (z))] [] h | .inr z => GX6_way S r r' out 157 [(0, .ref v0)] [] h)) : GX6_way S r r' out 112 [(0, .ref v0), (1, .int v1), (2, .int v2), (4, .int v4), (5, .int v5)] [.int s0] h := by
  unfold jX6_way_112 at hf
  refine g_istore (L' := [(6, .int s0), (0, .ref v0), (1, .int v1), (2, .int v2), (4, .int v4), (5, .int v5)]) dX6_way_112 (by decide) rfl ?_
  refine g_aload_n (ps := 1) dX6_way_114 rfl rfl ?_
  refine g_getR cf6 hv0 nX6_way_X6 (j := 22) (by decide) rfl mX6_way_47 dX6_way_115 ?_
  refine g_iconst (v := 0) dX6_way_118 (by decide +kernel) ?_
  obtain ⟨z16, hf⟩ := ck_s hf
  refine g_iald (hW _ _ _ hv0 22 _ rfl) z16 dX6_way_119 ?_
  refine g_iload (ps := 5) dX6_way_120 rfl ?_
  obtain ⟨x18, e17, hf⟩ := bd_s hf
  refine g_callSi (As := [.int (h.1 (r v0 22) (Int32.toNatClampNeg 0)), .int v5]) (n := 2) (kX6_has hW  e17) gX6_way_X6_has rfl ⟨rfl, rfl⟩ hdX6_has ⟨Nat.le_of_ble_eq_true rfl, Nat.le_of_ble_eq_true rfl⟩ rfl rfl (Nat.le_of_ble_eq_true rfl) dX6_way_122 ?_
  refine g_if_eq (tgt := 151) dX6_way_125 (by decide) (fun c19 => ?_) (fun c19 => ?_)
  · have hf := if_t hf c19
    obtain ⟨x20, ex20⟩ : ∃ y : Int32, y = v5 + 1 := ⟨_, rfl⟩
    have hf := lE_s hf ex20
    refine g_iinc (ps := 5) (v := x20) (L' := [(5, .int x20), (6, .int s0), (0, .ref v0), (1, .int v1), (2, .int v2), (4, .int v4)]) dX6_way_151 rfl (by rw [ex20]; rfl) (by decide) rfl ?_
    refine g_goto (tgt := 48) dX6_way_154 (by decide) ?_
    exact g_pick [2, 3, 4, 5, 0] rfl (hk _ (Option.some.inj hf).symm)
  · have hf := if_f hf c19
    refine g_iload (ps := 0) dX6_way_128 rfl ?_
    refine g_iconst (v := (-1)) dX6_way_130 (by decide +kernel) ?_
    refine g_icmp_eq (tgt := 151) dX6_way_131 (by decide) (fun c21 => ?_) (fun c21 => ?_)
    · have hf := if_t hf c21
      obtain ⟨x22, ex22⟩ : ∃ y : Int32, y = v5 + 1 := ⟨_, rfl⟩
      have hf := lE_s hf ex22
      refine g_iinc (ps := 5) (v := x22) (L' := [(5, .int x22), (6, .int s0), (0, .ref v0), (1, .int v1), (2, .int v2), (4, .int v4)]) dX6_way_151 rfl (by rw [ex22]; rfl) (by decide) rfl ?_
      refine g_goto (tgt := 48) dX6_way_154 (by decide) ?_
      exact g_pick [2, 3, 4, 5, 0] rfl (hk _ (Option.some.inj hf).symm)
    · have hf := if_f hf c21
      refine g_aload_n (ps := 1) dX6_way_134 rfl rfl ?_
      refine g_iload (ps := 0) dX6_way_135 rfl ?_
      refine g_iload_n (ps := 3) dX6_way_137 rfl rfl ?_
      obtain ⟨x24, e23, hf⟩ := bd_s hf
      refine g_callVi (As := [.int s0, .int v2]) (n := 2) (kX6_wayOf hW hv0 e23) gX6_way_X6_wayOf rfl ⟨rfl, rfl⟩ ⟨rfl, hdX6_wayOf⟩ ⟨Nat.le_of_ble_eq_true rfl, Nat.le_of_ble_eq_true rfl⟩ cf6 hv0 rfl rfl (Nat.le_of_ble_eq_true rfl) dX6_way_138 ?_
      refine g_iload (ps := 4) dX6_way_141 rfl ?_
      refine g_iconst (v := 1) dX6_way_143 (by decide +kernel) ?_
      refine g_isub dX6_way_144 ?_
      refine g_icmp_ne (tgt := 151) dX6_way_145 (by decide) (fun c25 => ?_) (fun c25 => ?_)
      · have hf := if_f hf c25
        obtain ⟨x26, ex26⟩ : ∃ y : Int32, y = v5 + 1 := ⟨_, rfl⟩
        have hf := lE_s hf ex26
        refine g_iinc (ps := 5) (v := x26) (L' := [(5, .int x26), (6, .int s0), (0, .ref v0), (1, .int v1), (2, .int v2), (4, .int v4)]) dX6_way_151 rfl (by rw [ex26]; rfl) (by decide) rfl ?_
        refine g_goto (tgt := 48) dX6_way_154 (by decide) ?_
        exact g_pick [2, 3, 4, 5, 0] rfl (hk _ (Option.some.inj hf).symm)
      · have hf := if_t hf c25
        exact g_pick [1, 5] rfl (he _ (Option.some.inj hf).symm)
set_option maxHeartbeats 4000000 in
set_option maxRecDepth 100000 in
theorem ubX6_way_48 {S : Shp} {n : Nat} {r : Rf} {out : Option Int32 × Hp} {r' : Rf} {v0 : Nat} {v1 : Int32} {v2 : Int32} {v4 : Int32} {v5 : Int32}  {h : Hp} {w : (Int32) ⊕ ((Int32) ⊕ (Unit))} (hW : WF S r) (hv0 : S[v0]? = some (6, 38)) (hf : bX6_way_48 n r v0 v1 v2 v4 v5 h = some w) (hk : ∀ y, w = .inl y → GX6_way S r r' out 48 [(0, .ref v0), (1, .int v1), (2, .int v2), (4, .int v4), (5, .int (y))] [] h) (he : ∀ z, w = .inr z → (match z with | .inl z => GX6_way S r r' out 148 [(0, .ref v0), (5, .int (z))] [] h | .inr z => GX6_way S r r' out 157 [(0, .ref v0)] [] h)) : GX6_way S r r' out 48 [(0, .ref v0), (1, .int v1), (2, .int v2), (4, .int v4), (5, .int v5)] [] h := by
  unfold bX6_way_48 at hf
  refine g_iload (ps := 4) dX6_way_48 rfl ?_
  refine g_aload_n (ps := 0) dX6_way_50 rfl rfl ?_
  refine g_getI cf6 hv0 nX6_way_X6 (j := 15) (by decide) rfl mX6_way_144 dX6_way_51 ?_
  refine g_icmp_ge (tgt := 157) dX6_way_54 (by decide) (fun c11 => ?_) (fun c11 => ?_)
  · have hf := if_t hf c11
    exact g_pick [0] rfl (he _ (Option.some.inj hf).symm)
  · have hf := if_f hf c11
    refine g_aload_n (ps := 0) dX6_way_57 rfl rfl ?_
    refine g_getR cf6 hv0 nX6_way_X6 (j := 17) (by decide) rfl mX6_way_32 dX6_way_58 ?_
    refine g_iconst (v := 2) dX6_way_61 (by decide +kernel) ?_
    refine g_iload (ps := 4) dX6_way_62 rfl ?_
    refine g_imul dX6_way_64 ?_
    obtain ⟨z12, hf⟩ := ck_s hf
    refine g_iald (hW _ _ _ hv0 17 _ rfl) z12 dX6_way_65 ?_
    refine g_iload_n (ps := 1) dX6_way_66 rfl rfl ?_
    refine g_icmp_ne (tgt := 84) dX6_way_67 (by decide) (fun c13 => ?_) (fun c13 => ?_)
    · have hf := if_f hf c13
      refine g_aload_n (ps := 0) dX6_way_84 rfl rfl ?_
      refine g_getR cf6 hv0 nX6_way_X6 (j := 17) (by decide) rfl mX6_way_32 dX6_way_85 ?_
      refine g_iconst (v := 2) dX6_way_88 (by decide +kernel) ?_
      refine g_iload (ps := 4) dX6_way_89 rfl ?_
      refine g_imul dX6_way_91 ?_
      refine g_iconst (v := 1) dX6_way_92 (by decide +kernel) ?_
      refine g_iadd dX6_way_93 ?_
      obtain ⟨z14, hf⟩ := ck_s hf
      refine g_iald (hW _ _ _ hv0 17 _ rfl) z14 dX6_way_94 ?_
      refine g_iload_n (ps := 1) dX6_way_95 rfl rfl ?_
      refine g_icmp_ne (tgt := 111) dX6_way_96 (by decide) (fun c15 => ?_) (fun c15 => ?_)
      · have hf := if_f hf c15
        refine g_iconst (v := (-1)) dX6_way_111 (by decide +kernel) ?_
        exact g_pick [0, 1, 2, 3, 4] rfl (ujX6_way_112 hW hv0 hf hk he)
      · have hf := if_t hf c15
        refine g_aload_n (ps := 0) dX6_way_99 rfl rfl ?_
        refine g_getR cf6 hv0 nX6_way_X6 (j := 17) (by decide) rfl mX6_way_32 dX6_way_100 ?_
        refine g_iconst (v := 2) dX6_way_103 (by decide +kernel) ?_
        refine g_iload (ps := 4) dX6_way_104 rfl ?_
        refine g_imul dX6_way_106 ?_
        obtain ⟨z27, hf⟩ := ck_s hf
        refine g_iald (hW _ _ _ hv0 17 _ rfl) z27 dX6_way_107 ?_
        refine g_goto (tgt := 112) dX6_way_108 (by decide) ?_
        exact g_pick [0, 1, 2, 3, 4] rfl (ujX6_way_112 hW hv0 hf hk he)
    · have hf := if_t hf c13
      refine g_aload_n (ps := 0) dX6_way_70 rfl rfl ?_
      refine g_getR cf6 hv0 nX6_way_X6 (j := 17) (by decide) rfl mX6_way_32 dX6_way_71 ?_
      refine g_iconst (v := 2) dX6_way_74 (by decide +kernel) ?_
      refine g_iload (ps := 4) dX6_way_75 rfl ?_
      refine g_imul dX6_way_77 ?_
      refine g_iconst (v := 1) dX6_way_78 (by decide +kernel) ?_
      refine g_iadd dX6_way_79 ?_
      obtain ⟨z28, hf⟩ := ck_s hf
      refine g_iald (hW _ _ _ hv0 17 _ rfl) z28 dX6_way_80 ?_
      refine g_goto (tgt := 112) dX6_way_81 (by decide) ?_
      exact g_pick [0, 1, 2, 3, 4] rfl (ujX6_way_112 hW hv0 hf hk he)
set_option maxHeartbeats 4000000 in
set_option maxRecDepth 100000 in
theorem ulX6_way_48 {S : Shp} {n : Nat} {r : Rf} {v0 : Nat} {v1 : Int32} {v2 : Int32} {v4 : Int32} {v5 : Int32}  {h : Hp} {o : Int32} (hW : WF S r) (hv0 : S[v0]? = some (6, 38)) (hf : lX6_way_48 n r v0 v1 v2 v4 v5 h = some o)  : GX6_way S r r (some o, h) 48 [(0, .ref v0), (1, .int v1), (2, .int v2), (4, .int v4), (5, .int v5)] [] h := by
  unfold lX6_way_48 at hf
  obtain ⟨z0, ei, hf⟩ := bd_s hf
  refine it_ind (P := fun (s : Int32) => GX6_way S r r (some o, h) 48 [(0, .ref v0), (1, .int v1), (2, .int v2), (4, .int v4), (5, .int s)] [] h) (fun s w hb hk2 he2 => ?_) n _ ei
  refine ubX6_way_48 (out := (some o, h)) (r' := r) hW hv0 hb hk2 (fun z hz => ?_)
  have hz := he2 z hz
  subst hz
  rcases z with z | z
  · refine g_iload (ps := 1) dX6_way_148 rfl ?_
    have hf := Option.some.inj hf
    subst hf
    exact g_iret dX6_way_150
  · refine g_iconst (v := (-1)) dX6_way_157 (by decide +kernel) ?_
    have hf := Option.some.inj hf
    subst hf
    exact g_iret dX6_way_158
set_option maxHeartbeats 4000000 in
set_option maxRecDepth 100000 in
theorem uX6_way {S : Shp} {n : Nat} {r : Rf} {v0 : Nat} {v1 : Int32} {v2 : Int32} {v3 : Int32} {h : Hp} {o : Int32} (hW : WF S r) (hv0 : S[v0]? = some (6, 38)) (hf : fX6_way n r v0 v1 v2 v3 h = some o) : GX6_way S r r (some o, h) 0 [(0, .ref v0), (1, .int v1), (2, .int v2), (3, .int v3)] [] h := by
  unfold fX6_way at hf
  refine g_aload_n (ps := 0) dX6_way_0 rfl rfl ?_
  refine g_iload_n (ps := 1) dX6_way_1 rfl rfl ?_
  refine g_iload_n (ps := 2) dX6_way_2 rfl rfl ?_
  obtain ⟨x2, e1, hf⟩ := bd_s hf
  refine g_callVi (As := [.int v1, .int v2]) (n := 2) (kX6_areTwo hW hv0 e1) gX6_way_X6_areTwo rfl ⟨rfl, rfl⟩ ⟨rfl, hdX6_areTwo⟩ ⟨Nat.le_of_ble_eq_true rfl, Nat.le_of_ble_eq_true rfl⟩ cf6 hv0 rfl rfl (Nat.le_of_ble_eq_true rfl) dX6_way_3 ?_
  refine g_if_ne (tgt := 12) dX6_way_6 (by decide) (fun c3 => ?_) (fun c3 => ?_)
  · have hf := if_f hf c3
    refine g_iload_n (ps := 3) dX6_way_12 rfl rfl ?_
    refine g_iconst (v := 0) dX6_way_13 (by decide +kernel) ?_
    refine g_iconst (v := 1) dX6_way_14 (by decide +kernel) ?_
    obtain ⟨x5, e4, hf⟩ := bd_s hf
    refine g_callSi (As := [.int v3, .int 0, .int 1]) (n := 3) (kX6_in hW  e4) gX6_way_X6_in rfl ⟨rfl, rfl⟩ hdX6_in ⟨Nat.le_of_ble_eq_true rfl, Nat.le_of_ble_eq_true rfl⟩ rfl rfl (Nat.le_of_ble_eq_true rfl) dX6_way_15 ?_
    refine g_if_ne (tgt := 24) dX6_way_18 (by decide) (fun c6 => ?_) (fun c6 => ?_)
    · have hf := if_f hf c6
      refine g_aload_n (ps := 0) dX6_way_24 rfl rfl ?_
      refine g_iload_n (ps := 1) dX6_way_25 rfl rfl ?_
      refine g_iload_n (ps := 2) dX6_way_26 rfl rfl ?_
      obtain ⟨x8, e7, hf⟩ := bd_s hf
      refine g_callVi (As := [.int v1, .int v2]) (n := 2) (kX6_wayOf hW hv0 e7) gX6_way_X6_wayOf rfl ⟨rfl, rfl⟩ ⟨rfl, hdX6_wayOf⟩ ⟨Nat.le_of_ble_eq_true rfl, Nat.le_of_ble_eq_true rfl⟩ cf6 hv0 rfl rfl (Nat.le_of_ble_eq_true rfl) dX6_way_27 ?_
      refine g_istore (L' := [(4, .int x8), (0, .ref v0), (1, .int v1), (2, .int v2), (3, .int v3)]) dX6_way_30 (by decide) rfl ?_
      refine g_iload_n (ps := 4) dX6_way_32 rfl rfl ?_
      refine g_if_eq (tgt := 42) dX6_way_33 (by decide) (fun c9 => ?_) (fun c9 => ?_)
      · have hf := if_t hf c9
        refine g_iload (ps := 0) dX6_way_42 rfl ?_
        have hf := Option.some.inj hf
        subst hf
        exact g_iret dX6_way_44
      · have hf := if_f hf c9
        refine g_iload (ps := 0) dX6_way_36 rfl ?_
        refine g_iconst (v := (-1)) dX6_way_38 (by decide +kernel) ?_
        refine g_icmp_ne (tgt := 45) dX6_way_39 (by decide) (fun c10 => ?_) (fun c10 => ?_)
        · have hf := if_f hf c10
          refine g_iconst (v := 0) dX6_way_45 (by decide +kernel) ?_
          refine g_istore (L' := [(5, .int 0), (4, .int x8), (0, .ref v0), (1, .int v1), (2, .int v2), (3, .int v3)]) dX6_way_46 (by decide) rfl ?_
          exact g_pick [2, 3, 4, 1, 0] rfl (ulX6_way_48 hW hv0 hf)
        · have hf := if_t hf c10
          refine g_iload (ps := 0) dX6_way_42 rfl ?_
          have hf := Option.some.inj hf
          subst hf
          exact g_iret dX6_way_44
    · have hf := if_t hf c6
      refine g_ldc (v := (-1000000002)) mX6_way_86 dX6_way_21 ?_
      have hf := Option.some.inj hf
      subst hf
      exact g_iret dX6_way_23
  · have hf := if_t hf c3
    refine g_ldc (v := (-1000000001)) mX6_way_176 dX6_way_9 ?_
    have hf := Option.some.inj hf
    subst hf
    exact g_iret dX6_way_11
theorem kX6_way {S : Shp} {n : Nat} {r : Rf} {v0 : Nat} {v1 : Int32} {v2 : Int32} {v3 : Int32} {h : Hp} {o : Int32} (hW : WF S r) (hv0 : S[v0]? = some (6, 38)) (hf : fX6_way n r v0 v1 v2 v3 h = some o) : CTi yX6_way wsX6_way rmX6_way S r [.ref v0, .int v1, .int v2, .int v3] h r o h :=
  cti_of rfl (by decide +kernel) rfl (Nat.le_of_ble_eq_true rfl) rfl (uX6_way hW hv0 hf)
/-! X6_widest widest -/
def rmX6_widest : Room := { frames := 3, cells := 0, slots := 0, locals := 69 }
abbrev GX6_widest (S : Shp) (r r' : Rf) (out : Option Int32 × Hp) (pc : Nat) (L : List (Nat × Value)) (st : List Value) (h : Hp) : Prop := G RX6 cX6_widest 6 (some .int) wsX6_widest rmX6_widest S r r' out pc L st h
theorem nX6_widest_X6 : ∀ w ∈ wsX60, w ∈ wsX6_widest := by decide +kernel
theorem mX6_widest_176 : Cond.constant RX6 176 (-1000000001) ∈ wsX6_widest := by decide +kernel
theorem mX6_widest_144 : Cond.fieldLink RX6 144 "LinkedIslesModel" "m" "I" ∈ wsX6_widest := by decide +kernel
theorem mX6_widest_38 : Cond.fieldLink RX6 38 "LinkedIslesModel" "strengths" "[I" ∈ wsX6_widest := by decide +kernel
theorem mX6_widest_47 : Cond.fieldLink RX6 47 "LinkedIslesModel" "now" "[I" ∈ wsX6_widest := by decide +kernel
theorem hdX6_widest : yX6_widest.cls ≠ "java/lang/invoke/MethodHandle" ∧ yX6_widest.cls ≠ "java/lang/invoke/VarHandle" ∧ (parseMethodDescriptor yX6_widest.desc).map (fun d => d.parameters.length) = some 2 := by decide +kernel
def bX6_widest_25 (n : Nat) (r : Rf) (v0 : Nat) (v1 : Int32) (v2 : Int32) (v3 : Int32) (v4 : Int32) (v5 : Int32) (h : Hp) : Option ((Int32 × Int32) ⊕ (Int32)) :=
  if (h.1 v0 15) ≤ v5 then (some (.inr v4)) else (ck 0 16 ((fX6_has n r (h.1 (r v0 22) (Int32.toNatClampNeg 0)) v5 h).bind (fun (x8 : Int32) => if x8 = 0 then (lE ((v4 ||| 0)) (fun (x10 : Int32) => lE (v5 + 1) (fun (x11 : Int32) => some (.inl (x10, x11))))) else (ck v5 10 (ck (6 + v5) 16 (if ((h.1 (r v0 19) (Int32.toNatClampNeg v5)) - (h.1 (r v0 22) (Int32.toNatClampNeg (6 + v5)))) < v3 then (lE ((v4 ||| 0)) (fun (x15 : Int32) => lE (v5 + 1) (fun (x16 : Int32) => some (.inl (x15, x16))))) else (lE ((v4 ||| (1 <<< (v5 &&& 31)))) (fun (x17 : Int32) => lE (v5 + 1) (fun (x18 : Int32) => some (.inl (x17, x18)))))))))))
def lX6_widest_25 (n : Nat) (r : Rf) (v0 : Nat) (v1 : Int32) (v2 : Int32) (v3 : Int32) (v4 : Int32) (v5 : Int32) (h : Hp) : Option ((Int32) ⊕ ((Int32) ⊕ (Unit))) :=
  (it (fun (s : Int32 × Int32) => bX6_widest_25 n r v0 v1 v2 v3 s.1 s.2 h) n (v4, v5)).bind (fun z => (fX6_reached n r v0 v1 z h).bind (fun (x20 : Int32) => (fX6_has n r x20 v2 h).bind (fun (x22 : Int32) => if x22 = 0 then (lE (v3 + (-1)) (fun (x24 : Int32) => some (.inl x24))) else (some (.inr (.inl v3))))))
def bX6_widest_15 (n : Nat) (r : Rf) (v0 : Nat) (v1 : Int32) (v2 : Int32) (v3 : Int32) (h : Hp) : Option ((Int32) ⊕ ((Int32) ⊕ (Unit))) :=
  if v3 ≤ 0 then (some (.inr (.inr ()))) else (lX6_widest_25 n r v0 v1 v2 v3 0 0 h)
def lX6_widest_15 (n : Nat) (r : Rf) (v0 : Nat) (v1 : Int32) (v2 : Int32) (v3 : Int32) (h : Hp) : Option Int32 :=
  (it (fun (s : Int32) => bX6_widest_15 n r v0 v1 v2 s h) n v3).bind (fun z => match z with | .inl z => some z | .inr z => some (-1))
def fX6_widest (n : Nat) (r : Rf) (v0 : Nat) (v1 : Int32) (v2 : Int32) (h : Hp) : Option Int32 :=
  (fX6_areTwo n r v0 v1 v2 h).bind (fun (x2 : Int32) => if x2 = 0 then (some (-1000000001)) else (lX6_widest_15 n r v0 v1 v2 99 h))
set_option maxHeartbeats 4000000 in
set_option maxRecDepth 100000 in
theorem ubX6_widest_25 {S : Shp} {n : Nat} {r : Rf} {out : Option Int32 × Hp} {r' : Rf} {v0 : Nat} {v1 : Int32} {v2 : Int32} {v3 : Int32} {v4 : Int32} {v5 : Int32}  {h : Hp} {w : (Int32 × Int32) ⊕ (Int32)} (hW : WF S r) (hv0 : S[v0]? = some (6, 38)) (hf : bX6_widest_25 n r v0 v1 v2 v3 v4 v5 h = some w) (hk : ∀ y, w = .inl y → GX6_widest S r r' out 25 [(0, .ref v0), (1, .int v1), (2, .int v2), (3, .int v3), (4, .int (y.1)), (5, .int (y.2))] [] h) (he : ∀ z, w = .inr z → GX6_widest S r r' out 89 [(0, .ref v0), (1, .int v1), (2, .int v2), (3, .int v3), (4, .int (z))] [] h) : GX6_widest S r r' out 25 [(0, .ref v0), (1, .int v1), (2, .int v2), (3, .int v3), (4, .int v4), (5, .int v5)] [] h := by
  unfold bX6_widest_25 at hf
  refine g_iload (ps := 5) dX6_widest_25 rfl ?_
  refine g_aload_n (ps := 0) dX6_widest_27 rfl rfl ?_
  refine g_getI cf6 hv0 nX6_widest_X6 (j := 15) (by decide) rfl mX6_widest_144 dX6_widest_28 ?_
  refine g_icmp_ge (tgt := 89) dX6_widest_31 (by decide) (fun c5 => ?_) (fun c5 => ?_)
  · have hf := if_t hf c5
    exact g_pick [0, 1, 2, 3, 4] rfl (he _ (Option.some.inj hf).symm)
  · have hf := if_f hf c5
    refine g_iload (ps := 4) dX6_widest_34 rfl ?_
    refine g_aload_n (ps := 0) dX6_widest_36 rfl rfl ?_
    refine g_getR cf6 hv0 nX6_widest_X6 (j := 22) (by decide) rfl mX6_widest_47 dX6_widest_37 ?_
    refine g_iconst (v := 0) dX6_widest_40 (by decide +kernel) ?_
    obtain ⟨z6, hf⟩ := ck_s hf
    refine g_iald (hW _ _ _ hv0 22 _ rfl) z6 dX6_widest_41 ?_
    refine g_iload (ps := 5) dX6_widest_42 rfl ?_
    obtain ⟨x8, e7, hf⟩ := bd_s hf
    refine g_callSi (As := [.int (h.1 (r v0 22) (Int32.toNatClampNeg 0)), .int v5]) (n := 2) (kX6_has hW  e7) gX6_widest_X6_has rfl ⟨rfl, rfl⟩ hdX6_has ⟨Nat.le_of_ble_eq_true rfl, Nat.le_of_ble_eq_true rfl⟩ rfl rfl (Nat.le_of_ble_eq_true rfl) dX6_widest_44 ?_
    refine g_if_eq (tgt := 79) dX6_widest_47 (by decide) (fun c9 => ?_) (fun c9 => ?_)
    · have hf := if_t hf c9
      refine g_iconst (v := 0) dX6_widest_79 (by decide +kernel) ?_
      refine g_ior dX6_widest_80 ?_
      refine g_topi (fun x10 ex10 => ?_)
      have hf := lE_s hf ex10
      refine g_istore (L' := [(4, .int x10), (0, .ref v0), (1, .int v1), (2, .int v2), (3, .int v3), (5, .int v5)]) dX6_widest_81 (by decide) rfl ?_
      obtain ⟨x11, ex11⟩ : ∃ y : Int32, y = v5 + 1 := ⟨_, rfl⟩
      have hf := lE_s hf ex11
      refine g_iinc (ps := 5) (v := x11) (L' := [(5, .int x11), (4, .int x10), (0, .ref v0), (1, .int v1), (2, .int v2), (3, .int v3)]) dX6_widest_83 rfl (by rw [ex11]; rfl) (by decide) rfl ?_
      refine g_goto (tgt := 25) dX6_widest_86 (by decide) ?_
      exact g_pick [2, 3, 4, 5, 1, 0] rfl (hk _ (Option.some.inj hf).symm)
    · have hf := if_f hf c9
      refine g_aload_n (ps := 0) dX6_widest_50 rfl rfl ?_
      refine g_getR cf6 hv0 nX6_widest_X6 (j := 19) (by decide) rfl mX6_widest_38 dX6_widest_51 ?_
      refine g_iload (ps := 5) dX6_widest_54 rfl ?_
      obtain ⟨z12, hf⟩ := ck_s hf
      refine g_iald (hW _ _ _ hv0 19 _ rfl) z12 dX6_widest_56 ?_
      refine g_aload_n (ps := 0) dX6_widest_57 rfl rfl ?_
      refine g_getR cf6 hv0 nX6_widest_X6 (j := 22) (by decide) rfl mX6_widest_47 dX6_widest_58 ?_
      refine g_bipush (v := 6) dX6_widest_61 (by decide +kernel) ?_
      refine g_iload (ps := 5) dX6_widest_63 rfl ?_
      refine g_iadd dX6_widest_65 ?_
      obtain ⟨z13, hf⟩ := ck_s hf
      refine g_iald (hW _ _ _ hv0 22 _ rfl) z13 dX6_widest_66 ?_
      refine g_isub dX6_widest_67 ?_
      refine g_iload_n (ps := 3) dX6_widest_68 rfl rfl ?_
      refine g_icmp_lt (tgt := 79) dX6_widest_69 (by decide) (fun c14 => ?_) (fun c14 => ?_)
      · have hf := if_t hf c14
        refine g_iconst (v := 0) dX6_widest_79 (by decide +kernel) ?_
        refine g_ior dX6_widest_80 ?_
        refine g_topi (fun x15 ex15 => ?_)
        have hf := lE_s hf ex15
        refine g_istore (L' := [(4, .int x15), (0, .ref v0), (1, .int v1), (2, .int v2), (3, .int v3), (5, .int v5)]) dX6_widest_81 (by decide) rfl ?_
        obtain ⟨x16, ex16⟩ : ∃ y : Int32, y = v5 + 1 := ⟨_, rfl⟩
        have hf := lE_s hf ex16
        refine g_iinc (ps := 5) (v := x16) (L' := [(5, .int x16), (4, .int x15), (0, .ref v0), (1, .int v1), (2, .int v2), (3, .int v3)]) dX6_widest_83 rfl (by rw [ex16]; rfl) (by decide) rfl ?_
        refine g_goto (tgt := 25) dX6_widest_86 (by decide) ?_
        exact g_pick [2, 3, 4, 5, 1, 0] rfl (hk _ (Option.some.inj hf).symm)
      · have hf := if_f hf c14
        refine g_iconst (v := 1) dX6_widest_72 (by decide +kernel) ?_
        refine g_iload (ps := 5) dX6_widest_73 rfl ?_
        refine g_ishl dX6_widest_75 ?_
        refine g_goto (tgt := 80) dX6_widest_76 (by decide) ?_
        refine g_ior dX6_widest_80 ?_
        refine g_topi (fun x17 ex17 => ?_)
        have hf := lE_s hf ex17
        refine g_istore (L' := [(4, .int x17), (0, .ref v0), (1, .int v1), (2, .int v2), (3, .int v3), (5, .int v5)]) dX6_widest_81 (by decide) rfl ?_
        obtain ⟨x18, ex18⟩ : ∃ y : Int32, y = v5 + 1 := ⟨_, rfl⟩
        have hf := lE_s hf ex18
        refine g_iinc (ps := 5) (v := x18) (L' := [(5, .int x18), (4, .int x17), (0, .ref v0), (1, .int v1), (2, .int v2), (3, .int v3)]) dX6_widest_83 rfl (by rw [ex18]; rfl) (by decide) rfl ?_
        refine g_goto (tgt := 25) dX6_widest_86 (by decide) ?_
        exact g_pick [2, 3, 4, 5, 1, 0] rfl (hk _ (Option.some.inj hf).symm)
set_option maxHeartbeats 4000000 in
set_option maxRecDepth 100000 in
theorem ulX6_widest_25 {S : Shp} {n : Nat} {r : Rf} {out : Option Int32 × Hp} {r' : Rf} {v0 : Nat} {v1 : Int32} {v2 : Int32} {v3 : Int32} {v4 : Int32} {v5 : Int32}  {h : Hp} {w : (Int32) ⊕ ((Int32) ⊕ (Unit))} (hW : WF S r) (hv0 : S[v0]? = some (6, 38)) (hf : lX6_widest_25 n r v0 v1 v2 v3 v4 v5 h = some w) (hk : ∀ y, w = .inl y → GX6_widest S r r' out 15 [(0, .ref v0), (1, .int v1), (2, .int v2), (3, .int (y))] [] h) (he : ∀ z, w = .inr z → (match z with | .inl z => GX6_widest S r r' out 103 [(0, .ref v0), (3, .int (z))] [] h | .inr z => GX6_widest S r r' out 111 [(0, .ref v0)] [] h)) : GX6_widest S r r' out 25 [(0, .ref v0), (1, .int v1), (2, .int v2), (3, .int v3), (4, .int v4), (5, .int v5)] [] h := by
  unfold lX6_widest_25 at hf
  obtain ⟨z0, ei, hf⟩ := bd_s hf
  refine it_ind (P := fun (s : Int32 × Int32) => GX6_widest S r r' out 25 [(0, .ref v0), (1, .int v1), (2, .int v2), (3, .int v3), (4, .int (s.1)), (5, .int (s.2))] [] h) (fun s w hb hk2 he2 => ?_) n _ ei
  refine ubX6_widest_25 (out := out) (r' := r') hW hv0 hb hk2 (fun z hz => ?_)
  have hz := he2 z hz
  subst hz
  refine g_aload_n (ps := 0) dX6_widest_89 rfl rfl ?_
  refine g_iload_n (ps := 1) dX6_widest_90 rfl rfl ?_
  refine g_iload (ps := 4) dX6_widest_91 rfl ?_
  obtain ⟨x20, e19, hf⟩ := bd_s hf
  refine g_callVi (As := [.int v1, .int z]) (n := 2) (kX6_reached hW hv0 e19) gX6_widest_X6_reached rfl ⟨rfl, rfl⟩ ⟨rfl, hdX6_reached⟩ ⟨Nat.le_of_ble_eq_true rfl, Nat.le_of_ble_eq_true rfl⟩ cf6 hv0 rfl rfl (Nat.le_of_ble_eq_true rfl) dX6_widest_93 ?_
  refine g_iload_n (ps := 2) dX6_widest_96 rfl rfl ?_
  obtain ⟨x22, e21, hf⟩ := bd_s hf
  refine g_callSi (As := [.int x20, .int v2]) (n := 2) (kX6_has hW  e21) gX6_widest_X6_has rfl ⟨rfl, rfl⟩ hdX6_has ⟨Nat.le_of_ble_eq_true rfl, Nat.le_of_ble_eq_true rfl⟩ rfl rfl (Nat.le_of_ble_eq_true rfl) dX6_widest_97 ?_
  refine g_if_eq (tgt := 105) dX6_widest_100 (by decide) (fun c23 => ?_) (fun c23 => ?_)
  · have hf := if_t hf c23
    obtain ⟨x24, ex24⟩ : ∃ y : Int32, y = v3 + (-1) := ⟨_, rfl⟩
    have hf := lE_s hf ex24
    refine g_iinc (ps := 3) (v := x24) (L' := [(3, .int x24), (0, .ref v0), (1, .int v1), (2, .int v2), (4, .int z)]) dX6_widest_105 rfl (by rw [ex24]; rfl) (by decide) rfl ?_
    refine g_goto (tgt := 15) dX6_widest_108 (by decide) ?_
    exact g_pick [1, 2, 3, 0] rfl (hk _ (Option.some.inj hf).symm)
  · have hf := if_f hf c23
    exact g_pick [0, 3] rfl (he _ (Option.some.inj hf).symm)
set_option maxHeartbeats 4000000 in
set_option maxRecDepth 100000 in
theorem ubX6_widest_15 {S : Shp} {n : Nat} {r : Rf} {out : Option Int32 × Hp} {r' : Rf} {v0 : Nat} {v1 : Int32} {v2 : Int32} {v3 : Int32}  {h : Hp} {w : (Int32) ⊕ ((Int32) ⊕ (Unit))} (hW : WF S r) (hv0 : S[v0]? = some (6, 38)) (hf : bX6_widest_15 n r v0 v1 v2 v3 h = some w) (hk : ∀ y, w = .inl y → GX6_widest S r r' out 15 [(0, .ref v0), (1, .int v1), (2, .int v2), (3, .int (y))] [] h) (he : ∀ z, w = .inr z → (match z with | .inl z => GX6_widest S r r' out 103 [(0, .ref v0), (3, .int (z))] [] h | .inr z => GX6_widest S r r' out 111 [(0, .ref v0)] [] h)) : GX6_widest S r r' out 15 [(0, .ref v0), (1, .int v1), (2, .int v2), (3, .int v3)] [] h := by
  unfold bX6_widest_15 at hf
  refine g_iload_n (ps := 3) dX6_widest_15 rfl rfl ?_
  refine g_if_le (tgt := 111) dX6_widest_16 (by decide) (fun c4 => ?_) (fun c4 => ?_)
  · have hf := if_t hf c4
    exact g_pick [0] rfl (he _ (Option.some.inj hf).symm)
  · have hf := if_f hf c4
    refine g_iconst (v := 0) dX6_widest_19 (by decide +kernel) ?_
    refine g_istore (L' := [(4, .int 0), (0, .ref v0), (1, .int v1), (2, .int v2), (3, .int v3)]) dX6_widest_20 (by decide) rfl ?_
    refine g_iconst (v := 0) dX6_widest_22 (by decide +kernel) ?_
    refine g_istore (L' := [(5, .int 0), (4, .int 0), (0, .ref v0), (1, .int v1), (2, .int v2), (3, .int v3)]) dX6_widest_23 (by decide) rfl ?_
    exact g_pick [2, 3, 4, 5, 1, 0] rfl (ulX6_widest_25 hW hv0 hf hk he)
set_option maxHeartbeats 4000000 in
set_option maxRecDepth 100000 in
theorem ulX6_widest_15 {S : Shp} {n : Nat} {r : Rf} {v0 : Nat} {v1 : Int32} {v2 : Int32} {v3 : Int32}  {h : Hp} {o : Int32} (hW : WF S r) (hv0 : S[v0]? = some (6, 38)) (hf : lX6_widest_15 n r v0 v1 v2 v3 h = some o)  : GX6_widest S r r (some o, h) 15 [(0, .ref v0), (1, .int v1), (2, .int v2), (3, .int v3)] [] h := by
  unfold lX6_widest_15 at hf
  obtain ⟨z0, ei, hf⟩ := bd_s hf
  refine it_ind (P := fun (s : Int32) => GX6_widest S r r (some o, h) 15 [(0, .ref v0), (1, .int v1), (2, .int v2), (3, .int s)] [] h) (fun s w hb hk2 he2 => ?_) n _ ei
  refine ubX6_widest_15 (out := (some o, h)) (r' := r) hW hv0 hb hk2 (fun z hz => ?_)
  have hz := he2 z hz
  subst hz
  rcases z with z | z
  · refine g_iload_n (ps := 1) dX6_widest_103 rfl rfl ?_
    have hf := Option.some.inj hf
    subst hf
    exact g_iret dX6_widest_104
  · refine g_iconst (v := (-1)) dX6_widest_111 (by decide +kernel) ?_
    have hf := Option.some.inj hf
    subst hf
    exact g_iret dX6_widest_112
set_option maxHeartbeats 4000000 in
set_option maxRecDepth 100000 in
theorem uX6_widest {S : Shp} {n : Nat} {r : Rf} {v0 : Nat} {v1 : Int32} {v2 : Int32} {h : Hp} {o : Int32} (hW : WF S r) (hv0 : S[v0]? = some (6, 38)) (hf : fX6_widest n r v0 v1 v2 h = some o) : GX6_widest S r r (some o, h) 0 [(0, .ref v0), (1, .int v1), (2, .int v2)] [] h := by
  unfold fX6_widest at hf
  refine g_aload_n (ps := 0) dX6_widest_0 rfl rfl ?_
  refine g_iload_n (ps := 1) dX6_widest_1 rfl rfl ?_
  refine g_iload_n (ps := 2) dX6_widest_2 rfl rfl ?_
  obtain ⟨x2, e1, hf⟩ := bd_s hf
  refine g_callVi (As := [.int v1, .int v2]) (n := 2) (kX6_areTwo hW hv0 e1) gX6_widest_X6_areTwo rfl ⟨rfl, rfl⟩ ⟨rfl, hdX6_areTwo⟩ ⟨Nat.le_of_ble_eq_true rfl, Nat.le_of_ble_eq_true rfl⟩ cf6 hv0 rfl rfl (Nat.le_of_ble_eq_true rfl) dX6_widest_3 ?_
  refine g_if_ne (tgt := 12) dX6_widest_6 (by decide) (fun c3 => ?_) (fun c3 => ?_)
  · have hf := if_f hf c3
    refine g_bipush (v := 99) dX6_widest_12 (by decide +kernel) ?_
    refine g_istore_n (L' := [(3, .int 99), (0, .ref v0), (1, .int v1), (2, .int v2)]) dX6_widest_14 rfl (by decide) rfl ?_
    exact g_pick [1, 2, 3, 0] rfl (ulX6_widest_15 hW hv0 hf)
  · have hf := if_t hf c3
    refine g_ldc (v := (-1000000001)) mX6_widest_176 dX6_widest_9 ?_
    have hf := Option.some.inj hf
    subst hf
    exact g_iret dX6_widest_11
theorem kX6_widest {S : Shp} {n : Nat} {r : Rf} {v0 : Nat} {v1 : Int32} {v2 : Int32} {h : Hp} {o : Int32} (hW : WF S r) (hv0 : S[v0]? = some (6, 38)) (hf : fX6_widest n r v0 v1 v2 h = some o) : CTi yX6_widest wsX6_widest rmX6_widest S r [.ref v0, .int v1, .int v2] h r o h :=
  cti_of rfl (by decide +kernel) rfl (Nat.le_of_ble_eq_true rfl) rfl (uX6_widest hW hv0 hf)
/-! X6_farthest farthest -/
def rmX6_farthest : Room := { frames := 3, cells := 0, slots := 0, locals := 69 }
abbrev GX6_farthest (S : Shp) (r r' : Rf) (out : Option Int32 × Hp) (pc : Nat) (L : List (Nat × Value)) (st : List Value) (h : Hp) : Prop := G RX6 cX6_farthest 7 (some .int) wsX6_farthest rmX6_farthest S r r' out pc L st h
theorem nX6_farthest_X6 : ∀ w ∈ wsX60, w ∈ wsX6_farthest := by decide +kernel
theorem mX6_farthest_176 : Cond.constant RX6 176 (-1000000001) ∈ wsX6_farthest := by decide +kernel
theorem mX6_farthest_86 : Cond.constant RX6 86 (-1000000002) ∈ wsX6_farthest := by decide +kernel
theorem mX6_farthest_141 : Cond.fieldLink RX6 141 "LinkedIslesModel" "n" "I" ∈ wsX6_farthest := by decide +kernel
theorem hdX6_farthest : yX6_farthest.cls ≠ "java/lang/invoke/MethodHandle" ∧ yX6_farthest.cls ≠ "java/lang/invoke/VarHandle" ∧ (parseMethodDescriptor yX6_farthest.desc).map (fun d => d.parameters.length) = some 2 := by decide +kernel
def jX6_farthest_62 (n : Nat) (r : Rf) (v0 : Nat) (v1 : Int32) (v2 : Int32) (v4 : Int32) (v5 : Int32) (v6 : Int32) (s0 : Int32) (h : Hp) : Option ((Int32 × Int32 × Int32) ⊕ (Int32 × Int32)) :=
  if v6 ≤ v4 then (lE (v5 + 1) (fun (x12 : Int32) => some (.inl (s0, v4, x12)))) else (lE (v5 + 1) (fun (x13 : Int32) => some (.inl (s0, v6, x13))))
def bX6_farthest_31 (n : Nat) (r : Rf) (v0 : Nat) (v1 : Int32) (v2 : Int32) (v3 : Int32) (v4 : Int32) (v5 : Int32) (h : Hp) : Option ((Int32 × Int32 × Int32) ⊕ (Int32 × Int32)) :=
  if (h.1 v0 14) ≤ v5 then (some (.inr (v3, v4))) else ((fX6_wayOf n r v0 v1 v5 h).bind (fun (x9 : Int32) => if x9 ≤ v4 then (jX6_farthest_62 n r v0 v1 v2 v4 v5 x9 v3 h) else (jX6_farthest_62 n r v0 v1 v2 v4 v5 x9 v5 h)))
def lX6_farthest_31 (n : Nat) (r : Rf) (v0 : Nat) (v1 : Int32) (v2 : Int32) (v3 : Int32) (v4 : Int32) (v5 : Int32) (h : Hp) : Option Int32 :=
  (it (fun (s : Int32 × Int32 × Int32) => bX6_farthest_31 n r v0 v1 v2 s.1 s.2.1 s.2.2 h) n (v3, v4, v5)).bind (fun z => if v2 = 0 then (some (z.1)) else (some (z.2)))
def fX6_farthest (n : Nat) (r : Rf) (v0 : Nat) (v1 : Int32) (v2 : Int32) (h : Hp) : Option Int32 :=
  (fX6_isIsland n r v0 v1 h).bind (fun (x2 : Int32) => if x2 = 0 then (some (-1000000001)) else ((fX6_in n r v2 0 1 h).bind (fun (x5 : Int32) => if x5 = 0 then (some (-1000000002)) else (lX6_farthest_31 n r v0 v1 v2 v1 0 0 h))))
set_option maxHeartbeats 4000000 in
set_option maxRecDepth 100000 in
theorem ujX6_farthest_62 {S : Shp} {n : Nat} {r : Rf} {out : Option Int32 × Hp} {r' : Rf} {v0 : Nat} {v1 : Int32} {v2 : Int32} {v4 : Int32} {v5 : Int32} {v6 : Int32} {s0 : Int32} {h : Hp} {w : (Int32 × Int32 × Int32) ⊕ (Int32 × Int32)} (hW : WF S r) (hv0 : S[v0]? = some (6, 38)) (hf : jX6_farthest_62 n r v0 v1 v2 v4 v5 v6 s0 h = some w) (hk : ∀ y, w = .inl y → GX6_farthest S r r' out 31 [(0, .ref v0), (1, .int v1), (2, .int v2), (3, .int (y.1)), (4, .int (y.2.1)), (5, .int (y.2.2))] [] h) (he : ∀ z, w = .inr z → GX6_farthest S r r' out 85 [(0, .ref v0), (2, .int v2), (3, .int (z.1)), (4, .int (z.2))] [] h) : GX6_farthest S r r' out 62 [(0, .ref v0), (1, .int v1), (2, .int v2), (4, .int v4), (5, .int v5), (6, .int v6)] [.int s0] h := by
  unfold jX6_farthest_62 at hf
  refine g_istore_n (L' := [(3, .int s0), (0, .ref v0), (1, .int v1), (2, .int v2), (4, .int v4), (5, .int v5), (6, .int v6)]) dX6_farthest_62 rfl (by decide) rfl ?_
  refine g_iload (ps := 6) dX6_farthest_63 rfl ?_
  refine g_iload (ps := 4) dX6_farthest_65 rfl ?_
  refine g_icmp_le (tgt := 75) dX6_farthest_67 (by decide) (fun c11 => ?_) (fun c11 => ?_)
  · have hf := if_t hf c11
    refine g_iload (ps := 4) dX6_farthest_75 rfl ?_
    refine g_istore (L' := [(4, .int v4), (3, .int s0), (0, .ref v0), (1, .int v1), (2, .int v2), (5, .int v5), (6, .int v6)]) dX6_farthest_77 (by decide) rfl ?_
    obtain ⟨x12, ex12⟩ : ∃ y : Int32, y = v5 + 1 := ⟨_, rfl⟩
    have hf := lE_s hf ex12
    refine g_iinc (ps := 5) (v := x12) (L' := [(5, .int x12), (4, .int v4), (3, .int s0), (0, .ref v0), (1, .int v1), (2, .int v2), (6, .int v6)]) dX6_farthest_79 rfl (by rw [ex12]; rfl) (by decide) rfl ?_
    refine g_goto (tgt := 31) dX6_farthest_82 (by decide) ?_
    exact g_pick [3, 4, 5, 2, 1, 0] rfl (hk _ (Option.some.inj hf).symm)
  · have hf := if_f hf c11
    refine g_iload (ps := 6) dX6_farthest_70 rfl ?_
    refine g_goto (tgt := 77) dX6_farthest_72 (by decide) ?_
    refine g_istore (L' := [(4, .int v6), (3, .int s0), (0, .ref v0), (1, .int v1), (2, .int v2), (5, .int v5), (6, .int v6)]) dX6_farthest_77 (by decide) rfl ?_
    obtain ⟨x13, ex13⟩ : ∃ y : Int32, y = v5 + 1 := ⟨_, rfl⟩
    have hf := lE_s hf ex13
    refine g_iinc (ps := 5) (v := x13) (L' := [(5, .int x13), (4, .int v6), (3, .int s0), (0, .ref v0), (1, .int v1), (2, .int v2), (6, .int v6)]) dX6_farthest_79 rfl (by rw [ex13]; rfl) (by decide) rfl ?_
    refine g_goto (tgt := 31) dX6_farthest_82 (by decide) ?_
    exact g_pick [3, 4, 5, 2, 1, 0] rfl (hk _ (Option.some.inj hf).symm)
set_option maxHeartbeats 4000000 in
set_option maxRecDepth 100000 in
theorem ubX6_farthest_31 {S : Shp} {n : Nat} {r : Rf} {out : Option Int32 × Hp} {r' : Rf} {v0 : Nat} {v1 : Int32} {v2 : Int32} {v3 : Int32} {v4 : Int32} {v5 : Int32}  {h : Hp} {w : (Int32 × Int32 × Int32) ⊕ (Int32 × Int32)} (hW : WF S r) (hv0 : S[v0]? = some (6, 38)) (hf : bX6_farthest_31 n r v0 v1 v2 v3 v4 v5 h = some w) (hk : ∀ y, w = .inl y → GX6_farthest S r r' out 31 [(0, .ref v0), (1, .int v1), (2, .int v2), (3, .int (y.1)), (4, .int (y.2.1)), (5, .int (y.2.2))] [] h) (he : ∀ z, w = .inr z → GX6_farthest S r r' out 85 [(0, .ref v0), (2, .int v2), (3, .int (z.1)), (4, .int (z.2))] [] h) : GX6_farthest S r r' out 31 [(0, .ref v0), (1, .int v1), (2, .int v2), (3, .int v3), (4, .int v4), (5, .int v5)] [] h := by
  unfold bX6_farthest_31 at hf
  refine g_iload (ps := 5) dX6_farthest_31 rfl ?_
  refine g_aload_n (ps := 0) dX6_farthest_33 rfl rfl ?_
  refine g_getI cf6 hv0 nX6_farthest_X6 (j := 14) (by decide) rfl mX6_farthest_141 dX6_farthest_34 ?_
  refine g_icmp_ge (tgt := 85) dX6_farthest_37 (by decide) (fun c7 => ?_) (fun c7 => ?_)
  · have hf := if_t hf c7
    exact g_pick [0, 2, 3, 4] rfl (he _ (Option.some.inj hf).symm)
  · have hf := if_f hf c7
    refine g_aload_n (ps := 0) dX6_farthest_40 rfl rfl ?_
    refine g_iload_n (ps := 1) dX6_farthest_41 rfl rfl ?_
    refine g_iload (ps := 5) dX6_farthest_42 rfl ?_
    obtain ⟨x9, e8, hf⟩ := bd_s hf
    refine g_callVi (As := [.int v1, .int v5]) (n := 2) (kX6_wayOf hW hv0 e8) gX6_farthest_X6_wayOf rfl ⟨rfl, rfl⟩ ⟨rfl, hdX6_wayOf⟩ ⟨Nat.le_of_ble_eq_true rfl, Nat.le_of_ble_eq_true rfl⟩ cf6 hv0 rfl rfl (Nat.le_of_ble_eq_true rfl) dX6_farthest_44 ?_
    refine g_istore (L' := [(6, .int x9), (0, .ref v0), (1, .int v1), (2, .int v2), (3, .int v3), (4, .int v4), (5, .int v5)]) dX6_farthest_47 (by decide) rfl ?_
    refine g_iload (ps := 0) dX6_farthest_49 rfl ?_
    refine g_iload (ps := 5) dX6_farthest_51 rfl ?_
    refine g_icmp_le (tgt := 61) dX6_farthest_53 (by decide) (fun c10 => ?_) (fun c10 => ?_)
    · have hf := if_t hf c10
      refine g_iload_n (ps := 4) dX6_farthest_61 rfl rfl ?_
      exact g_pick [1, 2, 3, 5, 6, 0] rfl (ujX6_farthest_62 hW hv0 hf hk he)
    · have hf := if_f hf c10
      refine g_iload (ps := 6) dX6_farthest_56 rfl ?_
      refine g_goto (tgt := 62) dX6_farthest_58 (by decide) ?_
      exact g_pick [1, 2, 3, 5, 6, 0] rfl (ujX6_farthest_62 hW hv0 hf hk he)
set_option maxHeartbeats 4000000 in
set_option maxRecDepth 100000 in
theorem ulX6_farthest_31 {S : Shp} {n : Nat} {r : Rf} {v0 : Nat} {v1 : Int32} {v2 : Int32} {v3 : Int32} {v4 : Int32} {v5 : Int32}  {h : Hp} {o : Int32} (hW : WF S r) (hv0 : S[v0]? = some (6, 38)) (hf : lX6_farthest_31 n r v0 v1 v2 v3 v4 v5 h = some o)  : GX6_farthest S r r (some o, h) 31 [(0, .ref v0), (1, .int v1), (2, .int v2), (3, .int v3), (4, .int v4), (5, .int v5)] [] h := by
  unfold lX6_farthest_31 at hf
  obtain ⟨z0, ei, hf⟩ := bd_s hf
  refine it_ind (P := fun (s : Int32 × Int32 × Int32) => GX6_farthest S r r (some o, h) 31 [(0, .ref v0), (1, .int v1), (2, .int v2), (3, .int (s.1)), (4, .int (s.2.1)), (5, .int (s.2.2))] [] h) (fun s w hb hk2 he2 => ?_) n _ ei
  refine ubX6_farthest_31 (out := (some o, h)) (r' := r) hW hv0 hb hk2 (fun z hz => ?_)
  have hz := he2 z hz
  subst hz
  refine g_iload_n (ps := 1) dX6_farthest_85 rfl rfl ?_
  refine g_if_ne (tgt := 93) dX6_farthest_86 (by decide) (fun c14 => ?_) (fun c14 => ?_)
  · have hf := if_f hf c14
    refine g_iload (ps := 3) dX6_farthest_93 rfl ?_
    have hf := Option.some.inj hf
    subst hf
    exact g_iret dX6_farthest_95
  · have hf := if_t hf c14
    refine g_iload_n (ps := 2) dX6_farthest_89 rfl rfl ?_
    refine g_goto (tgt := 95) dX6_farthest_90 (by decide) ?_
    have hf := Option.some.inj hf
    subst hf
    exact g_iret dX6_farthest_95
set_option maxHeartbeats 4000000 in
set_option maxRecDepth 100000 in
theorem uX6_farthest {S : Shp} {n : Nat} {r : Rf} {v0 : Nat} {v1 : Int32} {v2 : Int32} {h : Hp} {o : Int32} (hW : WF S r) (hv0 : S[v0]? = some (6, 38)) (hf : fX6_farthest n r v0 v1 v2 h = some o) : GX6_farthest S r r (some o, h) 0 [(0, .ref v0), (1, .int v1), (2, .int v2)] [] h := by
  unfold fX6_farthest at hf
  refine g_aload_n (ps := 0) dX6_farthest_0 rfl rfl ?_
  refine g_iload_n (ps := 1) dX6_farthest_1 rfl rfl ?_
  obtain ⟨x2, e1, hf⟩ := bd_s hf
  refine g_callVi (As := [.int v1]) (n := 1) (kX6_isIsland hW hv0 e1) gX6_farthest_X6_isIsland rfl ⟨rfl, rfl⟩ ⟨rfl, hdX6_isIsland⟩ ⟨Nat.le_of_ble_eq_true rfl, Nat.le_of_ble_eq_true rfl⟩ cf6 hv0 rfl rfl (Nat.le_of_ble_eq_true rfl) dX6_farthest_2 ?_
  refine g_if_ne (tgt := 11) dX6_farthest_5 (by decide) (fun c3 => ?_) (fun c3 => ?_)
  · have hf := if_f hf c3
    refine g_iload_n (ps := 2) dX6_farthest_11 rfl rfl ?_
    refine g_iconst (v := 0) dX6_farthest_12 (by decide +kernel) ?_
    refine g_iconst (v := 1) dX6_farthest_13 (by decide +kernel) ?_
    obtain ⟨x5, e4, hf⟩ := bd_s hf
    refine g_callSi (As := [.int v2, .int 0, .int 1]) (n := 3) (kX6_in hW  e4) gX6_farthest_X6_in rfl ⟨rfl, rfl⟩ hdX6_in ⟨Nat.le_of_ble_eq_true rfl, Nat.le_of_ble_eq_true rfl⟩ rfl rfl (Nat.le_of_ble_eq_true rfl) dX6_farthest_14 ?_
    refine g_if_ne (tgt := 23) dX6_farthest_17 (by decide) (fun c6 => ?_) (fun c6 => ?_)
    · have hf := if_f hf c6
      refine g_iload_n (ps := 1) dX6_farthest_23 rfl rfl ?_
      refine g_istore_n (L' := [(3, .int v1), (0, .ref v0), (1, .int v1), (2, .int v2)]) dX6_farthest_24 rfl (by decide) rfl ?_
      refine g_iconst (v := 0) dX6_farthest_25 (by decide +kernel) ?_
      refine g_istore (L' := [(4, .int 0), (3, .int v1), (0, .ref v0), (1, .int v1), (2, .int v2)]) dX6_farthest_26 (by decide) rfl ?_
      refine g_iconst (v := 0) dX6_farthest_28 (by decide +kernel) ?_
      refine g_istore (L' := [(5, .int 0), (4, .int 0), (3, .int v1), (0, .ref v0), (1, .int v1), (2, .int v2)]) dX6_farthest_29 (by decide) rfl ?_
      exact g_pick [3, 4, 5, 2, 1, 0] rfl (ulX6_farthest_31 hW hv0 hf)
    · have hf := if_t hf c6
      refine g_ldc (v := (-1000000002)) mX6_farthest_86 dX6_farthest_20 ?_
      have hf := Option.some.inj hf
      subst hf
      exact g_iret dX6_farthest_22
  · have hf := if_t hf c3
    refine g_ldc (v := (-1000000001)) mX6_farthest_176 dX6_farthest_8 ?_
    have hf := Option.some.inj hf
    subst hf
    exact g_iret dX6_farthest_10
theorem kX6_farthest {S : Shp} {n : Nat} {r : Rf} {v0 : Nat} {v1 : Int32} {v2 : Int32} {h : Hp} {o : Int32} (hW : WF S r) (hv0 : S[v0]? = some (6, 38)) (hf : fX6_farthest n r v0 v1 v2 h = some o) : CTi yX6_farthest wsX6_farthest rmX6_farthest S r [.ref v0, .int v1, .int v2] h r o h :=
  cti_of rfl (by decide +kernel) rfl (Nat.le_of_ble_eq_true rfl) rfl (uX6_farthest hW hv0 hf)
