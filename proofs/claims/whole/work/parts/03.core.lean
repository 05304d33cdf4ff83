/-! ===== the store of a world: the ints and the longs of its cells, by cell and place; where its references lead stands apart ===== -/
abbrev Hp : Type := (Nat → Nat → Int32) × (Nat → Nat → Int64)
abbrev Rf : Type := Nat → Nat → Nat
abbrev Shp : Type := List (Nat × Nat)
abbrev Cx : Type := (Nat → Nat) × ClassId × ClassId × ClassId
def pI (h : Hp) (k j : Nat) (v : Int32) : Hp := (fun a b => if a = k then (if b = j then v else h.1 a b) else h.1 a b, h.2)
def pL (h : Hp) (k j : Nat) (v : Int64) : Hp := (h.1, fun a b => if a = k then (if b = j then v else h.2 a b) else h.2 a b)
def pC (h : Hp) (k : Nat) (f : Nat → Int32) : Hp := (fun a b => if a = k then f b else h.1 a b, h.2)
def pR (r : Rf) (k j v : Nat) : Rf := fun a b => if a = k then (if b = j then v else r a b) else r a b
abbrev kcl : List vw_C := [(RX0, TX0, 7), (RX1, TX1, 12), (RX2, TX2, 3), (RX3, TX3, 7), (RX4, TX4, 5), (RX5, TX5, 11), (RX6, TX6, 38)]
def kty (t : Nat) : Nat → FieldType := match t with
  | 0 => tyX0
  | 1 => tyX1
  | 2 => tyX2
  | 3 => tyX3
  | 4 => tyX4
  | 5 => tyX5
  | _ => tyX6
def fk (ty : FieldType) : Nat := match ty with
  | .int => 0
  | .long => 1
  | _ => 2
def fv (al : Nat → Nat) (r : Rf) (h : Hp) (k j c : Nat) : Value := match c with
  | 0 => .int (h.1 k j)
  | 1 => .long (h.2 k j)
  | _ => .ref (al (r k j))
def fl (X : Cx) (r : Rf) (h : Hp) (k t n : Nat) : List Value := (List.range n).map (fun j => fv X.1 r h k j (fk (kty t j)))
def ce (X : Cx) (r : Rf) (h : Hp) (k : Nat) (q : Nat × Nat) : va_E :=
  if q.1 = 100 then .inl (X.2.1, q.2, .inl (h.1 k)) else if q.1 = 101 then .inl (X.2.2.1, q.2, .inr (.inl (h.2 k))) else if q.1 = 102 then .inl (X.2.2.2, q.2, .inl (h.1 k)) else .inr (q.1, fl X r h k q.1 q.2)
def cw (X : Cx) (S : Shp) (r : Rf) (h : Hp) : va_W := S.mapIdx (fun k q => (X.1 k, ce X r h k q))
abbrev tys (X : Cx) : List (ClassId × FieldType) := [(X.2.1, .int), (X.2.2.1, .long), (X.2.2.2, .boolean)]
theorem cw_get (X : Cx) (S : Shp) (r : Rf) (h : Hp) (i : Nat) : (cw X S r h)[i]? = (S[i]?).map (fun q => (X.1 i, ce X r h i q)) := by
  unfold cw; rw [List.getElem?_mapIdx]
theorem cw_at {X : Cx} {S : Shp} {r : Rf} {h : Hp} {k : Nat} {q : Nat × Nat} (hk : S[k]? = some q) : (cw X S r h)[k]? = some (X.1 k, ce X r h k q) := by
  rw [cw_get, hk]; rfl
theorem ce_obj {X : Cx} {r : Rf} {h : Hp} {k t n : Nat} (ht : t < 100) : ce X r h k (t, n) = .inr (t, fl X r h k t n) := by
  unfold ce
  rw [if_neg (by show ¬ t = 100; omega), if_neg (by show ¬ t = 101; omega), if_neg (by show ¬ t = 102; omega)]
theorem cw_obj {X : Cx} {S : Shp} {r : Rf} {h : Hp} {k t n : Nat} (hk : S[k]? = some (t, n)) (ht : t < 100) : (cw X S r h)[k]? = some (X.1 k, .inr (t, fl X r h k t n)) := by
  rw [cw_at hk, ce_obj ht]
theorem cw_arI {X : Cx} {S : Shp} {r : Rf} {h : Hp} {k n : Nat} (hk : S[k]? = some (100, n)) : (cw X S r h)[k]? = some (X.1 k, .inl (X.2.1, n, .inl (h.1 k))) := cw_at hk
theorem cw_arL {X : Cx} {S : Shp} {r : Rf} {h : Hp} {k n : Nat} (hk : S[k]? = some (101, n)) : (cw X S r h)[k]? = some (X.1 k, .inl (X.2.2.1, n, .inr (.inl (h.2 k)))) := cw_at hk
theorem cw_arZ {X : Cx} {S : Shp} {r : Rf} {h : Hp} {k n : Nat} (hk : S[k]? = some (102, n)) : (cw X S r h)[k]? = some (X.1 k, .inl (X.2.2.2, n, .inl (h.1 k))) := cw_at hk
theorem fl_at {X : Cx} {r : Rf} {h : Hp} {k t n j : Nat} (hj : j < n) : (fl X r h k t n)[j]? = some (fv X.1 r h k j (fk (kty t j))) := by
  unfold fl; simp [hj]
theorem fl_len {X : Cx} {r : Rf} {h : Hp} {k t n : Nat} : (fl X r h k t n).length = n := by unfold fl; simp
theorem cw_upd {X : Cx} {S : Shp} {r r' : Rf} {h h' : Hp} {k : Nat} {q : Nat × Nat} (hk : S[k]? = some q) (ho : ∀ i, i ≠ k → ∀ q, ce X r' h' i q = ce X r h i q) {e : va_E} (he : ce X r' h' k q = e) : (cw X S r h).set k (X.1 k, e) = cw X S r' h' := by
  apply List.ext_getElem?
  intro i
  rw [List.getElem?_set, cw_get, cw_get]
  by_cases hi : k = i
  · subst hi
    have hl : k < (cw X S r h).length := by
      have := (List.getElem?_eq_some_iff.mp hk).1
      simpa [cw] using this
    rw [if_pos rfl, if_pos hl, hk, ← he]; rfl
  · rw [if_neg hi]
    cases hS : S[i]? with
    | none => rfl
    | some q' => simp [ho i (Ne.symm hi)]
theorem pI_ne {h : Hp} {k j i : Nat} {v : Int32} (hi : i ≠ k) : (pI h k j v).1 i = h.1 i := by
  funext b; simp [pI, hi]
theorem pL_ne {h : Hp} {k j i : Nat} {v : Int64} (hi : i ≠ k) : (pL h k j v).2 i = h.2 i := by
  funext b; simp [pL, hi]
theorem pC_ne {h : Hp} {k i : Nat} {f : Nat → Int32} (hi : i ≠ k) : (pC h k f).1 i = h.1 i := by
  funext b; simp [pC, hi]
theorem fl_co {X : Cx} {r r' : Rf} {h h' : Hp} {k t n : Nat} (h1 : h'.1 k = h.1 k) (h2 : h'.2 k = h.2 k) (h3 : r' k = r k) : fl X r' h' k t n = fl X r h k t n := by
  unfold fl
  congr 1
  funext j
  unfold fv
  rw [h1, h2, h3]
theorem ce_co {X : Cx} {r r' : Rf} {h h' : Hp} {k : Nat} {q : Nat × Nat} (h1 : h'.1 k = h.1 k) (h2 : h'.2 k = h.2 k) (h3 : r' k = r k) : ce X r' h' k q = ce X r h k q := by
  unfold ce
  rw [h1, h2, fl_co h1 h2 h3]
theorem fl_set {X : Cx} {r r' : Rf} {h h' : Hp} {k t n j : Nat} {v : Value} (hj : j < n) (hv : fv X.1 r' h' k j (fk (kty t j)) = v) (ho : ∀ i, i ≠ j → ∀ c, fv X.1 r' h' k i c = fv X.1 r h k i c) : fl X r' h' k t n = (fl X r h k t n).set j v := by
  apply List.ext_getElem?
  intro i
  rw [List.getElem?_set, fl_len]
  by_cases hi : j = i
  · subst hi
    rw [if_pos rfl, if_pos hj, fl_at hj, hv]
  · rw [if_neg hi]
    by_cases hn : i < n
    · rw [fl_at hn, fl_at hn, ho i (Ne.symm hi)]
    · rw [List.getElem?_eq_none (by rw [fl_len]; omega), List.getElem?_eq_none (by rw [fl_len]; omega)]
theorem cw_pI {X : Cx} {S : Shp} {r : Rf} {h : Hp} {k t n j : Nat} {v : Int32} (hk : S[k]? = some (t, n)) (ht : t < 100) (hj : j < n) (hty : kty t j = .int) : (cw X S r h).set k (X.1 k, .inr (t, (fl X r h k t n).set j (.int v))) = cw X S r (pI h k j v) := by
  refine cw_upd hk (fun i hi q => ce_co (pI_ne hi) rfl rfl) ?_
  rw [ce_obj ht]
  refine congrArg (fun l => Sum.inr (t, l)) (fl_set hj ?_ ?_)
  · rw [hty]; simp [fk, fv, pI]
  · intro i hi c
    unfold fv
    simp [pI, hi]
theorem cw_pL {X : Cx} {S : Shp} {r : Rf} {h : Hp} {k t n j : Nat} {v : Int64} (hk : S[k]? = some (t, n)) (ht : t < 100) (hj : j < n) (hty : kty t j = .long) : (cw X S r h).set k (X.1 k, .inr (t, (fl X r h k t n).set j (.long v))) = cw X S r (pL h k j v) := by
  refine cw_upd hk (fun i hi q => ce_co (h := h) (h' := pL h k j v) rfl (pL_ne hi) rfl) ?_
  rw [ce_obj ht]
  refine congrArg (fun l => Sum.inr (t, l)) (fl_set hj ?_ ?_)
  · rw [hty]; simp [fk, fv, pL]
  · intro i hi c
    unfold fv
    simp [pL, hi]
theorem cw_pR {X : Cx} {S : Shp} {r : Rf} {h : Hp} {k t n j v : Nat} (hk : S[k]? = some (t, n)) (ht : t < 100) (hj : j < n) (hty : fk (kty t j) = 2) : (cw X S r h).set k (X.1 k, .inr (t, (fl X r h k t n).set j (.ref (X.1 v)))) = cw X S (pR r k j v) h := by
  refine cw_upd hk (fun i hi q => ce_co rfl rfl (by funext b; simp [pR, hi])) ?_
  rw [ce_obj ht]
  refine congrArg (fun l => Sum.inr (t, l)) (fl_set hj ?_ ?_)
  · rw [hty]; simp [fv, pR]
  · intro i hi c
    unfold fv
    simp [pR, hi]
theorem cw_aI {X : Cx} {S : Shp} {r : Rf} {h : Hp} {k n j : Nat} {v : Int32} (hk : S[k]? = some (100, n)) : (cw X S r h).set k (X.1 k, .inl (X.2.1, n, .inl (upd (h.1 k) j v))) = cw X S r (pI h k j v) := by
  refine cw_upd hk (fun i hi q => ce_co (pI_ne hi) rfl rfl) ?_
  have : (pI h k j v).1 k = upd (h.1 k) j v := by funext b; simp [pI, upd]
  unfold ce
  rw [if_pos rfl, this]
theorem cw_aZ {X : Cx} {S : Shp} {r : Rf} {h : Hp} {k n j : Nat} {v : Int32} (hk : S[k]? = some (102, n)) : (cw X S r h).set k (X.1 k, .inl (X.2.2.2, n, .inl (upd (h.1 k) j v))) = cw X S r (pI h k j v) := by
  refine cw_upd hk (fun i hi q => ce_co (pI_ne hi) rfl rfl) ?_
  have : (pI h k j v).1 k = upd (h.1 k) j v := by funext b; simp [pI, upd]
  unfold ce
  rw [if_neg (by show ¬ 102 = 100; decide), if_neg (by show ¬ 102 = 101; decide), if_pos rfl, this]
theorem cw_aL {X : Cx} {S : Shp} {r : Rf} {h : Hp} {k n j : Nat} {v : Int64} (hk : S[k]? = some (101, n)) : (cw X S r h).set k (X.1 k, .inl (X.2.2.1, n, .inr (.inl (vp_updL (h.2 k) j v)))) = cw X S r (pL h k j v) := by
  refine cw_upd hk (fun i hi q => ce_co (h := h) (h' := pL h k j v) rfl (pL_ne hi) rfl) ?_
  have : (pL h k j v).2 k = vp_updL (h.2 k) j v := by funext b; simp [pL, vp_updL]
  unfold ce
  rw [if_neg (by show ¬ 101 = 100; decide), if_pos rfl, this]
theorem cw_aC {X : Cx} {S : Shp} {r : Rf} {h : Hp} {k n : Nat} {f : Nat → Int32} (hk : S[k]? = some (100, n)) : (cw X S r h).set k (X.1 k, .inl (X.2.1, n, .inl f)) = cw X S r (pC h k f) := by
  refine cw_upd hk (fun i hi q => ce_co (pC_ne hi) rfl rfl) ?_
  have : (pC h k f).1 k = f := by funext b; simp [pC]
  unfold ce
  rw [if_pos rfl, this]
/-! ===== values, locals ===== -/
def ga (al : Nat → Nat) (v : Value) : Value := match v with
  | .ref k => .ref (al k)
  | .int x => .int x
  | .long x => .long x
  | .float x => .float x
  | .double x => .double x
  | v => v
theorem ga_cat (al : Nat → Nat) (v : Value) : (ga al v).category = v.category := by cases v <;> rfl
def lc (al : Nat → Nat) (L : List (Nat × Value)) : List (Nat × Value) := L.map (fun q => (q.1, ga al q.2))
theorem lc_at {al : Nat → Nat} {L : List (Nat × Value)} {k i : Nat} {v : Value} (h : L[k]? = some (i, v)) : (lc al L)[k]? = some (i, ga al v) := by
  unfold lc; rw [List.getElem?_map, h]; rfl
def st1 (i : Nat) (v : Value) (L : List (Nat × Value)) : List (Nat × Value) := (i, v) :: L.filter (fun q => !(q.1 == i) && !(q.1 + 1 == i && q.2.category == 2))
def st2 (i : Nat) (v : Value) (L : List (Nat × Value)) : List (Nat × Value) := (i, v) :: L.filter (fun q => !(q.1 == i) && (!(q.1 == i + 1) && !(q.1 + 1 == i && q.2.category == 2)))
theorem lc_fil {al : Nat → Nat} {L : List (Nat × Value)} (P : Nat → Nat → Bool) : (lc al L).filter (fun q => P q.1 q.2.category) = lc al (L.filter (fun q => P q.1 q.2.category)) := by
  unfold lc
  rw [List.filter_map]
  congr 1
  apply List.filter_congr
  intro q _
  simp [ga_cat]
theorem lc_st1 {al : Nat → Nat} {L L' : List (Nat × Value)} {i : Nat} {v : Value} (h : st1 i v L = L') : (i, ga al v) :: (lc al L).filter (fun q => !(q.1 == i) && !(q.1 + 1 == i && q.2.category == 2)) = lc al L' := by
  subst h
  rw [lc_fil (fun a b => !(a == i) && !(a + 1 == i && b == 2))]
  rfl
theorem lc_st2 {al : Nat → Nat} {L L' : List (Nat × Value)} {i : Nat} {v : Value} (h : st2 i v L = L') : (i, ga al v) :: (lc al L).filter (fun q => !(q.1 == i) && (!(q.1 == i + 1) && !(q.1 + 1 == i && q.2.category == 2))) = lc al L' := by
  subst h
  rw [lc_fil (fun a b => !(a == i) && (!(a == i + 1) && !(a + 1 == i && b == 2)))]
  rfl
theorem lc_pick {al : Nat → Nat} {L L' : List (Nat × Value)} {ks : List Nat} (h : lv_pick L ks = L') : lv_pick (lc al L) ks = lc al L' := by
  subst h
  unfold lv_pick lc
  rw [List.map_filterMap]
  congr 1
  funext k
  rw [List.getElem?_map]
theorem lc_args (al : Nat → Nat) (vs : List Value) : ∀ i, lv_args i (vs.map (ga al)) = lc al (lv_args i vs) := by
  induction vs with
  | nil => intro i; rfl
  | cons v vs ih =>
    intro i
    simp only [List.map_cons, lv_args, ga_cat, ih]
    rfl
theorem lc_cats (al : Nat → Nat) (st : List Value) : ((st.map (ga al)).map fun v => v.category).sum = (st.map fun v => v.category).sum := by
  rw [List.map_map]
  congr 2
  funext v
  exact ga_cat al v
/-! ===== the judgement ===== -/
def Nst (U : State) : Prop := va_Nw (.methodLinkNest RX0 52 yX5_has RX5) U ∧ va_Nw (.methodLinkNest RX1 49 yX5_has RX5) U ∧ va_Nw (.methodLinkNest RX3 40 yX5_has RX5) U ∧ va_Nw (.methodLinkNest RX4 102 yX5_isWithin RX5) U
theorem Nst.warm {s U : State} (hW : s.WarmedH U.vm) (h : Nst s) : Nst U := ⟨va_Nw.warmM hW h.1, va_Nw.warmM hW h.2.1, va_Nw.warmM hW h.2.2.1, va_Nw.warmM hW h.2.2.2⟩
theorem Nst.same {s U : State} (hW : s.vm = U.vm) (h : Nst s) : Nst U := ⟨va_Nw.same rfl hW h.1, va_Nw.same rfl hW h.2.1, va_Nw.same rfl hW h.2.2.1, va_Nw.same rfl hW h.2.2.2⟩
def Bd (own : String) (cc : ByteArray) (nL : Nat) (ret : Option FieldType) (Ts : List Cond) (p : Program) (s : State) (m : MethodId) (args : Array Value) (meth : Method) (c : Code) : Prop :=
  p.tables.exec = Jvm.exec ∧ c.code = cc ∧ c.maxLocals = nL ∧ s.vm.findClass own = some m.cls ∧ (∀ w ∈ Ts, w.before args s = true) ∧ meth.sig.returnType = ret ∧ meth.locks = false
def Wd (X : Cx) (D : va_G) (A : Nat → Prop) (S : Shp) (r : Rf) (h : Hp) (s : State) (H : Heap) (locs : List Loc) : Prop :=
  va_K D kcl (tys X) s ∧ va_P D kcl (cw X S r h) H ∧ va_D A (cw X S r h) ∧ va_S A s.heap H locs ∧ (∀ q, s.heap.size ≤ q → A q) ∧ Nst s
def En (X : Cx) (D : va_G) (A : Nat → Prop) (S : Shp) (r : Rf) (out : Option Int32 × Hp) (s : State) (args : Array Value) (Qc : Array Value → State → Outcome → State → Prop) (free : Addr → Prop) : Prop :=
  (∀ (t : State) (H : Heap) (locs : List Loc), t.heap = H → s.WarmedH t.vm → Wd X D A S r out.2 s H locs → Qc args s (.returned (out.1.map Value.int)) t) ∧ ∀ q, A q → free q
def G (own : String) (cc : ByteArray) (nL : Nat) (ret : Option FieldType) (Ts : List Cond) (R : Room) (S : Shp) (r r' : Rf) (out : Option Int32 × Hp) (pc : Nat) (L : List (Nat × Value)) (st : List Value) (h : Hp) : Prop :=
  ∀ (p : Program) (l : Launch) (e : Env) (s : State) (m : MethodId) (args : Array Value) (below : List Frame) (meth : Method) (c : Code) (X : Cx) (D : va_G) (A : Nat → Prop) (H : Heap) (locs : List Loc) (ls : Array Slot) (Qc : Array Value → State → Outcome → State → Prop) (free : Addr → Prop),
    Bd own cc nL ret Ts p s m args meth c → Wd X D A S r h s H locs → lv_has ls nL (lc X.1 L) → En X D A S r' out s args Qc free →
    W p l e R s m args below meth c H locs 0 0 (MQ below Qc args s 0 0 free) (F0 m pc ls (st.map (ga X.1)))
def CF (t : Nat) (C : String) (T : u_T) (N : Nat) : Prop := kcl[t]? = some (C, T, N) ∧ t < 100 ∧ (∀ k, k < N → parseFieldDescriptor (T k).2.2.1 = some (kty t k)) ∧ ∀ a, a < N → ∀ b, b < N → a ≠ b → (T a).2.1 ≠ (T b).2.1
theorem cf0 : CF 0 RX0 TX0 7 := ⟨rfl, by decide, tyX0_ok, nmX0⟩
theorem cf1 : CF 1 RX1 TX1 12 := ⟨rfl, by decide, tyX1_ok, nmX1⟩
theorem cf2 : CF 2 RX2 TX2 3 := ⟨rfl, by decide, tyX2_ok, nmX2⟩
theorem cf3 : CF 3 RX3 TX3 7 := ⟨rfl, by decide, tyX3_ok, nmX3⟩
theorem cf4 : CF 4 RX4 TX4 5 := ⟨rfl, by decide, tyX4_ok, nmX4⟩
theorem cf5 : CF 5 RX5 TX5 11 := ⟨rfl, by decide, tyX5_ok, nmX5⟩
theorem cf6 : CF 6 RX6 TX6 38 := ⟨rfl, by decide, tyX6_ok, nmX6⟩
section GR
variable {own : String} {cc : ByteArray} {nL : Nat} {ret : Option FieldType} {Ts : List Cond} {R : Room} {S : Shp} {r r' : Rf} {out : Option Int32 × Hp} {pc : Nat} {L : List (Nat × Value)} {st : List Value} {h : Hp}
theorem g_iconst {n : Int} {v : Int32} (d : decode cc pc = .ok (.iconst n, 1)) (hv : Int32.ofInt n = v) (k : G own cc nL ret Ts R S r r' out (pc + 1) L (.int v :: st) h) : G own cc nL ret Ts R S r r' out pc L st h :=
  fun p l e s m args below meth c X D A H locs ls Qc free B w hl E => lv_iconst B.1 B.2.1 d hv (k p l e s m args below meth c X D A H locs ls Qc free B w hl E)
theorem g_bipush {n : Int} {v : Int32} (d : decode cc pc = .ok (.bipush n, 2)) (hv : (Int8.ofInt n).toInt32 = v) (k : G own cc nL ret Ts R S r r' out (pc + 2) L (.int v :: st) h) : G own cc nL ret Ts R S r r' out pc L st h :=
  fun p l e s m args below meth c X D A H locs ls Qc free B w hl E => lv_bipush B.1 B.2.1 d hv (k p l e s m args below meth c X D A H locs ls Qc free B w hl E)
theorem g_sipush {n : Int} {v : Int32} (d : decode cc pc = .ok (.sipush n, 3)) (hv : (Int16.ofInt n).toInt32 = v) (k : G own cc nL ret Ts R S r r' out (pc + 3) L (.int v :: st) h) : G own cc nL ret Ts R S r r' out pc L st h :=
  fun p l e s m args below meth c X D A H locs ls Qc free B w hl E => lv_sipush B.1 B.2.1 d hv (k p l e s m args below meth c X D A H locs ls Qc free B w hl E)
theorem g_ldc {ix : Nat} {v : Int32} (hc : Cond.constant own ix v ∈ Ts) (d : decode cc pc = .ok (.ldc ix, 2)) (k : G own cc nL ret Ts R S r r' out (pc + 2) L (.int v :: st) h) : G own cc nL ret Ts R S r r' out pc L st h :=
  fun p l e s m args below meth c X D A H locs ls Qc free B w hl E => lv_ldc B.1 B.2.1 B.2.2.2.1 (B.2.2.2.2.1 _ hc) d (k p l e s m args below meth c X D A H locs ls Qc free B w hl E)
theorem g_ldcw {ix : Nat} {v : Int32} (hc : Cond.constant own ix v ∈ Ts) (d : decode cc pc = .ok (.ldc_w ix, 3)) (k : G own cc nL ret Ts R S r r' out (pc + 3) L (.int v :: st) h) : G own cc nL ret Ts R S r r' out pc L st h :=
  fun p l e s m args below meth c X D A H locs ls Qc free B w hl E => lv_ldcw B.1 B.2.1 B.2.2.2.1 (B.2.2.2.2.1 _ hc) d (k p l e s m args below meth c X D A H locs ls Qc free B w hl E)
theorem g_ldc2 {ix : Nat} {v : Int64} (hc : Cond.constantLong own ix v ∈ Ts) (d : decode cc pc = .ok (.ldc2_w ix, 3)) (k : G own cc nL ret Ts R S r r' out (pc + 3) L (.long v :: st) h) : G own cc nL ret Ts R S r r' out pc L st h :=
  fun p l e s m args below meth c X D A H locs ls Qc free B w hl E => lv_ldc2 B.1 B.2.1 B.2.2.2.1 (B.2.2.2.2.1 _ hc) d (k p l e s m args below meth c X D A H locs ls Qc free B w hl E)
theorem g_iload_n {q : Fin 4} {i ps : Nat} {x : Int32} (d : decode cc pc = .ok (.iload_n q, 1)) (hi : (q : Nat) = i) (hp : L[ps]? = some (i, .int x)) (k : G own cc nL ret Ts R S r r' out (pc + 1) L (.int x :: st) h) : G own cc nL ret Ts R S r r' out pc L st h :=
  fun p l e s m args below meth c X D A H locs ls Qc free B w hl E => lv_iload_n B.1 B.2.1 d hi (lv_at hl ps (lc_at hp)) (k p l e s m args below meth c X D A H locs ls Qc free B w hl E)
theorem g_iload {i ps : Nat} {x : Int32} (d : decode cc pc = .ok (.iload i, 2)) (hp : L[ps]? = some (i, .int x)) (k : G own cc nL ret Ts R S r r' out (pc + 2) L (.int x :: st) h) : G own cc nL ret Ts R S r r' out pc L st h :=
  fun p l e s m args below meth c X D A H locs ls Qc free B w hl E => lv_iload B.1 B.2.1 d (lv_at hl ps (lc_at hp)) (k p l e s m args below meth c X D A H locs ls Qc free B w hl E)
theorem g_lload_n {q : Fin 4} {i ps : Nat} {x : Int64} (d : decode cc pc = .ok (.lload_n q, 1)) (hi : (q : Nat) = i) (hp : L[ps]? = some (i, .long x)) (k : G own cc nL ret Ts R S r r' out (pc + 1) L (.long x :: st) h) : G own cc nL ret Ts R S r r' out pc L st h :=
  fun p l e s m args below meth c X D A H locs ls Qc free B w hl E => lv_lload_n B.1 B.2.1 d hi (lv_at hl ps (lc_at hp)) (k p l e s m args below meth c X D A H locs ls Qc free B w hl E)
theorem g_aload_n {q : Fin 4} {i ps : Nat} {x : Nat} (d : decode cc pc = .ok (.aload_n q, 1)) (hi : (q : Nat) = i) (hp : L[ps]? = some (i, .ref x)) (k : G own cc nL ret Ts R S r r' out (pc + 1) L (.ref x :: st) h) : G own cc nL ret Ts R S r r' out pc L st h :=
  fun p l e s m args below meth c X D A H locs ls Qc free B w hl E => lv_aload_n B.1 B.2.1 d hi (lv_at hl ps (lc_at hp)) (k p l e s m args below meth c X D A H locs ls Qc free B w hl E)
theorem g_istore_n {q : Fin 4} {i : Nat} {x : Int32} {L' : List (Nat × Value)} (d : decode cc pc = .ok (.istore_n q, 1)) (hi : (q : Nat) = i) (hn : i < nL) (hL : st1 i (.int x) L = L') (k : G own cc nL ret Ts R S r r' out (pc + 1) L' st h) : G own cc nL ret Ts R S r r' out pc L (.int x :: st) h :=
  fun p l e s m args below meth c X D A H locs ls Qc free B w hl E => lv_istore_n B.1 B.2.1 d hi hl hn (lc_st1 (al := X.1) hL) (fun ls' hl' => k p l e s m args below meth c X D A H locs ls' Qc free B w hl' E)
theorem g_istore {i : Nat} {x : Int32} {L' : List (Nat × Value)} (d : decode cc pc = .ok (.istore i, 2)) (hn : i < nL) (hL : st1 i (.int x) L = L') (k : G own cc nL ret Ts R S r r' out (pc + 2) L' st h) : G own cc nL ret Ts R S r r' out pc L (.int x :: st) h :=
  fun p l e s m args below meth c X D A H locs ls Qc free B w hl E => lv_istore B.1 B.2.1 d hl hn (lc_st1 (al := X.1) hL) (fun ls' hl' => k p l e s m args below meth c X D A H locs ls' Qc free B w hl' E)
theorem g_lstore_n {q : Fin 4} {i : Nat} {x : Int64} {L' : List (Nat × Value)} (d : decode cc pc = .ok (.lstore_n q, 1)) (hi : (q : Nat) = i) (hn : i + 1 < nL) (hL : st2 i (.long x) L = L') (k : G own cc nL ret Ts R S r r' out (pc + 1) L' st h) : G own cc nL ret Ts R S r r' out pc L (.long x :: st) h :=
  fun p l e s m args below meth c X D A H locs ls Qc free B w hl E => lv_lstore_n B.1 B.2.1 d hi hl hn (lc_st2 (al := X.1) hL) (fun ls' hl' => k p l e s m args below meth c X D A H locs ls' Qc free B w hl' E)
theorem g_astore_n {q : Fin 4} {i x : Nat} {L' : List (Nat × Value)} (d : decode cc pc = .ok (.astore_n q, 1)) (hi : (q : Nat) = i) (hn : i < nL) (hL : st1 i (.ref x) L = L') (k : G own cc nL ret Ts R S r r' out (pc + 1) L' st h) : G own cc nL ret Ts R S r r' out pc L (.ref x :: st) h :=
  fun p l e s m args below meth c X D A H locs ls Qc free B w hl E => lv_astore_n B.1 B.2.1 d hi hl hn (lc_st1 (al := X.1) hL) (fun ls' hl' => k p l e s m args below meth c X D A H locs ls' Qc free B w hl' E)
theorem g_iinc {i ps : Nat} {n : Int} {x v : Int32} {L' : List (Nat × Value)} (d : decode cc pc = .ok (.iinc i n, 3)) (hp : L[ps]? = some (i, .int x)) (hv : x + Int32.ofInt n = v) (hn : i < nL) (hL : st1 i (.int v) L = L') (k : G own cc nL ret Ts R S r r' out (pc + 3) L' st h) : G own cc nL ret Ts R S r r' out pc L st h :=
  fun p l e s m args below meth c X D A H locs ls Qc free B w hl E => lv_iinc B.1 B.2.1 d hl (lc_at hp) hv hn (lc_st1 (al := X.1) hL) (fun ls' hl' => k p l e s m args below meth c X D A H locs ls' Qc free B w hl' E)
theorem g_pick {L' : List (Nat × Value)} (ks : List Nat) (hp : lv_pick L ks = L') (k : G own cc nL ret Ts R S r r' out pc L' st h) : G own cc nL ret Ts R S r r' out pc L st h :=
  fun p l e s m args below meth c X D A H locs ls Qc free B w hl E => k p l e s m args below meth c X D A H locs ls Qc free B w (lv_sub hl ks (lc_pick hp)) E
theorem g_topi {x : Int32} (k : ∀ y : Int32, y = x → G own cc nL ret Ts R S r r' out pc L (.int y :: st) h) : G own cc nL ret Ts R S r r' out pc L (.int x :: st) h := k x rfl
theorem g_topl {x : Int64} (k : ∀ y : Int64, y = x → G own cc nL ret Ts R S r r' out pc L (.long y :: st) h) : G own cc nL ret Ts R S r r' out pc L (.long x :: st) h := k x rfl
theorem g_iadd {x y : Int32} (d : decode cc pc = .ok (.iadd, 1)) (k : G own cc nL ret Ts R S r r' out (pc + 1) L (.int (x + y) :: st) h) : G own cc nL ret Ts R S r r' out pc L (.int y :: .int x :: st) h :=
  fun p l e s m args below meth c X D A H locs ls Qc free B w hl E => lv_iadd B.1 B.2.1 d (k p l e s m args below meth c X D A H locs ls Qc free B w hl E)
theorem g_isub {x y : Int32} (d : decode cc pc = .ok (.isub, 1)) (k : G own cc nL ret Ts R S r r' out (pc + 1) L (.int (x - y) :: st) h) : G own cc nL ret Ts R S r r' out pc L (.int y :: .int x :: st) h :=
  fun p l e s m args below meth c X D A H locs ls Qc free B w hl E => lv_isub B.1 B.2.1 d (k p l e s m args below meth c X D A H locs ls Qc free B w hl E)
theorem g_imul {x y : Int32} (d : decode cc pc = .ok (.imul, 1)) (k : G own cc nL ret Ts R S r r' out (pc + 1) L (.int (x * y) :: st) h) : G own cc nL ret Ts R S r r' out pc L (.int y :: .int x :: st) h :=
  fun p l e s m args below meth c X D A H locs ls Qc free B w hl E => lv_imul B.1 B.2.1 d (k p l e s m args below meth c X D A H locs ls Qc free B w hl E)
theorem g_iand {x y : Int32} (d : decode cc pc = .ok (.iand, 1)) (k : G own cc nL ret Ts R S r r' out (pc + 1) L (.int (x &&& y) :: st) h) : G own cc nL ret Ts R S r r' out pc L (.int y :: .int x :: st) h :=
  fun p l e s m args below meth c X D A H locs ls Qc free B w hl E => lv_iand B.1 B.2.1 d (k p l e s m args below meth c X D A H locs ls Qc free B w hl E)
theorem g_ior {x y : Int32} (d : decode cc pc = .ok (.ior, 1)) (k : G own cc nL ret Ts R S r r' out (pc + 1) L (.int (x ||| y) :: st) h) : G own cc nL ret Ts R S r r' out pc L (.int y :: .int x :: st) h :=
  fun p l e s m args below meth c X D A H locs ls Qc free B w hl E => lv_ior B.1 B.2.1 d (k p l e s m args below meth c X D A H locs ls Qc free B w hl E)
theorem g_ixor {x y : Int32} (d : decode cc pc = .ok (.ixor, 1)) (k : G own cc nL ret Ts R S r r' out (pc + 1) L (.int (x ^^^ y) :: st) h) : G own cc nL ret Ts R S r r' out pc L (.int y :: .int x :: st) h :=
  fun p l e s m args below meth c X D A H locs ls Qc free B w hl E => lv_ixor B.1 B.2.1 d (k p l e s m args below meth c X D A H locs ls Qc free B w hl E)
theorem g_idiv {x y : Int32} (d : decode cc pc = .ok (.idiv, 1)) (hne : ¬ y = 0) (k : G own cc nL ret Ts R S r r' out (pc + 1) L (.int (x / y) :: st) h) : G own cc nL ret Ts R S r r' out pc L (.int y :: .int x :: st) h :=
  fun p l e s m args below meth c X D A H locs ls Qc free B w hl E => lv_idiv B.1 B.2.1 d hne (k p l e s m args below meth c X D A H locs ls Qc free B w hl E)
theorem g_irem {x y : Int32} (d : decode cc pc = .ok (.irem, 1)) (hne : ¬ y = 0) (k : G own cc nL ret Ts R S r r' out (pc + 1) L (.int (x - x / y * y) :: st) h) : G own cc nL ret Ts R S r r' out pc L (.int y :: .int x :: st) h :=
  fun p l e s m args below meth c X D A H locs ls Qc free B w hl E => lv_irem B.1 B.2.1 d hne (k p l e s m args below meth c X D A H locs ls Qc free B w hl E)
theorem g_ladd {x y : Int64} (d : decode cc pc = .ok (.ladd, 1)) (k : G own cc nL ret Ts R S r r' out (pc + 1) L (.long (x + y) :: st) h) : G own cc nL ret Ts R S r r' out pc L (.long y :: .long x :: st) h :=
  fun p l e s m args below meth c X D A H locs ls Qc free B w hl E => lv_ladd B.1 B.2.1 d (k p l e s m args below meth c X D A H locs ls Qc free B w hl E)
theorem g_lmul {x y : Int64} (d : decode cc pc = .ok (.lmul, 1)) (k : G own cc nL ret Ts R S r r' out (pc + 1) L (.long (x * y) :: st) h) : G own cc nL ret Ts R S r r' out pc L (.long y :: .long x :: st) h :=
  fun p l e s m args below meth c X D A H locs ls Qc free B w hl E => lv_lmul B.1 B.2.1 d (k p l e s m args below meth c X D A H locs ls Qc free B w hl E)
theorem g_land {x y : Int64} (d : decode cc pc = .ok (.land, 1)) (k : G own cc nL ret Ts R S r r' out (pc + 1) L (.long (x &&& y) :: st) h) : G own cc nL ret Ts R S r r' out pc L (.long y :: .long x :: st) h :=
  fun p l e s m args below meth c X D A H locs ls Qc free B w hl E => lv_land B.1 B.2.1 d (k p l e s m args below meth c X D A H locs ls Qc free B w hl E)
theorem g_ldiv {x y : Int64} (d : decode cc pc = .ok (.ldiv, 1)) (hne : ¬ y = 0) (k : G own cc nL ret Ts R S r r' out (pc + 1) L (.long (x / y) :: st) h) : G own cc nL ret Ts R S r r' out pc L (.long y :: .long x :: st) h :=
  fun p l e s m args below meth c X D A H locs ls Qc free B w hl E => lv_ldiv B.1 B.2.1 d hne (k p l e s m args below meth c X D A H locs ls Qc free B w hl E)
theorem g_lrem {x y : Int64} (d : decode cc pc = .ok (.lrem, 1)) (hne : ¬ y = 0) (k : G own cc nL ret Ts R S r r' out (pc + 1) L (.long (x - x / y * y) :: st) h) : G own cc nL ret Ts R S r r' out pc L (.long y :: .long x :: st) h :=
  fun p l e s m args below meth c X D A H locs ls Qc free B w hl E => lv_lrem B.1 B.2.1 d hne (k p l e s m args below meth c X D A H locs ls Qc free B w hl E)
theorem g_ishl {x y : Int32} (d : decode cc pc = .ok (.ishl, 1)) (k : G own cc nL ret Ts R S r r' out (pc + 1) L (.int (x <<< (y &&& 31)) :: st) h) : G own cc nL ret Ts R S r r' out pc L (.int y :: .int x :: st) h :=
  fun p l e s m args below meth c X D A H locs ls Qc free B w hl E => lv_ishl B.1 B.2.1 d (k p l e s m args below meth c X D A H locs ls Qc free B w hl E)
theorem g_ishr {x y : Int32} (d : decode cc pc = .ok (.ishr, 1)) (k : G own cc nL ret Ts R S r r' out (pc + 1) L (.int (x >>> (y &&& 31)) :: st) h) : G own cc nL ret Ts R S r r' out pc L (.int y :: .int x :: st) h :=
  fun p l e s m args below meth c X D A H locs ls Qc free B w hl E => lv_ishr B.1 B.2.1 d (k p l e s m args below meth c X D A H locs ls Qc free B w hl E)
theorem g_iushr {x y : Int32} (d : decode cc pc = .ok (.iushr, 1)) (k : G own cc nL ret Ts R S r r' out (pc + 1) L (.int ((x.toUInt32 >>> (y.toUInt32 &&& Int32.toUInt32 31)).toInt32) :: st) h) : G own cc nL ret Ts R S r r' out pc L (.int y :: .int x :: st) h :=
  fun p l e s m args below meth c X D A H locs ls Qc free B w hl E => lv_iushr B.1 B.2.1 d rfl (k p l e s m args below meth c X D A H locs ls Qc free B w hl E)
theorem g_i2l {x : Int32} (d : decode cc pc = .ok (.i2l, 1)) (k : G own cc nL ret Ts R S r r' out (pc + 1) L (.long x.toInt64 :: st) h) : G own cc nL ret Ts R S r r' out pc L (.int x :: st) h :=
  fun p l e s m args below meth c X D A H locs ls Qc free B w hl E => lv_i2l B.1 B.2.1 d rfl (k p l e s m args below meth c X D A H locs ls Qc free B w hl E)
theorem g_l2i {x : Int64} (d : decode cc pc = .ok (.l2i, 1)) (k : G own cc nL ret Ts R S r r' out (pc + 1) L (.int x.toInt32 :: st) h) : G own cc nL ret Ts R S r r' out pc L (.long x :: st) h :=
  fun p l e s m args below meth c X D A H locs ls Qc free B w hl E => lv_l2i B.1 B.2.1 d rfl (k p l e s m args below meth c X D A H locs ls Qc free B w hl E)
theorem g_dup {v : Value} (d : decode cc pc = .ok (.dup, 1)) (hv : v.category = 1) (k : G own cc nL ret Ts R S r r' out (pc + 1) L (v :: v :: st) h) : G own cc nL ret Ts R S r r' out pc L (v :: st) h :=
  fun p l e s m args below meth c X D A H locs ls Qc free B w hl E => lv_dup B.1 B.2.1 d ((ga_cat _ _).trans hv) (k p l e s m args below meth c X D A H locs ls Qc free B w hl E)
theorem g_pop {v : Value} (d : decode cc pc = .ok (.pop, 1)) (hv : v.category = 1) (k : G own cc nL ret Ts R S r r' out (pc + 1) L st h) : G own cc nL ret Ts R S r r' out pc L (v :: st) h :=
  fun p l e s m args below meth c X D A H locs ls Qc free B w hl E => lv_pop B.1 B.2.1 d ((ga_cat _ _).trans hv) (k p l e s m args below meth c X D A H locs ls Qc free B w hl E)
theorem g_dup2 {v u : Value} (d : decode cc pc = .ok (.dup2, 1)) (hv : v.category = 1) (hu : u.category = 1) (k : G own cc nL ret Ts R S r r' out (pc + 1) L (v :: u :: v :: u :: st) h) : G own cc nL ret Ts R S r r' out pc L (v :: u :: st) h :=
  fun p l e s m args below meth c X D A H locs ls Qc free B w hl E => lv_dup2_11 B.1 B.2.1 d ((ga_cat _ _).trans hv) ((ga_cat _ _).trans hu) (k p l e s m args below meth c X D A H locs ls Qc free B w hl E)
theorem g_if_eq {x : Int32} {off : Int} {tgt : Nat} (d : decode cc pc = .ok (.ifCond .eq off, 3)) (ht : (pc : Int) + off = (tgt : Int)) (kt : x = 0 → G own cc nL ret Ts R S r r' out tgt L st h) (kf : ¬ x = 0 → G own cc nL ret Ts R S r r' out (pc + 3) L st h) : G own cc nL ret Ts R S r r' out pc L (.int x :: st) h :=
  fun p l e s m args below meth c X D A H locs ls Qc free B w hl E => lv_if_eq B.1 B.2.1 d ht (fun q => kt q p l e s m args below meth c X D A H locs ls Qc free B w hl E) (fun q => kf q p l e s m args below meth c X D A H locs ls Qc free B w hl E)
theorem g_icmp_eq {x y : Int32} {off : Int} {tgt : Nat} (d : decode cc pc = .ok (.if_icmp .eq off, 3)) (ht : (pc : Int) + off = (tgt : Int)) (kt : x = y → G own cc nL ret Ts R S r r' out tgt L st h) (kf : ¬ x = y → G own cc nL ret Ts R S r r' out (pc + 3) L st h) : G own cc nL ret Ts R S r r' out pc L (.int y :: .int x :: st) h :=
  fun p l e s m args below meth c X D A H locs ls Qc free B w hl E => lv_icmp_eq B.1 B.2.1 d ht (fun q => kt q p l e s m args below meth c X D A H locs ls Qc free B w hl E) (fun q => kf q p l e s m args below meth c X D A H locs ls Qc free B w hl E)
theorem g_if_ne {x : Int32} {off : Int} {tgt : Nat} (d : decode cc pc = .ok (.ifCond .ne off, 3)) (ht : (pc : Int) + off = (tgt : Int)) (kt : ¬ x = 0 → G own cc nL ret Ts R S r r' out tgt L st h) (kf : x = 0 → G own cc nL ret Ts R S r r' out (pc + 3) L st h) : G own cc nL ret Ts R S r r' out pc L (.int x :: st) h :=
  fun p l e s m args below meth c X D A H locs ls Qc free B w hl E => lv_if_ne B.1 B.2.1 d ht (fun q => kt q p l e s m args below meth c X D A H locs ls Qc free B w hl E) (fun q => kf q p l e s m args below meth c X D A H locs ls Qc free B w hl E)
theorem g_icmp_ne {x y : Int32} {off : Int} {tgt : Nat} (d : decode cc pc = .ok (.if_icmp .ne off, 3)) (ht : (pc : Int) + off = (tgt : Int)) (kt : ¬ x = y → G own cc nL ret Ts R S r r' out tgt L st h) (kf : x = y → G own cc nL ret Ts R S r r' out (pc + 3) L st h) : G own cc nL ret Ts R S r r' out pc L (.int y :: .int x :: st) h :=
  fun p l e s m args below meth c X D A H locs ls Qc free B w hl E => lv_icmp_ne B.1 B.2.1 d ht (fun q => kt q p l e s m args below meth c X D A H locs ls Qc free B w hl E) (fun q => kf q p l e s m args below meth c X D A H locs ls Qc free B w hl E)
theorem g_if_lt {x : Int32} {off : Int} {tgt : Nat} (d : decode cc pc = .ok (.ifCond .lt off, 3)) (ht : (pc : Int) + off = (tgt : Int)) (kt : x < 0 → G own cc nL ret Ts R S r r' out tgt L st h) (kf : ¬ x < 0 → G own cc nL ret Ts R S r r' out (pc + 3) L st h) : G own cc nL ret Ts R S r r' out pc L (.int x :: st) h :=
  fun p l e s m args below meth c X D A H locs ls Qc free B w hl E => lv_if_lt B.1 B.2.1 d ht (fun q => kt q p l e s m args below meth c X D A H locs ls Qc free B w hl E) (fun q => kf q p l e s m args below meth c X D A H locs ls Qc free B w hl E)
theorem g_icmp_lt {x y : Int32} {off : Int} {tgt : Nat} (d : decode cc pc = .ok (.if_icmp .lt off, 3)) (ht : (pc : Int) + off = (tgt : Int)) (kt : x < y → G own cc nL ret Ts R S r r' out tgt L st h) (kf : ¬ x < y → G own cc nL ret Ts R S r r' out (pc + 3) L st h) : G own cc nL ret Ts R S r r' out pc L (.int y :: .int x :: st) h :=
  fun p l e s m args below meth c X D A H locs ls Qc free B w hl E => lv_icmp_lt B.1 B.2.1 d ht (fun q => kt q p l e s m args below meth c X D A H locs ls Qc free B w hl E) (fun q => kf q p l e s m args below meth c X D A H locs ls Qc free B w hl E)
theorem g_if_ge {x : Int32} {off : Int} {tgt : Nat} (d : decode cc pc = .ok (.ifCond .ge off, 3)) (ht : (pc : Int) + off = (tgt : Int)) (kt : 0 ≤ x → G own cc nL ret Ts R S r r' out tgt L st h) (kf : ¬ 0 ≤ x → G own cc nL ret Ts R S r r' out (pc + 3) L st h) : G own cc nL ret Ts R S r r' out pc L (.int x :: st) h :=
  fun p l e s m args below meth c X D A H locs ls Qc free B w hl E => lv_if_ge B.1 B.2.1 d ht (fun q => kt q p l e s m args below meth c X D A H locs ls Qc free B w hl E) (fun q => kf q p l e s m args below meth c X D A H locs ls Qc free B w hl E)
theorem g_icmp_ge {x y : Int32} {off : Int} {tgt : Nat} (d : decode cc pc = .ok (.if_icmp .ge off, 3)) (ht : (pc : Int) + off = (tgt : Int)) (kt : y ≤ x → G own cc nL ret Ts R S r r' out tgt L st h) (kf : ¬ y ≤ x → G own cc nL ret Ts R S r r' out (pc + 3) L st h) : G own cc nL ret Ts R S r r' out pc L (.int y :: .int x :: st) h :=
  fun p l e s m args below meth c X D A H locs ls Qc free B w hl E => lv_icmp_ge B.1 B.2.1 d ht (fun q => kt q p l e s m args below meth c X D A H locs ls Qc free B w hl E) (fun q => kf q p l e s m args below meth c X D A H locs ls Qc free B w hl E)
theorem g_if_gt {x : Int32} {off : Int} {tgt : Nat} (d : decode cc pc = .ok (.ifCond .gt off, 3)) (ht : (pc : Int) + off = (tgt : Int)) (kt : 0 < x → G own cc nL ret Ts R S r r' out tgt L st h) (kf : ¬ 0 < x → G own cc nL ret Ts R S r r' out (pc + 3) L st h) : G own cc nL ret Ts R S r r' out pc L (.int x :: st) h :=
  fun p l e s m args below meth c X D A H locs ls Qc free B w hl E => lv_if_gt B.1 B.2.1 d ht (fun q => kt q p l e s m args below meth c X D A H locs ls Qc free B w hl E) (fun q => kf q p l e s m args below meth c X D A H locs ls Qc free B w hl E)
theorem g_icmp_gt {x y : Int32} {off : Int} {tgt : Nat} (d : decode cc pc = .ok (.if_icmp .gt off, 3)) (ht : (pc : Int) + off = (tgt : Int)) (kt : y < x → G own cc nL ret Ts R S r r' out tgt L st h) (kf : ¬ y < x → G own cc nL ret Ts R S r r' out (pc + 3) L st h) : G own cc nL ret Ts R S r r' out pc L (.int y :: .int x :: st) h :=
  fun p l e s m args below meth c X D A H locs ls Qc free B w hl E => lv_icmp_gt B.1 B.2.1 d ht (fun q => kt q p l e s m args below meth c X D A H locs ls Qc free B w hl E) (fun q => kf q p l e s m args below meth c X D A H locs ls Qc free B w hl E)
theorem g_if_le {x : Int32} {off : Int} {tgt : Nat} (d : decode cc pc = .ok (.ifCond .le off, 3)) (ht : (pc : Int) + off = (tgt : Int)) (kt : x ≤ 0 → G own cc nL ret Ts R S r r' out tgt L st h) (kf : ¬ x ≤ 0 → G own cc nL ret Ts R S r r' out (pc + 3) L st h) : G own cc nL ret Ts R S r r' out pc L (.int x :: st) h :=
  fun p l e s m args below meth c X D A H locs ls Qc free B w hl E => lv_if_le B.1 B.2.1 d ht (fun q => kt q p l e s m args below meth c X D A H locs ls Qc free B w hl E) (fun q => kf q p l e s m args below meth c X D A H locs ls Qc free B w hl E)
theorem g_icmp_le {x y : Int32} {off : Int} {tgt : Nat} (d : decode cc pc = .ok (.if_icmp .le off, 3)) (ht : (pc : Int) + off = (tgt : Int)) (kt : x ≤ y → G own cc nL ret Ts R S r r' out tgt L st h) (kf : ¬ x ≤ y → G own cc nL ret Ts R S r r' out (pc + 3) L st h) : G own cc nL ret Ts R S r r' out pc L (.int y :: .int x :: st) h :=
  fun p l e s m args below meth c X D A H locs ls Qc free B w hl E => lv_icmp_le B.1 B.2.1 d ht (fun q => kt q p l e s m args below meth c X D A H locs ls Qc free B w hl E) (fun q => kf q p l e s m args below meth c X D A H locs ls Qc free B w hl E)
theorem g_goto {off : Int} {tgt : Nat} (d : decode cc pc = .ok (.goto off, 3)) (ht : (pc : Int) + off = (tgt : Int)) (k : G own cc nL ret Ts R S r r' out tgt L st h) : G own cc nL ret Ts R S r r' out pc L st h :=
  fun p l e s m args below meth c X D A H locs ls Qc free B w hl E => lv_goto B.1 B.2.1 d ht (k p l e s m args below meth c X D A H locs ls Qc free B w hl E)
theorem g_tableOut {dflt lo hi : Int} {offs : Array Int} {len : Nat} {x : Int32} {tgt : Nat} (d : decode cc pc = .ok (.tableswitch dflt lo hi offs, len)) (hx : x.toInt < lo ∨ hi < x.toInt) (ht : (pc : Int) + dflt = (tgt : Int)) (k : G own cc nL ret Ts R S r r' out tgt L st h) : G own cc nL ret Ts R S r r' out pc L (.int x :: st) h :=
  fun p l e s m args below meth c X D A H locs ls Qc free B w hl E => lv_tableOut B.1 B.2.1 d hx ht (k p l e s m args below meth c X D A H locs ls Qc free B w hl E)
theorem g_tableIn {dflt lo hi : Int} {offs : Array Int} {len : Nat} {x : Int32} {off : Int} {tgt : Nat} (d : decode cc pc = .ok (.tableswitch dflt lo hi offs, len)) (h1 : ¬ x.toInt < lo) (h2 : ¬ hi < x.toInt) (ho : offs[(x.toInt - lo).toNat]? = some off) (ht : (pc : Int) + off = (tgt : Int)) (k : G own cc nL ret Ts R S r r' out tgt L st h) : G own cc nL ret Ts R S r r' out pc L (.int x :: st) h :=
  fun p l e s m args below meth c X D A H locs ls Qc free B w hl E => lv_tableIn B.1 B.2.1 d h1 h2 ho ht (k p l e s m args below meth c X D A H locs ls Qc free B w hl E)
theorem g_getI {t j ix k : Nat} {C : String} {T : u_T} {N : Nat} (cf : CF t C T N) (hk : S[k]? = some (t, N)) (hin : ∀ w ∈ u_ws C T N, w ∈ Ts) (hj : j < N) (hty : kty t j = .int) (hl : Cond.fieldLink own ix (T j).1 (T j).2.1 (T j).2.2.1 ∈ Ts) (d : decode cc pc = .ok (.getfield ix, 3)) (kk : G own cc nL ret Ts R S r r' out (pc + 3) L (.int (h.1 k j) :: st) h) : G own cc nL ret Ts R S r r' out pc L (.ref k :: st) h :=
  fun p l e s m args below meth c X D A H locs ls Qc free B w hL E => va_get B.1 B.2.1 B.2.2.2.2.1 hin B.2.2.2.1 w.1 w.2.1 k (cw_obj hk cf.2.1) cf.1 j hj (B.2.2.2.2.1 _ hl) (fun _ h9 => h9) (v := ga X.1 (.int (h.1 k j))) (by rw [fl_at hj, hty]; rfl) d (kk p l e s m args below meth c X D A H locs ls Qc free B w hL E)
theorem g_getL {t j ix k : Nat} {C : String} {T : u_T} {N : Nat} (cf : CF t C T N) (hk : S[k]? = some (t, N)) (hin : ∀ w ∈ u_ws C T N, w ∈ Ts) (hj : j < N) (hty : kty t j = .long) (hl : Cond.fieldLink own ix (T j).1 (T j).2.1 (T j).2.2.1 ∈ Ts) (d : decode cc pc = .ok (.getfield ix, 3)) (kk : G own cc nL ret Ts R S r r' out (pc + 3) L (.long (h.2 k j) :: st) h) : G own cc nL ret Ts R S r r' out pc L (.ref k :: st) h :=
  fun p l e s m args below meth c X D A H locs ls Qc free B w hL E => va_get B.1 B.2.1 B.2.2.2.2.1 hin B.2.2.2.1 w.1 w.2.1 k (cw_obj hk cf.2.1) cf.1 j hj (B.2.2.2.2.1 _ hl) (fun _ h9 => h9) (v := ga X.1 (.long (h.2 k j))) (by rw [fl_at hj, hty]; rfl) d (kk p l e s m args below meth c X D A H locs ls Qc free B w hL E)
theorem g_getR {t j ix k : Nat} {C : String} {T : u_T} {N : Nat} (cf : CF t C T N) (hk : S[k]? = some (t, N)) (hin : ∀ w ∈ u_ws C T N, w ∈ Ts) (hj : j < N) (hty : fk (kty t j) = 2) (hl : Cond.fieldLink own ix (T j).1 (T j).2.1 (T j).2.2.1 ∈ Ts) (d : decode cc pc = .ok (.getfield ix, 3)) (kk : G own cc nL ret Ts R S r r' out (pc + 3) L (.ref (r k j) :: st) h) : G own cc nL ret Ts R S r r' out pc L (.ref k :: st) h :=
  fun p l e s m args below meth c X D A H locs ls Qc free B w hL E => va_get B.1 B.2.1 B.2.2.2.2.1 hin B.2.2.2.1 w.1 w.2.1 k (cw_obj hk cf.2.1) cf.1 j hj (B.2.2.2.2.1 _ hl) (fun _ h9 => h9) (v := ga X.1 (.ref (r k j))) (by rw [fl_at hj, hty]; rfl) d (kk p l e s m args below meth c X D A H locs ls Qc free B w hL E)
theorem g_putI {t j ix k : Nat} {C : String} {T : u_T} {N : Nat} (cf : CF t C T N) (hk : S[k]? = some (t, N)) (hin : ∀ w ∈ u_ws C T N, w ∈ Ts) (hj : j < N) (hty : kty t j = .int) (hl : Cond.fieldLink own ix (T j).1 (T j).2.1 (T j).2.2.1 ∈ Ts) (hfin : (T j).2.2.2 = false) {v : Int32} (d : decode cc pc = .ok (.putfield ix, 3)) (kk : G own cc nL ret Ts R S r r' out (pc + 3) L st (pI h k j v)) : G own cc nL ret Ts R S r r' out pc L (.int v :: .ref k :: st) h :=
  fun p l e s m args below meth c X D A H locs ls Qc free B w hL E => va_put B.1 B.2.1 B.2.2.2.2.1 hin (kty t) cf.2.2.1 cf.2.2.2 B.2.2.2.1 w.1 w.2.1 w.2.2.1 w.2.2.2.1 k (cw_obj hk cf.2.1) cf.1 j hj (B.2.2.2.2.1 _ hl) (fun _ h9 => h9) hfin (ty := .int) (by rw [cf.2.2.1 j hj, hty]) rfl rfl (by rw [fl_len]; exact hj) d (fun H1 locs1 P1 D1 S1 => kk p l e s m args below meth c X D A H1 locs1 ls Qc free B ⟨w.1, cw_pI (X := X) hk cf.2.1 hj hty ▸ P1, cw_pI (X := X) hk cf.2.1 hj hty ▸ D1, S1, w.2.2.2.2⟩ hL E)
theorem g_putL {t j ix k : Nat} {C : String} {T : u_T} {N : Nat} (cf : CF t C T N) (hk : S[k]? = some (t, N)) (hin : ∀ w ∈ u_ws C T N, w ∈ Ts) (hj : j < N) (hty : kty t j = .long) (hl : Cond.fieldLink own ix (T j).1 (T j).2.1 (T j).2.2.1 ∈ Ts) (hfin : (T j).2.2.2 = false) {v : Int64} (d : decode cc pc = .ok (.putfield ix, 3)) (kk : G own cc nL ret Ts R S r r' out (pc + 3) L st (pL h k j v)) : G own cc nL ret Ts R S r r' out pc L (.long v :: .ref k :: st) h :=
  fun p l e s m args below meth c X D A H locs ls Qc free B w hL E => va_put B.1 B.2.1 B.2.2.2.2.1 hin (kty t) cf.2.2.1 cf.2.2.2 B.2.2.2.1 w.1 w.2.1 w.2.2.1 w.2.2.2.1 k (cw_obj hk cf.2.1) cf.1 j hj (B.2.2.2.2.1 _ hl) (fun _ h9 => h9) hfin (ty := .long) (by rw [cf.2.2.1 j hj, hty]) rfl rfl (by rw [fl_len]; exact hj) d (fun H1 locs1 P1 D1 S1 => kk p l e s m args below meth c X D A H1 locs1 ls Qc free B ⟨w.1, cw_pL (X := X) hk cf.2.1 hj hty ▸ P1, cw_pL (X := X) hk cf.2.1 hj hty ▸ D1, S1, w.2.2.2.2⟩ hL E)
theorem g_iald {k n : Nat} (hk : S[k]? = some (100, n)) {i : Int32} (hi : vp_in i n) (d : decode cc pc = .ok (.iaload, 1)) (kk : G own cc nL ret Ts R S r r' out (pc + 1) L (.int (h.1 k i.toNatClampNeg) :: st) h) : G own cc nL ret Ts R S r r' out pc L (.int i :: .ref k :: st) h :=
  fun p l e s m args below meth c X D A H locs ls Qc free B w hL E => va_iald B.1 B.2.1 w.1 w.2.1 k 0 (cw_arI hk) rfl hi d (kk p l e s m args below meth c X D A H locs ls Qc free B w hL E)
theorem g_zald {k n : Nat} (hk : S[k]? = some (102, n)) {i : Int32} (hi : vp_in i n) (d : decode cc pc = .ok (.baload, 1)) (kk : G own cc nL ret Ts R S r r' out (pc + 1) L (.int (h.1 k i.toNatClampNeg) :: st) h) : G own cc nL ret Ts R S r r' out pc L (.int i :: .ref k :: st) h :=
  fun p l e s m args below meth c X D A H locs ls Qc free B w hL E => va_zald B.1 B.2.1 w.1 w.2.1 k 2 (cw_arZ hk) rfl hi d (kk p l e s m args below meth c X D A H locs ls Qc free B w hL E)
theorem g_lald {k n : Nat} (hk : S[k]? = some (101, n)) {i : Int32} (hi : vp_in i n) (d : decode cc pc = .ok (.laload, 1)) (kk : G own cc nL ret Ts R S r r' out (pc + 1) L (.long (h.2 k i.toNatClampNeg) :: st) h) : G own cc nL ret Ts R S r r' out pc L (.int i :: .ref k :: st) h :=
  fun p l e s m args below meth c X D A H locs ls Qc free B w hL E => va_lald B.1 B.2.1 w.1 w.2.1 k 1 (cw_arL hk) rfl hi d (kk p l e s m args below meth c X D A H locs ls Qc free B w hL E)
theorem g_iast {k n : Nat} (hk : S[k]? = some (100, n)) {i : Int32} (hi : vp_in i n) {x : Int32} (d : decode cc pc = .ok (.iastore, 1)) (kk : G own cc nL ret Ts R S r r' out (pc + 1) L st (pI h k i.toNatClampNeg x)) : G own cc nL ret Ts R S r r' out pc L (.int x :: .int i :: .ref k :: st) h :=
  fun p l e s m args below meth c X D A H locs ls Qc free B w hL E => va_iast B.1 B.2.1 w.1 w.2.1 w.2.2.1 w.2.2.2.1 k 0 (cw_arI hk) rfl hi d (fun H1 locs1 P1 D1 S1 => kk p l e s m args below meth c X D A H1 locs1 ls Qc free B ⟨w.1, cw_aI (X := X) hk ▸ P1, cw_aI (X := X) hk ▸ D1, S1, w.2.2.2.2⟩ hL E)
theorem g_zast {k n : Nat} (hk : S[k]? = some (102, n)) {i : Int32} (hi : vp_in i n) {x : Int32} (d : decode cc pc = .ok (.bastore, 1)) (kk : G own cc nL ret Ts R S r r' out (pc + 1) L st (pI h k i.toNatClampNeg (vp_nar .boolean x))) : G own cc nL ret Ts R S r r' out pc L (.int x :: .int i :: .ref k :: st) h :=
  fun p l e s m args below meth c X D A H locs ls Qc free B w hL E => va_zast B.1 B.2.1 w.1 w.2.1 w.2.2.1 w.2.2.2.1 k 2 (cw_arZ hk) rfl hi d (fun H1 locs1 P1 D1 S1 => kk p l e s m args below meth c X D A H1 locs1 ls Qc free B ⟨w.1, cw_aZ (X := X) hk ▸ P1, cw_aZ (X := X) hk ▸ D1, S1, w.2.2.2.2⟩ hL E)
theorem g_last {k n : Nat} (hk : S[k]? = some (101, n)) {i : Int32} (hi : vp_in i n) {x : Int64} (d : decode cc pc = .ok (.lastore, 1)) (kk : G own cc nL ret Ts R S r r' out (pc + 1) L st (pL h k i.toNatClampNeg x)) : G own cc nL ret Ts R S r r' out pc L (.long x :: .int i :: .ref k :: st) h :=
  fun p l e s m args below meth c X D A H locs ls Qc free B w hL E => va_last B.1 B.2.1 w.1 w.2.1 w.2.2.1 w.2.2.2.1 k 1 (cw_arL hk) rfl hi d (fun H1 locs1 P1 D1 S1 => kk p l e s m args below meth c X D A H1 locs1 ls Qc free B ⟨w.1, cw_aL (X := X) hk ▸ P1, cw_aL (X := X) hk ▸ D1, S1, w.2.2.2.2⟩ hL E)
theorem g_alen {k n : Nat} (hk : S[k]? = some (100, n)) (d : decode cc pc = .ok (.arraylength, 1)) (kk : G own cc nL ret Ts R S r r' out (pc + 1) L (.int (Int32.ofNat n) :: st) h) : G own cc nL ret Ts R S r r' out pc L (.ref k :: st) h :=
  fun p l e s m args below meth c X D A H locs ls Qc free B w hL E => va_alen B.1 B.2.1 w.1 w.2.1 k 0 (cw_arI hk) (ty := .int) rfl rfl d (kk p l e s m args below meth c X D A H locs ls Qc free B w hL E)
theorem g_max {ix : Nat} (h1 : Cond.methodLink own ix Lib.Math.max.name ∈ Ts) (h2 : Cond.static Lib.Math.max.name ∈ Ts) (h3 : Cond.initialized "java/lang/Math" ∈ Ts) (h4 : Cond.code Lib.Math.max.name Lib.Math.max.code 2 (some .int) ∈ Ts) (hf : 1 ≤ R.frames) (hs : (st.map fun v => v.category).sum + 13 ≤ R.locals) {x y : Int32} (d : decode cc pc = .ok (.invokestatic ix, 3)) (kk : G own cc nL ret Ts R S r r' out (pc + 3) L (.int (if x < y then y else x) :: st) h) : G own cc nL ret Ts R S r r' out pc L (.int y :: .int x :: st) h :=
  fun p l e s m args below meth c X D A H locs ls Qc free B w hL E => va_mmax B.1 B.2.1 (B.2.2.1.trans hL.1.symm) B.2.2.2.1 (B.2.2.2.2.1 _ h1) (B.2.2.2.2.1 _ h2) (B.2.2.2.2.1 _ h3) (B.2.2.2.2.1 _ h4) hf (by rw [lc_cats]; exact hs) (Nat.zero_le _) (Nat.zero_le _) d (kk p l e s m args below meth c X D A H locs ls Qc free B w hL E)
theorem g_min {ix : Nat} (h1 : Cond.methodLink own ix Lib.Math.min.name ∈ Ts) (h2 : Cond.static Lib.Math.min.name ∈ Ts) (h3 : Cond.initialized "java/lang/Math" ∈ Ts) (h4 : Cond.code Lib.Math.min.name Lib.Math.min.code 2 (some .int) ∈ Ts) (hf : 1 ≤ R.frames) (hs : (st.map fun v => v.category).sum + 13 ≤ R.locals) {x y : Int32} (d : decode cc pc = .ok (.invokestatic ix, 3)) (kk : G own cc nL ret Ts R S r r' out (pc + 3) L (.int (if y < x then y else x) :: st) h) : G own cc nL ret Ts R S r r' out pc L (.int y :: .int x :: st) h :=
  fun p l e s m args below meth c X D A H locs ls Qc free B w hL E => va_mmin B.1 B.2.1 (B.2.2.1.trans hL.1.symm) B.2.2.2.1 (B.2.2.2.2.1 _ h1) (B.2.2.2.2.1 _ h2) (B.2.2.2.2.1 _ h3) (B.2.2.2.2.1 _ h4) hf (by rw [lc_cats]; exact hs) (Nat.zero_le _) (Nat.zero_le _) d (kk p l e s m args below meth c X D A H locs ls Qc free B w hL E)
theorem g_copy {ix k0 k1 n0 n1 : Nat} (h1 : Cond.methodLink own ix arraycopyName ∈ Ts) (h2 : Cond.native arraycopyName ∈ Ts) (h3 : Cond.static arraycopyName ∈ Ts) (h4 : Cond.initialized "java/lang/System" ∈ Ts) (hf : 1 ≤ R.frames) (hs : (st.map fun v => v.category).sum + (nativeFrameWords "java/lang/System" "arraycopy" 5 + 11) ≤ R.locals) (hk0 : S[k0]? = some (100, n0)) (hk1 : S[k1]? = some (100, n1)) {sp dp n : Int32} (hc : (¬ sp < 0 ∧ ¬ dp < 0 ∧ ¬ n < 0) ∧ sp.toNatClampNeg + n.toNatClampNeg ≤ n0 ∧ dp.toNatClampNeg + n.toNatClampNeg ≤ n1) (d : decode cc pc = .ok (.invokestatic ix, 3)) (kk : G own cc nL ret Ts R S r r' out (pc + 3) L st (pC h k1 (va_cpy (h.1 k0) (h.1 k1) sp.toNatClampNeg dp.toNatClampNeg n.toNatClampNeg))) : G own cc nL ret Ts R S r r' out pc L (.int n :: .int dp :: .ref k1 :: .int sp :: .ref k0 :: st) h :=
  fun p l e s m args below meth c X D A H locs ls Qc free B w hL E => va_copyi B.1 B.2.1 (B.2.2.1.trans hL.1.symm) B.2.2.2.1 (B.2.2.2.2.1 _ h1) (B.2.2.2.2.1 _ h2) (B.2.2.2.2.1 _ h3) (B.2.2.2.2.1 _ h4) w.1 w.2.1 w.2.2.1 w.2.2.2.1 k0 k1 0 0 (cw_arI hk0) (cw_arI hk1) (ty := .int) rfl rfl rfl hc.1.1 hc.1.2.1 hc.1.2.2 hc.2.1 hc.2.2 (fun _ _ => rfl) hf (by rw [lc_cats]; exact hs) d (fun H1 locs1 P1 D1 S1 => kk p l e s m args below meth c X D A H1 locs1 ls Qc free B ⟨w.1, cw_aC (X := X) hk1 ▸ P1, cw_aC (X := X) hk1 ▸ D1, S1, w.2.2.2.2⟩ hL E)
theorem g_iret {v : Int32} (d : decode cc pc = .ok (.ireturn, 1)) : G own cc nL (some .int) Ts R S r r (some v, h) pc L [.int v] h :=
  fun p l e s m args below meth c X D A H locs ls Qc free B w hl E => W.iret B.1 B.2.1 B.2.2.2.2.2.1 (fun t ht hW => E.1 t H locs ht hW w) (fun q hq => E.2 _ (w.2.2.2.1.2.2 q hq)) d (hlocks := B.2.2.2.2.2.2)
theorem nar_z {v : Int32} (hz : v = 0 ∨ v = 1) : narrow .boolean (.int v) = .int v := by rcases hz with rfl | rfl <;> rfl
theorem g_zret {v : Int32} (hz : v = 0 ∨ v = 1) (d : decode cc pc = .ok (.ireturn, 1)) : G own cc nL (some .boolean) Ts R S r r (some v, h) pc L [.int v] h :=
  fun p l e s m args below meth c X D A H locs ls Qc free B w hl E => W.zret B.1 B.2.1 B.2.2.2.2.2.1 (nar_z hz) (fun t ht hW => E.1 t H locs ht hW w) (fun q hq => E.2 _ (w.2.2.2.1.2.2 q hq)) d (hlocks := B.2.2.2.2.2.2)
theorem g_vret (d : decode cc pc = .ok (.return_, 1)) : G own cc nL none Ts R S r r (none, h) pc L [] h :=
  fun p l e s m args below meth c X D A H locs ls Qc free B w hl E => W.vret B.1 B.2.1 B.2.2.2.2.2.1 (fun t ht hW => E.1 t H locs ht hW w) (fun q hq => E.2 _ (w.2.2.2.1.2.2 q hq)) d (hlocks := B.2.2.2.2.2.2)
theorem g_topH (k : ∀ y : Hp, y = h → G own cc nL ret Ts R S r r' out pc L st y) : G own cc nL ret Ts R S r r' out pc L st h := k h rfl
theorem g_topR (k : ∀ y : Rf, y = r → G own cc nL ret Ts R S y r' out pc L st h) : G own cc nL ret Ts R S r r' out pc L st h := k r rfl
theorem g_putR {t j ix k : Nat} {C : String} {T : u_T} {N : Nat} (cf : CF t C T N) (hk : S[k]? = some (t, N)) (hin : ∀ w ∈ u_ws C T N, w ∈ Ts) (hj : j < N) (hty : fk (kty t j) = 2) (hl : Cond.fieldLink own ix (T j).1 (T j).2.1 (T j).2.2.1 ∈ Ts) (hfin : (T j).2.2.2 = false) (hob : ∃ D, kty t j = .object D) {v : Nat} (d : decode cc pc = .ok (.putfield ix, 3)) (kk : G own cc nL ret Ts R S (pR r k j v) r' out (pc + 3) L st h) : G own cc nL ret Ts R S r r' out pc L (.ref v :: .ref k :: st) h := by
  intro p l e s m args below meth c X D A H locs ls Qc free B w hL E
  obtain ⟨Dn, hob⟩ := hob
  exact va_put B.1 B.2.1 B.2.2.2.2.1 hin (kty t) cf.2.2.1 cf.2.2.2 B.2.2.2.1 w.1 w.2.1 w.2.2.1 w.2.2.2.1 k (cw_obj hk cf.2.1) cf.1 j hj (B.2.2.2.2.1 _ hl) (fun _ h9 => h9) hfin (ty := .object Dn) (by rw [cf.2.2.1 j hj, hob]) rfl rfl (by rw [fl_len]; exact hj) d (fun H1 locs1 P1 D1 S1 => kk p l e s m args below meth c X D A H1 locs1 ls Qc free B ⟨w.1, cw_pR (X := X) hk cf.2.1 hj hty ▸ P1, cw_pR (X := X) hk cf.2.1 hj hty ▸ D1, S1, w.2.2.2.2⟩ hL E)
end GR
/-! ===== contracts ===== -/
def Wp (X : Cx) (D : va_G) (S : Shp) (r : Rf) (h : Hp) (U : State) : Prop := va_K D kcl (tys X) U ∧ va_P D kcl (cw X S r h) U.heap ∧ va_D (fun _ => True) (cw X S r h) ∧ Nst U
abbrev Wq (X : Cx) (D : va_G) (S : Shp) (A : Nat → Prop) (r' : Rf) (h' : Hp) (t : State) : Prop := va_K D kcl (tys X) t ∧ va_P D kcl (cw X S r' h') t.heap ∧ va_D A (cw X S r' h')
def CTi (y : MethodName) (ws : List Cond) (rm : Room) (S : Shp) (r : Rf) (av : List Value) (h : Hp) (r' : Rf) (v : Int32) (h' : Hp) : Prop :=
  ∀ (l : Launch) (X : Cx) (D : va_G) (sz : Nat), Met l y ws rm (va_Pc (av.map (ga X.1)) (fun U => U.heap.size = sz ∧ Wp X D S r h U)) (va_Qi (fun q (_ : Unit) => q = v) (fun _ t => Wq X D S (va_A (cw X S r h) sz) r' h' t) (va_A (cw X S r h) sz)) 0 0 (va_A (cw X S r h) sz)
def CTv (y : MethodName) (ws : List Cond) (rm : Room) (S : Shp) (r : Rf) (av : List Value) (h : Hp) (r' : Rf) (h' : Hp) : Prop :=
  ∀ (l : Launch) (X : Cx) (D : va_G) (sz : Nat), Met l y ws rm (va_Pc (av.map (ga X.1)) (fun U => U.heap.size = sz ∧ Wp X D S r h U)) (va_Qv (fun (_ : Unit) => True) (fun _ t => Wq X D S (va_A (cw X S r h) sz) r' h' t) (va_A (cw X S r h) sz)) 0 0 (va_A (cw X S r h) sz)
theorem lg_len (al : Nat → Nat) (av : List Value) : (lg_sl (av.map (ga al))).length = (lg_sl av).length := by
  induction av with
  | nil => rfl
  | cons v vs ih =>
    simp only [lg_sl, List.map_cons, List.flatMap_cons, List.length_append] at ih ⊢
    rw [ih, ga_cat]
    by_cases hc : v.category = 2 <;> simp [hc]
section CTs
variable {y : MethodName} {ws ws' : List Cond} {rm : Room} {S : Shp} {r r' : Rf} {av : List Value} {h h' : Hp} {v : Int32} {cc : ByteArray} {nL : Nat} {ret : Option FieldType} {own : String}
theorem cti_of (hw : ws = .code y cc nL ret :: ws') (hp : plainName y.cls = true) (hy : y.cls = own) (hn : (lg_sl av).length ≤ nL) {L : List (Nat × Value)} (hL : lv_args 0 av = L) (g : G own cc nL ret ws rm S r r' (some v, h') 0 L [] h) : CTi y ws rm S r av h r' v h' := by
  intro l X D sz
  refine Met.ofW (cc := cc) (maxL := nL) (ret := ret) hp hw ?_
  intro p e s m args below meth c s₁ B hml hv
  obtain ⟨rfl, hsz, hK, hP, hD0, hN⟩ := hv
  subst hsz
  subst hL
  have hl := lv_entry (av.map (ga X.1)) (n := nL) (by rw [lg_len]; exact hn)
  rw [lc_args] at hl
  rw [lg_entry_eq]
  refine g p l e s m _ below meth c X D (va_A (cw X S r h) s.heap.size) s.heap [] _ _ _ ⟨B.exec, B.bytes, hml, hy ▸ findClass_of_methodNamed B.named, atoms_spec (ws := ws) B.pre, B.returns, B.notSynchronized⟩ ⟨hK, hP, hD0.self, va_S.rf, fun q hq => Or.inr hq, hN⟩ hl ⟨?_, fun q h => h⟩
  intro t H locs ht hW w
  exact ⟨⟨v, (), rfl, rfl, va_K.moved hW.alike hK, by rw [ht]; exact w.2.1, w.2.2.1⟩, w.2.2.2.1.F ht⟩
theorem ctv_of (hw : ws = .code y cc nL ret :: ws') (hp : plainName y.cls = true) (hy : y.cls = own) (hn : (lg_sl av).length ≤ nL) {L : List (Nat × Value)} (hL : lv_args 0 av = L) (g : G own cc nL ret ws rm S r r' (none, h') 0 L [] h) : CTv y ws rm S r av h r' h' := by
  intro l X D sz
  refine Met.ofW (cc := cc) (maxL := nL) (ret := ret) hp hw ?_
  intro p e s m args below meth c s₁ B hml hv
  obtain ⟨rfl, hsz, hK, hP, hD0, hN⟩ := hv
  subst hsz
  subst hL
  have hl := lv_entry (av.map (ga X.1)) (n := nL) (by rw [lg_len]; exact hn)
  rw [lc_args] at hl
  rw [lg_entry_eq]
  refine g p l e s m _ below meth c X D (va_A (cw X S r h) s.heap.size) s.heap [] _ _ _ ⟨B.exec, B.bytes, hml, hy ▸ findClass_of_methodNamed B.named, atoms_spec (ws := ws) B.pre, B.returns, B.notSynchronized⟩ ⟨hK, hP, hD0.self, va_S.rf, fun q hq => Or.inr hq, hN⟩ hl ⟨?_, fun q h => h⟩
  intro t H locs ht hW w
  exact ⟨⟨(), rfl, trivial, va_K.moved hW.alike hK, by rw [ht]; exact w.2.1, w.2.2.1⟩, w.2.2.2.1.F ht⟩
end CTs
theorem blP {av : List Value} {X : Cx} {D : va_G} {S : Shp} {r : Rf} {h : Hp} {sz : Nat} : FrameBlind (va_Pc av (fun U => U.heap.size = sz ∧ Wp X D S r h U)) :=
  fun a U g mk q => ⟨q.1, q.2.1, va_K.moved (u := U) (U := U.calling g mk a) (Vm.Alike.refl U.vm) q.2.2.1, q.2.2.2.1, q.2.2.2.2.1, q.2.2.2.2.2.same rfl⟩
theorem Wd.fr {X : Cx} {D : va_G} {A : Nat → Prop} {S : Shp} {r : Rf} {h : Hp} {s : State} {H : Heap} {locs : List Loc} (w : Wd X D A S r h s H locs) : ∀ q, va_A (cw X S r h) H.size q → A q :=
  fun q hq => hq.elim (fun ⟨k, e, he⟩ => w.2.2.1.2 k (q, e) he) (fun hq => w.2.2.2.2.1 q (Nat.le_trans w.2.2.2.1.1 hq))
theorem Wd.pre {X : Cx} {D : va_G} {A : Nat → Prop} {S : Shp} {r : Rf} {h : Hp} {s U : State} {H : Heap} {locs : List Loc} (w : Wd X D A S r h s H locs) (hU : U.heap = H) (hW : s.WarmedH U.vm) : U.heap.size = H.size ∧ Wp X D S r h U :=
  ⟨by rw [hU], va_K.moved hW.alike w.1, by rw [hU]; exact w.2.1, w.2.2.1.weaken (fun _ _ _ _ => trivial), w.2.2.2.2.2.warm hW⟩
section GC
variable {own : String} {cc : ByteArray} {nL : Nat} {ret : Option FieldType} {Ts : List Cond} {R : Room} {S : Shp} {r r' : Rf} {out : Option Int32 × Hp} {pc : Nat} {L : List (Nat × Value)} {st stk : List Value} {h h2 : Hp}
variable {y : MethodName} {ws2 ws' : List Cond} {rm : Room} {bytes : ByteArray} {maxL n ix b t N : Nat} {ret2 : Option FieldType} {C host : String} {T : u_T} {As : List Value} {v : Int32}

theorem g_callVi (hM : CTi y ws2 rm S r (.ref b :: As) h r v h2) (hg : GoodIn Ts (wsV own ix C y ws2)) (hw : ws2 = .code y bytes maxL ret2 :: ws') (hz : rm.cells = 0 ∧ rm.slots = 0) (hd : (y.cls = C ∧ y.cls ≠ "java/lang/invoke/MethodHandle" ∧ y.cls ≠ "java/lang/invoke/VarHandle" ∧ (parseMethodDescriptor y.desc).map (fun d => d.parameters.length) = some n)) (hR : rm.frames + 1 ≤ R.frames ∧ 8 + (maxL + 11) + rm.locals ≤ R.locals) (cf : CF t C T N) (hb : S[b]? = some (t, N)) (hn : As.length = n) (hs : stk = As.reverse ++ .ref b :: st) (hst : (st.map fun v => v.category).sum ≤ 8) (d : decode cc pc = .ok (.invokevirtual ix, 3)) (kk : G own cc nL ret Ts R S r r' out (pc + 3) L (.int v :: st) h2) : G own cc nL ret Ts R S r r' out pc L stk h := by
  intro p l e s m args below meth c X D A H locs ls Qc free B w hl E
  subst hs
  rw [show (As.reverse ++ Value.ref b :: st).map (ga X.1) = (As.map (ga X.1)).reverse ++ Value.ref (X.1 b) :: st.map (ga X.1) by simp [ga]]
  refine va_calli (va_runV (As := As.map (ga X.1)) (rest := st.map (ga X.1)) ⟨B.1, B.2.1, B.2.2.1, B.2.2.2.1, B.2.2.2.2.1⟩ (hM l X D H.size) (cwV n B.2.2.2.2.1 hg hw hz.1 hz.2 hd hR) ⟨blP, va_recv w.1 w.2.1 cf.1 (cw_obj hb cf.2.1), fun U hU hW => ⟨rfl, w.pre hU hW⟩⟩ rfl (by rw [List.length_map]; exact hn) hl.1 rfl (lv_room (by rw [lc_cats]; exact hst)) d ⟨Nat.zero_le _, Nat.zero_le _⟩) w.2.2.2.1 (fun q _ hq => w.fr q hq) w.fr (fun v1 u t H1 locs1 ht hvm hw1 hB hz1 hk1 hS => ?_)
  obtain ⟨hK1, hP1, hD1⟩ := hB
  rw [ht] at hP1
  subst hw1
  exact kk p l e s m args below meth c X D A H1 locs1 ls Qc free B ⟨w.1, hP1, hD1.weaken (fun _ _ _ h => w.fr _ h), hS, w.2.2.2.2⟩ hl E
theorem g_callSi (hM : CTi y ws2 rm S r (As) h r v h2) (hg : GoodIn Ts (va_wsS own ix y ws2)) (hw : ws2 = .code y bytes maxL ret2 :: ws') (hz : rm.cells = 0 ∧ rm.slots = 0) (hd : (y.cls ≠ "java/lang/invoke/MethodHandle" ∧ y.cls ≠ "java/lang/invoke/VarHandle" ∧ (parseMethodDescriptor y.desc).map (fun d => d.parameters.length) = some n)) (hR : rm.frames + 1 ≤ R.frames ∧ 8 + (maxL + 11) + rm.locals ≤ R.locals) (hn : As.length = n) (hs : stk = As.reverse ++ st) (hst : (st.map fun v => v.category).sum ≤ 8) (d : decode cc pc = .ok (.invokestatic ix, 3)) (kk : G own cc nL ret Ts R S r r' out (pc + 3) L (.int v :: st) h2) : G own cc nL ret Ts R S r r' out pc L stk h := by
  intro p l e s m args below meth c X D A H locs ls Qc free B w hl E
  subst hs
  rw [show (As.reverse ++ st).map (ga X.1) = (As.map (ga X.1)).reverse ++ st.map (ga X.1) by simp]
  refine va_calli (va_runS (As := As.map (ga X.1)) (rest := st.map (ga X.1)) ⟨B.1, B.2.1, B.2.2.1, B.2.2.2.1, B.2.2.2.2.1⟩ (hM l X D H.size) (va_cwS n B.2.2.2.2.1 hg hw hz.1 hz.2 hd hR) ⟨blP, fun U hU hW => ⟨rfl, w.pre hU hW⟩⟩ rfl (by rw [List.length_map]; exact hn) hl.1 rfl (lv_room (by rw [lc_cats]; exact hst)) d ⟨Nat.zero_le _, Nat.zero_le _⟩) w.2.2.2.1 (fun q _ hq => w.fr q hq) w.fr (fun v1 u t H1 locs1 ht hvm hw1 hB hz1 hk1 hS => ?_)
  obtain ⟨hK1, hP1, hD1⟩ := hB
  rw [ht] at hP1
  subst hw1
  exact kk p l e s m args below meth c X D A H1 locs1 ls Qc free B ⟨w.1, hP1, hD1.weaken (fun _ _ _ h => w.fr _ h), hS, w.2.2.2.2⟩ hl E
theorem g_callNi (hM : CTi y ws2 rm S r (As) h r v h2) (hg : GoodIn Ts ws2) (hN : ∀ s, Nst s → va_Nw (.methodLinkNest own ix y host) s) (hi : Cond.initialized y.cls ∈ Ts) (hst2 : Cond.static y ∈ Ts) (hw : ws2 = .code y bytes maxL ret2 :: ws') (hz : rm.cells = 0 ∧ rm.slots = 0) (hd : (y.cls ≠ "java/lang/invoke/MethodHandle" ∧ y.cls ≠ "java/lang/invoke/VarHandle" ∧ (parseMethodDescriptor y.desc).map (fun d => d.parameters.length) = some n)) (hR : rm.frames + 1 ≤ R.frames ∧ 8 + (maxL + 11) + rm.locals ≤ R.locals) (hn : As.length = n) (hs : stk = As.reverse ++ st) (hst : (st.map fun v => v.category).sum ≤ 8) (d : decode cc pc = .ok (.invokestatic ix, 3)) (kk : G own cc nL ret Ts R S r r' out (pc + 3) L (.int v :: st) h2) : G own cc nL ret Ts R S r r' out pc L stk h := by
  intro p l e s m args below meth c X D A H locs ls Qc free B w hl E
  subst hs
  rw [show (As.reverse ++ st).map (ga X.1) = (As.map (ga X.1)).reverse ++ st.map (ga X.1) by simp]
  refine va_calli (va_runSN (As := As.map (ga X.1)) (rest := st.map (ga X.1)) ⟨B.1, B.2.1, B.2.2.1, B.2.2.2.1, B.2.2.2.2.1⟩ (hM l X D H.size) ⟨va_cnB n B.2.2.2.2.1 hg hw hz.1 hz.2 (hN s w.2.2.2.2.2) (B.2.2.2.2.1 _ hi) hd hR, B.2.2.2.2.1 _ hst2, trivial⟩ ⟨blP, fun U hU hW => ⟨rfl, w.pre hU hW⟩⟩ rfl (by rw [List.length_map]; exact hn) hl.1 rfl (lv_room (by rw [lc_cats]; exact hst)) d ⟨Nat.zero_le _, Nat.zero_le _⟩) w.2.2.2.1 (fun q _ hq => w.fr q hq) w.fr (fun v1 u t H1 locs1 ht hvm hw1 hB hz1 hk1 hS => ?_)
  obtain ⟨hK1, hP1, hD1⟩ := hB
  rw [ht] at hP1
  subst hw1
  exact kk p l e s m args below meth c X D A H1 locs1 ls Qc free B ⟨w.1, hP1, hD1.weaken (fun _ _ _ h => w.fr _ h), hS, w.2.2.2.2⟩ hl E
theorem g_callVv (hM : CTv y ws2 rm S r (.ref b :: As) h r h2) (hg : GoodIn Ts (wsV own ix C y ws2)) (hw : ws2 = .code y bytes maxL ret2 :: ws') (hz : rm.cells = 0 ∧ rm.slots = 0) (hd : (y.cls = C ∧ y.cls ≠ "java/lang/invoke/MethodHandle" ∧ y.cls ≠ "java/lang/invoke/VarHandle" ∧ (parseMethodDescriptor y.desc).map (fun d => d.parameters.length) = some n)) (hR : rm.frames + 1 ≤ R.frames ∧ 8 + (maxL + 11) + rm.locals ≤ R.locals) (cf : CF t C T N) (hb : S[b]? = some (t, N)) (hn : As.length = n) (hs : stk = As.reverse ++ .ref b :: st) (hst : (st.map fun v => v.category).sum ≤ 8) (d : decode cc pc = .ok (.invokevirtual ix, 3)) (kk : G own cc nL ret Ts R S r r' out (pc + 3) L st h2) : G own cc nL ret Ts R S r r' out pc L stk h := by
  intro p l e s m args below meth c X D A H locs ls Qc free B w hl E
  subst hs
  rw [show (As.reverse ++ Value.ref b :: st).map (ga X.1) = (As.map (ga X.1)).reverse ++ Value.ref (X.1 b) :: st.map (ga X.1) by simp [ga]]
  refine va_callv (va_runV (As := As.map (ga X.1)) (rest := st.map (ga X.1)) ⟨B.1, B.2.1, B.2.2.1, B.2.2.2.1, B.2.2.2.2.1⟩ (hM l X D H.size) (cwV n B.2.2.2.2.1 hg hw hz.1 hz.2 hd hR) ⟨blP, va_recv w.1 w.2.1 cf.1 (cw_obj hb cf.2.1), fun U hU hW => ⟨rfl, w.pre hU hW⟩⟩ rfl (by rw [List.length_map]; exact hn) hl.1 rfl (lv_room (by rw [lc_cats]; exact hst)) d ⟨Nat.zero_le _, Nat.zero_le _⟩) w.2.2.2.1 (fun q _ hq => w.fr q hq) w.fr (fun u t H1 locs1 ht hvm hw1 hB hz1 hk1 hS => ?_)
  obtain ⟨hK1, hP1, hD1⟩ := hB
  rw [ht] at hP1
  exact kk p l e s m args below meth c X D A H1 locs1 ls Qc free B ⟨w.1, hP1, hD1.weaken (fun _ _ _ h => w.fr _ h), hS, w.2.2.2.2⟩ hl E
theorem g_callSv (hM : CTv y ws2 rm S r (As) h r h2) (hg : GoodIn Ts (va_wsS own ix y ws2)) (hw : ws2 = .code y bytes maxL ret2 :: ws') (hz : rm.cells = 0 ∧ rm.slots = 0) (hd : (y.cls ≠ "java/lang/invoke/MethodHandle" ∧ y.cls ≠ "java/lang/invoke/VarHandle" ∧ (parseMethodDescriptor y.desc).map (fun d => d.parameters.length) = some n)) (hR : rm.frames + 1 ≤ R.frames ∧ 8 + (maxL + 11) + rm.locals ≤ R.locals) (hn : As.length = n) (hs : stk = As.reverse ++ st) (hst : (st.map fun v => v.category).sum ≤ 8) (d : decode cc pc = .ok (.invokestatic ix, 3)) (kk : G own cc nL ret Ts R S r r' out (pc + 3) L st h2) : G own cc nL ret Ts R S r r' out pc L stk h := by
  intro p l e s m args below meth c X D A H locs ls Qc free B w hl E
  subst hs
  rw [show (As.reverse ++ st).map (ga X.1) = (As.map (ga X.1)).reverse ++ st.map (ga X.1) by simp]
  refine va_callv (va_runS (As := As.map (ga X.1)) (rest := st.map (ga X.1)) ⟨B.1, B.2.1, B.2.2.1, B.2.2.2.1, B.2.2.2.2.1⟩ (hM l X D H.size) (va_cwS n B.2.2.2.2.1 hg hw hz.1 hz.2 hd hR) ⟨blP, fun U hU hW => ⟨rfl, w.pre hU hW⟩⟩ rfl (by rw [List.length_map]; exact hn) hl.1 rfl (lv_room (by rw [lc_cats]; exact hst)) d ⟨Nat.zero_le _, Nat.zero_le _⟩) w.2.2.2.1 (fun q _ hq => w.fr q hq) w.fr (fun u t H1 locs1 ht hvm hw1 hB hz1 hk1 hS => ?_)
  obtain ⟨hK1, hP1, hD1⟩ := hB
  rw [ht] at hP1
  exact kk p l e s m args below meth c X D A H1 locs1 ls Qc free B ⟨w.1, hP1, hD1.weaken (fun _ _ _ h => w.fr _ h), hS, w.2.2.2.2⟩ hl E
theorem g_callNv (hM : CTv y ws2 rm S r (As) h r h2) (hg : GoodIn Ts ws2) (hN : ∀ s, Nst s → va_Nw (.methodLinkNest own ix y host) s) (hi : Cond.initialized y.cls ∈ Ts) (hst2 : Cond.static y ∈ Ts) (hw : ws2 = .code y bytes maxL ret2 :: ws') (hz : rm.cells = 0 ∧ rm.slots = 0) (hd : (y.cls ≠ "java/lang/invoke/MethodHandle" ∧ y.cls ≠ "java/lang/invoke/VarHandle" ∧ (parseMethodDescriptor y.desc).map (fun d => d.parameters.length) = some n)) (hR : rm.frames + 1 ≤ R.frames ∧ 8 + (maxL + 11) + rm.locals ≤ R.locals) (hn : As.length = n) (hs : stk = As.reverse ++ st) (hst : (st.map fun v => v.category).sum ≤ 8) (d : decode cc pc = .ok (.invokestatic ix, 3)) (kk : G own cc nL ret Ts R S r r' out (pc + 3) L st h2) : G own cc nL ret Ts R S r r' out pc L stk h := by
  intro p l e s m args below meth c X D A H locs ls Qc free B w hl E
  subst hs
  rw [show (As.reverse ++ st).map (ga X.1) = (As.map (ga X.1)).reverse ++ st.map (ga X.1) by simp]
  refine va_callv (va_runSN (As := As.map (ga X.1)) (rest := st.map (ga X.1)) ⟨B.1, B.2.1, B.2.2.1, B.2.2.2.1, B.2.2.2.2.1⟩ (hM l X D H.size) ⟨va_cnB n B.2.2.2.2.1 hg hw hz.1 hz.2 (hN s w.2.2.2.2.2) (B.2.2.2.2.1 _ hi) hd hR, B.2.2.2.2.1 _ hst2, trivial⟩ ⟨blP, fun U hU hW => ⟨rfl, w.pre hU hW⟩⟩ rfl (by rw [List.length_map]; exact hn) hl.1 rfl (lv_room (by rw [lc_cats]; exact hst)) d ⟨Nat.zero_le _, Nat.zero_le _⟩) w.2.2.2.1 (fun q _ hq => w.fr q hq) w.fr (fun u t H1 locs1 ht hvm hw1 hB hz1 hk1 hS => ?_)
  obtain ⟨hK1, hP1, hD1⟩ := hB
  rw [ht] at hP1
  exact kk p l e s m args below meth c X D A H1 locs1 ls Qc free B ⟨w.1, hP1, hD1.weaken (fun _ _ _ h => w.fr _ h), hS, w.2.2.2.2⟩ hl E
end GC
/-! ===== the words of the printed functions ===== -/
def it {s q : Type} (b : s → Option (s ⊕ q)) : Nat → s → Option q
  | 0, _ => none
  | n + 1, x => match b x with
    | none => none
    | some (.inl y) => it b n y
    | some (.inr z) => some z
theorem it_ind {s q : Type} {b : s → Option (s ⊕ q)} {z : q} {P : s → Prop} (hs : ∀ x w, b x = some w → (∀ y, w = .inl y → P y) → (∀ z', w = .inr z' → z' = z) → P x) : ∀ n x, it b n x = some z → P x := by
  intro n
  induction n with
  | zero => intro x hx; cases hx
  | succ n ih =>
    intro x hx
    unfold it at hx
    cases hb : b x with
    | none => rw [hb] at hx; cases hx
    | some w =>
      rw [hb] at hx
      cases w with
      | inl y => exact hs x _ hb (fun y' hy => by cases hy; exact ih _ hx) (fun z' hz => by cases hz)
      | inr z0 => exact hs x _ hb (fun y' hy => by cases hy) (fun z' hz => by cases hz; exact Option.some.inj hx)
def ck {q : Type} (i : Int32) (n : Nat) (k : Option q) : Option q := if i < 0 ∨ n ≤ i.toNatClampNeg then none else k
def cz {q : Type} (y : Int32) (k : Option q) : Option q := if y = 0 then none else k
def czL {q : Type} (y : Int64) (k : Option q) : Option q := if y = 0 then none else k
def cb {q : Type} (y : Int32) (k : Option q) : Option q := if y = 0 ∨ y = 1 then k else none
def cy {q : Type} (sp dp n : Int32) (n0 n1 : Nat) (k : Option q) : Option q := if (¬ sp < 0 ∧ ¬ dp < 0 ∧ ¬ n < 0) ∧ sp.toNatClampNeg + n.toNatClampNeg ≤ n0 ∧ dp.toNatClampNeg + n.toNatClampNeg ≤ n1 then k else none
def lE {a q : Type} (x : a) (f : a → Option q) : Option q := f x
theorem ck_s {q : Type} {i : Int32} {n : Nat} {k : Option q} {z : q} (h : ck i n k = some z) : vp_in i n ∧ k = some z := by
  unfold ck at h
  by_cases c : i < 0 ∨ n ≤ i.toNatClampNeg
  · rw [if_pos c] at h; cases h
  · rw [if_neg c] at h; exact ⟨c, h⟩
theorem cz_s {q : Type} {y : Int32} {k : Option q} {z : q} (h : cz y k = some z) : (¬ y = 0) ∧ k = some z := by
  unfold cz at h
  by_cases c : y = 0
  · rw [if_pos c] at h; cases h
  · rw [if_neg c] at h; exact ⟨c, h⟩
theorem czL_s {q : Type} {y : Int64} {k : Option q} {z : q} (h : czL y k = some z) : (¬ y = 0) ∧ k = some z := by
  unfold czL at h
  by_cases c : y = 0
  · rw [if_pos c] at h; cases h
  · rw [if_neg c] at h; exact ⟨c, h⟩
theorem cb_s {q : Type} {y : Int32} {k : Option q} {z : q} (h : cb y k = some z) : (y = 0 ∨ y = 1) ∧ k = some z := by
  unfold cb at h
  by_cases c : y = 0 ∨ y = 1
  · rw [if_pos c] at h; exact ⟨c, h⟩
  · rw [if_neg c] at h; cases h
theorem cy_s {q : Type} {sp dp n : Int32} {n0 n1 : Nat} {k : Option q} {z : q} (h : cy sp dp n n0 n1 k = some z) : ((¬ sp < 0 ∧ ¬ dp < 0 ∧ ¬ n < 0) ∧ sp.toNatClampNeg + n.toNatClampNeg ≤ n0 ∧ dp.toNatClampNeg + n.toNatClampNeg ≤ n1) ∧ k = some z := by
  unfold cy at h
  by_cases c : (¬ sp < 0 ∧ ¬ dp < 0 ∧ ¬ n < 0) ∧ sp.toNatClampNeg + n.toNatClampNeg ≤ n0 ∧ dp.toNatClampNeg + n.toNatClampNeg ≤ n1
  · rw [if_pos c] at h; exact ⟨c, h⟩
  · rw [if_neg c] at h; cases h
theorem lE_s {a q : Type} {x y : a} {f : a → Option q} {z : Option q} (h : lE x f = z) (e : y = x) : f y = z := by subst e; exact h
theorem if_t {q : Type} {c : Prop} [Decidable c] {a b z : q} (h : (if c then a else b) = z) (hc : c) : a = z := by rw [if_pos hc] at h; exact h
theorem if_f {q : Type} {c : Prop} [Decidable c] {a b z : q} (h : (if c then a else b) = z) (hc : ¬ c) : b = z := by rw [if_neg hc] at h; exact h
def bd2 {a b q : Type} (x : Option (a × b)) (f : a → b → Option q) : Option q := x.bind (fun c => f c.1 c.2)
theorem bd2_s {a b q : Type} {x : Option (a × b)} {f : a → b → Option q} {z : q} (h : bd2 x f = some z) : ∃ y w, x = some (y, w) ∧ f y w = some z := by
  obtain ⟨⟨y, w⟩, e, h⟩ := Option.bind_eq_some_iff.mp h
  exact ⟨y, w, e, h⟩
theorem bd_s {a q : Type} {x : Option a} {f : a → Option q} {z : q} (h : x.bind f = some z) : ∃ y, x = some y ∧ f y = some z := Option.bind_eq_some_iff.mp h
/-- where each class's references lead: the shape of what a field holds -/
def fsh (t j : Nat) : Option (Nat × Nat) := match t, j with
  | 0, 0 => some (100, 10)
  | 1, 0 => some (100, 10)
  | 1, 1 => some (100, 10)
  | 1, 2 => some (100, 10)
  | 1, 3 => some (100, 10)
  | 1, 4 => some (100, 10)
  | 1, 5 => some (100, 10)
  | 1, 6 => some (100, 10)
  | 1, 7 => some (100, 12)
  | 1, 8 => some (100, 8)
  | 2, 0 => some (100, 480)
  | 3, 0 => some (100, 6)
  | 3, 1 => some (100, 6)
  | 3, 2 => some (100, 20)
  | 4, 0 => some (100, 240)
  | 5, 0 => some (4, 5)
  | 5, 1 => some (1, 12)
  | 5, 2 => some (1, 12)
  | 5, 3 => some (0, 7)
  | 5, 4 => some (0, 7)
  | 5, 5 => some (2, 3)
  | 5, 6 => some (3, 7)
  | 5, 7 => some (100, 32)
  | 5, 8 => some (100, 2)
  | 6, 1 => some (100, 240)
  | 6, 9 => some (100, 20)
  | 6, 10 => some (100, 10)
  | 6, 11 => some (100, 10)
  | 6, 12 => some (100, 20)
  | 6, 13 => some (100, 12)
  | 6, 17 => some (100, 20)
  | 6, 18 => some (100, 10)
  | 6, 19 => some (100, 10)
  | 6, 20 => some (100, 20)
  | 6, 21 => some (100, 12)
  | 6, 22 => some (100, 16)
  | 6, 23 => some (100, 16)
  | 6, 26 => some (100, 480)
  | 6, 29 => some (100, 6)
  | 6, 30 => some (100, 6)
  | 6, 31 => some (102, 6)
  | 6, 33 => some (100, 20)
  | 6, 34 => some (100, 20)
  | 6, 35 => some (102, 2)
  | 6, 36 => some (100, 32)
  | 6, 37 => some (101, 2)
  | _, _ => none
def WF (S : Shp) (r : Rf) : Prop := ∀ k t n, S[k]? = some (t, n) → ∀ j q, fsh t j = some q → S[r k j]? = some q

theorem WF.put {S : Shp} {r : Rf} (hW : WF S r) {k t n j v : Nat} {q : Nat × Nat} (hk : S[k]? = some (t, n)) (hj : fsh t j = some q) (hv : S[v]? = some q) : WF S (pR r k j v) := by
  intro k2 t2 n2 h2 j2 q2 e2
  unfold pR
  by_cases a : k2 = k
  · subst a
    rw [if_pos rfl]
    rw [hk] at h2
    cases h2
    by_cases b : j2 = j
    · subst b
      rw [if_pos rfl, hv, ← hj, e2]
    · rw [if_neg b]; exact hW _ _ _ hk _ _ e2
  · rw [if_neg a]; exact hW _ _ _ h2 _ _ e2
