/-! ===== the law: its world, a call in it ===== -/
theorem fsh_lt {t j : Nat} {q : Nat × Nat} (h : fsh t j = some q) : j < 38 := by
  unfold fsh at h
  split at h
  all_goals first | omega | cases h
def wfc (S : Shp) (r : Rf) : Bool := (List.range S.length).all (fun k => (List.range 38).all (fun j => match S[k]? with
  | some q => (match fsh q.1 j with
    | some z => decide (S[r k j]? = some z)
    | none => true)
  | none => true))
theorem wf_of {S : Shp} {r : Rf} (h : wfc S r = true) : WF S r := by
  intro k t n hk j q hq
  have h1 := List.all_eq_true.mp h k (List.mem_range.mpr (List.getElem?_eq_some_iff.mp hk).1)
  have h2 := List.all_eq_true.mp h1 j (List.mem_range.mpr (fsh_lt hq))
  rw [hk] at h2
  simp only [hq] at h2
  exact of_decide_eq_true h2
theorem wfx : ∀ w : Bool, WF Sx (RX w) := fun w => wf_of (by cases w <;> decide +kernel)
theorem wfm : WF Sm RM := wf_of (by decide +kernel)
theorem iv0 : IV false hx0 hm0 := by
  refine ⟨kZ, fun _ => 0, kZ_ok, ?_, ?_, ?_, fun j _ => by rfl, ?_, Nat.zero_le _, ⟨0, by omega, rfl, rfl, fun i hi => by omega, rfl⟩, lg0 (p := 0) (q := 0) (lg := fun _ _ => 0) rfl rfl rfl rfl (by omega), tk0 rfl rfl rfl rfl rfl rfl, ⟨0, 0, by omega, rfl, fun i hi => ?_, rfl, rfl, by omega, fun i hi hg => ?_⟩⟩
  · exact ⟨rfl, rfl, rfl, fun l hl => absurd hl (Nat.not_lt_zero l), fun l hl => absurd hl (Nat.not_lt_zero l)⟩
  · exact ⟨rfl, rfl, rfl, fun l hl => absurd hl (Nat.not_lt_zero l), fun l hl => absurd hl (Nat.not_lt_zero l)⟩
  · exact ⟨rfl, rfl, rfl, rfl, rfl, rfl, fun l _ => rfl⟩
  · exact ⟨Nat.one_pos, Nat.one_pos, Nat.one_pos, Nat.zero_le _, Nat.zero_le _, fun l _ => ⟨Nat.zero_le _, fun h => absurd h (Nat.not_lt_zero l)⟩⟩
  · rw [Nat.zero_testBit]; rfl
  · rw [Nat.zero_testBit] at hg; cases hg
abbrev LA (s : State) : Nat → Prop := fun q => s.heap.size ≤ q
def Dj (X Y : Cx) (S S2 : Shp) : Prop := ∀ i j, i < S.length → j < S2.length → X.1 i ≠ Y.1 j
theorem Dj.sy {X Y : Cx} {S S2 : Shp} (h : Dj X Y S S2) : Dj Y X S2 S := fun i j hi hj e => h j i hj hi e.symm
/-- what holds of the law all along -/
def LB (p : Program) (s : State) (m : MethodId) (c : Code) (b L : Nat) (xs : Nat → Int32) : Prop :=
  p.tables.exec = Jvm.exec ∧ c.code = cL_law ∧ c.maxLocals = 4 ∧ s.vm.findClass RL = some m.cls ∧ (∀ w ∈ wsL_law, w.before #[Value.ref b] s = true) ∧ va_X b L xs s s.heap ∧ b < s.heap.size
def LSt (s : State) (D : va_G) (X Y : Cx) (H : Heap) (locs : List Jvm.Loc) (w : Bool) (hx hm : Hp) : Prop :=
  Wd X D (LA s) Sx (RX w) hx s H locs ∧ Wd Y D (LA s) Sm RM hm s H locs ∧ Dj X Y Sx Sm ∧ IV w hx hm
section LAW
variable {p : Program} {l : Launch} {e : Env} {s : State} {m : MethodId} {below : List Frame} {meth : Method} {c : Code} {b L : Nat} {xs : Nat → Int32} {Q : State → Prop} {X Y : Cx} {D : va_G} {H : Heap} {locs : List Jvm.Loc} {ls : Array Slot} {pc : Nat} {st stk : List Value}
theorem la_call {y : MethodName} {ws2 ws' : List Cond} {rm : Room} {bytes : ByteArray} {maxL n ix t N : Nat} {ret2 : Option FieldType} {C : String} {T : u_T} {As : List Value} {v : Int32} {S S2 : Shp} {r r' r2 : Rf} {h h' h2 : Hp} (B : LB p s m c b L xs) (w1 : Wd X D (LA s) S r h s H locs) (w2 : Wd Y D (LA s) S2 r2 h2 s H locs) (dj : Dj X Y S S2)
    (hM : CTi y ws2 rm S r (.ref 0 :: As) h r' v h') (hg : GoodIn wsL_law (wsV RL ix C y ws2)) (hw : ws2 = .code y bytes maxL ret2 :: ws') (hz : rm.cells = 0 ∧ rm.slots = 0) (hd : (y.cls = C ∧ y.cls ≠ "java/lang/invoke/MethodHandle" ∧ y.cls ≠ "java/lang/invoke/VarHandle" ∧ (parseMethodDescriptor y.desc).map (fun d => d.parameters.length) = some n)) (hR : rm.frames + 1 ≤ room_1.frames ∧ 8 + (maxL + 11) + rm.locals ≤ room_1.locals) (cf : CF t C T N) (h0 : S[0]? = some (t, N)) (hn : As.length = n) (hAs : As.map (ga X.1) = As) (hl : ls.size = 4) (hs : stk = As.reverse ++ .ref (X.1 0) :: st) (hst : (st.map fun v => v.category).sum ≤ 8) (d : decode cL_law pc = .ok (.invokevirtual ix, 3))
    (kk : ∀ (H1 : Heap) (locs1 : List Jvm.Loc), Wd X D (LA s) S r' h' s H1 locs1 → Wd Y D (LA s) S2 r2 h2 s H1 locs1 → W p l e room_1 s m #[Value.ref b] below meth c H1 locs1 58 2078 Q (F0 m (pc + 3) ls (.int v :: st))) : W p l e room_1 s m #[Value.ref b] below meth c H locs 58 2078 Q (F0 m pc ls stk) := by
  subst hs
  have hM2 := hM l X D H.size
  rw [List.map_cons, hAs] at hM2
  refine va_calli (va_runV (As := As) (rest := st) ⟨B.1, B.2.1, B.2.2.1, B.2.2.2.1, B.2.2.2.2.1⟩ hM2 (cwV n B.2.2.2.2.1 hg hw hz.1 hz.2 hd hR) ⟨blP, va_recv w1.1 w1.2.1 cf.1 (cw_obj h0 cf.2.1), fun U hU hW => ⟨rfl, w1.pre hU hW⟩⟩ rfl hn hl rfl (lv_room hst) d ⟨Nat.le_refl _, Nat.le_refl _⟩) w1.2.2.2.1 (fun q _ hq => w1.fr q hq) w1.fr (fun v1 u t H1 locs1 ht hvm hw1 hB hz1 hk1 hS => ?_)
  obtain ⟨hK1, hP1, hD1⟩ := hB
  rw [ht] at hP1
  subst hw1
  refine kk H1 locs1 ⟨w1.1, hP1, hD1.weaken (fun _ _ _ h => w1.fr _ h), hS, w1.2.2.2.2⟩ ⟨w2.1, w2.2.1.kept (fun k q hq => hk1 _ ((w2.2.1 k q hq).lt) ?_), w2.2.2.1, hS, w2.2.2.2.2⟩
  rintro (⟨k2, e2, hk2⟩ | hge)
  · rw [cw_get] at hq hk2
    cases h3 : S2[k]? with
    | none => rw [h3] at hq; cases hq
    | some z3 =>
      cases h4 : S[k2]? with
      | none => rw [h4] at hk2; cases hk2
      | some z4 =>
        rw [h3] at hq
        rw [h4] at hk2
        have e3 := congrArg Prod.fst (Option.some.inj hq)
        have e4 := congrArg Prod.fst (Option.some.inj hk2)
        have e5 : Y.1 k = q.1 := e3
        have e6 : X.1 k2 = q.1 := e4
        exact dj k2 k (List.getElem?_eq_some_iff.mp h4).1 (List.getElem?_eq_some_iff.mp h3).1 (e6.trans e5.symm)
  · have := (w2.2.1 k q hq).lt
    omega
end LAW
