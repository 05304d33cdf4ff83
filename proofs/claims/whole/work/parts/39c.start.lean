/-! ===== the law, from its entry ===== -/
section LAWE
variable {D : va_G} {cl : List vw_C} {w1 w2 : va_W} {H : Heap} {A : Nat → Prop}
theorem pa_l (h : va_P D cl (w1 ++ w2) H) : va_P D cl w1 H := h.by (fun k => k) (fun k q hk => by
  rw [List.getElem?_append_left (List.getElem?_eq_some_iff.mp hk).1]; exact hk)
theorem pa_r (h : va_P D cl (w1 ++ w2) H) : va_P D cl w2 H := h.by (fun k => w1.length + k) (fun k q hk => by
  rw [List.getElem?_append_right (Nat.le_add_right _ _), Nat.add_sub_cancel_left]; exact hk)
theorem da_l (h : va_D A (w1 ++ w2)) : va_D A w1 := h.by (fun k => k) (fun k q hk => by
  rw [List.getElem?_append_left (List.getElem?_eq_some_iff.mp hk).1]; exact hk) (fun i j _ _ e => e)
theorem da_r (h : va_D A (w1 ++ w2)) : va_D A w2 := h.by (fun k => w1.length + k) (fun k q hk => by
  rw [List.getElem?_append_right (Nat.le_add_right _ _), Nat.add_sub_cancel_left]; exact hk) (fun i j _ _ e => Nat.add_left_cancel e)
theorem da_x (h : va_D A (w1 ++ w2)) {i j : Nat} {a c : Nat × va_E} (hp : w1[i]? = some a) (hq : w2[j]? = some c) : a.1 ≠ c.1 := by
  intro e
  have hi := (List.getElem?_eq_some_iff.mp hp).1
  have h1 := h.1 i (w1.length + j) a c (by rw [List.getElem?_append_left hi]; exact hp) (by rw [List.getElem?_append_right (Nat.le_add_right _ _), Nat.add_sub_cancel_left]; exact hq) e
  omega
end LAWE
theorem ar_known {ty : FieldType} {s : State} {args : Array Value} (h : (Cond.arrayClass ty).before args s = true) : ∃ cA : ClassId, ArrOfT s cA ty ∧ s.vm.findClass ("[" ++ ty.toString) = some cA := by
  obtain ⟨cA, kA, comp, h1, h2, h3⟩ := Cond.arrayClass_spec h
  exact ⟨cA, fun n z => ⟨fun k h => (by cases h), kA, h2, comp, h3⟩, h1⟩
set_option maxRecDepth 100000 in
theorem ls_nst {args : Array Value} {s : State} (hts : ∀ w ∈ lw_tbl, w.before args s = true) : Nst s ∧ Nst5 s :=
  ⟨⟨va_Nw.of rfl (hts (.methodLinkNest RX0 52 yX5_has RX5) (by decide +kernel)), va_Nw.of rfl (hts (.methodLinkNest RX1 49 yX5_has RX5) (by decide +kernel)), va_Nw.of rfl (hts (.methodLinkNest RX3 40 yX5_has RX5) (by decide +kernel)), va_Nw.of rfl (hts (.methodLinkNest RX4 102 yX5_isWithin RX5) (by decide +kernel))⟩, ⟨va_Nw.of rfl (hts (.methodLinkNest RX5 11 yX4_init RX5) (by decide +kernel)), va_Nw.of rfl (hts (.methodLinkNest RX5 18 yX1_init RX5) (by decide +kernel)), va_Nw.of rfl (hts (.methodLinkNest RX5 28 yX0_init RX5) (by decide +kernel)), va_Nw.of rfl (hts (.methodLinkNest RX5 38 yX2_init RX5) (by decide +kernel)), va_Nw.of rfl (hts (.methodLinkNest RX5 45 yX3_init RX5) (by decide +kernel))⟩⟩
set_option maxRecDepth 100000 in
theorem ls_known {args : Array Value} {s : State} (hts : ∀ w ∈ lw_tbl, w.before args s = true) : ∃ (D : va_G) (cI cL cZ : ClassId), va_K D kcl (ty3 cI cL cZ) s := by
  obtain ⟨c0, i0, k0⟩ := u_known (C := RX0) (T := TX0) (N := 7) (n := 7) hts wsX00_in (hts (.instantiable RX0 7) (by decide +kernel))
  obtain ⟨c1, i1, k1⟩ := u_known (C := RX1) (T := TX1) (N := 12) (n := 12) hts wsX10_in (hts (.instantiable RX1 12) (by decide +kernel))
  obtain ⟨c2, i2, k2⟩ := u_known (C := RX2) (T := TX2) (N := 3) (n := 3) hts wsX20_in (hts (.instantiable RX2 3) (by decide +kernel))
  obtain ⟨c3, i3, k3⟩ := u_known (C := RX3) (T := TX3) (N := 7) (n := 7) hts wsX30_in (hts (.instantiable RX3 7) (by decide +kernel))
  obtain ⟨c4, i4, k4⟩ := u_known (C := RX4) (T := TX4) (N := 5) (n := 5) hts wsX40_in (hts (.instantiable RX4 5) (by decide +kernel))
  obtain ⟨c5, i5, k5⟩ := u_known (C := RX5) (T := TX5) (N := 11) (n := 11) hts wsX50_in (hts (.instantiable RX5 11) (by decide +kernel))
  obtain ⟨c6, i6, k6⟩ := u_known (C := RX6) (T := TX6) (N := 38) (n := 38) hts wsX60_in (hts (.instantiable RX6 38) (by decide +kernel))
  obtain ⟨cI, aI, fI⟩ := ar_known (hts (.arrayClass .int) (by decide +kernel))
  obtain ⟨cL, aL, fL⟩ := ar_known (hts (.arrayClass .long) (by decide +kernel))
  obtain ⟨cZ, aZ, fZ⟩ := ar_known (hts (.arrayClass .boolean) (by decide +kernel))
  refine ⟨(fun k => match k with | 0 => c0 | 1 => c1 | 2 => c2 | 3 => c3 | 4 => c4 | 5 => c5 | _ => c6, fun k => match k with | 0 => i0 | 1 => i1 | 2 => i2 | 3 => i3 | 4 => i4 | 5 => i5 | _ => i6), cI, cL, cZ, ?_, ?_⟩
  · intro k q hq
    match k, hq with
    | 0, hq => cases hq; exact k0
    | 1, hq => cases hq; exact k1
    | 2, hq => cases hq; exact k2
    | 3, hq => cases hq; exact k3
    | 4, hq => cases hq; exact k4
    | 5, hq => cases hq; exact k5
    | 6, hq => cases hq; exact k6
    | k + 7, hq => cases hq
  · intro k q hq
    match k, hq with
    | 0, hq => cases hq; exact ⟨aI, fI⟩
    | 1, hq => cases hq; exact ⟨aL, fL⟩
    | 2, hq => cases hq; exact ⟨aZ, fZ⟩
    | k + 3, hq => cases hq
set_option maxHeartbeats 4000000 in
set_option maxRecDepth 100000 in
theorem whole_start {p : Program} {e : Env} {s : State} {m : MethodId} {below : List Frame} {meth : Method} {c : Code} (l : Launch) {b L : Nat} {xs : Nat → Int32} (hL : L ≤ 256) (C0 : lw_At p s m meth c b L xs) : W p l e room_1 s m #[Value.ref b] below meth c s.heap [] 0 0 (lw_Z below #[Value.ref b] s) (entryFrame m ([Value.ref b] : List Value).toArray 4) := by
  obtain ⟨hx, hb, hr, hml, hown, hts, hX, hbl, hlocks, hgv⟩ := C0
  have B : LB p s m c b L xs := ⟨hx, hb, hml, hown, fun w hw => hts w (wsL_law_in w hw), hX, hbl⟩
  have htl := B.2.2.2.2.1
  obtain ⟨hN, hN5⟩ := ls_nst hts
  obtain ⟨D, cI, cL, cZ, hK⟩ := ls_known hts
  have hA : ∀ q : Nat, s.heap.size ≤ q → LA s q := fun _ h => h
  have hS : va_S (LA s) s.heap s.heap [] := va_S.rf
  have hP : va_P D kcl [] s.heap := fun k q h => by simp at h
  have hD : va_D (LA s) [] := ⟨fun i j p q h => by simp at h, fun k q h => by simp at h⟩
  have hl := lv_entry ([.ref b]) (n := 4) (Nat.le_of_ble_eq_true rfl)
  rw [lg_entry_eq]
  generalize (lg_sl ([.ref b]) ++ List.replicate (4 - (lg_sl ([.ref b])).length) Slot.unset).toArray = ls at hl ⊢
  have hl : lv_has ls 4 [(0, .ref b)] := hl
  refine va_new (ci := 5) (fs := [.null, .null, .null, .null, .null, .null, .null, .null, .null, .int 0, .int 0]) (C := RX5) (T := TX5) (N := 11) hx hb hts wsX50_in tyX5 tyX5_ok hown (hts (.classLink RL 7 RX5) (by decide +kernel)) (hts (.instantiable RX5 11) (by decide +kernel)) (hts (.initialized RX5) (by decide +kernel)) hK hP hD hS hA rfl (fun j hj => by rcases (show j = 0 ∨ j = 1 ∨ j = 2 ∨ j = 3 ∨ j = 4 ∨ j = 5 ∨ j = 6 ∨ j = 7 ∨ j = 8 ∨ j = 9 ∨ j = 10 by omega) with rfl | rfl | rfl | rfl | rfl | rfl | rfl | rfl | rfl | rfl | rfl <;> rfl) (Nat.le_of_ble_eq_true rfl) (Nat.le_of_ble_eq_true rfl) dL_law_0 (fun q5 H hP hD hS => ?_)
  have hP : va_P D kcl [(q5, .inr (5, [.null, .null, .null, .null, .null, .null, .null, .null, .null, .int 0, .int 0]))] H := hP
  have hD : va_D (LA s) [(q5, .inr (5, [.null, .null, .null, .null, .null, .null, .null, .null, .null, .int 0, .int 0]))] := hD
  refine W.widen (k := 1) (n := 11) (Nat.le_of_ble_eq_true rfl) (Nat.le_of_ble_eq_true rfl) ?_
  refine lv_dup hx hb dL_law_3 rfl ?_
  have hFc := va_free (wc := [(q5, .inr (5, [.null, .null, .null, .null, .null, .null, .null, .null, .null, .int 0, .int 0]))]) hD hS hA [0] rfl
  refine va_callv (va_runI (As := []) (rest := [.ref q5]) ⟨hx, hb, hml, hown, htl⟩ (inX5_c l cI cL cZ D q5 H.size) (cwI 0 htl gL_law_X5_init rfl rfl rfl (hts (.initialized RX5) (by decide +kernel)) (hts (.methodLink RL 9 yX5_init) (by decide +kernel)) (hts (.instanceMethod yX5_init) (by decide +kernel)) rfl (by decide +kernel) ⟨Nat.le_of_ble_eq_true rfl, Nat.le_of_ble_eq_true rfl⟩) ⟨fun a U g mk q => by obtain ⟨q0, q1, qP, qK, qD, qN⟩ := q; exact ⟨q0, q1, qP, va_K.moved (u := U) (U := U.calling g mk a) (Vm.Alike.refl U.vm) qK, qD, qN.same rfl⟩, fun U hU hW => ⟨rfl, by rw [hU], by rw [hU]; exact hP, va_K.moved hW.alike hK, hD.weaken (fun _ _ _ _ => trivial), hN5.warm hW⟩⟩ rfl rfl hl.1 rfl (lv_room (Nat.le_of_ble_eq_true rfl)) dL_law_4 ⟨Nat.le_of_ble_eq_true rfl, Nat.le_of_ble_eq_true rfl⟩) hS (fun q _ h => hFc q h) hFc (fun u t H1 locs ht hvm hw hB hz1 hk1 hS => ?_)
  obtain ⟨hP1, -, hD1⟩ := hB
  rw [ht] at hP1
  have hD1 : va_D (LA s) (cw (u, cI, cL, cZ) Sx (RX false) hx0) := hD1.weaken (fun _ _ _ h => hFc _ h)
  refine W.widen (k := 35) (n := 1050) (Nat.le_of_ble_eq_true rfl) (Nat.le_of_ble_eq_true rfl) ?_
  refine lv_astore_n (lv' := [(1, .ref q5), (0, .ref b)]) hx hb dL_law_7 rfl hl (by decide) rfl (fun ls hl => ?_)
  refine va_new (ci := 6) (fs := [.int 0, .null, .int 0, .int 0, .int 0, .int 0, .int 0, .int 0, .int 0, .null, .null, .null, .null, .null, .int 0, .int 0, .int 0, .null, .null, .null, .null, .null, .null, .null, .int 0, .int 0, .null, .long 0, .int 0, .null, .null, .null, .int 0, .null, .null, .null, .null, .null]) (C := RX6) (T := TX6) (N := 38) hx hb hts wsX60_in tyX6 tyX6_ok hown (hts (.classLink RL 10 RX6) (by decide +kernel)) (hts (.instantiable RX6 38) (by decide +kernel)) (hts (.initialized RX6) (by decide +kernel)) hK hP1 hD1 hS hA rfl (fun j hj => by rcases (show j = 0 ∨ j = 1 ∨ j = 2 ∨ j = 3 ∨ j = 4 ∨ j = 5 ∨ j = 6 ∨ j = 7 ∨ j = 8 ∨ j = 9 ∨ j = 10 ∨ j = 11 ∨ j = 12 ∨ j = 13 ∨ j = 14 ∨ j = 15 ∨ j = 16 ∨ j = 17 ∨ j = 18 ∨ j = 19 ∨ j = 20 ∨ j = 21 ∨ j = 22 ∨ j = 23 ∨ j = 24 ∨ j = 25 ∨ j = 26 ∨ j = 27 ∨ j = 28 ∨ j = 29 ∨ j = 30 ∨ j = 31 ∨ j = 32 ∨ j = 33 ∨ j = 34 ∨ j = 35 ∨ j = 36 ∨ j = 37 by omega) with rfl | rfl | rfl | rfl | rfl | rfl | rfl | rfl | rfl | rfl | rfl | rfl | rfl | rfl | rfl | rfl | rfl | rfl | rfl | rfl | rfl | rfl | rfl | rfl | rfl | rfl | rfl | rfl | rfl | rfl | rfl | rfl | rfl | rfl | rfl | rfl | rfl | rfl <;> rfl) (Nat.le_of_ble_eq_true rfl) (Nat.le_of_ble_eq_true rfl) dL_law_8 (fun q6 H2 hP2 hD2 hS => ?_)
  refine W.widen (k := 36) (n := 1088) (Nat.le_of_ble_eq_true rfl) (Nat.le_of_ble_eq_true rfl) ?_
  refine lv_dup hx hb dL_law_11 rfl ?_
  have hPc := pa_r hP2
  have hDc := da_r hD2
  have hFc : ∀ q, va_A [(q6, .inr (6, [.int 0, .null, .int 0, .int 0, .int 0, .int 0, .int 0, .int 0, .int 0, .null, .null, .null, .null, .null, .int 0, .int 0, .int 0, .null, .null, .null, .null, .null, .null, .null, .int 0, .int 0, .null, .long 0, .int 0, .null, .null, .null, .int 0, .null, .null, .null, .null, .null]))] H2.size q → LA s q := fun q h => h.elim (fun ⟨k, e, hk⟩ => hDc.2 k (q, e) hk) (fun h => Nat.le_trans hS.1 h)
  refine va_callv (va_runI (As := []) (rest := [.ref q6]) ⟨hx, hb, hml, hown, htl⟩ (inX6_c l cI cL cZ D q6 H2.size) (cwI 0 htl gL_law_X6_init rfl rfl rfl (hts (.initialized RX6) (by decide +kernel)) (hts (.methodLink RL 12 yX6_init) (by decide +kernel)) (hts (.instanceMethod yX6_init) (by decide +kernel)) rfl (by decide +kernel) ⟨Nat.le_of_ble_eq_true rfl, Nat.le_of_ble_eq_true rfl⟩) ⟨fun a U g mk q => by obtain ⟨q0, q1, qP, qK, qD⟩ := q; exact ⟨q0, q1, qP, va_K.moved (u := U) (U := U.calling g mk a) (Vm.Alike.refl U.vm) qK, qD⟩, fun U hU hW => ⟨rfl, by rw [hU], by rw [hU]; exact hPc, va_K.moved hW.alike hK, hDc.weaken (fun _ _ _ _ => trivial)⟩⟩ rfl rfl hl.1 rfl (lv_room (Nat.le_of_ble_eq_true rfl)) dL_law_12 ⟨Nat.le_of_ble_eq_true rfl, Nat.le_of_ble_eq_true rfl⟩) hS (fun q _ h => hFc q h) hFc (fun u6 t6 H3 locs6 ht6 hvm6 hw6 hB6 hz6 hk6 hS => ?_)
  obtain ⟨hP6, -, hD6⟩ := hB6
  rw [ht6] at hP6
  have hno : ∀ (k : Nat) (q : Nat × va_E), (cw (u, cI, cL, cZ) Sx (RX false) hx0)[k]? = some q → ¬ va_A [(q6, .inr (6, [.int 0, .null, .int 0, .int 0, .int 0, .int 0, .int 0, .int 0, .int 0, .null, .null, .null, .null, .null, .int 0, .int 0, .int 0, .null, .null, .null, .null, .null, .null, .null, .int 0, .int 0, .null, .long 0, .int 0, .null, .null, .null, .int 0, .null, .null, .null, .null, .null]))] H2.size q.1 := by
    intro k q hq
    rintro (⟨k2, e2, hk2⟩ | hge)
    · exact da_x hD2 hq hk2 rfl
    · have := (pa_l hP2 k q hq).lt
      omega
  have hPx : va_P D kcl (cw (u, cI, cL, cZ) Sx (RX false) hx0) H3 := (pa_l hP2).kept (fun k q hq => hk6 _ ((pa_l hP2 k q hq).lt) (hno k q hq))
  have dj : Dj (u, cI, cL, cZ) (u6, cI, cL, cZ) Sx Sm := by
    intro i j hi hj heq
    have g1 := cw_at (X := (u, cI, cL, cZ)) (r := RX false) (h := hx0) (List.getElem?_eq_getElem hi)
    have g2 := cw_at (X := (u6, cI, cL, cZ)) (r := RM) (h := hm0) (List.getElem?_eq_getElem hj)
    have g3 := hD6.2 j _ g2
    refine hno i _ g1 ?_
    show va_A _ _ (u i)
    rw [show u i = u6 j from heq]
    exact g3
  have hDy : va_D (LA s) (cw (u6, cI, cL, cZ) Sm RM hm0) := hD6.weaken (fun _ _ _ h => hFc _ h)
  refine W.widen (k := 58) (n := 2078) (Nat.le_of_ble_eq_true rfl) (Nat.le_of_ble_eq_true rfl) ?_
  refine lv_astore_n (lv' := [(2, .ref q6), (1, .ref q5), (0, .ref b)]) hx hb dL_law_15 rfl hl (by decide) rfl (fun ls hl => ?_)
  refine lv_iconst (v := 0) hx hb dL_law_16 (by decide) ?_
  refine lv_istore_n (lv' := [(3, .int 0), (2, .ref q6), (1, .ref q5), (0, .ref b)]) hx hb dL_law_17 rfl hl (by decide) rfl (fun ls hl => ?_)
  subst hw
  subst hw6
  exact law_loop (X := (u, cI, cL, cZ)) (Y := (u6, cI, cL, cZ)) (D := D) hL B hr hlocks (L + 1) 0 (Nat.zero_le L) (by omega) false hx0 hm0 H3 locs6 ls ⟨⟨hK, hPx, da_l hD2, hS, hA, hN⟩, ⟨hK, hP6, hDy, hS, hA, hN⟩, dj, iv0⟩ (lv_sub hl [3, 2, 1, 0] (by unfold LL; rw [nI_0]; rfl))
