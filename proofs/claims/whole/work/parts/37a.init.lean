/-! ===== the constructors ===== -/
abbrev ty3 (cI cL cZ : ClassId) : List (ClassId × FieldType) := [(cI, .int), (cL, .long), (cZ, .boolean)]
section NW
variable {p : Program} {l : Launch} {e : Env} {R : Room} {s : State} {m : MethodId} {args : Array Value} {below : List Frame} {meth : Method} {c : Code} {H H0 : Heap} {locs : List Jvm.Loc} {cells slots : Nat} {Q : State → Prop} {cc : ByteArray} {D : va_G} {ws : va_W} {A : Nat → Prop} {pc : Nat} {ls : Array Slot} {rest : List Value} {cI cL cZ : ClassId}
theorem nw_int (hexec : p.tables.exec = Jvm.exec) (hb : c.code = cc) (harr : (Cond.arrayClass .int).before args s = true) (hK : va_K D kcl (ty3 cI cL cZ) s) (hP : va_P D kcl ws H) (hD : va_D A ws) (hS : va_S A H0 H locs) (hA : ∀ q, H0.size ≤ q → A q) {n : Int32} {N : Nat} (hn : ¬ n < 0) (hN : n.toNatClampNeg = N) (hbytes : N * componentBytes .int ≤ 536870912) (hcells : cells + 1 ≤ R.cells) (hslots : slots + N ≤ R.slots) (hdg : decode cc pc = .ok (.newarray .int, 2))
    (kk : ∀ (q : Nat) (H1 : Heap), va_P D kcl (ws ++ [(q, .inl (cI, N, .inl (fun _ => 0)))]) H1 → va_D A (ws ++ [(q, .inl (cI, N, .inl (fun _ => 0)))]) → va_S A H0 H1 locs → W p l e R s m args below meth c H1 locs (cells + 1) (slots + N) Q (F0 m (pc + 2) ls (.ref q :: rest))) : W p l e R s m args below meth c H locs cells slots Q (F0 m pc ls (.int n :: rest)) := by
  refine va_newa (atype := .int) hexec hb harr (ty := .int) rfl hK hP hD hS hA (a0 := (N, .inl (fun _ => 0))) (fun cA => rfl) hn hN hbytes hcells hslots hdg (fun q cA H1 hK1 hP1 hD1 hS1 => ?_)
  have e1 : s.vm.findClass ("[" ++ (.int : FieldType).toString) = some cA := (hK1.2 3 (cA, .int) rfl).2
  have e2 : s.vm.findClass ("[" ++ (.int : FieldType).toString) = some cI := (hK.2 0 (cI, .int) rfl).2
  have e3 : cI = cA := Option.some.inj (e2.symm.trans e1)
  subst e3
  exact kk q H1 hP1 hD1 hS1
theorem nw_long (hexec : p.tables.exec = Jvm.exec) (hb : c.code = cc) (harr : (Cond.arrayClass .long).before args s = true) (hK : va_K D kcl (ty3 cI cL cZ) s) (hP : va_P D kcl ws H) (hD : va_D A ws) (hS : va_S A H0 H locs) (hA : ∀ q, H0.size ≤ q → A q) {n : Int32} {N : Nat} (hn : ¬ n < 0) (hN : n.toNatClampNeg = N) (hbytes : N * componentBytes .long ≤ 536870912) (hcells : cells + 1 ≤ R.cells) (hslots : slots + N ≤ R.slots) (hdg : decode cc pc = .ok (.newarray .long, 2))
    (kk : ∀ (q : Nat) (H1 : Heap), va_P D kcl (ws ++ [(q, .inl (cL, N, .inr (.inl (fun _ => 0))))]) H1 → va_D A (ws ++ [(q, .inl (cL, N, .inr (.inl (fun _ => 0))))]) → va_S A H0 H1 locs → W p l e R s m args below meth c H1 locs (cells + 1) (slots + N) Q (F0 m (pc + 2) ls (.ref q :: rest))) : W p l e R s m args below meth c H locs cells slots Q (F0 m pc ls (.int n :: rest)) := by
  refine va_newa (atype := .long) hexec hb harr (ty := .long) rfl hK hP hD hS hA (a0 := (N, .inr (.inl (fun _ => 0)))) (fun cA => rfl) hn hN hbytes hcells hslots hdg (fun q cA H1 hK1 hP1 hD1 hS1 => ?_)
  have e1 : s.vm.findClass ("[" ++ (.long : FieldType).toString) = some cA := (hK1.2 3 (cA, .long) rfl).2
  have e2 : s.vm.findClass ("[" ++ (.long : FieldType).toString) = some cL := (hK.2 1 (cL, .long) rfl).2
  have e3 : cL = cA := Option.some.inj (e2.symm.trans e1)
  subst e3
  exact kk q H1 hP1 hD1 hS1
theorem nw_bool (hexec : p.tables.exec = Jvm.exec) (hb : c.code = cc) (harr : (Cond.arrayClass .boolean).before args s = true) (hK : va_K D kcl (ty3 cI cL cZ) s) (hP : va_P D kcl ws H) (hD : va_D A ws) (hS : va_S A H0 H locs) (hA : ∀ q, H0.size ≤ q → A q) {n : Int32} {N : Nat} (hn : ¬ n < 0) (hN : n.toNatClampNeg = N) (hbytes : N * componentBytes .boolean ≤ 536870912) (hcells : cells + 1 ≤ R.cells) (hslots : slots + N ≤ R.slots) (hdg : decode cc pc = .ok (.newarray .boolean, 2))
    (kk : ∀ (q : Nat) (H1 : Heap), va_P D kcl (ws ++ [(q, .inl (cZ, N, .inl (fun _ => 0)))]) H1 → va_D A (ws ++ [(q, .inl (cZ, N, .inl (fun _ => 0)))]) → va_S A H0 H1 locs → W p l e R s m args below meth c H1 locs (cells + 1) (slots + N) Q (F0 m (pc + 2) ls (.ref q :: rest))) : W p l e R s m args below meth c H locs cells slots Q (F0 m pc ls (.int n :: rest)) := by
  refine va_newa (atype := .boolean) hexec hb harr (ty := .boolean) rfl hK hP hD hS hA (a0 := (N, .inl (fun _ => 0))) (fun cA => rfl) hn hN hbytes hcells hslots hdg (fun q cA H1 hK1 hP1 hD1 hS1 => ?_)
  have e1 : s.vm.findClass ("[" ++ (.boolean : FieldType).toString) = some cA := (hK1.2 3 (cA, .boolean) rfl).2
  have e2 : s.vm.findClass ("[" ++ (.boolean : FieldType).toString) = some cZ := (hK.2 2 (cZ, .boolean) rfl).2
  have e3 : cZ = cA := Option.some.inj (e2.symm.trans e1)
  subst e3
  exact kk q H1 hP1 hD1 hS1
end NW
def Nst5 (U : State) : Prop := va_Nw (.methodLinkNest RX5 11 yX4_init RX5) U ∧ va_Nw (.methodLinkNest RX5 18 yX1_init RX5) U ∧ va_Nw (.methodLinkNest RX5 28 yX0_init RX5) U ∧ va_Nw (.methodLinkNest RX5 38 yX2_init RX5) U ∧ va_Nw (.methodLinkNest RX5 45 yX3_init RX5) U
theorem Nst5.warm {s U : State} (hW : s.WarmedH U.vm) (h : Nst5 s) : Nst5 U := ⟨va_Nw.warmM hW h.1, va_Nw.warmM hW h.2.1, va_Nw.warmM hW h.2.2.1, va_Nw.warmM hW h.2.2.2.1, va_Nw.warmM hW h.2.2.2.2⟩
theorem Nst5.same {s U : State} (hW : s.vm = U.vm) (h : Nst5 s) : Nst5 U := ⟨va_Nw.same rfl hW h.1, va_Nw.same rfl hW h.2.1, va_Nw.same rfl hW h.2.2.1, va_Nw.same rfl hW h.2.2.2.1, va_Nw.same rfl hW h.2.2.2.2⟩
def Sx : Shp := [(5, 11), (4, 5), (100, 240), (1, 12), (100, 10), (100, 10), (100, 10), (100, 10), (100, 10), (100, 10), (100, 10), (100, 12), (100, 8), (1, 12), (100, 10), (100, 10), (100, 10), (100, 10), (100, 10), (100, 10), (100, 10), (100, 12), (100, 8), (0, 7), (100, 10), (0, 7), (100, 10), (2, 3), (100, 480), (3, 7), (100, 6), (100, 6), (100, 20), (100, 32), (100, 2)]
def Sm : Shp := [(6, 38), (100, 240), (100, 20), (100, 10), (100, 10), (100, 20), (100, 12), (100, 20), (100, 10), (100, 10), (100, 20), (100, 12), (100, 16), (100, 16), (100, 480), (100, 6), (100, 6), (102, 6), (100, 20), (100, 20), (102, 2), (100, 32), (101, 2)]
/-- the stores at first -/
def hx0 : Hp := (fun a b => if a = 1 then (if b = 4 then -1 else 0) else 0, fun _ _ => 0)
def hm0 : Hp := (fun a b => if a = 0 then (if b = 5 then -1 else 0) else 0, fun _ _ => 0)
set_option maxHeartbeats 4000000 in
set_option maxRecDepth 100000 in
theorem inX0_c (l : Launch) (cI cL cZ : ClassId) (D : va_G) (h0 sz : Nat) : Met l yX0_init wsX0_init ({ frames := 1, cells := 1, slots := 10, locals := 12 }) (va_Pc [.ref h0] (fun U => U.heap.size = sz ∧ va_P D kcl [(h0, .inr (0, [.null, .int 0, .int 0, .int 0, .int 0, .int 0, .int 0]))] U.heap ∧ va_K D kcl (ty3 cI cL cZ) U ∧ va_D (fun _ => True) [(h0, .inr (0, [.null, .int 0, .int 0, .int 0, .int 0, .int 0, .int 0]))])) (va_Qv (fun _ : Nat → Nat => True) (fun u t => va_P D kcl [(h0, .inr (0, [.ref (u 1), .int 0, .int 0, .int 0, .int 0, .int 0, .int 0])), ((u 1), .inl (cI, 10, .inl (fun _ => 0)))] t.heap ∧ va_K D kcl (ty3 cI cL cZ) t ∧ va_D (va_A [(h0, .inr (0, [.null, .int 0, .int 0, .int 0, .int 0, .int 0, .int 0]))] sz) [(h0, .inr (0, [.ref (u 1), .int 0, .int 0, .int 0, .int 0, .int 0, .int 0])), ((u 1), .inl (cI, 10, .inl (fun _ => 0)))]) (va_A [(h0, .inr (0, [.null, .int 0, .int 0, .int 0, .int 0, .int 0, .int 0]))] sz)) 1 10 (va_A [(h0, .inr (0, [.null, .int 0, .int 0, .int 0, .int 0, .int 0, .int 0]))] sz) := by
  refine Met.ofW (cc := cX0_init) (maxL := 1) (ret := none) (by decide) rfl ?_
  intro p e s m args below meth c s₁ B hml hv
  obtain ⟨rfl, hsz, hP, hK, hD0⟩ := hv
  have hx := B.exec
  have hb := B.bytes
  have hr := B.returns
  have hts := atoms_spec (ws := wsX0_init) B.pre
  have hown : s.vm.findClass RX0 = some m.cls := findClass_of_methodNamed B.named
  have hlocks := B.notSynchronized
  have hin : meth.name = "<init>" := (name_of_methodNamed B.named B.method).1
  subst hsz
  have hD := hD0.self (sz := s.heap.size)
  generalize hAe : va_A [(h0, .inr (0, [.null, .int 0, .int 0, .int 0, .int 0, .int 0, .int 0]))] s.heap.size = A at hD ⊢
  have hA : ∀ q : Nat, s.heap.size ≤ q → A q := fun q h => by rw [← hAe]; exact Or.inr h
  have hS : va_S A s.heap s.heap [] := va_S.rf
  have hP : va_P D kcl [(h0, .inr (0, [.null, .int 0, .int 0, .int 0, .int 0, .int 0, .int 0]))] s.heap := hP
  have hl := lv_entry ([.ref h0]) (n := 1) (Nat.le_of_ble_eq_true rfl)
  rw [lg_entry_eq]
  generalize (lg_sl ([.ref h0]) ++ List.replicate (1 - (lg_sl ([.ref h0])).length) Slot.unset).toArray = ls at hl ⊢
  have hl : lv_has ls 1 [(0, .ref h0)] := hl
  have hin0 : ∀ w ∈ u_ws RX0 TX0 7, w ∈ wsX0_init := by decide +kernel
  refine lv_aload_n hx hb dX0_init_0 rfl (lv_at hl 0 rfl) ?_
  refine W.objInit hx hb hown (hts (.methodLink RX0 3 objectInit) (by decide +kernel)) (hts (.instanceMethod objectInit) (by decide +kernel)) (hts _ (List.mem_of_getElem? (i := 3) rfl)) rfl (by rw [hml]; exact hl.1) rfl dX0_init_1 (Nat.le_of_ble_eq_true rfl) (Nat.le_of_ble_eq_true rfl) ?_
  refine W.eq (g2 := F0 m 4 ls []) rfl ?_
  refine lv_aload_n hx hb dX0_init_4 rfl (lv_at hl 0 rfl) ?_
  refine lv_bipush (v := 10) hx hb dX0_init_5 (by decide +kernel) ?_
  refine nw_int hx hb (hts (.arrayClass .int) (by decide +kernel)) hK hP hD hS hA (n := 10) (N := 10) (by decide) rfl (Nat.le_of_ble_eq_true rfl) (Nat.le_of_ble_eq_true rfl) (Nat.le_of_ble_eq_true rfl) dX0_init_7 (fun a7 H hP hD hS => ?_)
  have hP : va_P D kcl [(h0, .inr (0, [.null, .int 0, .int 0, .int 0, .int 0, .int 0, .int 0])), (a7, .inl (cI, 10, .inl (fun _ => 0)))] H := hP
  have hD : va_D A [(h0, .inr (0, [.null, .int 0, .int 0, .int 0, .int 0, .int 0, .int 0])), (a7, .inl (cI, 10, .inl (fun _ => 0)))] := hD
  refine W.widen (k := 1) (n := 10) (Nat.le_of_ble_eq_true rfl) (Nat.le_of_ble_eq_true rfl) ?_
  refine va_putF (D := D) (ci := 0) (v := .ref a7) (ty := .array .int) (C := RX0) (T := TX0) (N := 7) hx hb hts hin0 tyX0 tyX0_ok nmX0 hown hK hP hD hS 0 rfl rfl 0 (by decide) (hts (.fieldLink RX0 9 "LinkedIsles$Bonds" "strain" "[I") (by decide +kernel)) (fun _ h9 => h9) rfl hin rfl (by decide +kernel) rfl rfl (Nat.le_of_ble_eq_true rfl) dX0_init_9 (fun H locs hP hD hS => ?_)
  have hP : va_P D kcl [(h0, .inr (0, [.ref a7, .int 0, .int 0, .int 0, .int 0, .int 0, .int 0])), (a7, .inl (cI, 10, .inl (fun _ => 0)))] H := hP
  have hD : va_D A [(h0, .inr (0, [.ref a7, .int 0, .int 0, .int 0, .int 0, .int 0, .int 0])), (a7, .inl (cI, 10, .inl (fun _ => 0)))] := hD
  refine lv_aload_n hx hb dX0_init_12 rfl (lv_at hl 0 rfl) ?_
  refine lv_iconst (v := 0) hx hb dX0_init_13 (by decide +kernel) ?_
  refine va_put (D := D) (ci := 0) (v := .int 0) (ty := .int) (C := RX0) (T := TX0) (N := 7) hx hb hts hin0 tyX0 tyX0_ok nmX0 hown hK hP hD hS 0 rfl rfl 1 (by decide) (hts (.fieldLink RX0 15 "LinkedIsles$Bonds" "doneUp" "I") (by decide +kernel)) (fun _ h9 => h9) rfl (by decide +kernel) rfl rfl (Nat.le_of_ble_eq_true rfl) dX0_init_14 (fun H locs hP hD hS => ?_)
  have hP : va_P D kcl [(h0, .inr (0, [.ref a7, .int 0, .int 0, .int 0, .int 0, .int 0, .int 0])), (a7, .inl (cI, 10, .inl (fun _ => 0)))] H := hP
  have hD : va_D A [(h0, .inr (0, [.ref a7, .int 0, .int 0, .int 0, .int 0, .int 0, .int 0])), (a7, .inl (cI, 10, .inl (fun _ => 0)))] := hD
  refine lv_aload_n hx hb dX0_init_17 rfl (lv_at hl 0 rfl) ?_
  refine lv_iconst (v := 0) hx hb dX0_init_18 (by decide +kernel) ?_
  refine va_put (D := D) (ci := 0) (v := .int 0) (ty := .int) (C := RX0) (T := TX0) (N := 7) hx hb hts hin0 tyX0 tyX0_ok nmX0 hown hK hP hD hS 0 rfl rfl 2 (by decide) (hts (.fieldLink RX0 19 "LinkedIsles$Bonds" "turned" "I") (by decide +kernel)) (fun _ h9 => h9) rfl (by decide +kernel) rfl rfl (Nat.le_of_ble_eq_true rfl) dX0_init_19 (fun H locs hP hD hS => ?_)
  have hP : va_P D kcl [(h0, .inr (0, [.ref a7, .int 0, .int 0, .int 0, .int 0, .int 0, .int 0])), (a7, .inl (cI, 10, .inl (fun _ => 0)))] H := hP
  have hD : va_D A [(h0, .inr (0, [.ref a7, .int 0, .int 0, .int 0, .int 0, .int 0, .int 0])), (a7, .inl (cI, 10, .inl (fun _ => 0)))] := hD
  refine lv_aload_n hx hb dX0_init_22 rfl (lv_at hl 0 rfl) ?_
  refine lv_iconst (v := 0) hx hb dX0_init_23 (by decide +kernel) ?_
  refine va_put (D := D) (ci := 0) (v := .int 0) (ty := .int) (C := RX0) (T := TX0) (N := 7) hx hb hts hin0 tyX0 tyX0_ok nmX0 hown hK hP hD hS 0 rfl rfl 3 (by decide) (hts (.fieldLink RX0 22 "LinkedIsles$Bonds" "held" "I") (by decide +kernel)) (fun _ h9 => h9) rfl (by decide +kernel) rfl rfl (Nat.le_of_ble_eq_true rfl) dX0_init_24 (fun H locs hP hD hS => ?_)
  have hP : va_P D kcl [(h0, .inr (0, [.ref a7, .int 0, .int 0, .int 0, .int 0, .int 0, .int 0])), (a7, .inl (cI, 10, .inl (fun _ => 0)))] H := hP
  have hD : va_D A [(h0, .inr (0, [.ref a7, .int 0, .int 0, .int 0, .int 0, .int 0, .int 0])), (a7, .inl (cI, 10, .inl (fun _ => 0)))] := hD
  refine lv_aload_n hx hb dX0_init_27 rfl (lv_at hl 0 rfl) ?_
  refine lv_iconst (v := 0) hx hb dX0_init_28 (by decide +kernel) ?_
  refine va_put (D := D) (ci := 0) (v := .int 0) (ty := .int) (C := RX0) (T := TX0) (N := 7) hx hb hts hin0 tyX0 tyX0_ok nmX0 hown hK hP hD hS 0 rfl rfl 4 (by decide) (hts (.fieldLink RX0 25 "LinkedIsles$Bonds" "hours" "I") (by decide +kernel)) (fun _ h9 => h9) rfl (by decide +kernel) rfl rfl (Nat.le_of_ble_eq_true rfl) dX0_init_29 (fun H locs hP hD hS => ?_)
  have hP : va_P D kcl [(h0, .inr (0, [.ref a7, .int 0, .int 0, .int 0, .int 0, .int 0, .int 0])), (a7, .inl (cI, 10, .inl (fun _ => 0)))] H := hP
  have hD : va_D A [(h0, .inr (0, [.ref a7, .int 0, .int 0, .int 0, .int 0, .int 0, .int 0])), (a7, .inl (cI, 10, .inl (fun _ => 0)))] := hD
  refine lv_aload_n hx hb dX0_init_32 rfl (lv_at hl 0 rfl) ?_
  refine lv_iconst (v := 0) hx hb dX0_init_33 (by decide +kernel) ?_
  refine va_put (D := D) (ci := 0) (v := .int 0) (ty := .int) (C := RX0) (T := TX0) (N := 7) hx hb hts hin0 tyX0 tyX0_ok nmX0 hown hK hP hD hS 0 rfl rfl 5 (by decide) (hts (.fieldLink RX0 28 "LinkedIsles$Bonds" "silver" "I") (by decide +kernel)) (fun _ h9 => h9) rfl (by decide +kernel) rfl rfl (Nat.le_of_ble_eq_true rfl) dX0_init_34 (fun H locs hP hD hS => ?_)
  have hP : va_P D kcl [(h0, .inr (0, [.ref a7, .int 0, .int 0, .int 0, .int 0, .int 0, .int 0])), (a7, .inl (cI, 10, .inl (fun _ => 0)))] H := hP
  have hD : va_D A [(h0, .inr (0, [.ref a7, .int 0, .int 0, .int 0, .int 0, .int 0, .int 0])), (a7, .inl (cI, 10, .inl (fun _ => 0)))] := hD
  refine lv_aload_n hx hb dX0_init_37 rfl (lv_at hl 0 rfl) ?_
  refine lv_iconst (v := 0) hx hb dX0_init_38 (by decide +kernel) ?_
  refine va_put (D := D) (ci := 0) (v := .int 0) (ty := .int) (C := RX0) (T := TX0) (N := 7) hx hb hts hin0 tyX0 tyX0_ok nmX0 hown hK hP hD hS 0 rfl rfl 6 (by decide) (hts (.fieldLink RX0 31 "LinkedIsles$Bonds" "broke" "I") (by decide +kernel)) (fun _ h9 => h9) rfl (by decide +kernel) rfl rfl (Nat.le_of_ble_eq_true rfl) dX0_init_39 (fun H locs hP hD hS => ?_)
  have hP : va_P D kcl [(h0, .inr (0, [.ref a7, .int 0, .int 0, .int 0, .int 0, .int 0, .int 0])), (a7, .inl (cI, 10, .inl (fun _ => 0)))] H := hP
  have hD : va_D A [(h0, .inr (0, [.ref a7, .int 0, .int 0, .int 0, .int 0, .int 0, .int 0])), (a7, .inl (cI, 10, .inl (fun _ => 0)))] := hD
  exact W.vret hx hb hr (fun t ht hW => ⟨⟨(fun k => match k with | 0 => h0 | _ => a7), rfl, trivial, by rw [ht]; exact hP, va_K.moved hW.alike hK, hD⟩, hS.F ht⟩) hS.2.2 dX0_init_42
set_option maxHeartbeats 4000000 in
set_option maxRecDepth 100000 in
theorem inX1_c (l : Launch) (cI cL cZ : ClassId) (D : va_G) (h0 sz : Nat) : Met l yX1_init wsX1_init ({ frames := 1, cells := 9, slots := 90, locals := 12 }) (va_Pc [.ref h0] (fun U => U.heap.size = sz ∧ va_P D kcl [(h0, .inr (1, [.null, .null, .null, .null, .null, .null, .null, .null, .null, .int 0, .int 0, .int 0]))] U.heap ∧ va_K D kcl (ty3 cI cL cZ) U ∧ va_D (fun _ => True) [(h0, .inr (1, [.null, .null, .null, .null, .null, .null, .null, .null, .null, .int 0, .int 0, .int 0]))])) (va_Qv (fun _ : Nat → Nat => True) (fun u t => va_P D kcl [(h0, .inr (1, [.ref (u 1), .ref (u 2), .ref (u 3), .ref (u 4), .ref (u 5), .ref (u 6), .ref (u 7), .ref (u 8), .ref (u 9), .int 0, .int 0, .int 0])), ((u 1), .inl (cI, 10, .inl (fun _ => 0))), ((u 2), .inl (cI, 10, .inl (fun _ => 0))), ((u 3), .inl (cI, 10, .inl (fun _ => 0))), ((u 4), .inl (cI, 10, .inl (fun _ => 0))), ((u 5), .inl (cI, 10, .inl (fun _ => 0))), ((u 6), .inl (cI, 10, .inl (fun _ => 0))), ((u 7), .inl (cI, 10, .inl (fun _ => 0))), ((u 8), .inl (cI, 12, .inl (fun _ => 0))), ((u 9), .inl (cI, 8, .inl (fun _ => 0)))] t.heap ∧ va_K D kcl (ty3 cI cL cZ) t ∧ va_D (va_A [(h0, .inr (1, [.null, .null, .null, .null, .null, .null, .null, .null, .null, .int 0, .int 0, .int 0]))] sz) [(h0, .inr (1, [.ref (u 1), .ref (u 2), .ref (u 3), .ref (u 4), .ref (u 5), .ref (u 6), .ref (u 7), .ref (u 8), .ref (u 9), .int 0, .int 0, .int 0])), ((u 1), .inl (cI, 10, .inl (fun _ => 0))), ((u 2), .inl (cI, 10, .inl (fun _ => 0))), ((u 3), .inl (cI, 10, .inl (fun _ => 0))), ((u 4), .inl (cI, 10, .inl (fun _ => 0))), ((u 5), .inl (cI, 10, .inl (fun _ => 0))), ((u 6), .inl (cI, 10, .inl (fun _ => 0))), ((u 7), .inl (cI, 10, .inl (fun _ => 0))), ((u 8), .inl (cI, 12, .inl (fun _ => 0))), ((u 9), .inl (cI, 8, .inl (fun _ => 0)))]) (va_A [(h0, .inr (1, [.null, .null, .null, .null, .null, .null, .null, .null, .null, .int 0, .int 0, .int 0]))] sz)) 9 90 (va_A [(h0, .inr (1, [.null, .null, .null, .null, .null, .null, .null, .null, .null, .int 0, .int 0, .int 0]))] sz) := by
  refine Met.ofW (cc := cX1_init) (maxL := 1) (ret := none) (by decide) rfl ?_
  intro p e s m args below meth c s₁ B hml hv
  obtain ⟨rfl, hsz, hP, hK, hD0⟩ := hv
  have hx := B.exec
  have hb := B.bytes
  have hr := B.returns
  have hts := atoms_spec (ws := wsX1_init) B.pre
  have hown : s.vm.findClass RX1 = some m.cls := findClass_of_methodNamed B.named
  have hlocks := B.notSynchronized
  have hin : meth.name = "<init>" := (name_of_methodNamed B.named B.method).1
  subst hsz
  have hD := hD0.self (sz := s.heap.size)
  generalize hAe : va_A [(h0, .inr (1, [.null, .null, .null, .null, .null, .null, .null, .null, .null, .int 0, .int 0, .int 0]))] s.heap.size = A at hD ⊢
  have hA : ∀ q : Nat, s.heap.size ≤ q → A q := fun q h => by rw [← hAe]; exact Or.inr h
  have hS : va_S A s.heap s.heap [] := va_S.rf
  have hP : va_P D kcl [(h0, .inr (1, [.null, .null, .null, .null, .null, .null, .null, .null, .null, .int 0, .int 0, .int 0]))] s.heap := hP
  have hl := lv_entry ([.ref h0]) (n := 1) (Nat.le_of_ble_eq_true rfl)
  rw [lg_entry_eq]
  generalize (lg_sl ([.ref h0]) ++ List.replicate (1 - (lg_sl ([.ref h0])).length) Slot.unset).toArray = ls at hl ⊢
  have hl : lv_has ls 1 [(0, .ref h0)] := hl
  have hin0 : ∀ w ∈ u_ws RX1 TX1 12, w ∈ wsX1_init := by decide +kernel
  refine lv_aload_n hx hb dX1_init_0 rfl (lv_at hl 0 rfl) ?_
  refine W.objInit hx hb hown (hts (.methodLink RX1 3 objectInit) (by decide +kernel)) (hts (.instanceMethod objectInit) (by decide +kernel)) (hts _ (List.mem_of_getElem? (i := 3) rfl)) rfl (by rw [hml]; exact hl.1) rfl dX1_init_1 (Nat.le_of_ble_eq_true rfl) (Nat.le_of_ble_eq_true rfl) ?_
  refine W.eq (g2 := F0 m 4 ls []) rfl ?_
  refine lv_aload_n hx hb dX1_init_4 rfl (lv_at hl 0 rfl) ?_
  refine lv_bipush (v := 10) hx hb dX1_init_5 (by decide +kernel) ?_
  refine nw_int hx hb (hts (.arrayClass .int) (by decide +kernel)) hK hP hD hS hA (n := 10) (N := 10) (by decide) rfl (Nat.le_of_ble_eq_true rfl) (Nat.le_of_ble_eq_true rfl) (Nat.le_of_ble_eq_true rfl) dX1_init_7 (fun a7 H hP hD hS => ?_)
  have hP : va_P D kcl [(h0, .inr (1, [.null, .null, .null, .null, .null, .null, .null, .null, .null, .int 0, .int 0, .int 0])), (a7, .inl (cI, 10, .inl (fun _ => 0)))] H := hP
  have hD : va_D A [(h0, .inr (1, [.null, .null, .null, .null, .null, .null, .null, .null, .null, .int 0, .int 0, .int 0])), (a7, .inl (cI, 10, .inl (fun _ => 0)))] := hD
  refine W.widen (k := 1) (n := 10) (Nat.le_of_ble_eq_true rfl) (Nat.le_of_ble_eq_true rfl) ?_
  refine va_putF (D := D) (ci := 1) (v := .ref a7) (ty := .array .int) (C := RX1) (T := TX1) (N := 12) hx hb hts hin0 tyX1 tyX1_ok nmX1 hown hK hP hD hS 0 rfl rfl 0 (by decide) (hts (.fieldLink RX1 9 "LinkedIsles$Chart" "endA" "[I") (by decide +kernel)) (fun _ h9 => h9) rfl hin rfl (by decide +kernel) rfl rfl (Nat.le_of_ble_eq_true rfl) dX1_init_9 (fun H locs hP hD hS => ?_)
  have hP : va_P D kcl [(h0, .inr (1, [.ref a7, .null, .null, .null, .null, .null, .null, .null, .null, .int 0, .int 0, .int 0])), (a7, .inl (cI, 10, .inl (fun _ => 0)))] H := hP
  have hD : va_D A [(h0, .inr (1, [.ref a7, .null, .null, .null, .null, .null, .null, .null, .null, .int 0, .int 0, .int 0])), (a7, .inl (cI, 10, .inl (fun _ => 0)))] := hD
  refine lv_aload_n hx hb dX1_init_12 rfl (lv_at hl 0 rfl) ?_
  refine lv_bipush (v := 10) hx hb dX1_init_13 (by decide +kernel) ?_
  refine nw_int hx hb (hts (.arrayClass .int) (by decide +kernel)) hK hP hD hS hA (n := 10) (N := 10) (by decide) rfl (Nat.le_of_ble_eq_true rfl) (Nat.le_of_ble_eq_true rfl) (Nat.le_of_ble_eq_true rfl) dX1_init_15 (fun a15 H hP hD hS => ?_)
  have hP : va_P D kcl [(h0, .inr (1, [.ref a7, .null, .null, .null, .null, .null, .null, .null, .null, .int 0, .int 0, .int 0])), (a7, .inl (cI, 10, .inl (fun _ => 0))), (a15, .inl (cI, 10, .inl (fun _ => 0)))] H := hP
  have hD : va_D A [(h0, .inr (1, [.ref a7, .null, .null, .null, .null, .null, .null, .null, .null, .int 0, .int 0, .int 0])), (a7, .inl (cI, 10, .inl (fun _ => 0))), (a15, .inl (cI, 10, .inl (fun _ => 0)))] := hD
  refine W.widen (k := 2) (n := 20) (Nat.le_of_ble_eq_true rfl) (Nat.le_of_ble_eq_true rfl) ?_
  refine va_putF (D := D) (ci := 1) (v := .ref a15) (ty := .array .int) (C := RX1) (T := TX1) (N := 12) hx hb hts hin0 tyX1 tyX1_ok nmX1 hown hK hP hD hS 0 rfl rfl 1 (by decide) (hts (.fieldLink RX1 15 "LinkedIsles$Chart" "endB" "[I") (by decide +kernel)) (fun _ h9 => h9) rfl hin rfl (by decide +kernel) rfl rfl (Nat.le_of_ble_eq_true rfl) dX1_init_17 (fun H locs hP hD hS => ?_)
  have hP : va_P D kcl [(h0, .inr (1, [.ref a7, .ref a15, .null, .null, .null, .null, .null, .null, .null, .int 0, .int 0, .int 0])), (a7, .inl (cI, 10, .inl (fun _ => 0))), (a15, .inl (cI, 10, .inl (fun _ => 0)))] H := hP
  have hD : va_D A [(h0, .inr (1, [.ref a7, .ref a15, .null, .null, .null, .null, .null, .null, .null, .int 0, .int 0, .int 0])), (a7, .inl (cI, 10, .inl (fun _ => 0))), (a15, .inl (cI, 10, .inl (fun _ => 0)))] := hD
  refine lv_aload_n hx hb dX1_init_20 rfl (lv_at hl 0 rfl) ?_
  refine lv_bipush (v := 10) hx hb dX1_init_21 (by decide +kernel) ?_
  refine nw_int hx hb (hts (.arrayClass .int) (by decide +kernel)) hK hP hD hS hA (n := 10) (N := 10) (by decide) rfl (Nat.le_of_ble_eq_true rfl) (Nat.le_of_ble_eq_true rfl) (Nat.le_of_ble_eq_true rfl) dX1_init_23 (fun a23 H hP hD hS => ?_)
  have hP : va_P D kcl [(h0, .inr (1, [.ref a7, .ref a15, .null, .null, .null, .null, .null, .null, .null, .int 0, .int 0, .int 0])), (a7, .inl (cI, 10, .inl (fun _ => 0))), (a15, .inl (cI, 10, .inl (fun _ => 0))), (a23, .inl (cI, 10, .inl (fun _ => 0)))] H := hP
  have hD : va_D A [(h0, .inr (1, [.ref a7, .ref a15, .null, .null, .null, .null, .null, .null, .null, .int 0, .int 0, .int 0])), (a7, .inl (cI, 10, .inl (fun _ => 0))), (a15, .inl (cI, 10, .inl (fun _ => 0))), (a23, .inl (cI, 10, .inl (fun _ => 0)))] := hD
  refine W.widen (k := 3) (n := 30) (Nat.le_of_ble_eq_true rfl) (Nat.le_of_ble_eq_true rfl) ?_
  refine va_putF (D := D) (ci := 1) (v := .ref a23) (ty := .array .int) (C := RX1) (T := TX1) (N := 12) hx hb hts hin0 tyX1 tyX1_ok nmX1 hown hK hP hD hS 0 rfl rfl 2 (by decide) (hts (.fieldLink RX1 18 "LinkedIsles$Chart" "ends" "[I") (by decide +kernel)) (fun _ h9 => h9) rfl hin rfl (by decide +kernel) rfl rfl (Nat.le_of_ble_eq_true rfl) dX1_init_25 (fun H locs hP hD hS => ?_)
  have hP : va_P D kcl [(h0, .inr (1, [.ref a7, .ref a15, .ref a23, .null, .null, .null, .null, .null, .null, .int 0, .int 0, .int 0])), (a7, .inl (cI, 10, .inl (fun _ => 0))), (a15, .inl (cI, 10, .inl (fun _ => 0))), (a23, .inl (cI, 10, .inl (fun _ => 0)))] H := hP
  have hD : va_D A [(h0, .inr (1, [.ref a7, .ref a15, .ref a23, .null, .null, .null, .null, .null, .null, .int 0, .int 0, .int 0])), (a7, .inl (cI, 10, .inl (fun _ => 0))), (a15, .inl (cI, 10, .inl (fun _ => 0))), (a23, .inl (cI, 10, .inl (fun _ => 0)))] := hD
  refine lv_aload_n hx hb dX1_init_28 rfl (lv_at hl 0 rfl) ?_
  refine lv_bipush (v := 10) hx hb dX1_init_29 (by decide +kernel) ?_
  refine nw_int hx hb (hts (.arrayClass .int) (by decide +kernel)) hK hP hD hS hA (n := 10) (N := 10) (by decide) rfl (Nat.le_of_ble_eq_true rfl) (Nat.le_of_ble_eq_true rfl) (Nat.le_of_ble_eq_true rfl) dX1_init_31 (fun a31 H hP hD hS => ?_)
  have hP : va_P D kcl [(h0, .inr (1, [.ref a7, .ref a15, .ref a23, .null, .null, .null, .null, .null, .null, .int 0, .int 0, .int 0])), (a7, .inl (cI, 10, .inl (fun _ => 0))), (a15, .inl (cI, 10, .inl (fun _ => 0))), (a23, .inl (cI, 10, .inl (fun _ => 0))), (a31, .inl (cI, 10, .inl (fun _ => 0)))] H := hP
  have hD : va_D A [(h0, .inr (1, [.ref a7, .ref a15, .ref a23, .null, .null, .null, .null, .null, .null, .int 0, .int 0, .int 0])), (a7, .inl (cI, 10, .inl (fun _ => 0))), (a15, .inl (cI, 10, .inl (fun _ => 0))), (a23, .inl (cI, 10, .inl (fun _ => 0))), (a31, .inl (cI, 10, .inl (fun _ => 0)))] := hD
  refine W.widen (k := 4) (n := 40) (Nat.le_of_ble_eq_true rfl) (Nat.le_of_ble_eq_true rfl) ?_
  refine va_putF (D := D) (ci := 1) (v := .ref a31) (ty := .array .int) (C := RX1) (T := TX1) (N := 12) hx hb hts hin0 tyX1 tyX1_ok nmX1 hown hK hP hD hS 0 rfl rfl 3 (by decide) (hts (.fieldLink RX1 21 "LinkedIsles$Chart" "kind" "[I") (by decide +kernel)) (fun _ h9 => h9) rfl hin rfl (by decide +kernel) rfl rfl (Nat.le_of_ble_eq_true rfl) dX1_init_33 (fun H locs hP hD hS => ?_)
  have hP : va_P D kcl [(h0, .inr (1, [.ref a7, .ref a15, .ref a23, .ref a31, .null, .null, .null, .null, .null, .int 0, .int 0, .int 0])), (a7, .inl (cI, 10, .inl (fun _ => 0))), (a15, .inl (cI, 10, .inl (fun _ => 0))), (a23, .inl (cI, 10, .inl (fun _ => 0))), (a31, .inl (cI, 10, .inl (fun _ => 0)))] H := hP
  have hD : va_D A [(h0, .inr (1, [.ref a7, .ref a15, .ref a23, .ref a31, .null, .null, .null, .null, .null, .int 0, .int 0, .int 0])), (a7, .inl (cI, 10, .inl (fun _ => 0))), (a15, .inl (cI, 10, .inl (fun _ => 0))), (a23, .inl (cI, 10, .inl (fun _ => 0))), (a31, .inl (cI, 10, .inl (fun _ => 0)))] := hD
  refine lv_aload_n hx hb dX1_init_36 rfl (lv_at hl 0 rfl) ?_
  refine lv_bipush (v := 10) hx hb dX1_init_37 (by decide +kernel) ?_
  refine nw_int hx hb (hts (.arrayClass .int) (by decide +kernel)) hK hP hD hS hA (n := 10) (N := 10) (by decide) rfl (Nat.le_of_ble_eq_true rfl) (Nat.le_of_ble_eq_true rfl) (Nat.le_of_ble_eq_true rfl) dX1_init_39 (fun a39 H hP hD hS => ?_)
  have hP : va_P D kcl [(h0, .inr (1, [.ref a7, .ref a15, .ref a23, .ref a31, .null, .null, .null, .null, .null, .int 0, .int 0, .int 0])), (a7, .inl (cI, 10, .inl (fun _ => 0))), (a15, .inl (cI, 10, .inl (fun _ => 0))), (a23, .inl (cI, 10, .inl (fun _ => 0))), (a31, .inl (cI, 10, .inl (fun _ => 0))), (a39, .inl (cI, 10, .inl (fun _ => 0)))] H := hP
  have hD : va_D A [(h0, .inr (1, [.ref a7, .ref a15, .ref a23, .ref a31, .null, .null, .null, .null, .null, .int 0, .int 0, .int 0])), (a7, .inl (cI, 10, .inl (fun _ => 0))), (a15, .inl (cI, 10, .inl (fun _ => 0))), (a23, .inl (cI, 10, .inl (fun _ => 0))), (a31, .inl (cI, 10, .inl (fun _ => 0))), (a39, .inl (cI, 10, .inl (fun _ => 0)))] := hD
  refine W.widen (k := 5) (n := 50) (Nat.le_of_ble_eq_true rfl) (Nat.le_of_ble_eq_true rfl) ?_
  refine va_putF (D := D) (ci := 1) (v := .ref a39) (ty := .array .int) (C := RX1) (T := TX1) (N := 12) hx hb hts hin0 tyX1 tyX1_ok nmX1 hown hK hP hD hS 0 rfl rfl 4 (by decide) (hts (.fieldLink RX1 24 "LinkedIsles$Chart" "strength" "[I") (by decide +kernel)) (fun _ h9 => h9) rfl hin rfl (by decide +kernel) rfl rfl (Nat.le_of_ble_eq_true rfl) dX1_init_41 (fun H locs hP hD hS => ?_)
  have hP : va_P D kcl [(h0, .inr (1, [.ref a7, .ref a15, .ref a23, .ref a31, .ref a39, .null, .null, .null, .null, .int 0, .int 0, .int 0])), (a7, .inl (cI, 10, .inl (fun _ => 0))), (a15, .inl (cI, 10, .inl (fun _ => 0))), (a23, .inl (cI, 10, .inl (fun _ => 0))), (a31, .inl (cI, 10, .inl (fun _ => 0))), (a39, .inl (cI, 10, .inl (fun _ => 0)))] H := hP
  have hD : va_D A [(h0, .inr (1, [.ref a7, .ref a15, .ref a23, .ref a31, .ref a39, .null, .null, .null, .null, .int 0, .int 0, .int 0])), (a7, .inl (cI, 10, .inl (fun _ => 0))), (a15, .inl (cI, 10, .inl (fun _ => 0))), (a23, .inl (cI, 10, .inl (fun _ => 0))), (a31, .inl (cI, 10, .inl (fun _ => 0))), (a39, .inl (cI, 10, .inl (fun _ => 0)))] := hD
  refine lv_aload_n hx hb dX1_init_44 rfl (lv_at hl 0 rfl) ?_
  refine lv_bipush (v := 10) hx hb dX1_init_45 (by decide +kernel) ?_
  refine nw_int hx hb (hts (.arrayClass .int) (by decide +kernel)) hK hP hD hS hA (n := 10) (N := 10) (by decide) rfl (Nat.le_of_ble_eq_true rfl) (Nat.le_of_ble_eq_true rfl) (Nat.le_of_ble_eq_true rfl) dX1_init_47 (fun a47 H hP hD hS => ?_)
  have hP : va_P D kcl [(h0, .inr (1, [.ref a7, .ref a15, .ref a23, .ref a31, .ref a39, .null, .null, .null, .null, .int 0, .int 0, .int 0])), (a7, .inl (cI, 10, .inl (fun _ => 0))), (a15, .inl (cI, 10, .inl (fun _ => 0))), (a23, .inl (cI, 10, .inl (fun _ => 0))), (a31, .inl (cI, 10, .inl (fun _ => 0))), (a39, .inl (cI, 10, .inl (fun _ => 0))), (a47, .inl (cI, 10, .inl (fun _ => 0)))] H := hP
  have hD : va_D A [(h0, .inr (1, [.ref a7, .ref a15, .ref a23, .ref a31, .ref a39, .null, .null, .null, .null, .int 0, .int 0, .int 0])), (a7, .inl (cI, 10, .inl (fun _ => 0))), (a15, .inl (cI, 10, .inl (fun _ => 0))), (a23, .inl (cI, 10, .inl (fun _ => 0))), (a31, .inl (cI, 10, .inl (fun _ => 0))), (a39, .inl (cI, 10, .inl (fun _ => 0))), (a47, .inl (cI, 10, .inl (fun _ => 0)))] := hD
  refine W.widen (k := 6) (n := 60) (Nat.le_of_ble_eq_true rfl) (Nat.le_of_ble_eq_true rfl) ?_
  refine va_putF (D := D) (ci := 1) (v := .ref a47) (ty := .array .int) (C := RX1) (T := TX1) (N := 12) hx hb hts hin0 tyX1 tyX1_ok nmX1 hown hK hP hD hS 0 rfl rfl 5 (by decide) (hts (.fieldLink RX1 27 "LinkedIsles$Chart" "sideA" "[I") (by decide +kernel)) (fun _ h9 => h9) rfl hin rfl (by decide +kernel) rfl rfl (Nat.le_of_ble_eq_true rfl) dX1_init_49 (fun H locs hP hD hS => ?_)
  have hP : va_P D kcl [(h0, .inr (1, [.ref a7, .ref a15, .ref a23, .ref a31, .ref a39, .ref a47, .null, .null, .null, .int 0, .int 0, .int 0])), (a7, .inl (cI, 10, .inl (fun _ => 0))), (a15, .inl (cI, 10, .inl (fun _ => 0))), (a23, .inl (cI, 10, .inl (fun _ => 0))), (a31, .inl (cI, 10, .inl (fun _ => 0))), (a39, .inl (cI, 10, .inl (fun _ => 0))), (a47, .inl (cI, 10, .inl (fun _ => 0)))] H := hP
  have hD : va_D A [(h0, .inr (1, [.ref a7, .ref a15, .ref a23, .ref a31, .ref a39, .ref a47, .null, .null, .null, .int 0, .int 0, .int 0])), (a7, .inl (cI, 10, .inl (fun _ => 0))), (a15, .inl (cI, 10, .inl (fun _ => 0))), (a23, .inl (cI, 10, .inl (fun _ => 0))), (a31, .inl (cI, 10, .inl (fun _ => 0))), (a39, .inl (cI, 10, .inl (fun _ => 0))), (a47, .inl (cI, 10, .inl (fun _ => 0)))] := hD
  refine lv_aload_n hx hb dX1_init_52 rfl (lv_at hl 0 rfl) ?_
  refine lv_bipush (v := 10) hx hb dX1_init_53 (by decide +kernel) ?_
  refine nw_int hx hb (hts (.arrayClass .int) (by decide +kernel)) hK hP hD hS hA (n := 10) (N := 10) (by decide) rfl (Nat.le_of_ble_eq_true rfl) (Nat.le_of_ble_eq_true rfl) (Nat.le_of_ble_eq_true rfl) dX1_init_55 (fun a55 H hP hD hS => ?_)
  have hP : va_P D kcl [(h0, .inr (1, [.ref a7, .ref a15, .ref a23, .ref a31, .ref a39, .ref a47, .null, .null, .null, .int 0, .int 0, .int 0])), (a7, .inl (cI, 10, .inl (fun _ => 0))), (a15, .inl (cI, 10, .inl (fun _ => 0))), (a23, .inl (cI, 10, .inl (fun _ => 0))), (a31, .inl (cI, 10, .inl (fun _ => 0))), (a39, .inl (cI, 10, .inl (fun _ => 0))), (a47, .inl (cI, 10, .inl (fun _ => 0))), (a55, .inl (cI, 10, .inl (fun _ => 0)))] H := hP
  have hD : va_D A [(h0, .inr (1, [.ref a7, .ref a15, .ref a23, .ref a31, .ref a39, .ref a47, .null, .null, .null, .int 0, .int 0, .int 0])), (a7, .inl (cI, 10, .inl (fun _ => 0))), (a15, .inl (cI, 10, .inl (fun _ => 0))), (a23, .inl (cI, 10, .inl (fun _ => 0))), (a31, .inl (cI, 10, .inl (fun _ => 0))), (a39, .inl (cI, 10, .inl (fun _ => 0))), (a47, .inl (cI, 10, .inl (fun _ => 0))), (a55, .inl (cI, 10, .inl (fun _ => 0)))] := hD
  refine W.widen (k := 7) (n := 70) (Nat.le_of_ble_eq_true rfl) (Nat.le_of_ble_eq_true rfl) ?_
  refine va_putF (D := D) (ci := 1) (v := .ref a55) (ty := .array .int) (C := RX1) (T := TX1) (N := 12) hx hb hts hin0 tyX1 tyX1_ok nmX1 hown hK hP hD hS 0 rfl rfl 6 (by decide) (hts (.fieldLink RX1 30 "LinkedIsles$Chart" "sideB" "[I") (by decide +kernel)) (fun _ h9 => h9) rfl hin rfl (by decide +kernel) rfl rfl (Nat.le_of_ble_eq_true rfl) dX1_init_57 (fun H locs hP hD hS => ?_)
  have hP : va_P D kcl [(h0, .inr (1, [.ref a7, .ref a15, .ref a23, .ref a31, .ref a39, .ref a47, .ref a55, .null, .null, .int 0, .int 0, .int 0])), (a7, .inl (cI, 10, .inl (fun _ => 0))), (a15, .inl (cI, 10, .inl (fun _ => 0))), (a23, .inl (cI, 10, .inl (fun _ => 0))), (a31, .inl (cI, 10, .inl (fun _ => 0))), (a39, .inl (cI, 10, .inl (fun _ => 0))), (a47, .inl (cI, 10, .inl (fun _ => 0))), (a55, .inl (cI, 10, .inl (fun _ => 0)))] H := hP
  have hD : va_D A [(h0, .inr (1, [.ref a7, .ref a15, .ref a23, .ref a31, .ref a39, .ref a47, .ref a55, .null, .null, .int 0, .int 0, .int 0])), (a7, .inl (cI, 10, .inl (fun _ => 0))), (a15, .inl (cI, 10, .inl (fun _ => 0))), (a23, .inl (cI, 10, .inl (fun _ => 0))), (a31, .inl (cI, 10, .inl (fun _ => 0))), (a39, .inl (cI, 10, .inl (fun _ => 0))), (a47, .inl (cI, 10, .inl (fun _ => 0))), (a55, .inl (cI, 10, .inl (fun _ => 0)))] := hD
  refine lv_aload_n hx hb dX1_init_60 rfl (lv_at hl 0 rfl) ?_
  refine lv_bipush (v := 12) hx hb dX1_init_61 (by decide +kernel) ?_
  refine nw_int hx hb (hts (.arrayClass .int) (by decide +kernel)) hK hP hD hS hA (n := 12) (N := 12) (by decide) rfl (Nat.le_of_ble_eq_true rfl) (Nat.le_of_ble_eq_true rfl) (Nat.le_of_ble_eq_true rfl) dX1_init_63 (fun a63 H hP hD hS => ?_)
  have hP : va_P D kcl [(h0, .inr (1, [.ref a7, .ref a15, .ref a23, .ref a31, .ref a39, .ref a47, .ref a55, .null, .null, .int 0, .int 0, .int 0])), (a7, .inl (cI, 10, .inl (fun _ => 0))), (a15, .inl (cI, 10, .inl (fun _ => 0))), (a23, .inl (cI, 10, .inl (fun _ => 0))), (a31, .inl (cI, 10, .inl (fun _ => 0))), (a39, .inl (cI, 10, .inl (fun _ => 0))), (a47, .inl (cI, 10, .inl (fun _ => 0))), (a55, .inl (cI, 10, .inl (fun _ => 0))), (a63, .inl (cI, 12, .inl (fun _ => 0)))] H := hP
  have hD : va_D A [(h0, .inr (1, [.ref a7, .ref a15, .ref a23, .ref a31, .ref a39, .ref a47, .ref a55, .null, .null, .int 0, .int 0, .int 0])), (a7, .inl (cI, 10, .inl (fun _ => 0))), (a15, .inl (cI, 10, .inl (fun _ => 0))), (a23, .inl (cI, 10, .inl (fun _ => 0))), (a31, .inl (cI, 10, .inl (fun _ => 0))), (a39, .inl (cI, 10, .inl (fun _ => 0))), (a47, .inl (cI, 10, .inl (fun _ => 0))), (a55, .inl (cI, 10, .inl (fun _ => 0))), (a63, .inl (cI, 12, .inl (fun _ => 0)))] := hD
  refine W.widen (k := 8) (n := 82) (Nat.le_of_ble_eq_true rfl) (Nat.le_of_ble_eq_true rfl) ?_
  refine va_putF (D := D) (ci := 1) (v := .ref a63) (ty := .array .int) (C := RX1) (T := TX1) (N := 12) hx hb hts hin0 tyX1 tyX1_ok nmX1 hown hK hP hD hS 0 rfl rfl 7 (by decide) (hts (.fieldLink RX1 33 "LinkedIsles$Chart" "winds" "[I") (by decide +kernel)) (fun _ h9 => h9) rfl hin rfl (by decide +kernel) rfl rfl (Nat.le_of_ble_eq_true rfl) dX1_init_65 (fun H locs hP hD hS => ?_)
  have hP : va_P D kcl [(h0, .inr (1, [.ref a7, .ref a15, .ref a23, .ref a31, .ref a39, .ref a47, .ref a55, .ref a63, .null, .int 0, .int 0, .int 0])), (a7, .inl (cI, 10, .inl (fun _ => 0))), (a15, .inl (cI, 10, .inl (fun _ => 0))), (a23, .inl (cI, 10, .inl (fun _ => 0))), (a31, .inl (cI, 10, .inl (fun _ => 0))), (a39, .inl (cI, 10, .inl (fun _ => 0))), (a47, .inl (cI, 10, .inl (fun _ => 0))), (a55, .inl (cI, 10, .inl (fun _ => 0))), (a63, .inl (cI, 12, .inl (fun _ => 0)))] H := hP
  have hD : va_D A [(h0, .inr (1, [.ref a7, .ref a15, .ref a23, .ref a31, .ref a39, .ref a47, .ref a55, .ref a63, .null, .int 0, .int 0, .int 0])), (a7, .inl (cI, 10, .inl (fun _ => 0))), (a15, .inl (cI, 10, .inl (fun _ => 0))), (a23, .inl (cI, 10, .inl (fun _ => 0))), (a31, .inl (cI, 10, .inl (fun _ => 0))), (a39, .inl (cI, 10, .inl (fun _ => 0))), (a47, .inl (cI, 10, .inl (fun _ => 0))), (a55, .inl (cI, 10, .inl (fun _ => 0))), (a63, .inl (cI, 12, .inl (fun _ => 0)))] := hD
  refine lv_aload_n hx hb dX1_init_68 rfl (lv_at hl 0 rfl) ?_
  refine lv_bipush (v := 8) hx hb dX1_init_69 (by decide +kernel) ?_
  refine nw_int hx hb (hts (.arrayClass .int) (by decide +kernel)) hK hP hD hS hA (n := 8) (N := 8) (by decide) rfl (Nat.le_of_ble_eq_true rfl) (Nat.le_of_ble_eq_true rfl) (Nat.le_of_ble_eq_true rfl) dX1_init_71 (fun a71 H hP hD hS => ?_)
  have hP : va_P D kcl [(h0, .inr (1, [.ref a7, .ref a15, .ref a23, .ref a31, .ref a39, .ref a47, .ref a55, .ref a63, .null, .int 0, .int 0, .int 0])), (a7, .inl (cI, 10, .inl (fun _ => 0))), (a15, .inl (cI, 10, .inl (fun _ => 0))), (a23, .inl (cI, 10, .inl (fun _ => 0))), (a31, .inl (cI, 10, .inl (fun _ => 0))), (a39, .inl (cI, 10, .inl (fun _ => 0))), (a47, .inl (cI, 10, .inl (fun _ => 0))), (a55, .inl (cI, 10, .inl (fun _ => 0))), (a63, .inl (cI, 12, .inl (fun _ => 0))), (a71, .inl (cI, 8, .inl (fun _ => 0)))] H := hP
  have hD : va_D A [(h0, .inr (1, [.ref a7, .ref a15, .ref a23, .ref a31, .ref a39, .ref a47, .ref a55, .ref a63, .null, .int 0, .int 0, .int 0])), (a7, .inl (cI, 10, .inl (fun _ => 0))), (a15, .inl (cI, 10, .inl (fun _ => 0))), (a23, .inl (cI, 10, .inl (fun _ => 0))), (a31, .inl (cI, 10, .inl (fun _ => 0))), (a39, .inl (cI, 10, .inl (fun _ => 0))), (a47, .inl (cI, 10, .inl (fun _ => 0))), (a55, .inl (cI, 10, .inl (fun _ => 0))), (a63, .inl (cI, 12, .inl (fun _ => 0))), (a71, .inl (cI, 8, .inl (fun _ => 0)))] := hD
  refine W.widen (k := 9) (n := 90) (Nat.le_of_ble_eq_true rfl) (Nat.le_of_ble_eq_true rfl) ?_
  refine va_putF (D := D) (ci := 1) (v := .ref a71) (ty := .array .int) (C := RX1) (T := TX1) (N := 12) hx hb hts hin0 tyX1 tyX1_ok nmX1 hown hK hP hD hS 0 rfl rfl 8 (by decide) (hts (.fieldLink RX1 36 "LinkedIsles$Chart" "numbers" "[I") (by decide +kernel)) (fun _ h9 => h9) rfl hin rfl (by decide +kernel) rfl rfl (Nat.le_of_ble_eq_true rfl) dX1_init_73 (fun H locs hP hD hS => ?_)
  have hP : va_P D kcl [(h0, .inr (1, [.ref a7, .ref a15, .ref a23, .ref a31, .ref a39, .ref a47, .ref a55, .ref a63, .ref a71, .int 0, .int 0, .int 0])), (a7, .inl (cI, 10, .inl (fun _ => 0))), (a15, .inl (cI, 10, .inl (fun _ => 0))), (a23, .inl (cI, 10, .inl (fun _ => 0))), (a31, .inl (cI, 10, .inl (fun _ => 0))), (a39, .inl (cI, 10, .inl (fun _ => 0))), (a47, .inl (cI, 10, .inl (fun _ => 0))), (a55, .inl (cI, 10, .inl (fun _ => 0))), (a63, .inl (cI, 12, .inl (fun _ => 0))), (a71, .inl (cI, 8, .inl (fun _ => 0)))] H := hP
  have hD : va_D A [(h0, .inr (1, [.ref a7, .ref a15, .ref a23, .ref a31, .ref a39, .ref a47, .ref a55, .ref a63, .ref a71, .int 0, .int 0, .int 0])), (a7, .inl (cI, 10, .inl (fun _ => 0))), (a15, .inl (cI, 10, .inl (fun _ => 0))), (a23, .inl (cI, 10, .inl (fun _ => 0))), (a31, .inl (cI, 10, .inl (fun _ => 0))), (a39, .inl (cI, 10, .inl (fun _ => 0))), (a47, .inl (cI, 10, .inl (fun _ => 0))), (a55, .inl (cI, 10, .inl (fun _ => 0))), (a63, .inl (cI, 12, .inl (fun _ => 0))), (a71, .inl (cI, 8, .inl (fun _ => 0)))] := hD
  refine lv_aload_n hx hb dX1_init_76 rfl (lv_at hl 0 rfl) ?_
  refine lv_iconst (v := 0) hx hb dX1_init_77 (by decide +kernel) ?_
  refine va_put (D := D) (ci := 1) (v := .int 0) (ty := .int) (C := RX1) (T := TX1) (N := 12) hx hb hts hin0 tyX1 tyX1_ok nmX1 hown hK hP hD hS 0 rfl rfl 9 (by decide) (hts (.fieldLink RX1 39 "LinkedIsles$Chart" "islands" "I") (by decide +kernel)) (fun _ h9 => h9) rfl (by decide +kernel) rfl rfl (Nat.le_of_ble_eq_true rfl) dX1_init_78 (fun H locs hP hD hS => ?_)
  have hP : va_P D kcl [(h0, .inr (1, [.ref a7, .ref a15, .ref a23, .ref a31, .ref a39, .ref a47, .ref a55, .ref a63, .ref a71, .int 0, .int 0, .int 0])), (a7, .inl (cI, 10, .inl (fun _ => 0))), (a15, .inl (cI, 10, .inl (fun _ => 0))), (a23, .inl (cI, 10, .inl (fun _ => 0))), (a31, .inl (cI, 10, .inl (fun _ => 0))), (a39, .inl (cI, 10, .inl (fun _ => 0))), (a47, .inl (cI, 10, .inl (fun _ => 0))), (a55, .inl (cI, 10, .inl (fun _ => 0))), (a63, .inl (cI, 12, .inl (fun _ => 0))), (a71, .inl (cI, 8, .inl (fun _ => 0)))] H := hP
  have hD : va_D A [(h0, .inr (1, [.ref a7, .ref a15, .ref a23, .ref a31, .ref a39, .ref a47, .ref a55, .ref a63, .ref a71, .int 0, .int 0, .int 0])), (a7, .inl (cI, 10, .inl (fun _ => 0))), (a15, .inl (cI, 10, .inl (fun _ => 0))), (a23, .inl (cI, 10, .inl (fun _ => 0))), (a31, .inl (cI, 10, .inl (fun _ => 0))), (a39, .inl (cI, 10, .inl (fun _ => 0))), (a47, .inl (cI, 10, .inl (fun _ => 0))), (a55, .inl (cI, 10, .inl (fun _ => 0))), (a63, .inl (cI, 12, .inl (fun _ => 0))), (a71, .inl (cI, 8, .inl (fun _ => 0)))] := hD
  refine lv_aload_n hx hb dX1_init_81 rfl (lv_at hl 0 rfl) ?_
  refine lv_iconst (v := 0) hx hb dX1_init_82 (by decide +kernel) ?_
  refine va_put (D := D) (ci := 1) (v := .int 0) (ty := .int) (C := RX1) (T := TX1) (N := 12) hx hb hts hin0 tyX1 tyX1_ok nmX1 hown hK hP hD hS 0 rfl rfl 10 (by decide) (hts (.fieldLink RX1 43 "LinkedIsles$Chart" "links" "I") (by decide +kernel)) (fun _ h9 => h9) rfl (by decide +kernel) rfl rfl (Nat.le_of_ble_eq_true rfl) dX1_init_83 (fun H locs hP hD hS => ?_)
  have hP : va_P D kcl [(h0, .inr (1, [.ref a7, .ref a15, .ref a23, .ref a31, .ref a39, .ref a47, .ref a55, .ref a63, .ref a71, .int 0, .int 0, .int 0])), (a7, .inl (cI, 10, .inl (fun _ => 0))), (a15, .inl (cI, 10, .inl (fun _ => 0))), (a23, .inl (cI, 10, .inl (fun _ => 0))), (a31, .inl (cI, 10, .inl (fun _ => 0))), (a39, .inl (cI, 10, .inl (fun _ => 0))), (a47, .inl (cI, 10, .inl (fun _ => 0))), (a55, .inl (cI, 10, .inl (fun _ => 0))), (a63, .inl (cI, 12, .inl (fun _ => 0))), (a71, .inl (cI, 8, .inl (fun _ => 0)))] H := hP
  have hD : va_D A [(h0, .inr (1, [.ref a7, .ref a15, .ref a23, .ref a31, .ref a39, .ref a47, .ref a55, .ref a63, .ref a71, .int 0, .int 0, .int 0])), (a7, .inl (cI, 10, .inl (fun _ => 0))), (a15, .inl (cI, 10, .inl (fun _ => 0))), (a23, .inl (cI, 10, .inl (fun _ => 0))), (a31, .inl (cI, 10, .inl (fun _ => 0))), (a39, .inl (cI, 10, .inl (fun _ => 0))), (a47, .inl (cI, 10, .inl (fun _ => 0))), (a55, .inl (cI, 10, .inl (fun _ => 0))), (a63, .inl (cI, 12, .inl (fun _ => 0))), (a71, .inl (cI, 8, .inl (fun _ => 0)))] := hD
  refine lv_aload_n hx hb dX1_init_86 rfl (lv_at hl 0 rfl) ?_
  refine lv_iconst (v := 0) hx hb dX1_init_87 (by decide +kernel) ?_
  refine va_put (D := D) (ci := 1) (v := .int 0) (ty := .int) (C := RX1) (T := TX1) (N := 12) hx hb hts hin0 tyX1 tyX1_ok nmX1 hown hK hP hD hS 0 rfl rfl 11 (by decide) (hts (.fieldLink RX1 46 "LinkedIsles$Chart" "windCount" "I") (by decide +kernel)) (fun _ h9 => h9) rfl (by decide +kernel) rfl rfl (Nat.le_of_ble_eq_true rfl) dX1_init_88 (fun H locs hP hD hS => ?_)
  have hP : va_P D kcl [(h0, .inr (1, [.ref a7, .ref a15, .ref a23, .ref a31, .ref a39, .ref a47, .ref a55, .ref a63, .ref a71, .int 0, .int 0, .int 0])), (a7, .inl (cI, 10, .inl (fun _ => 0))), (a15, .inl (cI, 10, .inl (fun _ => 0))), (a23, .inl (cI, 10, .inl (fun _ => 0))), (a31, .inl (cI, 10, .inl (fun _ => 0))), (a39, .inl (cI, 10, .inl (fun _ => 0))), (a47, .inl (cI, 10, .inl (fun _ => 0))), (a55, .inl (cI, 10, .inl (fun _ => 0))), (a63, .inl (cI, 12, .inl (fun _ => 0))), (a71, .inl (cI, 8, .inl (fun _ => 0)))] H := hP
  have hD : va_D A [(h0, .inr (1, [.ref a7, .ref a15, .ref a23, .ref a31, .ref a39, .ref a47, .ref a55, .ref a63, .ref a71, .int 0, .int 0, .int 0])), (a7, .inl (cI, 10, .inl (fun _ => 0))), (a15, .inl (cI, 10, .inl (fun _ => 0))), (a23, .inl (cI, 10, .inl (fun _ => 0))), (a31, .inl (cI, 10, .inl (fun _ => 0))), (a39, .inl (cI, 10, .inl (fun _ => 0))), (a47, .inl (cI, 10, .inl (fun _ => 0))), (a55, .inl (cI, 10, .inl (fun _ => 0))), (a63, .inl (cI, 12, .inl (fun _ => 0))), (a71, .inl (cI, 8, .inl (fun _ => 0)))] := hD
  exact W.vret hx hb hr (fun t ht hW => ⟨⟨(fun k => match k with | 0 => h0 | 1 => a7 | 2 => a15 | 3 => a23 | 4 => a31 | 5 => a39 | 6 => a47 | 7 => a55 | 8 => a63 | _ => a71), rfl, trivial, by rw [ht]; exact hP, va_K.moved hW.alike hK, hD⟩, hS.F ht⟩) hS.2.2 dX1_init_91
set_option maxHeartbeats 4000000 in
set_option maxRecDepth 100000 in
theorem inX2_c (l : Launch) (cI cL cZ : ClassId) (D : va_G) (h0 sz : Nat) : Met l yX2_init wsX2_init ({ frames := 1, cells := 1, slots := 480, locals := 12 }) (va_Pc [.ref h0] (fun U => U.heap.size = sz ∧ va_P D kcl [(h0, .inr (2, [.null, .int 0, .int 0]))] U.heap ∧ va_K D kcl (ty3 cI cL cZ) U ∧ va_D (fun _ => True) [(h0, .inr (2, [.null, .int 0, .int 0]))])) (va_Qv (fun _ : Nat → Nat => True) (fun u t => va_P D kcl [(h0, .inr (2, [.ref (u 1), .int 0, .int 0])), ((u 1), .inl (cI, 480, .inl (fun _ => 0)))] t.heap ∧ va_K D kcl (ty3 cI cL cZ) t ∧ va_D (va_A [(h0, .inr (2, [.null, .int 0, .int 0]))] sz) [(h0, .inr (2, [.ref (u 1), .int 0, .int 0])), ((u 1), .inl (cI, 480, .inl (fun _ => 0)))]) (va_A [(h0, .inr (2, [.null, .int 0, .int 0]))] sz)) 1 480 (va_A [(h0, .inr (2, [.null, .int 0, .int 0]))] sz) := by
  refine Met.ofW (cc := cX2_init) (maxL := 1) (ret := none) (by decide) rfl ?_
  intro p e s m args below meth c s₁ B hml hv
  obtain ⟨rfl, hsz, hP, hK, hD0⟩ := hv
  have hx := B.exec
  have hb := B.bytes
  have hr := B.returns
  have hts := atoms_spec (ws := wsX2_init) B.pre
  have hown : s.vm.findClass RX2 = some m.cls := findClass_of_methodNamed B.named
  have hlocks := B.notSynchronized
  have hin : meth.name = "<init>" := (name_of_methodNamed B.named B.method).1
  subst hsz
  have hD := hD0.self (sz := s.heap.size)
  generalize hAe : va_A [(h0, .inr (2, [.null, .int 0, .int 0]))] s.heap.size = A at hD ⊢
  have hA : ∀ q : Nat, s.heap.size ≤ q → A q := fun q h => by rw [← hAe]; exact Or.inr h
  have hS : va_S A s.heap s.heap [] := va_S.rf
  have hP : va_P D kcl [(h0, .inr (2, [.null, .int 0, .int 0]))] s.heap := hP
  have hl := lv_entry ([.ref h0]) (n := 1) (Nat.le_of_ble_eq_true rfl)
  rw [lg_entry_eq]
  generalize (lg_sl ([.ref h0]) ++ List.replicate (1 - (lg_sl ([.ref h0])).length) Slot.unset).toArray = ls at hl ⊢
  have hl : lv_has ls 1 [(0, .ref h0)] := hl
  have hin0 : ∀ w ∈ u_ws RX2 TX2 3, w ∈ wsX2_init := by decide +kernel
  refine lv_aload_n hx hb dX2_init_0 rfl (lv_at hl 0 rfl) ?_
  refine W.objInit hx hb hown (hts (.methodLink RX2 3 objectInit) (by decide +kernel)) (hts (.instanceMethod objectInit) (by decide +kernel)) (hts _ (List.mem_of_getElem? (i := 3) rfl)) rfl (by rw [hml]; exact hl.1) rfl dX2_init_1 (Nat.le_of_ble_eq_true rfl) (Nat.le_of_ble_eq_true rfl) ?_
  refine W.eq (g2 := F0 m 4 ls []) rfl ?_
  refine lv_aload_n hx hb dX2_init_4 rfl (lv_at hl 0 rfl) ?_
  refine lv_sipush (v := 480) hx hb dX2_init_5 (by decide +kernel) ?_
  refine nw_int hx hb (hts (.arrayClass .int) (by decide +kernel)) hK hP hD hS hA (n := 480) (N := 480) (by decide) rfl (Nat.le_of_ble_eq_true rfl) (Nat.le_of_ble_eq_true rfl) (Nat.le_of_ble_eq_true rfl) dX2_init_8 (fun a8 H hP hD hS => ?_)
  have hP : va_P D kcl [(h0, .inr (2, [.null, .int 0, .int 0])), (a8, .inl (cI, 480, .inl (fun _ => 0)))] H := hP
  have hD : va_D A [(h0, .inr (2, [.null, .int 0, .int 0])), (a8, .inl (cI, 480, .inl (fun _ => 0)))] := hD
  refine W.widen (k := 1) (n := 480) (Nat.le_of_ble_eq_true rfl) (Nat.le_of_ble_eq_true rfl) ?_
  refine va_putF (D := D) (ci := 2) (v := .ref a8) (ty := .array .int) (C := RX2) (T := TX2) (N := 3) hx hb hts hin0 tyX2 tyX2_ok nmX2 hown hK hP hD hS 0 rfl rfl 0 (by decide) (hts (.fieldLink RX2 11 "LinkedIsles$Log" "rows" "[I") (by decide +kernel)) (fun _ h9 => h9) rfl hin rfl (by decide +kernel) rfl rfl (Nat.le_of_ble_eq_true rfl) dX2_init_10 (fun H locs hP hD hS => ?_)
  have hP : va_P D kcl [(h0, .inr (2, [.ref a8, .int 0, .int 0])), (a8, .inl (cI, 480, .inl (fun _ => 0)))] H := hP
  have hD : va_D A [(h0, .inr (2, [.ref a8, .int 0, .int 0])), (a8, .inl (cI, 480, .inl (fun _ => 0)))] := hD
  refine lv_aload_n hx hb dX2_init_13 rfl (lv_at hl 0 rfl) ?_
  refine lv_iconst (v := 0) hx hb dX2_init_14 (by decide +kernel) ?_
  refine va_put (D := D) (ci := 2) (v := .int 0) (ty := .int) (C := RX2) (T := TX2) (N := 3) hx hb hts hin0 tyX2 tyX2_ok nmX2 hown hK hP hD hS 0 rfl rfl 1 (by decide) (hts (.fieldLink RX2 17 "LinkedIsles$Log" "next" "I") (by decide +kernel)) (fun _ h9 => h9) rfl (by decide +kernel) rfl rfl (Nat.le_of_ble_eq_true rfl) dX2_init_15 (fun H locs hP hD hS => ?_)
  have hP : va_P D kcl [(h0, .inr (2, [.ref a8, .int 0, .int 0])), (a8, .inl (cI, 480, .inl (fun _ => 0)))] H := hP
  have hD : va_D A [(h0, .inr (2, [.ref a8, .int 0, .int 0])), (a8, .inl (cI, 480, .inl (fun _ => 0)))] := hD
  refine lv_aload_n hx hb dX2_init_18 rfl (lv_at hl 0 rfl) ?_
  refine lv_iconst (v := 0) hx hb dX2_init_19 (by decide +kernel) ?_
  refine va_put (D := D) (ci := 2) (v := .int 0) (ty := .int) (C := RX2) (T := TX2) (N := 3) hx hb hts hin0 tyX2 tyX2_ok nmX2 hown hK hP hD hS 0 rfl rfl 2 (by decide) (hts (.fieldLink RX2 21 "LinkedIsles$Log" "count" "I") (by decide +kernel)) (fun _ h9 => h9) rfl (by decide +kernel) rfl rfl (Nat.le_of_ble_eq_true rfl) dX2_init_20 (fun H locs hP hD hS => ?_)
  have hP : va_P D kcl [(h0, .inr (2, [.ref a8, .int 0, .int 0])), (a8, .inl (cI, 480, .inl (fun _ => 0)))] H := hP
  have hD : va_D A [(h0, .inr (2, [.ref a8, .int 0, .int 0])), (a8, .inl (cI, 480, .inl (fun _ => 0)))] := hD
  exact W.vret hx hb hr (fun t ht hW => ⟨⟨(fun k => match k with | 0 => h0 | _ => a8), rfl, trivial, by rw [ht]; exact hP, va_K.moved hW.alike hK, hD⟩, hS.F ht⟩) hS.2.2 dX2_init_23
set_option maxHeartbeats 4000000 in
set_option maxRecDepth 100000 in
theorem inX3_c (l : Launch) (cI cL cZ : ClassId) (D : va_G) (h0 sz : Nat) : Met l yX3_init wsX3_init ({ frames := 1, cells := 3, slots := 32, locals := 12 }) (va_Pc [.ref h0] (fun U => U.heap.size = sz ∧ va_P D kcl [(h0, .inr (3, [.null, .null, .null, .int 0, .int 0, .int 0, .int 0]))] U.heap ∧ va_K D kcl (ty3 cI cL cZ) U ∧ va_D (fun _ => True) [(h0, .inr (3, [.null, .null, .null, .int 0, .int 0, .int 0, .int 0]))])) (va_Qv (fun _ : Nat → Nat => True) (fun u t => va_P D kcl [(h0, .inr (3, [.ref (u 1), .ref (u 2), .ref (u 3), .int 0, .int 0, .int 0, .int 0])), ((u 1), .inl (cI, 6, .inl (fun _ => 0))), ((u 2), .inl (cI, 6, .inl (fun _ => 0))), ((u 3), .inl (cI, 20, .inl (fun _ => 0)))] t.heap ∧ va_K D kcl (ty3 cI cL cZ) t ∧ va_D (va_A [(h0, .inr (3, [.null, .null, .null, .int 0, .int 0, .int 0, .int 0]))] sz) [(h0, .inr (3, [.ref (u 1), .ref (u 2), .ref (u 3), .int 0, .int 0, .int 0, .int 0])), ((u 1), .inl (cI, 6, .inl (fun _ => 0))), ((u 2), .inl (cI, 6, .inl (fun _ => 0))), ((u 3), .inl (cI, 20, .inl (fun _ => 0)))]) (va_A [(h0, .inr (3, [.null, .null, .null, .int 0, .int 0, .int 0, .int 0]))] sz)) 3 32 (va_A [(h0, .inr (3, [.null, .null, .null, .int 0, .int 0, .int 0, .int 0]))] sz) := by
  refine Met.ofW (cc := cX3_init) (maxL := 1) (ret := none) (by decide) rfl ?_
  intro p e s m args below meth c s₁ B hml hv
  obtain ⟨rfl, hsz, hP, hK, hD0⟩ := hv
  have hx := B.exec
  have hb := B.bytes
  have hr := B.returns
  have hts := atoms_spec (ws := wsX3_init) B.pre
  have hown : s.vm.findClass RX3 = some m.cls := findClass_of_methodNamed B.named
  have hlocks := B.notSynchronized
  have hin : meth.name = "<init>" := (name_of_methodNamed B.named B.method).1
  subst hsz
  have hD := hD0.self (sz := s.heap.size)
  generalize hAe : va_A [(h0, .inr (3, [.null, .null, .null, .int 0, .int 0, .int 0, .int 0]))] s.heap.size = A at hD ⊢
  have hA : ∀ q : Nat, s.heap.size ≤ q → A q := fun q h => by rw [← hAe]; exact Or.inr h
  have hS : va_S A s.heap s.heap [] := va_S.rf
  have hP : va_P D kcl [(h0, .inr (3, [.null, .null, .null, .int 0, .int 0, .int 0, .int 0]))] s.heap := hP
  have hl := lv_entry ([.ref h0]) (n := 1) (Nat.le_of_ble_eq_true rfl)
  rw [lg_entry_eq]
  generalize (lg_sl ([.ref h0]) ++ List.replicate (1 - (lg_sl ([.ref h0])).length) Slot.unset).toArray = ls at hl ⊢
  have hl : lv_has ls 1 [(0, .ref h0)] := hl
  have hin0 : ∀ w ∈ u_ws RX3 TX3 7, w ∈ wsX3_init := by decide +kernel
  refine lv_aload_n hx hb dX3_init_0 rfl (lv_at hl 0 rfl) ?_
  refine W.objInit hx hb hown (hts (.methodLink RX3 3 objectInit) (by decide +kernel)) (hts (.instanceMethod objectInit) (by decide +kernel)) (hts _ (List.mem_of_getElem? (i := 3) rfl)) rfl (by rw [hml]; exact hl.1) rfl dX3_init_1 (Nat.le_of_ble_eq_true rfl) (Nat.le_of_ble_eq_true rfl) ?_
  refine W.eq (g2 := F0 m 4 ls []) rfl ?_
  refine lv_aload_n hx hb dX3_init_4 rfl (lv_at hl 0 rfl) ?_
  refine lv_bipush (v := 6) hx hb dX3_init_5 (by decide +kernel) ?_
  refine nw_int hx hb (hts (.arrayClass .int) (by decide +kernel)) hK hP hD hS hA (n := 6) (N := 6) (by decide) rfl (Nat.le_of_ble_eq_true rfl) (Nat.le_of_ble_eq_true rfl) (Nat.le_of_ble_eq_true rfl) dX3_init_7 (fun a7 H hP hD hS => ?_)
  have hP : va_P D kcl [(h0, .inr (3, [.null, .null, .null, .int 0, .int 0, .int 0, .int 0])), (a7, .inl (cI, 6, .inl (fun _ => 0)))] H := hP
  have hD : va_D A [(h0, .inr (3, [.null, .null, .null, .int 0, .int 0, .int 0, .int 0])), (a7, .inl (cI, 6, .inl (fun _ => 0)))] := hD
  refine W.widen (k := 1) (n := 6) (Nat.le_of_ble_eq_true rfl) (Nat.le_of_ble_eq_true rfl) ?_
  refine va_putF (D := D) (ci := 3) (v := .ref a7) (ty := .array .int) (C := RX3) (T := TX3) (N := 7) hx hb hts hin0 tyX3 tyX3_ok nmX3 hown hK hP hD hS 0 rfl rfl 0 (by decide) (hts (.fieldLink RX3 9 "LinkedIsles$Talk" "heardA" "[I") (by decide +kernel)) (fun _ h9 => h9) rfl hin rfl (by decide +kernel) rfl rfl (Nat.le_of_ble_eq_true rfl) dX3_init_9 (fun H locs hP hD hS => ?_)
  have hP : va_P D kcl [(h0, .inr (3, [.ref a7, .null, .null, .int 0, .int 0, .int 0, .int 0])), (a7, .inl (cI, 6, .inl (fun _ => 0)))] H := hP
  have hD : va_D A [(h0, .inr (3, [.ref a7, .null, .null, .int 0, .int 0, .int 0, .int 0])), (a7, .inl (cI, 6, .inl (fun _ => 0)))] := hD
  refine lv_aload_n hx hb dX3_init_12 rfl (lv_at hl 0 rfl) ?_
  refine lv_bipush (v := 6) hx hb dX3_init_13 (by decide +kernel) ?_
  refine nw_int hx hb (hts (.arrayClass .int) (by decide +kernel)) hK hP hD hS hA (n := 6) (N := 6) (by decide) rfl (Nat.le_of_ble_eq_true rfl) (Nat.le_of_ble_eq_true rfl) (Nat.le_of_ble_eq_true rfl) dX3_init_15 (fun a15 H hP hD hS => ?_)
  have hP : va_P D kcl [(h0, .inr (3, [.ref a7, .null, .null, .int 0, .int 0, .int 0, .int 0])), (a7, .inl (cI, 6, .inl (fun _ => 0))), (a15, .inl (cI, 6, .inl (fun _ => 0)))] H := hP
  have hD : va_D A [(h0, .inr (3, [.ref a7, .null, .null, .int 0, .int 0, .int 0, .int 0])), (a7, .inl (cI, 6, .inl (fun _ => 0))), (a15, .inl (cI, 6, .inl (fun _ => 0)))] := hD
  refine W.widen (k := 2) (n := 12) (Nat.le_of_ble_eq_true rfl) (Nat.le_of_ble_eq_true rfl) ?_
  refine va_putF (D := D) (ci := 3) (v := .ref a15) (ty := .array .int) (C := RX3) (T := TX3) (N := 7) hx hb hts hin0 tyX3 tyX3_ok nmX3 hown hK hP hD hS 0 rfl rfl 1 (by decide) (hts (.fieldLink RX3 15 "LinkedIsles$Talk" "heardB" "[I") (by decide +kernel)) (fun _ h9 => h9) rfl hin rfl (by decide +kernel) rfl rfl (Nat.le_of_ble_eq_true rfl) dX3_init_17 (fun H locs hP hD hS => ?_)
  have hP : va_P D kcl [(h0, .inr (3, [.ref a7, .ref a15, .null, .int 0, .int 0, .int 0, .int 0])), (a7, .inl (cI, 6, .inl (fun _ => 0))), (a15, .inl (cI, 6, .inl (fun _ => 0)))] H := hP
  have hD : va_D A [(h0, .inr (3, [.ref a7, .ref a15, .null, .int 0, .int 0, .int 0, .int 0])), (a7, .inl (cI, 6, .inl (fun _ => 0))), (a15, .inl (cI, 6, .inl (fun _ => 0)))] := hD
  refine lv_aload_n hx hb dX3_init_20 rfl (lv_at hl 0 rfl) ?_
  refine lv_bipush (v := 20) hx hb dX3_init_21 (by decide +kernel) ?_
  refine nw_int hx hb (hts (.arrayClass .int) (by decide +kernel)) hK hP hD hS hA (n := 20) (N := 20) (by decide) rfl (Nat.le_of_ble_eq_true rfl) (Nat.le_of_ble_eq_true rfl) (Nat.le_of_ble_eq_true rfl) dX3_init_23 (fun a23 H hP hD hS => ?_)
  have hP : va_P D kcl [(h0, .inr (3, [.ref a7, .ref a15, .null, .int 0, .int 0, .int 0, .int 0])), (a7, .inl (cI, 6, .inl (fun _ => 0))), (a15, .inl (cI, 6, .inl (fun _ => 0))), (a23, .inl (cI, 20, .inl (fun _ => 0)))] H := hP
  have hD : va_D A [(h0, .inr (3, [.ref a7, .ref a15, .null, .int 0, .int 0, .int 0, .int 0])), (a7, .inl (cI, 6, .inl (fun _ => 0))), (a15, .inl (cI, 6, .inl (fun _ => 0))), (a23, .inl (cI, 20, .inl (fun _ => 0)))] := hD
  refine W.widen (k := 3) (n := 32) (Nat.le_of_ble_eq_true rfl) (Nat.le_of_ble_eq_true rfl) ?_
  refine va_putF (D := D) (ci := 3) (v := .ref a23) (ty := .array .int) (C := RX3) (T := TX3) (N := 7) hx hb hts hin0 tyX3 tyX3_ok nmX3 hown hK hP hD hS 0 rfl rfl 2 (by decide) (hts (.fieldLink RX3 18 "LinkedIsles$Talk" "entryLink" "[I") (by decide +kernel)) (fun _ h9 => h9) rfl hin rfl (by decide +kernel) rfl rfl (Nat.le_of_ble_eq_true rfl) dX3_init_25 (fun H locs hP hD hS => ?_)
  have hP : va_P D kcl [(h0, .inr (3, [.ref a7, .ref a15, .ref a23, .int 0, .int 0, .int 0, .int 0])), (a7, .inl (cI, 6, .inl (fun _ => 0))), (a15, .inl (cI, 6, .inl (fun _ => 0))), (a23, .inl (cI, 20, .inl (fun _ => 0)))] H := hP
  have hD : va_D A [(h0, .inr (3, [.ref a7, .ref a15, .ref a23, .int 0, .int 0, .int 0, .int 0])), (a7, .inl (cI, 6, .inl (fun _ => 0))), (a15, .inl (cI, 6, .inl (fun _ => 0))), (a23, .inl (cI, 20, .inl (fun _ => 0)))] := hD
  refine lv_aload_n hx hb dX3_init_28 rfl (lv_at hl 0 rfl) ?_
  refine lv_iconst (v := 0) hx hb dX3_init_29 (by decide +kernel) ?_
  refine va_put (D := D) (ci := 3) (v := .int 0) (ty := .int) (C := RX3) (T := TX3) (N := 7) hx hb hts hin0 tyX3 tyX3_ok nmX3 hown hK hP hD hS 0 rfl rfl 3 (by decide) (hts (.fieldLink RX3 21 "LinkedIsles$Talk" "heardCount" "I") (by decide +kernel)) (fun _ h9 => h9) rfl (by decide +kernel) rfl rfl (Nat.le_of_ble_eq_true rfl) dX3_init_30 (fun H locs hP hD hS => ?_)
  have hP : va_P D kcl [(h0, .inr (3, [.ref a7, .ref a15, .ref a23, .int 0, .int 0, .int 0, .int 0])), (a7, .inl (cI, 6, .inl (fun _ => 0))), (a15, .inl (cI, 6, .inl (fun _ => 0))), (a23, .inl (cI, 20, .inl (fun _ => 0)))] H := hP
  have hD : va_D A [(h0, .inr (3, [.ref a7, .ref a15, .ref a23, .int 0, .int 0, .int 0, .int 0])), (a7, .inl (cI, 6, .inl (fun _ => 0))), (a15, .inl (cI, 6, .inl (fun _ => 0))), (a23, .inl (cI, 20, .inl (fun _ => 0)))] := hD
  refine lv_aload_n hx hb dX3_init_33 rfl (lv_at hl 0 rfl) ?_
  refine lv_iconst (v := 0) hx hb dX3_init_34 (by decide +kernel) ?_
  refine va_put (D := D) (ci := 3) (v := .int 0) (ty := .int) (C := RX3) (T := TX3) (N := 7) hx hb hts hin0 tyX3 tyX3_ok nmX3 hown hK hP hD hS 0 rfl rfl 4 (by decide) (hts (.fieldLink RX3 25 "LinkedIsles$Talk" "entryCount" "I") (by decide +kernel)) (fun _ h9 => h9) rfl (by decide +kernel) rfl rfl (Nat.le_of_ble_eq_true rfl) dX3_init_35 (fun H locs hP hD hS => ?_)
  have hP : va_P D kcl [(h0, .inr (3, [.ref a7, .ref a15, .ref a23, .int 0, .int 0, .int 0, .int 0])), (a7, .inl (cI, 6, .inl (fun _ => 0))), (a15, .inl (cI, 6, .inl (fun _ => 0))), (a23, .inl (cI, 20, .inl (fun _ => 0)))] H := hP
  have hD : va_D A [(h0, .inr (3, [.ref a7, .ref a15, .ref a23, .int 0, .int 0, .int 0, .int 0])), (a7, .inl (cI, 6, .inl (fun _ => 0))), (a15, .inl (cI, 6, .inl (fun _ => 0))), (a23, .inl (cI, 20, .inl (fun _ => 0)))] := hD
  refine lv_aload_n hx hb dX3_init_38 rfl (lv_at hl 0 rfl) ?_
  refine lv_iconst (v := 0) hx hb dX3_init_39 (by decide +kernel) ?_
  refine va_put (D := D) (ci := 3) (v := .int 0) (ty := .int) (C := RX3) (T := TX3) (N := 7) hx hb hts hin0 tyX3 tyX3_ok nmX3 hown hK hP hD hS 0 rfl rfl 5 (by decide) (hts (.fieldLink RX3 28 "LinkedIsles$Talk" "hanging" "I") (by decide +kernel)) (fun _ h9 => h9) rfl (by decide +kernel) rfl rfl (Nat.le_of_ble_eq_true rfl) dX3_init_40 (fun H locs hP hD hS => ?_)
  have hP : va_P D kcl [(h0, .inr (3, [.ref a7, .ref a15, .ref a23, .int 0, .int 0, .int 0, .int 0])), (a7, .inl (cI, 6, .inl (fun _ => 0))), (a15, .inl (cI, 6, .inl (fun _ => 0))), (a23, .inl (cI, 20, .inl (fun _ => 0)))] H := hP
  have hD : va_D A [(h0, .inr (3, [.ref a7, .ref a15, .ref a23, .int 0, .int 0, .int 0, .int 0])), (a7, .inl (cI, 6, .inl (fun _ => 0))), (a15, .inl (cI, 6, .inl (fun _ => 0))), (a23, .inl (cI, 20, .inl (fun _ => 0)))] := hD
  refine lv_aload_n hx hb dX3_init_43 rfl (lv_at hl 0 rfl) ?_
  refine lv_iconst (v := 0) hx hb dX3_init_44 (by decide +kernel) ?_
  refine va_put (D := D) (ci := 3) (v := .int 0) (ty := .int) (C := RX3) (T := TX3) (N := 7) hx hb hts hin0 tyX3 tyX3_ok nmX3 hown hK hP hD hS 0 rfl rfl 6 (by decide) (hts (.fieldLink RX3 31 "LinkedIsles$Talk" "toldUp" "I") (by decide +kernel)) (fun _ h9 => h9) rfl (by decide +kernel) rfl rfl (Nat.le_of_ble_eq_true rfl) dX3_init_45 (fun H locs hP hD hS => ?_)
  have hP : va_P D kcl [(h0, .inr (3, [.ref a7, .ref a15, .ref a23, .int 0, .int 0, .int 0, .int 0])), (a7, .inl (cI, 6, .inl (fun _ => 0))), (a15, .inl (cI, 6, .inl (fun _ => 0))), (a23, .inl (cI, 20, .inl (fun _ => 0)))] H := hP
  have hD : va_D A [(h0, .inr (3, [.ref a7, .ref a15, .ref a23, .int 0, .int 0, .int 0, .int 0])), (a7, .inl (cI, 6, .inl (fun _ => 0))), (a15, .inl (cI, 6, .inl (fun _ => 0))), (a23, .inl (cI, 20, .inl (fun _ => 0)))] := hD
  exact W.vret hx hb hr (fun t ht hW => ⟨⟨(fun k => match k with | 0 => h0 | 1 => a7 | 2 => a15 | _ => a23), rfl, trivial, by rw [ht]; exact hP, va_K.moved hW.alike hK, hD⟩, hS.F ht⟩) hS.2.2 dX3_init_48
set_option maxHeartbeats 4000000 in
set_option maxRecDepth 100000 in
theorem inX4_c (l : Launch) (cI cL cZ : ClassId) (D : va_G) (h0 sz : Nat) : Met l yX4_init wsX4_init ({ frames := 1, cells := 1, slots := 240, locals := 12 }) (va_Pc [.ref h0] (fun U => U.heap.size = sz ∧ va_P D kcl [(h0, .inr (4, [.null, .int 0, .int 0, .int 0, .int 0]))] U.heap ∧ va_K D kcl (ty3 cI cL cZ) U ∧ va_D (fun _ => True) [(h0, .inr (4, [.null, .int 0, .int 0, .int 0, .int 0]))])) (va_Qv (fun _ : Nat → Nat => True) (fun u t => va_P D kcl [(h0, .inr (4, [.ref (u 1), .int 0, .int 0, .int 0, .int (-1)])), ((u 1), .inl (cI, 240, .inl (fun _ => 0)))] t.heap ∧ va_K D kcl (ty3 cI cL cZ) t ∧ va_D (va_A [(h0, .inr (4, [.null, .int 0, .int 0, .int 0, .int 0]))] sz) [(h0, .inr (4, [.ref (u 1), .int 0, .int 0, .int 0, .int (-1)])), ((u 1), .inl (cI, 240, .inl (fun _ => 0)))]) (va_A [(h0, .inr (4, [.null, .int 0, .int 0, .int 0, .int 0]))] sz)) 1 240 (va_A [(h0, .inr (4, [.null, .int 0, .int 0, .int 0, .int 0]))] sz) := by
  refine Met.ofW (cc := cX4_init) (maxL := 1) (ret := none) (by decide) rfl ?_
  intro p e s m args below meth c s₁ B hml hv
  obtain ⟨rfl, hsz, hP, hK, hD0⟩ := hv
  have hx := B.exec
  have hb := B.bytes
  have hr := B.returns
  have hts := atoms_spec (ws := wsX4_init) B.pre
  have hown : s.vm.findClass RX4 = some m.cls := findClass_of_methodNamed B.named
  have hlocks := B.notSynchronized
  have hin : meth.name = "<init>" := (name_of_methodNamed B.named B.method).1
  subst hsz
  have hD := hD0.self (sz := s.heap.size)
  generalize hAe : va_A [(h0, .inr (4, [.null, .int 0, .int 0, .int 0, .int 0]))] s.heap.size = A at hD ⊢
  have hA : ∀ q : Nat, s.heap.size ≤ q → A q := fun q h => by rw [← hAe]; exact Or.inr h
  have hS : va_S A s.heap s.heap [] := va_S.rf
  have hP : va_P D kcl [(h0, .inr (4, [.null, .int 0, .int 0, .int 0, .int 0]))] s.heap := hP
  have hl := lv_entry ([.ref h0]) (n := 1) (Nat.le_of_ble_eq_true rfl)
  rw [lg_entry_eq]
  generalize (lg_sl ([.ref h0]) ++ List.replicate (1 - (lg_sl ([.ref h0])).length) Slot.unset).toArray = ls at hl ⊢
  have hl : lv_has ls 1 [(0, .ref h0)] := hl
  have hin0 : ∀ w ∈ u_ws RX4 TX4 5, w ∈ wsX4_init := by decide +kernel
  refine lv_aload_n hx hb dX4_init_0 rfl (lv_at hl 0 rfl) ?_
  refine W.objInit hx hb hown (hts (.methodLink RX4 3 objectInit) (by decide +kernel)) (hts (.instanceMethod objectInit) (by decide +kernel)) (hts _ (List.mem_of_getElem? (i := 3) rfl)) rfl (by rw [hml]; exact hl.1) rfl dX4_init_1 (Nat.le_of_ble_eq_true rfl) (Nat.le_of_ble_eq_true rfl) ?_
  refine W.eq (g2 := F0 m 4 ls []) rfl ?_
  refine lv_aload_n hx hb dX4_init_4 rfl (lv_at hl 0 rfl) ?_
  refine lv_sipush (v := 240) hx hb dX4_init_5 (by decide +kernel) ?_
  refine nw_int hx hb (hts (.arrayClass .int) (by decide +kernel)) hK hP hD hS hA (n := 240) (N := 240) (by decide) rfl (Nat.le_of_ble_eq_true rfl) (Nat.le_of_ble_eq_true rfl) (Nat.le_of_ble_eq_true rfl) dX4_init_8 (fun a8 H hP hD hS => ?_)
  have hP : va_P D kcl [(h0, .inr (4, [.null, .int 0, .int 0, .int 0, .int 0])), (a8, .inl (cI, 240, .inl (fun _ => 0)))] H := hP
  have hD : va_D A [(h0, .inr (4, [.null, .int 0, .int 0, .int 0, .int 0])), (a8, .inl (cI, 240, .inl (fun _ => 0)))] := hD
  refine W.widen (k := 1) (n := 240) (Nat.le_of_ble_eq_true rfl) (Nat.le_of_ble_eq_true rfl) ?_
  refine va_putF (D := D) (ci := 4) (v := .ref a8) (ty := .array .int) (C := RX4) (T := TX4) (N := 5) hx hb hts hin0 tyX4 tyX4_ok nmX4 hown hK hP hD hS 0 rfl rfl 0 (by decide) (hts (.fieldLink RX4 9 "LinkedIsles$Text" "letters" "[I") (by decide +kernel)) (fun _ h9 => h9) rfl hin rfl (by decide +kernel) rfl rfl (Nat.le_of_ble_eq_true rfl) dX4_init_10 (fun H locs hP hD hS => ?_)
  have hP : va_P D kcl [(h0, .inr (4, [.ref a8, .int 0, .int 0, .int 0, .int 0])), (a8, .inl (cI, 240, .inl (fun _ => 0)))] H := hP
  have hD : va_D A [(h0, .inr (4, [.ref a8, .int 0, .int 0, .int 0, .int 0])), (a8, .inl (cI, 240, .inl (fun _ => 0)))] := hD
  refine lv_aload_n hx hb dX4_init_13 rfl (lv_at hl 0 rfl) ?_
  refine lv_iconst (v := 0) hx hb dX4_init_14 (by decide +kernel) ?_
  refine va_put (D := D) (ci := 4) (v := .int 0) (ty := .int) (C := RX4) (T := TX4) (N := 5) hx hb hts hin0 tyX4 tyX4_ok nmX4 hown hK hP hD hS 0 rfl rfl 1 (by decide) (hts (.fieldLink RX4 15 "LinkedIsles$Text" "count" "I") (by decide +kernel)) (fun _ h9 => h9) rfl (by decide +kernel) rfl rfl (Nat.le_of_ble_eq_true rfl) dX4_init_15 (fun H locs hP hD hS => ?_)
  have hP : va_P D kcl [(h0, .inr (4, [.ref a8, .int 0, .int 0, .int 0, .int 0])), (a8, .inl (cI, 240, .inl (fun _ => 0)))] H := hP
  have hD : va_D A [(h0, .inr (4, [.ref a8, .int 0, .int 0, .int 0, .int 0])), (a8, .inl (cI, 240, .inl (fun _ => 0)))] := hD
  refine lv_aload_n hx hb dX4_init_18 rfl (lv_at hl 0 rfl) ?_
  refine lv_iconst (v := 0) hx hb dX4_init_19 (by decide +kernel) ?_
  refine va_put (D := D) (ci := 4) (v := .int 0) (ty := .int) (C := RX4) (T := TX4) (N := 5) hx hb hts hin0 tyX4 tyX4_ok nmX4 hown hK hP hD hS 0 rfl rfl 2 (by decide) (hts (.fieldLink RX4 19 "LinkedIsles$Text" "at" "I") (by decide +kernel)) (fun _ h9 => h9) rfl (by decide +kernel) rfl rfl (Nat.le_of_ble_eq_true rfl) dX4_init_20 (fun H locs hP hD hS => ?_)
  have hP : va_P D kcl [(h0, .inr (4, [.ref a8, .int 0, .int 0, .int 0, .int 0])), (a8, .inl (cI, 240, .inl (fun _ => 0)))] H := hP
  have hD : va_D A [(h0, .inr (4, [.ref a8, .int 0, .int 0, .int 0, .int 0])), (a8, .inl (cI, 240, .inl (fun _ => 0)))] := hD
  refine lv_aload_n hx hb dX4_init_23 rfl (lv_at hl 0 rfl) ?_
  refine lv_iconst (v := 0) hx hb dX4_init_24 (by decide +kernel) ?_
  refine va_put (D := D) (ci := 4) (v := .int 0) (ty := .int) (C := RX4) (T := TX4) (N := 5) hx hb hts hin0 tyX4 tyX4_ok nmX4 hown hK hP hD hS 0 rfl rfl 3 (by decide) (hts (.fieldLink RX4 22 "LinkedIsles$Text" "fault" "I") (by decide +kernel)) (fun _ h9 => h9) rfl (by decide +kernel) rfl rfl (Nat.le_of_ble_eq_true rfl) dX4_init_25 (fun H locs hP hD hS => ?_)
  have hP : va_P D kcl [(h0, .inr (4, [.ref a8, .int 0, .int 0, .int 0, .int 0])), (a8, .inl (cI, 240, .inl (fun _ => 0)))] H := hP
  have hD : va_D A [(h0, .inr (4, [.ref a8, .int 0, .int 0, .int 0, .int 0])), (a8, .inl (cI, 240, .inl (fun _ => 0)))] := hD
  refine lv_aload_n hx hb dX4_init_28 rfl (lv_at hl 0 rfl) ?_
  refine lv_iconst (v := -1) hx hb dX4_init_29 (by decide +kernel) ?_
  refine va_put (D := D) (ci := 4) (v := .int (-1)) (ty := .int) (C := RX4) (T := TX4) (N := 5) hx hb hts hin0 tyX4 tyX4_ok nmX4 hown hK hP hD hS 0 rfl rfl 4 (by decide) (hts (.fieldLink RX4 25 "LinkedIsles$Text" "faultAt" "I") (by decide +kernel)) (fun _ h9 => h9) rfl (by decide +kernel) rfl rfl (Nat.le_of_ble_eq_true rfl) dX4_init_30 (fun H locs hP hD hS => ?_)
  have hP : va_P D kcl [(h0, .inr (4, [.ref a8, .int 0, .int 0, .int 0, .int (-1)])), (a8, .inl (cI, 240, .inl (fun _ => 0)))] H := hP
  have hD : va_D A [(h0, .inr (4, [.ref a8, .int 0, .int 0, .int 0, .int (-1)])), (a8, .inl (cI, 240, .inl (fun _ => 0)))] := hD
  exact W.vret hx hb hr (fun t ht hW => ⟨⟨(fun k => match k with | 0 => h0 | _ => a8), rfl, trivial, by rw [ht]; exact hP, va_K.moved hW.alike hK, hD⟩, hS.F ht⟩) hS.2.2 dX4_init_33
