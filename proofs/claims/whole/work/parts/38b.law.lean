/-! ===== the law: an argument, a flag, a comparison ===== -/
abbrev LL (b : Nat) (X Y : Cx) (i : Nat) : List (Nat × Value) := [(0, .ref b), (1, .ref (X.1 0)), (2, .ref (Y.1 0)), (3, .int (nI i))]
section LAWB
variable {p : Program} {l : Launch} {e : Env} {s : State} {m : MethodId} {below : List Frame} {meth : Method} {c : Code} {b L : Nat} {xs : Nat → Int32} {Q : State → Prop} {X Y : Cx} {H : Heap} {locs : List Jvm.Loc} {ls : Array Slot} {pc i : Nat} {stk : List Value}
theorem la_arg (j : Nat) (B : LB p s m c b L xs) (hS : va_S (LA s) s.heap H locs) (hl : lv_has ls 4 (LL b X Y i)) (hi : i + 4 ≤ L ∧ L ≤ 256) (hj : j < 4) (d0 : decode cL_law pc = .ok (.aload_n 0, 1)) (d1 : decode cL_law (pc + 1) = .ok (.iload_n 3, 1)) (d2 : decode cL_law (pc + 2) = .ok (.iconst (j : Int), 1)) (d3 : decode cL_law (pc + 3) = .ok (.iadd, 1)) (d4 : decode cL_law (pc + 4) = .ok (.iaload, 1))
    (kk : W p l e room_1 s m #[Value.ref b] below meth c H locs 58 2078 Q (F0 m (pc + 5) ls (.int (xs (i + j)) :: stk))) : W p l e room_1 s m #[Value.ref b] below meth c H locs 58 2078 Q (F0 m pc ls stk) := by
  obtain ⟨hx, hb, hml, hown, hts, hX, hbl⟩ := B
  have hbA : ¬ LA s b := Nat.not_le.mpr hbl
  have hjv : Int32.ofInt (j : Int) = nI j := by
    rcases (show j = 0 ∨ j = 1 ∨ j = 2 ∨ j = 3 by omega) with rfl | rfl | rfl | rfl <;> decide
  refine lv_aload_n hx hb d0 rfl (lv_at hl 0 rfl) ?_
  refine lv_iload_n hx hb d1 rfl (lv_at hl 3 rfl) ?_
  refine lv_iconst (v := nI j) hx hb d2 hjv ?_
  refine lv_iadd hx hb d3 ?_
  refine lv_topi (fun y ey => ?_)
  rw [nI_add] at ey
  subst ey
  refine va_sld hx hb hX hbl hbA hS (vp_in_nI (n := i + j) (by omega) (by omega)) d4 ?_
  rw [nI_clamp (by omega)]
  exact kk
theorem la_flag {v : Int32} (B : LB p s m c b L xs) (d0 : decode cL_law pc = .ok (.ifCond .eq 7, 3)) (d1 : decode cL_law (pc + 3) = .ok (.iconst 1, 1)) (d2 : decode cL_law (pc + 4) = .ok (.goto 4, 3)) (d3 : decode cL_law (pc + 7) = .ok (.iconst 0, 1))
    (kk : W p l e room_1 s m #[Value.ref b] below meth c H locs 58 2078 Q (F0 m (pc + 8) ls (.int (bI (decide (v ≠ 0))) :: stk))) : W p l e room_1 s m #[Value.ref b] below meth c H locs 58 2078 Q (F0 m pc ls (.int v :: stk)) := by
  refine lv_if_eq (tgt := pc + 7) B.1 B.2.1 d0 (by omega) (fun h => ?_) (fun h => ?_)
  · refine lv_iconst (v := 0) B.1 B.2.1 d3 (by decide) ?_
    rw [show bI (decide (v ≠ 0)) = 0 by simp [bI, h]] at kk
    exact kk
  · refine lv_iconst (v := 1) B.1 B.2.1 d1 (by decide) ?_
    refine lv_goto (tgt := pc + 8) B.1 B.2.1 d2 (by omega) ?_
    rw [show bI (decide (v ≠ 0)) = 1 by simp [bI, h]] at kk
    exact kk
theorem la_eq {v : Int32} {off : Int} (B : LB p s m c b L xs) (d : decode cL_law pc = .ok (.if_icmp .eq off, 3)) (ht : (pc : Int) + off = ((1223 : Nat) : Int)) (kk : W p l e room_1 s m #[Value.ref b] below meth c H locs 58 2078 Q (F0 m 1223 ls [])) : W p l e room_1 s m #[Value.ref b] below meth c H locs 58 2078 Q (F0 m pc ls [.int v, .int v]) :=
  lv_icmp_eq (tgt := 1223) B.1 B.2.1 d ht (fun _ => kk) (fun h => absurd rfl h)
end LAWB
/-! ===== the law's numbers ===== -/
theorem la_head {i L : Nat} (hi : i ≤ 300) (hL : L ≤ 256) : Int32.ofNat L - 4 < nI i ↔ L < i + 4 := by
  have e : (Int32.ofNat L).toInt = (L : Int) := nI_toInt (n := L) (by omega)
  rw [Int32.lt_iff_toInt_lt, Int32.toInt_sub, e, nI_toInt (by omega), show (4 : Int32).toInt = 4 by decide, Int.bmod_eq_of_le (by omega) (by omega)]
  omega
theorem la_mask (v : Int32) : ∃ k, k < 64 ∧ v &&& 63 = nI k := by
  refine ⟨(v &&& 63).toBitVec.toNat, ?_, ?_⟩
  · rw [Int32.toBitVec_and, BitVec.toNat_and]
    exact Nat.lt_of_le_of_lt Nat.and_le_right (by decide)
  · apply Int32.toBitVec_inj.mp
    show (v &&& 63).toBitVec = BitVec.ofNat 32 (v &&& 63).toBitVec.toNat
    rw [BitVec.ofNat_toNat, BitVec.setWidth_eq]
