/-! ===== the law: its loop ===== -/
section LAWL
variable {p : Program} {l : Launch} {e : Env} {s : State} {m : MethodId} {below : List Frame} {meth : Method} {c : Code} {b L : Nat} {xs : Nat → Int32} {X Y : Cx} {D : va_G}
theorem law_loop (hL : L ≤ 256) (B : LB p s m c b L xs) (hr : meth.sig.returnType = ret) (hlocks : meth.locks = false) : ∀ (k i : Nat), i ≤ L → L + 1 ≤ i + k → ∀ (w : Bool) (hx hm : Hp) (H : Heap) (locs : List Jvm.Loc) (ls : Array Slot), LSt s D X Y H locs w hx hm → lv_has ls 4 (LL b X Y i) → W p l e room_1 s m #[Value.ref b] below meth c H locs 58 2078 (lw_Z below #[Value.ref b] s) (F0 m 18 ls []) := by
  have hbA : ¬ LA s b := Nat.not_le.mpr B.2.2.2.2.2.2
  intro k
  induction k with
  | zero => intro i h1 h2; omega
  | succ k ih =>
    intro i hi hik w hx hm H locs ls st hl
    have hS := st.1.2.2.2.1
    refine lv_iload_n B.1 B.2.1 dL_law_18 rfl (lv_at hl 3 rfl) ?_
    refine lv_aload_n B.1 B.2.1 dL_law_19 rfl (lv_at hl 0 rfl) ?_
    refine va_slen B.1 B.2.1 B.2.2.2.2.2.1 B.2.2.2.2.2.2 hbA hS dL_law_20 ?_
    refine lv_iconst (v := 4) B.1 B.2.1 dL_law_21 (by decide) ?_
    refine lv_isub B.1 B.2.1 dL_law_22 ?_
    refine lv_icmp_gt (tgt := 1229) B.1 B.2.1 dL_law_23 (by decide) (fun _ => ?_) (fun h => ?_)
    · refine lv_iconst (v := 1) B.1 B.2.1 dL_law_1229 (by decide) ?_
      refine va_forget (fun q hq => hS.2.2 q hq) ?_
      exact lw_ret B.1 B.2.1 hr hlocks dL_law_1230
    · rw [la_head (by omega) hL] at h
      have hi4 : i + 4 ≤ L ∧ L ≤ 256 := ⟨by omega, hL⟩
      refine lv_aload_n B.1 B.2.1 dL_law_26 rfl (lv_at hl 0 rfl) ?_
      refine lv_iload_n B.1 B.2.1 dL_law_27 rfl (lv_at hl 3 rfl) ?_
      refine va_sld B.1 B.2.1 B.2.2.2.2.2.1 B.2.2.2.2.2.2 hbA hS (vp_in_nI (n := i) (by omega) (by omega)) dL_law_28 ?_
      refine lv_bipush (v := 63) B.1 B.2.1 dL_law_29 (by decide) ?_
      refine lv_iand B.1 B.2.1 dL_law_31 ?_
      refine la_sw B hi4 (Nat.le_refl 1100) st hl (fun w hx hm H locs st => ?_) _
      refine lv_iinc (v := nI (i + 4)) (lv' := [(3, .int (nI (i + 4))), (0, .ref b), (1, .ref (X.1 0)), (2, .ref (Y.1 0))]) B.1 B.2.1 dL_law_1223 hl (k := 3) rfl (by rw [show Int32.ofInt 4 = nI 4 by decide, nI_add]) (by decide) rfl (fun ls hl => ?_)
      refine lv_goto (tgt := 18) B.1 B.2.1 dL_law_1226 (by decide) ?_
      exact ih (i + 4) (by omega) (by omega) w hx hm H locs ls st (lv_sub hl [1, 2, 3, 0] rfl)
end LAWL
