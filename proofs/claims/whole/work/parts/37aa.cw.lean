/-! ===== new objects as worlds ===== -/
theorem cw_ext {X : Cx} {S : Shp} {r : Rf} {h : Hp} {w : va_W} (hl : w.length = S.length) (he : ∀ k q, S[k]? = some q → w[k]? = some (X.1 k, ce X r h k q)) : w = cw X S r h := by
  apply List.ext_getElem?
  intro i
  rw [cw_get]
  cases hS : S[i]? with
  | none =>
    have : S.length ≤ i := List.getElem?_eq_none_iff.mp hS
    rw [List.getElem?_eq_none (by omega)]; rfl
  | some q => rw [he i q hS]; rfl
theorem fvx_0_0 (al : Nat → Nat) : fv al (RX false) hx0 0 0 (fk (kty 5 0)) = .ref (al 1) := rfl
theorem fvx_0_1 (al : Nat → Nat) : fv al (RX false) hx0 0 1 (fk (kty 5 1)) = .ref (al 3) := rfl
theorem fvx_0_2 (al : Nat → Nat) : fv al (RX false) hx0 0 2 (fk (kty 5 2)) = .ref (al 13) := rfl
theorem fvx_0_3 (al : Nat → Nat) : fv al (RX false) hx0 0 3 (fk (kty 5 3)) = .ref (al 23) := rfl
theorem fvx_0_4 (al : Nat → Nat) : fv al (RX false) hx0 0 4 (fk (kty 5 4)) = .ref (al 25) := rfl
theorem fvx_0_5 (al : Nat → Nat) : fv al (RX false) hx0 0 5 (fk (kty 5 5)) = .ref (al 27) := rfl
theorem fvx_0_6 (al : Nat → Nat) : fv al (RX false) hx0 0 6 (fk (kty 5 6)) = .ref (al 29) := rfl
theorem fvx_0_7 (al : Nat → Nat) : fv al (RX false) hx0 0 7 (fk (kty 5 7)) = .ref (al 33) := rfl
theorem fvx_0_8 (al : Nat → Nat) : fv al (RX false) hx0 0 8 (fk (kty 5 8)) = .ref (al 34) := rfl
theorem fvx_0_9 (al : Nat → Nat) : fv al (RX false) hx0 0 9 (fk (kty 5 9)) = .int 0 := rfl
theorem fvx_0_10 (al : Nat → Nat) : fv al (RX false) hx0 0 10 (fk (kty 5 10)) = .int 0 := rfl
theorem flx_0 (al : Nat → Nat) (cI cL cZ : ClassId) : fl (al, cI, cL, cZ) (RX false) hx0 0 5 11 = [.ref (al 1), .ref (al 3), .ref (al 13), .ref (al 23), .ref (al 25), .ref (al 27), .ref (al 29), .ref (al 33), .ref (al 34), .int 0, .int 0] := by
  unfold fl
  rw [show List.range 11 = [0, 1, 2, 3, 4, 5, 6, 7, 8, 9, 10] from rfl]
  simp only [List.map_cons, List.map_nil, fvx_0_0, fvx_0_1, fvx_0_2, fvx_0_3, fvx_0_4, fvx_0_5, fvx_0_6, fvx_0_7, fvx_0_8, fvx_0_9, fvx_0_10]
theorem cex_0 (al : Nat → Nat) (cI cL cZ : ClassId) : ce (al, cI, cL, cZ) (RX false) hx0 0 (5, 11) = .inr (5, [.ref (al 1), .ref (al 3), .ref (al 13), .ref (al 23), .ref (al 25), .ref (al 27), .ref (al 29), .ref (al 33), .ref (al 34), .int 0, .int 0]) := by
  rw [ce_obj (by decide), flx_0]
theorem fvx_1_0 (al : Nat → Nat) : fv al (RX false) hx0 1 0 (fk (kty 4 0)) = .ref (al 2) := rfl
theorem fvx_1_1 (al : Nat → Nat) : fv al (RX false) hx0 1 1 (fk (kty 4 1)) = .int 0 := rfl
theorem fvx_1_2 (al : Nat → Nat) : fv al (RX false) hx0 1 2 (fk (kty 4 2)) = .int 0 := rfl
theorem fvx_1_3 (al : Nat → Nat) : fv al (RX false) hx0 1 3 (fk (kty 4 3)) = .int 0 := rfl
theorem fvx_1_4 (al : Nat → Nat) : fv al (RX false) hx0 1 4 (fk (kty 4 4)) = .int (-1) := rfl
theorem flx_1 (al : Nat → Nat) (cI cL cZ : ClassId) : fl (al, cI, cL, cZ) (RX false) hx0 1 4 5 = [.ref (al 2), .int 0, .int 0, .int 0, .int (-1)] := by
  unfold fl
  rw [show List.range 5 = [0, 1, 2, 3, 4] from rfl]
  simp only [List.map_cons, List.map_nil, fvx_1_0, fvx_1_1, fvx_1_2, fvx_1_3, fvx_1_4]
theorem cex_1 (al : Nat → Nat) (cI cL cZ : ClassId) : ce (al, cI, cL, cZ) (RX false) hx0 1 (4, 5) = .inr (4, [.ref (al 2), .int 0, .int 0, .int 0, .int (-1)]) := by
  rw [ce_obj (by decide), flx_1]
theorem cex_2 (al : Nat → Nat) (cI cL cZ : ClassId) : ce (al, cI, cL, cZ) (RX false) hx0 2 (100, 240) = .inl (cI, 240, .inl (fun _ => 0)) := rfl
theorem fvx_3_0 (al : Nat → Nat) : fv al (RX false) hx0 3 0 (fk (kty 1 0)) = .ref (al 4) := rfl
theorem fvx_3_1 (al : Nat → Nat) : fv al (RX false) hx0 3 1 (fk (kty 1 1)) = .ref (al 5) := rfl
theorem fvx_3_2 (al : Nat → Nat) : fv al (RX false) hx0 3 2 (fk (kty 1 2)) = .ref (al 6) := rfl
theorem fvx_3_3 (al : Nat → Nat) : fv al (RX false) hx0 3 3 (fk (kty 1 3)) = .ref (al 7) := rfl
theorem fvx_3_4 (al : Nat → Nat) : fv al (RX false) hx0 3 4 (fk (kty 1 4)) = .ref (al 8) := rfl
theorem fvx_3_5 (al : Nat → Nat) : fv al (RX false) hx0 3 5 (fk (kty 1 5)) = .ref (al 9) := rfl
theorem fvx_3_6 (al : Nat → Nat) : fv al (RX false) hx0 3 6 (fk (kty 1 6)) = .ref (al 10) := rfl
theorem fvx_3_7 (al : Nat → Nat) : fv al (RX false) hx0 3 7 (fk (kty 1 7)) = .ref (al 11) := rfl
theorem fvx_3_8 (al : Nat → Nat) : fv al (RX false) hx0 3 8 (fk (kty 1 8)) = .ref (al 12) := rfl
theorem fvx_3_9 (al : Nat → Nat) : fv al (RX false) hx0 3 9 (fk (kty 1 9)) = .int 0 := rfl
theorem fvx_3_10 (al : Nat → Nat) : fv al (RX false) hx0 3 10 (fk (kty 1 10)) = .int 0 := rfl
theorem fvx_3_11 (al : Nat → Nat) : fv al (RX false) hx0 3 11 (fk (kty 1 11)) = .int 0 := rfl
theorem flx_3 (al : Nat → Nat) (cI cL cZ : ClassId) : fl (al, cI, cL, cZ) (RX false) hx0 3 1 12 = [.ref (al 4), .ref (al 5), .ref (al 6), .ref (al 7), .ref (al 8), .ref (al 9), .ref (al 10), .ref (al 11), .ref (al 12), .int 0, .int 0, .int 0] := by
  unfold fl
  rw [show List.range 12 = [0, 1, 2, 3, 4, 5, 6, 7, 8, 9, 10, 11] from rfl]
  simp only [List.map_cons, List.map_nil, fvx_3_0, fvx_3_1, fvx_3_2, fvx_3_3, fvx_3_4, fvx_3_5, fvx_3_6, fvx_3_7, fvx_3_8, fvx_3_9, fvx_3_10, fvx_3_11]
theorem cex_3 (al : Nat → Nat) (cI cL cZ : ClassId) : ce (al, cI, cL, cZ) (RX false) hx0 3 (1, 12) = .inr (1, [.ref (al 4), .ref (al 5), .ref (al 6), .ref (al 7), .ref (al 8), .ref (al 9), .ref (al 10), .ref (al 11), .ref (al 12), .int 0, .int 0, .int 0]) := by
  rw [ce_obj (by decide), flx_3]
theorem cex_4 (al : Nat → Nat) (cI cL cZ : ClassId) : ce (al, cI, cL, cZ) (RX false) hx0 4 (100, 10) = .inl (cI, 10, .inl (fun _ => 0)) := rfl
theorem cex_5 (al : Nat → Nat) (cI cL cZ : ClassId) : ce (al, cI, cL, cZ) (RX false) hx0 5 (100, 10) = .inl (cI, 10, .inl (fun _ => 0)) := rfl
theorem cex_6 (al : Nat → Nat) (cI cL cZ : ClassId) : ce (al, cI, cL, cZ) (RX false) hx0 6 (100, 10) = .inl (cI, 10, .inl (fun _ => 0)) := rfl
theorem cex_7 (al : Nat → Nat) (cI cL cZ : ClassId) : ce (al, cI, cL, cZ) (RX false) hx0 7 (100, 10) = .inl (cI, 10, .inl (fun _ => 0)) := rfl
theorem cex_8 (al : Nat → Nat) (cI cL cZ : ClassId) : ce (al, cI, cL, cZ) (RX false) hx0 8 (100, 10) = .inl (cI, 10, .inl (fun _ => 0)) := rfl
theorem cex_9 (al : Nat → Nat) (cI cL cZ : ClassId) : ce (al, cI, cL, cZ) (RX false) hx0 9 (100, 10) = .inl (cI, 10, .inl (fun _ => 0)) := rfl
theorem cex_10 (al : Nat → Nat) (cI cL cZ : ClassId) : ce (al, cI, cL, cZ) (RX false) hx0 10 (100, 10) = .inl (cI, 10, .inl (fun _ => 0)) := rfl
theorem cex_11 (al : Nat → Nat) (cI cL cZ : ClassId) : ce (al, cI, cL, cZ) (RX false) hx0 11 (100, 12) = .inl (cI, 12, .inl (fun _ => 0)) := rfl
theorem cex_12 (al : Nat → Nat) (cI cL cZ : ClassId) : ce (al, cI, cL, cZ) (RX false) hx0 12 (100, 8) = .inl (cI, 8, .inl (fun _ => 0)) := rfl
theorem fvx_13_0 (al : Nat → Nat) : fv al (RX false) hx0 13 0 (fk (kty 1 0)) = .ref (al 14) := rfl
theorem fvx_13_1 (al : Nat → Nat) : fv al (RX false) hx0 13 1 (fk (kty 1 1)) = .ref (al 15) := rfl
theorem fvx_13_2 (al : Nat → Nat) : fv al (RX false) hx0 13 2 (fk (kty 1 2)) = .ref (al 16) := rfl
theorem fvx_13_3 (al : Nat → Nat) : fv al (RX false) hx0 13 3 (fk (kty 1 3)) = .ref (al 17) := rfl
theorem fvx_13_4 (al : Nat → Nat) : fv al (RX false) hx0 13 4 (fk (kty 1 4)) = .ref (al 18) := rfl
theorem fvx_13_5 (al : Nat → Nat) : fv al (RX false) hx0 13 5 (fk (kty 1 5)) = .ref (al 19) := rfl
theorem fvx_13_6 (al : Nat → Nat) : fv al (RX false) hx0 13 6 (fk (kty 1 6)) = .ref (al 20) := rfl
theorem fvx_13_7 (al : Nat → Nat) : fv al (RX false) hx0 13 7 (fk (kty 1 7)) = .ref (al 21) := rfl
theorem fvx_13_8 (al : Nat → Nat) : fv al (RX false) hx0 13 8 (fk (kty 1 8)) = .ref (al 22) := rfl
theorem fvx_13_9 (al : Nat → Nat) : fv al (RX false) hx0 13 9 (fk (kty 1 9)) = .int 0 := rfl
theorem fvx_13_10 (al : Nat → Nat) : fv al (RX false) hx0 13 10 (fk (kty 1 10)) = .int 0 := rfl
theorem fvx_13_11 (al : Nat → Nat) : fv al (RX false) hx0 13 11 (fk (kty 1 11)) = .int 0 := rfl
theorem flx_13 (al : Nat → Nat) (cI cL cZ : ClassId) : fl (al, cI, cL, cZ) (RX false) hx0 13 1 12 = [.ref (al 14), .ref (al 15), .ref (al 16), .ref (al 17), .ref (al 18), .ref (al 19), .ref (al 20), .ref (al 21), .ref (al 22), .int 0, .int 0, .int 0] := by
  unfold fl
  rw [show List.range 12 = [0, 1, 2, 3, 4, 5, 6, 7, 8, 9, 10, 11] from rfl]
  simp only [List.map_cons, List.map_nil, fvx_13_0, fvx_13_1, fvx_13_2, fvx_13_3, fvx_13_4, fvx_13_5, fvx_13_6, fvx_13_7, fvx_13_8, fvx_13_9, fvx_13_10, fvx_13_11]
theorem cex_13 (al : Nat → Nat) (cI cL cZ : ClassId) : ce (al, cI, cL, cZ) (RX false) hx0 13 (1, 12) = .inr (1, [.ref (al 14), .ref (al 15), .ref (al 16), .ref (al 17), .ref (al 18), .ref (al 19), .ref (al 20), .ref (al 21), .ref (al 22), .int 0, .int 0, .int 0]) := by
  rw [ce_obj (by decide), flx_13]
theorem cex_14 (al : Nat → Nat) (cI cL cZ : ClassId) : ce (al, cI, cL, cZ) (RX false) hx0 14 (100, 10) = .inl (cI, 10, .inl (fun _ => 0)) := rfl
theorem cex_15 (al : Nat → Nat) (cI cL cZ : ClassId) : ce (al, cI, cL, cZ) (RX false) hx0 15 (100, 10) = .inl (cI, 10, .inl (fun _ => 0)) := rfl
theorem cex_16 (al : Nat → Nat) (cI cL cZ : ClassId) : ce (al, cI, cL, cZ) (RX false) hx0 16 (100, 10) = .inl (cI, 10, .inl (fun _ => 0)) := rfl
theorem cex_17 (al : Nat → Nat) (cI cL cZ : ClassId) : ce (al, cI, cL, cZ) (RX false) hx0 17 (100, 10) = .inl (cI, 10, .inl (fun _ => 0)) := rfl
theorem cex_18 (al : Nat → Nat) (cI cL cZ : ClassId) : ce (al, cI, cL, cZ) (RX false) hx0 18 (100, 10) = .inl (cI, 10, .inl (fun _ => 0)) := rfl
theorem cex_19 (al : Nat → Nat) (cI cL cZ : ClassId) : ce (al, cI, cL, cZ) (RX false) hx0 19 (100, 10) = .inl (cI, 10, .inl (fun _ => 0)) := rfl
theorem cex_20 (al : Nat → Nat) (cI cL cZ : ClassId) : ce (al, cI, cL, cZ) (RX false) hx0 20 (100, 10) = .inl (cI, 10, .inl (fun _ => 0)) := rfl
theorem cex_21 (al : Nat → Nat) (cI cL cZ : ClassId) : ce (al, cI, cL, cZ) (RX false) hx0 21 (100, 12) = .inl (cI, 12, .inl (fun _ => 0)) := rfl
theorem cex_22 (al : Nat → Nat) (cI cL cZ : ClassId) : ce (al, cI, cL, cZ) (RX false) hx0 22 (100, 8) = .inl (cI, 8, .inl (fun _ => 0)) := rfl
theorem fvx_23_0 (al : Nat → Nat) : fv al (RX false) hx0 23 0 (fk (kty 0 0)) = .ref (al 24) := rfl
theorem fvx_23_1 (al : Nat → Nat) : fv al (RX false) hx0 23 1 (fk (kty 0 1)) = .int 0 := rfl
theorem fvx_23_2 (al : Nat → Nat) : fv al (RX false) hx0 23 2 (fk (kty 0 2)) = .int 0 := rfl
theorem fvx_23_3 (al : Nat → Nat) : fv al (RX false) hx0 23 3 (fk (kty 0 3)) = .int 0 := rfl
theorem fvx_23_4 (al : Nat → Nat) : fv al (RX false) hx0 23 4 (fk (kty 0 4)) = .int 0 := rfl
theorem fvx_23_5 (al : Nat → Nat) : fv al (RX false) hx0 23 5 (fk (kty 0 5)) = .int 0 := rfl
theorem fvx_23_6 (al : Nat → Nat) : fv al (RX false) hx0 23 6 (fk (kty 0 6)) = .int 0 := rfl
theorem flx_23 (al : Nat → Nat) (cI cL cZ : ClassId) : fl (al, cI, cL, cZ) (RX false) hx0 23 0 7 = [.ref (al 24), .int 0, .int 0, .int 0, .int 0, .int 0, .int 0] := by
  unfold fl
  rw [show List.range 7 = [0, 1, 2, 3, 4, 5, 6] from rfl]
  simp only [List.map_cons, List.map_nil, fvx_23_0, fvx_23_1, fvx_23_2, fvx_23_3, fvx_23_4, fvx_23_5, fvx_23_6]
theorem cex_23 (al : Nat → Nat) (cI cL cZ : ClassId) : ce (al, cI, cL, cZ) (RX false) hx0 23 (0, 7) = .inr (0, [.ref (al 24), .int 0, .int 0, .int 0, .int 0, .int 0, .int 0]) := by
  rw [ce_obj (by decide), flx_23]
theorem cex_24 (al : Nat → Nat) (cI cL cZ : ClassId) : ce (al, cI, cL, cZ) (RX false) hx0 24 (100, 10) = .inl (cI, 10, .inl (fun _ => 0)) := rfl
theorem fvx_25_0 (al : Nat → Nat) : fv al (RX false) hx0 25 0 (fk (kty 0 0)) = .ref (al 26) := rfl
theorem fvx_25_1 (al : Nat → Nat) : fv al (RX false) hx0 25 1 (fk (kty 0 1)) = .int 0 := rfl
theorem fvx_25_2 (al : Nat → Nat) : fv al (RX false) hx0 25 2 (fk (kty 0 2)) = .int 0 := rfl
theorem fvx_25_3 (al : Nat → Nat) : fv al (RX false) hx0 25 3 (fk (kty 0 3)) = .int 0 := rfl
theorem fvx_25_4 (al : Nat → Nat) : fv al (RX false) hx0 25 4 (fk (kty 0 4)) = .int 0 := rfl
theorem fvx_25_5 (al : Nat → Nat) : fv al (RX false) hx0 25 5 (fk (kty 0 5)) = .int 0 := rfl
theorem fvx_25_6 (al : Nat → Nat) : fv al (RX false) hx0 25 6 (fk (kty 0 6)) = .int 0 := rfl
theorem flx_25 (al : Nat → Nat) (cI cL cZ : ClassId) : fl (al, cI, cL, cZ) (RX false) hx0 25 0 7 = [.ref (al 26), .int 0, .int 0, .int 0, .int 0, .int 0, .int 0] := by
  unfold fl
  rw [show List.range 7 = [0, 1, 2, 3, 4, 5, 6] from rfl]
  simp only [List.map_cons, List.map_nil, fvx_25_0, fvx_25_1, fvx_25_2, fvx_25_3, fvx_25_4, fvx_25_5, fvx_25_6]
theorem cex_25 (al : Nat → Nat) (cI cL cZ : ClassId) : ce (al, cI, cL, cZ) (RX false) hx0 25 (0, 7) = .inr (0, [.ref (al 26), .int 0, .int 0, .int 0, .int 0, .int 0, .int 0]) := by
  rw [ce_obj (by decide), flx_25]
theorem cex_26 (al : Nat → Nat) (cI cL cZ : ClassId) : ce (al, cI, cL, cZ) (RX false) hx0 26 (100, 10) = .inl (cI, 10, .inl (fun _ => 0)) := rfl
theorem fvx_27_0 (al : Nat → Nat) : fv al (RX false) hx0 27 0 (fk (kty 2 0)) = .ref (al 28) := rfl
theorem fvx_27_1 (al : Nat → Nat) : fv al (RX false) hx0 27 1 (fk (kty 2 1)) = .int 0 := rfl
theorem fvx_27_2 (al : Nat → Nat) : fv al (RX false) hx0 27 2 (fk (kty 2 2)) = .int 0 := rfl
theorem flx_27 (al : Nat → Nat) (cI cL cZ : ClassId) : fl (al, cI, cL, cZ) (RX false) hx0 27 2 3 = [.ref (al 28), .int 0, .int 0] := by
  unfold fl
  rw [show List.range 3 = [0, 1, 2] from rfl]
  simp only [List.map_cons, List.map_nil, fvx_27_0, fvx_27_1, fvx_27_2]
theorem cex_27 (al : Nat → Nat) (cI cL cZ : ClassId) : ce (al, cI, cL, cZ) (RX false) hx0 27 (2, 3) = .inr (2, [.ref (al 28), .int 0, .int 0]) := by
  rw [ce_obj (by decide), flx_27]
theorem cex_28 (al : Nat → Nat) (cI cL cZ : ClassId) : ce (al, cI, cL, cZ) (RX false) hx0 28 (100, 480) = .inl (cI, 480, .inl (fun _ => 0)) := rfl
theorem fvx_29_0 (al : Nat → Nat) : fv al (RX false) hx0 29 0 (fk (kty 3 0)) = .ref (al 30) := rfl
theorem fvx_29_1 (al : Nat → Nat) : fv al (RX false) hx0 29 1 (fk (kty 3 1)) = .ref (al 31) := rfl
theorem fvx_29_2 (al : Nat → Nat) : fv al (RX false) hx0 29 2 (fk (kty 3 2)) = .ref (al 32) := rfl
theorem fvx_29_3 (al : Nat → Nat) : fv al (RX false) hx0 29 3 (fk (kty 3 3)) = .int 0 := rfl
theorem fvx_29_4 (al : Nat → Nat) : fv al (RX false) hx0 29 4 (fk (kty 3 4)) = .int 0 := rfl
theorem fvx_29_5 (al : Nat → Nat) : fv al (RX false) hx0 29 5 (fk (kty 3 5)) = .int 0 := rfl
theorem fvx_29_6 (al : Nat → Nat) : fv al (RX false) hx0 29 6 (fk (kty 3 6)) = .int 0 := rfl
theorem flx_29 (al : Nat → Nat) (cI cL cZ : ClassId) : fl (al, cI, cL, cZ) (RX false) hx0 29 3 7 = [.ref (al 30), .ref (al 31), .ref (al 32), .int 0, .int 0, .int 0, .int 0] := by
  unfold fl
  rw [show List.range 7 = [0, 1, 2, 3, 4, 5, 6] from rfl]
  simp only [List.map_cons, List.map_nil, fvx_29_0, fvx_29_1, fvx_29_2, fvx_29_3, fvx_29_4, fvx_29_5, fvx_29_6]
theorem cex_29 (al : Nat → Nat) (cI cL cZ : ClassId) : ce (al, cI, cL, cZ) (RX false) hx0 29 (3, 7) = .inr (3, [.ref (al 30), .ref (al 31), .ref (al 32), .int 0, .int 0, .int 0, .int 0]) := by
  rw [ce_obj (by decide), flx_29]
theorem cex_30 (al : Nat → Nat) (cI cL cZ : ClassId) : ce (al, cI, cL, cZ) (RX false) hx0 30 (100, 6) = .inl (cI, 6, .inl (fun _ => 0)) := rfl
theorem cex_31 (al : Nat → Nat) (cI cL cZ : ClassId) : ce (al, cI, cL, cZ) (RX false) hx0 31 (100, 6) = .inl (cI, 6, .inl (fun _ => 0)) := rfl
theorem cex_32 (al : Nat → Nat) (cI cL cZ : ClassId) : ce (al, cI, cL, cZ) (RX false) hx0 32 (100, 20) = .inl (cI, 20, .inl (fun _ => 0)) := rfl
theorem cex_33 (al : Nat → Nat) (cI cL cZ : ClassId) : ce (al, cI, cL, cZ) (RX false) hx0 33 (100, 32) = .inl (cI, 32, .inl (fun _ => 0)) := rfl
theorem cex_34 (al : Nat → Nat) (cI cL cZ : ClassId) : ce (al, cI, cL, cZ) (RX false) hx0 34 (100, 2) = .inl (cI, 2, .inl (fun _ => 0)) := rfl
set_option maxRecDepth 20000 in
theorem cwx_eq (al : Nat → Nat) (cI cL cZ : ClassId) : ([(al 0, .inr (5, [.ref (al 1), .ref (al 3), .ref (al 13), .ref (al 23), .ref (al 25), .ref (al 27), .ref (al 29), .ref (al 33), .ref (al 34), .int 0, .int 0])), (al 1, .inr (4, [.ref (al 2), .int 0, .int 0, .int 0, .int (-1)])), (al 2, .inl (cI, 240, .inl (fun _ => 0))), (al 3, .inr (1, [.ref (al 4), .ref (al 5), .ref (al 6), .ref (al 7), .ref (al 8), .ref (al 9), .ref (al 10), .ref (al 11), .ref (al 12), .int 0, .int 0, .int 0])), (al 4, .inl (cI, 10, .inl (fun _ => 0))), (al 5, .inl (cI, 10, .inl (fun _ => 0))), (al 6, .inl (cI, 10, .inl (fun _ => 0))), (al 7, .inl (cI, 10, .inl (fun _ => 0))), (al 8, .inl (cI, 10, .inl (fun _ => 0))), (al 9, .inl (cI, 10, .inl (fun _ => 0))), (al 10, .inl (cI, 10, .inl (fun _ => 0))), (al 11, .inl (cI, 12, .inl (fun _ => 0))), (al 12, .inl (cI, 8, .inl (fun _ => 0))), (al 13, .inr (1, [.ref (al 14), .ref (al 15), .ref (al 16), .ref (al 17), .ref (al 18), .ref (al 19), .ref (al 20), .ref (al 21), .ref (al 22), .int 0, .int 0, .int 0])), (al 14, .inl (cI, 10, .inl (fun _ => 0))), (al 15, .inl (cI, 10, .inl (fun _ => 0))), (al 16, .inl (cI, 10, .inl (fun _ => 0))), (al 17, .inl (cI, 10, .inl (fun _ => 0))), (al 18, .inl (cI, 10, .inl (fun _ => 0))), (al 19, .inl (cI, 10, .inl (fun _ => 0))), (al 20, .inl (cI, 10, .inl (fun _ => 0))), (al 21, .inl (cI, 12, .inl (fun _ => 0))), (al 22, .inl (cI, 8, .inl (fun _ => 0))), (al 23, .inr (0, [.ref (al 24), .int 0, .int 0, .int 0, .int 0, .int 0, .int 0])), (al 24, .inl (cI, 10, .inl (fun _ => 0))), (al 25, .inr (0, [.ref (al 26), .int 0, .int 0, .int 0, .int 0, .int 0, .int 0])), (al 26, .inl (cI, 10, .inl (fun _ => 0))), (al 27, .inr (2, [.ref (al 28), .int 0, .int 0])), (al 28, .inl (cI, 480, .inl (fun _ => 0))), (al 29, .inr (3, [.ref (al 30), .ref (al 31), .ref (al 32), .int 0, .int 0, .int 0, .int 0])), (al 30, .inl (cI, 6, .inl (fun _ => 0))), (al 31, .inl (cI, 6, .inl (fun _ => 0))), (al 32, .inl (cI, 20, .inl (fun _ => 0))), (al 33, .inl (cI, 32, .inl (fun _ => 0))), (al 34, .inl (cI, 2, .inl (fun _ => 0)))] : va_W) = cw (al, cI, cL, cZ) Sx (RX false) hx0 := by
  refine cw_ext rfl (fun k q hq => ?_)
  have hk : k < 35 := (List.getElem?_eq_some_iff.mp hq).1
  rcases (show k = 0 ∨ k = 1 ∨ k = 2 ∨ k = 3 ∨ k = 4 ∨ k = 5 ∨ k = 6 ∨ k = 7 ∨ k = 8 ∨ k = 9 ∨ k = 10 ∨ k = 11 ∨ k = 12 ∨ k = 13 ∨ k = 14 ∨ k = 15 ∨ k = 16 ∨ k = 17 ∨ k = 18 ∨ k = 19 ∨ k = 20 ∨ k = 21 ∨ k = 22 ∨ k = 23 ∨ k = 24 ∨ k = 25 ∨ k = 26 ∨ k = 27 ∨ k = 28 ∨ k = 29 ∨ k = 30 ∨ k = 31 ∨ k = 32 ∨ k = 33 ∨ k = 34 by omega) with rfl | rfl | rfl | rfl | rfl | rfl | rfl | rfl | rfl | rfl | rfl | rfl | rfl | rfl | rfl | rfl | rfl | rfl | rfl | rfl | rfl | rfl | rfl | rfl | rfl | rfl | rfl | rfl | rfl | rfl | rfl | rfl | rfl | rfl | rfl
  · have hq : q = (5, 11) := (Option.some.inj (show some (5, 11) = some q from hq)).symm
    rw [hq, cex_0]; rfl
  · have hq : q = (4, 5) := (Option.some.inj (show some (4, 5) = some q from hq)).symm
    rw [hq, cex_1]; rfl
  · have hq : q = (100, 240) := (Option.some.inj (show some (100, 240) = some q from hq)).symm
    rw [hq, cex_2]; rfl
  · have hq : q = (1, 12) := (Option.some.inj (show some (1, 12) = some q from hq)).symm
    rw [hq, cex_3]; rfl
  · have hq : q = (100, 10) := (Option.some.inj (show some (100, 10) = some q from hq)).symm
    rw [hq, cex_4]; rfl
  · have hq : q = (100, 10) := (Option.some.inj (show some (100, 10) = some q from hq)).symm
    rw [hq, cex_5]; rfl
  · have hq : q = (100, 10) := (Option.some.inj (show some (100, 10) = some q from hq)).symm
    rw [hq, cex_6]; rfl
  · have hq : q = (100, 10) := (Option.some.inj (show some (100, 10) = some q from hq)).symm
    rw [hq, cex_7]; rfl
  · have hq : q = (100, 10) := (Option.some.inj (show some (100, 10) = some q from hq)).symm
    rw [hq, cex_8]; rfl
  · have hq : q = (100, 10) := (Option.some.inj (show some (100, 10) = some q from hq)).symm
    rw [hq, cex_9]; rfl
  · have hq : q = (100, 10) := (Option.some.inj (show some (100, 10) = some q from hq)).symm
    rw [hq, cex_10]; rfl
  · have hq : q = (100, 12) := (Option.some.inj (show some (100, 12) = some q from hq)).symm
    rw [hq, cex_11]; rfl
  · have hq : q = (100, 8) := (Option.some.inj (show some (100, 8) = some q from hq)).symm
    rw [hq, cex_12]; rfl
  · have hq : q = (1, 12) := (Option.some.inj (show some (1, 12) = some q from hq)).symm
    rw [hq, cex_13]; rfl
  · have hq : q = (100, 10) := (Option.some.inj (show some (100, 10) = some q from hq)).symm
    rw [hq, cex_14]; rfl
  · have hq : q = (100, 10) := (Option.some.inj (show some (100, 10) = some q from hq)).symm
    rw [hq, cex_15]; rfl
  · have hq : q = (100, 10) := (Option.some.inj (show some (100, 10) = some q from hq)).symm
    rw [hq, cex_16]; rfl
  · have hq : q = (100, 10) := (Option.some.inj (show some (100, 10) = some q from hq)).symm
    rw [hq, cex_17]; rfl
  · have hq : q = (100, 10) := (Option.some.inj (show some (100, 10) = some q from hq)).symm
    rw [hq, cex_18]; rfl
  · have hq : q = (100, 10) := (Option.some.inj (show some (100, 10) = some q from hq)).symm
    rw [hq, cex_19]; rfl
  · have hq : q = (100, 10) := (Option.some.inj (show some (100, 10) = some q from hq)).symm
    rw [hq, cex_20]; rfl
  · have hq : q = (100, 12) := (Option.some.inj (show some (100, 12) = some q from hq)).symm
    rw [hq, cex_21]; rfl
  · have hq : q = (100, 8) := (Option.some.inj (show some (100, 8) = some q from hq)).symm
    rw [hq, cex_22]; rfl
  · have hq : q = (0, 7) := (Option.some.inj (show some (0, 7) = some q from hq)).symm
    rw [hq, cex_23]; rfl
  · have hq : q = (100, 10) := (Option.some.inj (show some (100, 10) = some q from hq)).symm
    rw [hq, cex_24]; rfl
  · have hq : q = (0, 7) := (Option.some.inj (show some (0, 7) = some q from hq)).symm
    rw [hq, cex_25]; rfl
  · have hq : q = (100, 10) := (Option.some.inj (show some (100, 10) = some q from hq)).symm
    rw [hq, cex_26]; rfl
  · have hq : q = (2, 3) := (Option.some.inj (show some (2, 3) = some q from hq)).symm
    rw [hq, cex_27]; rfl
  · have hq : q = (100, 480) := (Option.some.inj (show some (100, 480) = some q from hq)).symm
    rw [hq, cex_28]; rfl
  · have hq : q = (3, 7) := (Option.some.inj (show some (3, 7) = some q from hq)).symm
    rw [hq, cex_29]; rfl
  · have hq : q = (100, 6) := (Option.some.inj (show some (100, 6) = some q from hq)).symm
    rw [hq, cex_30]; rfl
  · have hq : q = (100, 6) := (Option.some.inj (show some (100, 6) = some q from hq)).symm
    rw [hq, cex_31]; rfl
  · have hq : q = (100, 20) := (Option.some.inj (show some (100, 20) = some q from hq)).symm
    rw [hq, cex_32]; rfl
  · have hq : q = (100, 32) := (Option.some.inj (show some (100, 32) = some q from hq)).symm
    rw [hq, cex_33]; rfl
  · have hq : q = (100, 2) := (Option.some.inj (show some (100, 2) = some q from hq)).symm
    rw [hq, cex_34]; rfl
theorem fvm_0_0 (al : Nat → Nat) : fv al RM hm0 0 0 (fk (kty 6 0)) = .int 0 := rfl
theorem fvm_0_1 (al : Nat → Nat) : fv al RM hm0 0 1 (fk (kty 6 1)) = .ref (al 1) := rfl
theorem fvm_0_2 (al : Nat → Nat) : fv al RM hm0 0 2 (fk (kty 6 2)) = .int 0 := rfl
theorem fvm_0_3 (al : Nat → Nat) : fv al RM hm0 0 3 (fk (kty 6 3)) = .int 0 := rfl
theorem fvm_0_4 (al : Nat → Nat) : fv al RM hm0 0 4 (fk (kty 6 4)) = .int 0 := rfl
theorem fvm_0_5 (al : Nat → Nat) : fv al RM hm0 0 5 (fk (kty 6 5)) = .int (-1) := rfl
theorem fvm_0_6 (al : Nat → Nat) : fv al RM hm0 0 6 (fk (kty 6 6)) = .int 0 := rfl
theorem fvm_0_7 (al : Nat → Nat) : fv al RM hm0 0 7 (fk (kty 6 7)) = .int 0 := rfl
theorem fvm_0_8 (al : Nat → Nat) : fv al RM hm0 0 8 (fk (kty 6 8)) = .int 0 := rfl
theorem fvm_0_9 (al : Nat → Nat) : fv al RM hm0 0 9 (fk (kty 6 9)) = .ref (al 2) := rfl
theorem fvm_0_10 (al : Nat → Nat) : fv al RM hm0 0 10 (fk (kty 6 10)) = .ref (al 3) := rfl
theorem fvm_0_11 (al : Nat → Nat) : fv al RM hm0 0 11 (fk (kty 6 11)) = .ref (al 4) := rfl
theorem fvm_0_12 (al : Nat → Nat) : fv al RM hm0 0 12 (fk (kty 6 12)) = .ref (al 5) := rfl
theorem fvm_0_13 (al : Nat → Nat) : fv al RM hm0 0 13 (fk (kty 6 13)) = .ref (al 6) := rfl
theorem fvm_0_14 (al : Nat → Nat) : fv al RM hm0 0 14 (fk (kty 6 14)) = .int 0 := rfl
theorem fvm_0_15 (al : Nat → Nat) : fv al RM hm0 0 15 (fk (kty 6 15)) = .int 0 := rfl
theorem fvm_0_16 (al : Nat → Nat) : fv al RM hm0 0 16 (fk (kty 6 16)) = .int 0 := rfl
theorem fvm_0_17 (al : Nat → Nat) : fv al RM hm0 0 17 (fk (kty 6 17)) = .ref (al 7) := rfl
theorem fvm_0_18 (al : Nat → Nat) : fv al RM hm0 0 18 (fk (kty 6 18)) = .ref (al 8) := rfl
theorem fvm_0_19 (al : Nat → Nat) : fv al RM hm0 0 19 (fk (kty 6 19)) = .ref (al 9) := rfl
theorem fvm_0_20 (al : Nat → Nat) : fv al RM hm0 0 20 (fk (kty 6 20)) = .ref (al 10) := rfl
theorem fvm_0_21 (al : Nat → Nat) : fv al RM hm0 0 21 (fk (kty 6 21)) = .ref (al 11) := rfl
theorem fvm_0_22 (al : Nat → Nat) : fv al RM hm0 0 22 (fk (kty 6 22)) = .ref (al 12) := rfl
theorem fvm_0_23 (al : Nat → Nat) : fv al RM hm0 0 23 (fk (kty 6 23)) = .ref (al 13) := rfl
theorem fvm_0_24 (al : Nat → Nat) : fv al RM hm0 0 24 (fk (kty 6 24)) = .int 0 := rfl
theorem fvm_0_25 (al : Nat → Nat) : fv al RM hm0 0 25 (fk (kty 6 25)) = .int 0 := rfl
theorem fvm_0_26 (al : Nat → Nat) : fv al RM hm0 0 26 (fk (kty 6 26)) = .ref (al 14) := rfl
theorem fvm_0_27 (al : Nat → Nat) : fv al RM hm0 0 27 (fk (kty 6 27)) = .long 0 := rfl
theorem fvm_0_28 (al : Nat → Nat) : fv al RM hm0 0 28 (fk (kty 6 28)) = .int 0 := rfl
theorem fvm_0_29 (al : Nat → Nat) : fv al RM hm0 0 29 (fk (kty 6 29)) = .ref (al 15) := rfl
theorem fvm_0_30 (al : Nat → Nat) : fv al RM hm0 0 30 (fk (kty 6 30)) = .ref (al 16) := rfl
theorem fvm_0_31 (al : Nat → Nat) : fv al RM hm0 0 31 (fk (kty 6 31)) = .ref (al 17) := rfl
theorem fvm_0_32 (al : Nat → Nat) : fv al RM hm0 0 32 (fk (kty 6 32)) = .int 0 := rfl
theorem fvm_0_33 (al : Nat → Nat) : fv al RM hm0 0 33 (fk (kty 6 33)) = .ref (al 18) := rfl
theorem fvm_0_34 (al : Nat → Nat) : fv al RM hm0 0 34 (fk (kty 6 34)) = .ref (al 19) := rfl
theorem fvm_0_35 (al : Nat → Nat) : fv al RM hm0 0 35 (fk (kty 6 35)) = .ref (al 20) := rfl
theorem fvm_0_36 (al : Nat → Nat) : fv al RM hm0 0 36 (fk (kty 6 36)) = .ref (al 21) := rfl
theorem fvm_0_37 (al : Nat → Nat) : fv al RM hm0 0 37 (fk (kty 6 37)) = .ref (al 22) := rfl
theorem flm_0 (al : Nat → Nat) (cI cL cZ : ClassId) : fl (al, cI, cL, cZ) RM hm0 0 6 38 = [.int 0, .ref (al 1), .int 0, .int 0, .int 0, .int (-1), .int 0, .int 0, .int 0, .ref (al 2), .ref (al 3), .ref (al 4), .ref (al 5), .ref (al 6), .int 0, .int 0, .int 0, .ref (al 7), .ref (al 8), .ref (al 9), .ref (al 10), .ref (al 11), .ref (al 12), .ref (al 13), .int 0, .int 0, .ref (al 14), .long 0, .int 0, .ref (al 15), .ref (al 16), .ref (al 17), .int 0, .ref (al 18), .ref (al 19), .ref (al 20), .ref (al 21), .ref (al 22)] := by
  unfold fl
  rw [show List.range 38 = [0, 1, 2, 3, 4, 5, 6, 7, 8, 9, 10, 11, 12, 13, 14, 15, 16, 17, 18, 19, 20, 21, 22, 23, 24, 25, 26, 27, 28, 29, 30, 31, 32, 33, 34, 35, 36, 37] from rfl]
  simp only [List.map_cons, List.map_nil, fvm_0_0, fvm_0_1, fvm_0_2, fvm_0_3, fvm_0_4, fvm_0_5, fvm_0_6, fvm_0_7, fvm_0_8, fvm_0_9, fvm_0_10, fvm_0_11, fvm_0_12, fvm_0_13, fvm_0_14, fvm_0_15, fvm_0_16, fvm_0_17, fvm_0_18, fvm_0_19, fvm_0_20, fvm_0_21, fvm_0_22, fvm_0_23, fvm_0_24, fvm_0_25, fvm_0_26, fvm_0_27, fvm_0_28, fvm_0_29, fvm_0_30, fvm_0_31, fvm_0_32, fvm_0_33, fvm_0_34, fvm_0_35, fvm_0_36, fvm_0_37]
theorem cem_0 (al : Nat → Nat) (cI cL cZ : ClassId) : ce (al, cI, cL, cZ) RM hm0 0 (6, 38) = .inr (6, [.int 0, .ref (al 1), .int 0, .int 0, .int 0, .int (-1), .int 0, .int 0, .int 0, .ref (al 2), .ref (al 3), .ref (al 4), .ref (al 5), .ref (al 6), .int 0, .int 0, .int 0, .ref (al 7), .ref (al 8), .ref (al 9), .ref (al 10), .ref (al 11), .ref (al 12), .ref (al 13), .int 0, .int 0, .ref (al 14), .long 0, .int 0, .ref (al 15), .ref (al 16), .ref (al 17), .int 0, .ref (al 18), .ref (al 19), .ref (al 20), .ref (al 21), .ref (al 22)]) := by
  rw [ce_obj (by decide), flm_0]
theorem cem_1 (al : Nat → Nat) (cI cL cZ : ClassId) : ce (al, cI, cL, cZ) RM hm0 1 (100, 240) = .inl (cI, 240, .inl (fun _ => 0)) := rfl
theorem cem_2 (al : Nat → Nat) (cI cL cZ : ClassId) : ce (al, cI, cL, cZ) RM hm0 2 (100, 20) = .inl (cI, 20, .inl (fun _ => 0)) := rfl
theorem cem_3 (al : Nat → Nat) (cI cL cZ : ClassId) : ce (al, cI, cL, cZ) RM hm0 3 (100, 10) = .inl (cI, 10, .inl (fun _ => 0)) := rfl
theorem cem_4 (al : Nat → Nat) (cI cL cZ : ClassId) : ce (al, cI, cL, cZ) RM hm0 4 (100, 10) = .inl (cI, 10, .inl (fun _ => 0)) := rfl
theorem cem_5 (al : Nat → Nat) (cI cL cZ : ClassId) : ce (al, cI, cL, cZ) RM hm0 5 (100, 20) = .inl (cI, 20, .inl (fun _ => 0)) := rfl
theorem cem_6 (al : Nat → Nat) (cI cL cZ : ClassId) : ce (al, cI, cL, cZ) RM hm0 6 (100, 12) = .inl (cI, 12, .inl (fun _ => 0)) := rfl
theorem cem_7 (al : Nat → Nat) (cI cL cZ : ClassId) : ce (al, cI, cL, cZ) RM hm0 7 (100, 20) = .inl (cI, 20, .inl (fun _ => 0)) := rfl
theorem cem_8 (al : Nat → Nat) (cI cL cZ : ClassId) : ce (al, cI, cL, cZ) RM hm0 8 (100, 10) = .inl (cI, 10, .inl (fun _ => 0)) := rfl
theorem cem_9 (al : Nat → Nat) (cI cL cZ : ClassId) : ce (al, cI, cL, cZ) RM hm0 9 (100, 10) = .inl (cI, 10, .inl (fun _ => 0)) := rfl
theorem cem_10 (al : Nat → Nat) (cI cL cZ : ClassId) : ce (al, cI, cL, cZ) RM hm0 10 (100, 20) = .inl (cI, 20, .inl (fun _ => 0)) := rfl
theorem cem_11 (al : Nat → Nat) (cI cL cZ : ClassId) : ce (al, cI, cL, cZ) RM hm0 11 (100, 12) = .inl (cI, 12, .inl (fun _ => 0)) := rfl
theorem cem_12 (al : Nat → Nat) (cI cL cZ : ClassId) : ce (al, cI, cL, cZ) RM hm0 12 (100, 16) = .inl (cI, 16, .inl (fun _ => 0)) := rfl
theorem cem_13 (al : Nat → Nat) (cI cL cZ : ClassId) : ce (al, cI, cL, cZ) RM hm0 13 (100, 16) = .inl (cI, 16, .inl (fun _ => 0)) := rfl
theorem cem_14 (al : Nat → Nat) (cI cL cZ : ClassId) : ce (al, cI, cL, cZ) RM hm0 14 (100, 480) = .inl (cI, 480, .inl (fun _ => 0)) := rfl
theorem cem_15 (al : Nat → Nat) (cI cL cZ : ClassId) : ce (al, cI, cL, cZ) RM hm0 15 (100, 6) = .inl (cI, 6, .inl (fun _ => 0)) := rfl
theorem cem_16 (al : Nat → Nat) (cI cL cZ : ClassId) : ce (al, cI, cL, cZ) RM hm0 16 (100, 6) = .inl (cI, 6, .inl (fun _ => 0)) := rfl
theorem cem_17 (al : Nat → Nat) (cI cL cZ : ClassId) : ce (al, cI, cL, cZ) RM hm0 17 (102, 6) = .inl (cZ, 6, .inl (fun _ => 0)) := rfl
theorem cem_18 (al : Nat → Nat) (cI cL cZ : ClassId) : ce (al, cI, cL, cZ) RM hm0 18 (100, 20) = .inl (cI, 20, .inl (fun _ => 0)) := rfl
theorem cem_19 (al : Nat → Nat) (cI cL cZ : ClassId) : ce (al, cI, cL, cZ) RM hm0 19 (100, 20) = .inl (cI, 20, .inl (fun _ => 0)) := rfl
theorem cem_20 (al : Nat → Nat) (cI cL cZ : ClassId) : ce (al, cI, cL, cZ) RM hm0 20 (102, 2) = .inl (cZ, 2, .inl (fun _ => 0)) := rfl
theorem cem_21 (al : Nat → Nat) (cI cL cZ : ClassId) : ce (al, cI, cL, cZ) RM hm0 21 (100, 32) = .inl (cI, 32, .inl (fun _ => 0)) := rfl
theorem cem_22 (al : Nat → Nat) (cI cL cZ : ClassId) : ce (al, cI, cL, cZ) RM hm0 22 (101, 2) = .inl (cL, 2, .inr (.inl (fun _ => 0))) := rfl
set_option maxRecDepth 20000 in
theorem cwm_eq (al : Nat → Nat) (cI cL cZ : ClassId) : ([(al 0, .inr (6, [.int 0, .ref (al 1), .int 0, .int 0, .int 0, .int (-1), .int 0, .int 0, .int 0, .ref (al 2), .ref (al 3), .ref (al 4), .ref (al 5), .ref (al 6), .int 0, .int 0, .int 0, .ref (al 7), .ref (al 8), .ref (al 9), .ref (al 10), .ref (al 11), .ref (al 12), .ref (al 13), .int 0, .int 0, .ref (al 14), .long 0, .int 0, .ref (al 15), .ref (al 16), .ref (al 17), .int 0, .ref (al 18), .ref (al 19), .ref (al 20), .ref (al 21), .ref (al 22)])), (al 1, .inl (cI, 240, .inl (fun _ => 0))), (al 2, .inl (cI, 20, .inl (fun _ => 0))), (al 3, .inl (cI, 10, .inl (fun _ => 0))), (al 4, .inl (cI, 10, .inl (fun _ => 0))), (al 5, .inl (cI, 20, .inl (fun _ => 0))), (al 6, .inl (cI, 12, .inl (fun _ => 0))), (al 7, .inl (cI, 20, .inl (fun _ => 0))), (al 8, .inl (cI, 10, .inl (fun _ => 0))), (al 9, .inl (cI, 10, .inl (fun _ => 0))), (al 10, .inl (cI, 20, .inl (fun _ => 0))), (al 11, .inl (cI, 12, .inl (fun _ => 0))), (al 12, .inl (cI, 16, .inl (fun _ => 0))), (al 13, .inl (cI, 16, .inl (fun _ => 0))), (al 14, .inl (cI, 480, .inl (fun _ => 0))), (al 15, .inl (cI, 6, .inl (fun _ => 0))), (al 16, .inl (cI, 6, .inl (fun _ => 0))), (al 17, .inl (cZ, 6, .inl (fun _ => 0))), (al 18, .inl (cI, 20, .inl (fun _ => 0))), (al 19, .inl (cI, 20, .inl (fun _ => 0))), (al 20, .inl (cZ, 2, .inl (fun _ => 0))), (al 21, .inl (cI, 32, .inl (fun _ => 0))), (al 22, .inl (cL, 2, .inr (.inl (fun _ => 0))))] : va_W) = cw (al, cI, cL, cZ) Sm RM hm0 := by
  refine cw_ext rfl (fun k q hq => ?_)
  have hk : k < 23 := (List.getElem?_eq_some_iff.mp hq).1
  rcases (show k = 0 ∨ k = 1 ∨ k = 2 ∨ k = 3 ∨ k = 4 ∨ k = 5 ∨ k = 6 ∨ k = 7 ∨ k = 8 ∨ k = 9 ∨ k = 10 ∨ k = 11 ∨ k = 12 ∨ k = 13 ∨ k = 14 ∨ k = 15 ∨ k = 16 ∨ k = 17 ∨ k = 18 ∨ k = 19 ∨ k = 20 ∨ k = 21 ∨ k = 22 by omega) with rfl | rfl | rfl | rfl | rfl | rfl | rfl | rfl | rfl | rfl | rfl | rfl | rfl | rfl | rfl | rfl | rfl | rfl | rfl | rfl | rfl | rfl | rfl
  · have hq : q = (6, 38) := (Option.some.inj (show some (6, 38) = some q from hq)).symm
    rw [hq, cem_0]; rfl
  · have hq : q = (100, 240) := (Option.some.inj (show some (100, 240) = some q from hq)).symm
    rw [hq, cem_1]; rfl
  · have hq : q = (100, 20) := (Option.some.inj (show some (100, 20) = some q from hq)).symm
    rw [hq, cem_2]; rfl
  · have hq : q = (100, 10) := (Option.some.inj (show some (100, 10) = some q from hq)).symm
    rw [hq, cem_3]; rfl
  · have hq : q = (100, 10) := (Option.some.inj (show some (100, 10) = some q from hq)).symm
    rw [hq, cem_4]; rfl
  · have hq : q = (100, 20) := (Option.some.inj (show some (100, 20) = some q from hq)).symm
    rw [hq, cem_5]; rfl
  · have hq : q = (100, 12) := (Option.some.inj (show some (100, 12) = some q from hq)).symm
    rw [hq, cem_6]; rfl
  · have hq : q = (100, 20) := (Option.some.inj (show some (100, 20) = some q from hq)).symm
    rw [hq, cem_7]; rfl
  · have hq : q = (100, 10) := (Option.some.inj (show some (100, 10) = some q from hq)).symm
    rw [hq, cem_8]; rfl
  · have hq : q = (100, 10) := (Option.some.inj (show some (100, 10) = some q from hq)).symm
    rw [hq, cem_9]; rfl
  · have hq : q = (100, 20) := (Option.some.inj (show some (100, 20) = some q from hq)).symm
    rw [hq, cem_10]; rfl
  · have hq : q = (100, 12) := (Option.some.inj (show some (100, 12) = some q from hq)).symm
    rw [hq, cem_11]; rfl
  · have hq : q = (100, 16) := (Option.some.inj (show some (100, 16) = some q from hq)).symm
    rw [hq, cem_12]; rfl
  · have hq : q = (100, 16) := (Option.some.inj (show some (100, 16) = some q from hq)).symm
    rw [hq, cem_13]; rfl
  · have hq : q = (100, 480) := (Option.some.inj (show some (100, 480) = some q from hq)).symm
    rw [hq, cem_14]; rfl
  · have hq : q = (100, 6) := (Option.some.inj (show some (100, 6) = some q from hq)).symm
    rw [hq, cem_15]; rfl
  · have hq : q = (100, 6) := (Option.some.inj (show some (100, 6) = some q from hq)).symm
    rw [hq, cem_16]; rfl
  · have hq : q = (102, 6) := (Option.some.inj (show some (102, 6) = some q from hq)).symm
    rw [hq, cem_17]; rfl
  · have hq : q = (100, 20) := (Option.some.inj (show some (100, 20) = some q from hq)).symm
    rw [hq, cem_18]; rfl
  · have hq : q = (100, 20) := (Option.some.inj (show some (100, 20) = some q from hq)).symm
    rw [hq, cem_19]; rfl
  · have hq : q = (102, 2) := (Option.some.inj (show some (102, 2) = some q from hq)).symm
    rw [hq, cem_20]; rfl
  · have hq : q = (100, 32) := (Option.some.inj (show some (100, 32) = some q from hq)).symm
    rw [hq, cem_21]; rfl
  · have hq : q = (101, 2) := (Option.some.inj (show some (101, 2) = some q from hq)).symm
    rw [hq, cem_22]; rfl
