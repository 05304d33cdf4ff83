/-! ===== an hour, in the class ===== -/
theorem z_min {a p : Nat} (ha : a ≤ 999) (hp : p ≤ 18) : (if (999 : Int32) < nI a + nI p then (999 : Int32) else nI a + nI p) = nI (min (a + p) 999) := by
  rw [nI_add, show (999 : Int32) = nI 999 from rfl]
  by_cases c : 999 < a + p
  · rw [if_pos (nI_lt c (by omega)), Nat.min_eq_right (by omega)]
  · rw [if_neg (nI_nlt (by omega) (by omega)), Nat.min_eq_left (by omega)]
theorem z_sub0 {s t : Nat} (hs : s ≤ 99) (ht : t ≤ 999) : (0 : Int32) < nI s - nI t ↔ t < s := by
  rw [Int32.lt_iff_toInt_lt, pk_sub_toInt (by omega) (by omega), Int32.toInt_zero]
  omega
theorem z_sub1 {s t : Nat} (hs : s ≤ 99) (ht : t ≤ 999) : nI s - nI t ≤ (0 : Int32) ↔ s ≤ t := by
  rw [Int32.le_iff_toInt_le, pk_sub_toInt (by omega) (by omega), Int32.toInt_zero]
  omega
section PP
variable {r : Rf} {h : Hp} {c k n : Nat} {K : Kd} {b : Nat → Nat}
theorem z_spare {h : Hp} {l s t : Nat} (hl : l < 10) (h1 : h.1 (r c 4) l = nI s) (h2 : h.1 (r k 0) l = nI t) : fX0_spare n r k c (nI l) h = some (nI s - nI t) := by
  unfold fX0_spare
  rw [z_ck hl (by omega), z_ck hl (by omega), nI_clamp (by omega), h1, h2]
/-- apart: the bonds' cells, and the chart's -/
def Ap (r : Rf) (k c : Nat) : Prop := k ≠ r k 0 ∧ c ≠ k ∧ c ≠ r k 0 ∧ ∀ j, j < 9 → r c j ≠ k ∧ r c j ≠ r k 0
def psI (K : Kd) (b : Nat → Nat) (x i l : Nat) : Nat := if l < i ∧ (b 0).testBit l = true then stn K b x l else b (6 + l)
theorem z_passLoop {x : Nat} (hC : Ch r h c K) (hK : Bk K) (hB : Bc r h k b) (hb : BB K b) (hA : Ap r k c) (hx : x ≤ 9) (hn : 20 ≤ n) :
    ∃ h', it (fun (s : Int32 × Int32 × Hp) => bX0_passHour_14 n r k c (nI x) s.1 s.2.1 s.2.2) n (0, 0, h) = some (nI (brs K b x (K 0 1)), h') ∧ Fr (fun a => a = r k 0) h h' ∧ ∀ l, l < 10 → h'.1 (r k 0) l = nI (psI K b x (K 0 1) l) := by
  have hM := hK.2.1
  obtain ⟨hA1, hA2, hA3, hA4⟩ := hA
  have hd31 := p31 hb.1 (show K 0 1 ≤ 31 by omega)
  have hh31 := p31 hb.2.2.1 (show K 0 1 ≤ 31 by omega)
  obtain ⟨z, e1, h', rfl, e2, e3⟩ := it_from (b := fun (s : Int32 × Int32 × Hp) => bX0_passHour_14 n r k c (nI x) s.1 s.2.1 s.2.2) (fun i s => ∃ h', s = (nI (brs K b x i), nI i, h') ∧ Fr (fun a => a = r k 0) h h' ∧ ∀ l, l < 10 → h'.1 (r k 0) l = nI (psI K b x i l)) (fun z => ∃ h', z = (nI (brs K b x (K 0 1)), h') ∧ Fr (fun a => a = r k 0) h h' ∧ ∀ l, l < 10 → h'.1 (r k 0) l = nI (psI K b x (K 0 1) l)) (K 0 1) (n := n) (x := (0, 0, h)) (by omega) ⟨h, rfl, Fr.rf, fun l hl => by rw [hB.2.2.2.2.2.2 l hl]; unfold psI; rw [if_neg (by omega)]⟩ (by
    intro i s hi ⟨h', hs, hF, hst⟩
    subst hs
    have hC' : Ch r h' c K := hC.fr hF hA3 (fun j hj => (hA4 j (by omega)).2)
    have hk1 : h'.1 k = h.1 k := hF.2 k hA1
    by_cases ce : i < K 0 1
    · right
      refine ⟨ce, ?_⟩
      obtain ⟨-, -, -, ek, es, -⟩ := hC'.2.2.2.1 i ce
      obtain ⟨-, -, -, hk3, hs1, hs2, -⟩ := hK.2.2.2.1 i ce
      have e0 : bX0_passHour_14 n r k c (nI x) (nI (brs K b x i)) (nI i) h' = if bI ((b 0).testBit i) = 0 then some (.inl (nI (brs K b x i), nI (i + 1), h')) else (if (0 : Int32) < nI (K 4 i) - nI (stn K b x i) then some (.inl (nI (brs K b x i), nI (i + 1), pI h' (r k 0) i (nI (stn K b x i)))) else some (.inl (nI (brs K b x i ||| 2 ^ i), nI (i + 1), pI h' (r k 0) i (nI (stn K b x i))))) := by
        have hsp : fX0_spare n r k c (nI i) (pI h' (r k 0) i (nI (stn K b x i))) = some (nI (K 4 i) - nI (stn K b x i)) := z_spare (by omega) (by rw [pI_nk (hA4 4 (by omega)).2]; exact es) pI_eq
        unfold bX0_passHour_14
        rw [hC'.2.1, if_neg (nI_ge ce (by omega)), hk1, hB.1, z_has hd31 (by omega), Option.bind_some, z_ck (by omega) (by omega), z_ck (by omega) (by omega), hB.2.2.1, z_has hh31 (by omega), Option.bind_some, nI_clamp (by omega), ek, z_pull hk3 hx, Option.bind_some, z_ck (by omega) (by omega), hst i (by omega)]
        have hps : psI K b x i i = b (6 + i) := by unfold psI; rw [if_neg (by omega)]
        rw [hps, z_min (hb.2.2.2.2.2 i (by omega)).1 (pul_le hx)]
        simp only [lE]
        rw [show min (b (6 + i) + pul (K 3 i) x ((b 2).testBit i)) 999 = stn K b x i from rfl, hsp, Option.bind_some, z_shl (by omega), z_or, nI_1]
      show ∃ y, bX0_passHour_14 n r k c (nI x) (nI (brs K b x i)) (nI i) h' = _ ∧ _
      rw [e0]
      by_cases cb : (b 0).testBit i = true
      · rw [if_neg (by rw [bI_0, cb]; decide)]
        have hstn : stn K b x i ≤ 999 := Nat.min_le_right _ _
        have hF2 : Fr (fun a => a = r k 0) h (pI h' (r k 0) i (nI (stn K b x i))) := hF.tr (Fr.pI rfl)
        have hrow : ∀ l, l < 10 → (pI h' (r k 0) i (nI (stn K b x i))).1 (r k 0) l = nI (psI K b x (i + 1) l) := by
          intro l hl
          by_cases e : l = i
          · subst e
            rw [pI_eq]; unfold psI; rw [if_pos ⟨by omega, cb⟩]
          · rw [pI_nj e, hst l hl]
            unfold psI
            by_cases e2 : l < i
            · simp [e2, show l < i + 1 by omega]
            · simp [e2, show ¬ l < i + 1 by omega]
        by_cases cl : stn K b x i < K 4 i
        · rw [if_pos ((z_sub0 hs2 hstn).mpr cl)]
          refine ⟨_, rfl, _, ?_, hF2, hrow⟩
          have : brk K b x i = false := by unfold brk; rw [cb, decide_eq_false (by omega)]; rfl
          simp only [brs, this]; rfl
        · rw [if_neg (by rw [z_sub0 hs2 hstn]; exact cl)]
          refine ⟨_, rfl, _, ?_, hF2, hrow⟩
          have : brk K b x i = true := by unfold brk; rw [cb, decide_eq_true (by omega)]; rfl
          simp only [brs, this]; rfl
      · have cb : (b 0).testBit i = false := by simpa using cb
        rw [if_pos (by rw [cb]; rfl)]
        refine ⟨_, rfl, _, ?_, hF, fun l hl => ?_⟩
        · have : brk K b x i = false := by unfold brk; rw [cb]; rfl
          simp only [brs, this]; rfl
        · rw [hst l hl]
          unfold psI
          by_cases e : l = i
          · subst e; simp [cb]
          · by_cases e2 : l < i
            · simp [e2, show l < i + 1 by omega]
            · simp [e2, show ¬ l < i + 1 by omega]
    · left
      have : i = K 0 1 := by omega
      subst this
      refine ⟨_, ?_, h', rfl, hF, hst⟩
      show bX0_passHour_14 n r k c (nI x) (nI (brs K b x (K 0 1))) (nI (K 0 1)) h' = _
      unfold bX0_passHour_14
      rw [hC'.2.1, if_pos (nI_le (Nat.le_refl _) (by omega))])
  exact ⟨h', e1, e2, e3⟩
theorem z_pass (hC : Ch r h c K) (hK : Bk K) (hB : Bc r h k b) (hb : BB K b) (hA : Ap r k c) (hn : 20 ≤ n) :
    ∃ h', fX0_passHour n r k c h = some (nI (brs K b (wnd K (b 3)) (K 0 1)), h') ∧ Bc r h' k (pas K b) ∧ Fr (fun a => a = k ∨ a = r k 0) h h' := by
  have hM := hK.2.1
  obtain ⟨h', e1, e2, e3⟩ := z_passLoop (n := n) hC hK hB hb hA (wnd_le hK (b 3)) hn
  have h3 := hb.2.2.2.1
  have hk1 : h'.1 k = h.1 k := e2.2 k hA.1
  have hbl : brs K b (wnd K (b 3)) (K 0 1) < 2048 := Nat.lt_of_lt_of_le (brs_lt _) (Nat.pow_le_pow_right (by decide) (show K 0 1 ≤ 11 by omega))
  unfold fX0_passHour lX0_passHour_14
  rw [hB.2.2.2.1, z_windOf hC hK (by omega), Option.bind_some, e1, Option.bind_some]
  simp only [lE]
  rw [hk1, hB.1, z_wo, z_bc hbl, Option.bind_some]
  refine ⟨_, rfl, ?_, ?_⟩
  · have hkr : r k 0 ≠ k := Ne.symm hA.1
    refine ⟨?_, ?_, ?_, ?_, ?_, ?_, fun l hl => ?_⟩
    · rw [pI_nj (by decide), pI_nj (by decide), pI_eq]; rfl
    · rw [pI_nj (by decide), pI_nj (by decide), pI_nj (by decide), hk1, hB.2.1]; rfl
    · rw [pI_nj (by decide), pI_nj (by decide), pI_nj (by decide), hk1, hB.2.2.1]; rfl
    · rw [pI_eq, pI_nj (by decide), pI_nj (by decide), hk1, hB.2.2.2.1, nI_1]; rfl
    · rw [pI_nj (by decide), pI_nj (by decide), pI_nj (by decide), hk1, hB.2.2.2.2.1]; rfl
    · rw [pI_nj (by decide), pI_eq, pI_nj (by decide), hk1, hB.2.2.2.2.2.1, nI_add]; rfl
    · rw [pI_nk hkr, pI_nk hkr, pI_nk hkr, e3 l hl]
      unfold psI pas
      rw [if_neg (show ¬ 6 + l = 0 by omega), if_neg (show ¬ 6 + l = 3 by omega), if_neg (show ¬ 6 + l = 5 by omega), Nat.add_sub_cancel_left]
      by_cases c1 : l < K 0 1 ∧ (b 0).testBit l = true
      · rw [if_pos c1, if_pos ⟨by omega, by omega, c1.2⟩]
      · rw [if_neg c1, if_neg (fun q => c1 ⟨by omega, q.2.2⟩)]
  · exact ((((e2.mono (Q := fun a => a = k ∨ a = r k 0) (fun q hq => Or.inr hq)).tr (Fr.pI (Or.inl rfl))).tr (Fr.pI (Or.inl rfl))).tr (Fr.pI (Or.inl rfl)))
end PP
