/-! ===== an hour, in the reference ===== -/
theorem cl_0 : Int32.toNatClampNeg 0 = 0 := by decide +kernel
theorem cl_1 : Int32.toNatClampNeg 1 = 1 := by decide +kernel
theorem cl_2 : Int32.toNatClampNeg 2 = 2 := by decide +kernel
theorem cl_3 : Int32.toNatClampNeg 3 = 3 := by decide +kernel
theorem cl_4 : Int32.toNatClampNeg 4 = 4 := by decide +kernel
theorem cl_5 : Int32.toNatClampNeg 5 = 5 := by decide +kernel
theorem ck_0 {q : Type} {k : Option q} : ck 0 16 k = k := by unfold ck; rw [if_neg (by decide +kernel)]
theorem ck_1 {q : Type} {k : Option q} : ck 1 16 k = k := by unfold ck; rw [if_neg (by decide +kernel)]
theorem ck_2 {q : Type} {k : Option q} : ck 2 16 k = k := by unfold ck; rw [if_neg (by decide +kernel)]
theorem ck_3 {q : Type} {k : Option q} : ck 3 16 k = k := by unfold ck; rw [if_neg (by decide +kernel)]
theorem ck_4 {q : Type} {k : Option q} : ck 4 16 k = k := by unfold ck; rw [if_neg (by decide +kernel)]
theorem ck_5 {q : Type} {k : Option q} : ck 5 16 k = k := by unfold ck; rw [if_neg (by decide +kernel)]
theorem n6 (m : Nat) : (6 : Int32) + nI m = nI (6 + m) := nI_add 6 m
theorem m1 (x : Int32) : x + (-1) = x - 1 := (Int32.sub_eq_add_neg x 1).symm
theorem pcN_mono (m : Nat) : ∀ a b, a ≤ b → pcN m a ≤ pcN m b := by
  intro a b h
  induction h with
  | refl => exact Nat.le_refl _
  | step _ ih => exact Nat.le_trans ih (Nat.le_add_right _ _)
theorem pcN_top {m k : Nat} (h : m < 2 ^ k) : ∀ i, pcN m (k + i) = pcN m k := by
  intro i
  induction i with
  | zero => rfl
  | succ i ih =>
    show pcN m (k + i) + (if m.testBit (k + i) then 1 else 0) = _
    rw [z_tbl h (by omega), ih]; rfl
def svv (kd x : Int32) (q : Bool) : Option Int32 := if kd = 0 then some x else (if kd = 1 then (if 6 ≤ x then some (2 * x) else some 0) else (if kd = 2 then some (x / 2) else (if bI q = 0 then some x else (if x ≤ 3 then some 0 else some (x - 3)))))
theorem svv_all : ∀ kd, kd ≤ 3 → ∀ x, x ≤ 9 → ∀ q : Bool, svv (nI kd) (nI x) q = some (nI (pul kd x q)) := by decide +kernel
section PM
variable {r : Rf} {h : Hp} {q n : Nat} {K : Kd} {b : Nat → Nat}
theorem z_strains {l x : Nat} (hC : Cm r h K) (hK : Bk K) (hl : l < K 0 1) (hx : x ≤ 9) (h2 : h.1 q 2 = nI (b 2)) (hb : b 2 < 2 ^ 31) : fX6_strains n r 0 q 16 (nI l) (nI x) h = some (nI (pul (K 3 l) x ((b 2).testBit l))) := by
  have hM := hK.2.1
  obtain ⟨-, -, ek, -⟩ := hC.2.2.2.1 l hl
  obtain ⟨-, -, -, hk3, -⟩ := hK.2.2.2.1 l hl
  unfold fX6_strains
  rw [z_ck (by omega) (by omega), nI_clamp (by omega), ek, ck_2, cl_2, h2, z_hasM hb (by omega), Option.bind_some]
  exact svv_all _ hk3 x hx _
def ddm (K : Kd) (b : Nat → Nat) (x m : Nat) : Nat := wo (b 0) (wo (brs K b x (K 0 1)) (brs K b x m))
def cnm (K : Kd) (b : Nat → Nat) (x m : Nat) : Nat := pc (brs K b x (K 0 1)) - pcN (brs K b x (K 0 1)) m
def rwM (K : Kd) (b : Nat → Nat) (x m : Nat) : Nat → Nat := fun j =>
  if j = 0 then ddm K b x m else if j = 5 then b 5 + cnm K b x m else if 6 ≤ j ∧ m ≤ j - 6 ∧ j < 6 + K 0 1 ∧ (b 0).testBit (j - 6) = true then stn K b x (j - 6) else b j
theorem ddm_tb {x m i : Nat} : (ddm K b x m).testBit i = ((b 0).testBit i && !((decide (i < K 0 1) && brk K b x i) && !(decide (i < m) && brk K b x i))) := by
  unfold ddm
  rw [wo_tb, wo_tb, brs_tb, brs_tb]
theorem ddm_no {x m : Nat} (hb : brk K b x m = false) : ddm K b x m = ddm K b x (m + 1) := by
  apply Nat.eq_of_testBit_eq
  intro i
  rw [ddm_tb, ddm_tb]
  by_cases e : i = m
  · subst e; simp [hb]
  · by_cases e2 : i < m
    · simp [e2, show i < m + 1 by omega]
    · simp [e2, show ¬ i < m + 1 by omega]
theorem ddm_yes {x m : Nat} (hm : m < K 0 1) (hb : brk K b x m = true) : ddm K b x m = wo (ddm K b x (m + 1)) (2 ^ m) := by
  apply Nat.eq_of_testBit_eq
  intro i
  rw [wo_tb, ddm_tb, ddm_tb, Nat.testBit_two_pow]
  by_cases e : i = m
  · subst e; simp [hb, hm]
  · have e3 : ¬ m = i := fun q => e q.symm
    by_cases e2 : i < m
    · simp [e2, e3, show i < m + 1 by omega]
    · simp [e2, e3, show ¬ i < m + 1 by omega]
theorem cnm_no {x m : Nat} (hm : m < K 0 1) (hb : brk K b x m = false) : cnm K b x m = cnm K b x (m + 1) := by
  unfold cnm
  have : pcN (brs K b x (K 0 1)) (m + 1) = pcN (brs K b x (K 0 1)) m := by
    show pcN _ m + _ = _
    rw [brs_tb, hb]; simp
  rw [this]
theorem cnm_yes {x m : Nat} (hK : Bk K) (hm : m < K 0 1) (hb : brk K b x m = true) : cnm K b x m = cnm K b x (m + 1) + 1 := by
  unfold cnm
  have h1 : pcN (brs K b x (K 0 1)) (m + 1) = pcN (brs K b x (K 0 1)) m + 1 := by
    show pcN _ m + _ = _
    rw [brs_tb, hb]; simp [hm]
  have h2 := pcN_mono (brs K b x (K 0 1)) (m + 1) 12 (by have := hK.2.1; omega)
  have h3 : pc (brs K b x (K 0 1)) = pcN (brs K b x (K 0 1)) 12 := rfl
  omega
theorem rwM_top {x : Nat} (hK : Bk K) (j : Nat) : rwM K b x (K 0 1) j = b j := by
  have hM := hK.2.1
  unfold rwM
  by_cases c0 : j = 0
  · subst c0
    rw [if_pos rfl]
    apply Nat.eq_of_testBit_eq
    intro i
    rw [ddm_tb]
    cases (b 0).testBit i <;> cases decide (i < K 0 1) <;> cases brk K b x i <;> rfl
  · rw [if_neg c0]
    by_cases c5 : j = 5
    · subst c5
      rw [if_pos rfl]
      unfold cnm pc
      rw [show (12 : Nat) = K 0 1 + (12 - K 0 1) by omega, pcN_top (brs_lt _)]
      omega
    · rw [if_neg c5, if_neg (fun q => by omega)]
theorem z_passesLoop {x : Nat} (hC : Cm r h K) (hK : Bk K) (hB : Bm h q b) (hb : BB K b) (hA : q ≠ 0 ∧ ∀ j, 17 ≤ j → j ≤ 21 → r 0 j ≠ q) (hx : x ≤ 9) (hn : 20 ≤ n) :
    ∃ h', it (fun (s : Int32 × Int32 × Hp) => bX6_passes_18 n r 0 q 16 (nI x) s.1 s.2.1 s.2.2) n (-1, nI (K 0 1) - 1, h) = some (oI (ff (brk K b x) (K 0 1) 0), h') ∧ Fr (fun a => a = q) h h' ∧ ∀ j, j < 16 → h'.1 q j = nI (rwM K b x 0 j) := by
  have hM := hK.2.1
  have hd31 := p31 hb.1 (show K 0 1 ≤ 31 by omega)
  have hh31 := p31 hb.2.2.1 (show K 0 1 ≤ 31 by omega)
  obtain ⟨z, e1, h', rfl, e2, e3⟩ := it_from (b := fun (s : Int32 × Int32 × Hp) => bX6_passes_18 n r 0 q 16 (nI x) s.1 s.2.1 s.2.2) (fun i s => ∃ h', s = (oI (ff (brk K b x) i (K 0 1 - i)), nI (K 0 1 - i) - 1, h') ∧ Fr (fun a => a = q) h h' ∧ ∀ j, j < 16 → h'.1 q j = nI (rwM K b x (K 0 1 - i) j)) (fun z => ∃ h', z = (oI (ff (brk K b x) (K 0 1) 0), h') ∧ Fr (fun a => a = q) h h' ∧ ∀ j, j < 16 → h'.1 q j = nI (rwM K b x 0 j)) (K 0 1) (n := n) (x := (-1, nI (K 0 1) - 1, h)) (by omega) ⟨h, rfl, Fr.rf, fun j hj => by rw [hB j hj, Nat.sub_zero, rwM_top hK]⟩ (by
    intro i s hi ⟨h', hs, hF, hrow⟩
    subst hs
    have hC' : Cm r h' K := hC.fr hF (Ne.symm hA.1) (fun j h1 h2 => hA.2 j h1 h2)
    by_cases ce : i < K 0 1
    · right
      refine ⟨ce, ?_⟩
      obtain ⟨m, hm⟩ : ∃ m, K 0 1 - i = m + 1 := ⟨K 0 1 - i - 1, by omega⟩
      have hm2 : K 0 1 - (i + 1) = m := by omega
      have hml : m < K 0 1 := by omega
      rw [hm] at hrow ⊢
      rw [nI_pred, hm2]
      obtain ⟨-, -, ek, es, -⟩ := hC'.2.2.2.1 m hml
      obtain ⟨-, -, -, hk3, hs1, hs2, -⟩ := hK.2.2.2.1 m hml
      have hbi : (ddm K b x (m + 1)).testBit m = (b 0).testBit m := by
        rw [ddm_tb]
        cases (b 0).testBit m <;> cases decide (m < K 0 1) <;> cases brk K b x m <;> simp
      have hdl : ddm K b x (m + 1) < 2 ^ 31 := p31 (wo_lt hb.1) (by omega)
      have r0 : h'.1 q 0 = nI (ddm K b x (m + 1)) := by rw [hrow 0 (by omega)]; rfl
      have r2 : h'.1 q 2 = nI (b 2) := by rw [hrow 2 (by omega)]; unfold rwM; rw [if_neg (by decide), if_neg (by decide), if_neg (by omega)]
      have r5 : h'.1 q 5 = nI (b 5 + cnm K b x (m + 1)) := by rw [hrow 5 (by omega)]; rfl
      have rm : h'.1 q (6 + m) = nI (b (6 + m)) := by rw [hrow _ (by omega)]; unfold rwM; rw [if_neg (by omega), if_neg (by omega), if_neg (by omega)]
      have hstn : stn K b x m ≤ 999 := Nat.min_le_right _ _
      have hj : ∀ v3, jX6_passes_74 n r 0 q 16 (nI x) v3 (nI m) (nI (stn K b x m)) (nI (6 + m)) h' = if stn K b x m < K 4 m then some (.inl (v3, nI m - 1, pI h' q (6 + m) (nI (stn K b x m)))) else some (.inl (nI m, nI m - 1, pI (pI (pI h' q (6 + m) (nI (stn K b x m))) q 0 (nI (wo (ddm K b x (m + 1)) (2 ^ m)))) q 5 (nI (b 5 + cnm K b x (m + 1) + 1)))) := by
        intro v3
        unfold jX6_passes_74
        rw [z_ck (by omega) (by omega), nI_clamp (by omega)]
        simp only [lE]
        rw [n6, z_ck (by omega) (by omega), z_ck (by omega) (by omega), nI_clamp (by omega), nI_clamp (by omega), pI_eq, pI_nk (hA.2 19 (by omega) (by omega)), es, ck_0, ck_0, ck_5, ck_5, cl_0, cl_5, pI_nj (show 0 ≠ 6 + m by omega), r0, z_shl (by omega), z_wo, pI_nj (show 5 ≠ 0 by decide), pI_nj (show 5 ≠ 6 + m by omega), r5, nI_1, m1]
        by_cases cl : stn K b x m < K 4 m
        · rw [if_pos (nI_lt cl (by omega)), if_pos cl]
        · rw [if_neg (nI_nlt (by omega) (by omega)), if_neg cl]
      have e0 : ∀ v3, bX6_passes_18 n r 0 q 16 (nI x) v3 (nI m) h' = if bI ((b 0).testBit m) = 0 then some (.inl (v3, nI m - 1, h')) else jX6_passes_74 n r 0 q 16 (nI x) v3 (nI m) (nI (stn K b x m)) (nI (6 + m)) h' := by
        intro v3
        unfold bX6_passes_18
        rw [if_neg (nI_pos (by omega)), ck_0, cl_0, r0, z_hasM hdl (by omega), hbi, Option.bind_some, n6, z_ck (by omega) (by omega), z_strains hC' hK hml hx r2 hh31, Option.bind_some, nI_clamp (by omega), rm]
        simp only [lE]
        rw [nI_add, m1]
        congr 1
        have hp := pul_le (kd := K 3 m) (hb := (b 2).testBit m) hx
        have h9 := (hb.2.2.2.2.2 m (by omega)).1
        by_cases c9 : b (6 + m) + pul (K 3 m) x ((b 2).testBit m) ≤ 999
        · rw [if_pos (by rw [show (999 : Int32) = nI 999 from rfl]; exact nI_le c9 (by omega))]
          congr 2
          unfold stn; rw [Nat.min_eq_left c9]
        · rw [if_neg (by rw [show (999 : Int32) = nI 999 from rfl]; exact nI_ge (by omega) (by omega))]
          have : nI (stn K b x m) = 999 := by unfold stn; rw [Nat.min_eq_right (by omega)]; rfl
          rw [this]
      show ∃ y, bX6_passes_18 n r 0 q 16 (nI x) _ (nI m) h' = _ ∧ _
      rw [e0, hj]
      have hff : ff (brk K b x) (i + 1) m = if brk K b x m = true then some m else ff (brk K b x) i (m + 1) := rfl
      by_cases cb : (b 0).testBit m = true
      · rw [if_neg (by rw [bI_0, cb]; decide)]
        by_cases cl : stn K b x m < K 4 m
        · have hbr : brk K b x m = false := by unfold brk; rw [cb, decide_eq_false (by omega)]; rfl
          rw [if_pos cl]
          refine ⟨_, rfl, pI h' q (6 + m) (nI (stn K b x m)), ?_, hF.tr (Fr.pI rfl), fun j hj16 => ?_⟩
          · rw [hff, hbr, if_neg (by decide)]
          · by_cases e : j = 6 + m
            · subst e
              rw [pI_eq]; unfold rwM; rw [if_neg (by omega), if_neg (by omega), Nat.add_sub_cancel_left, if_pos ⟨by omega, by omega, by omega, cb⟩]
            · rw [pI_nj e, hrow j hj16]
              unfold rwM
              by_cases c0 : j = 0
              · rw [if_pos c0, if_pos c0, ddm_no hbr]
              · rw [if_neg c0, if_neg c0]
                by_cases c5 : j = 5
                · rw [if_pos c5, if_pos c5, cnm_no hml hbr]
                · rw [if_neg c5, if_neg c5]
                  by_cases c6 : 6 ≤ j ∧ m ≤ j - 6 ∧ j < 6 + K 0 1 ∧ (b 0).testBit (j - 6) = true
                  · rw [if_pos c6, if_pos ⟨c6.1, by omega, c6.2.2⟩]
                  · rw [if_neg c6, if_neg (fun q => c6 ⟨q.1, by omega, q.2.2⟩)]
        · have hbr : brk K b x m = true := by unfold brk; rw [cb, decide_eq_true (by omega)]; rfl
          rw [if_neg cl]
          refine ⟨_, rfl, pI (pI (pI h' q (6 + m) (nI (stn K b x m))) q 0 (nI (wo (ddm K b x (m + 1)) (2 ^ m)))) q 5 (nI (b 5 + cnm K b x (m + 1) + 1)), ?_, ((hF.tr (Fr.pI rfl)).tr (Fr.pI rfl)).tr (Fr.pI rfl), fun j hj16 => ?_⟩
          · rw [hff, hbr, if_pos rfl]; rfl
          · by_cases c5 : j = 5
            · subst c5
              rw [pI_eq]; unfold rwM; rw [if_neg (by decide), if_pos rfl, cnm_yes hK hml hbr, Nat.add_assoc]
            · rw [pI_nj c5]
              by_cases c0 : j = 0
              · subst c0
                rw [pI_eq]; unfold rwM; rw [if_pos rfl, ddm_yes hml hbr]
              · rw [pI_nj c0]
                by_cases e : j = 6 + m
                · subst e
                  rw [pI_eq]; unfold rwM; rw [if_neg (by omega), if_neg (by omega), Nat.add_sub_cancel_left, if_pos ⟨by omega, by omega, by omega, cb⟩]
                · rw [pI_nj e, hrow j hj16]
                  unfold rwM
                  rw [if_neg c0, if_neg c0, if_neg c5, if_neg c5]
                  by_cases c6 : 6 ≤ j ∧ m ≤ j - 6 ∧ j < 6 + K 0 1 ∧ (b 0).testBit (j - 6) = true
                  · rw [if_pos c6, if_pos ⟨c6.1, by omega, c6.2.2⟩]
                  · rw [if_neg c6, if_neg (fun q => c6 ⟨q.1, by omega, q.2.2⟩)]
      · have cb : (b 0).testBit m = false := by simpa using cb
        have hbr : brk K b x m = false := by unfold brk; rw [cb]; rfl
        rw [if_pos (by rw [cb]; rfl)]
        refine ⟨_, rfl, h', ?_, hF, fun j hj16 => ?_⟩
        · rw [hff, hbr, if_neg (by decide)]
        · rw [hrow j hj16]
          unfold rwM
          by_cases c0 : j = 0
          · rw [if_pos c0, if_pos c0, ddm_no hbr]
          · rw [if_neg c0, if_neg c0]
            by_cases c5 : j = 5
            · rw [if_pos c5, if_pos c5, cnm_no hml hbr]
            · rw [if_neg c5, if_neg c5]
              by_cases c6 : 6 ≤ j ∧ m ≤ j - 6 ∧ j < 6 + K 0 1 ∧ (b 0).testBit (j - 6) = true
              · have : j - 6 ≠ m := fun e => by rw [e, cb] at c6; exact absurd c6.2.2.2 (by decide)
                rw [if_pos c6, if_pos ⟨c6.1, by omega, c6.2.2⟩]
              · rw [if_neg c6, if_neg (fun q => c6 ⟨q.1, by omega, q.2.2⟩)]
    · left
      have : i = K 0 1 := by omega
      subst this
      rw [Nat.sub_self] at hrow ⊢
      refine ⟨_, ?_, h', rfl, hF, hrow⟩
      show bX6_passes_18 n r 0 q 16 (nI x) _ (nI 0 - 1) h' = _
      unfold bX6_passes_18
      rw [if_pos (by decide +kernel)])
  exact ⟨h', e1, e2, e3⟩
theorem z_passes (hC : Cm r h K) (hK : Bk K) (hB : Bm h q b) (hb : BB K b) (hA : q ≠ 0 ∧ ∀ j, 17 ≤ j → j ≤ 21 → r 0 j ≠ q) (hn : 20 ≤ n) :
    ∃ h', fX6_passes n r 0 q 16 h = some (oI (ff (brk K b (wnd K (b 3))) (K 0 1) 0), h') ∧ Bm h' q (pas K b) ∧ Fr (fun a => a = q) h h' := by
  obtain ⟨h', e1, e2, e3⟩ := z_passesLoop (n := n) hC hK hB hb hA (wnd_le hK (b 3)) hn
  have h3 := hb.2.2.2.1
  have r3 : h'.1 q 3 = nI (b 3) := by rw [e3 3 (by omega)]; unfold rwM; rw [if_neg (by decide), if_neg (by decide), if_neg (by omega)]
  unfold fX6_passes lX6_passes_18
  rw [ck_3, cl_3, hB 3 (by omega), z_windOfM hC hK (by omega), Option.bind_some]
  simp only [lE]
  rw [hC.2.1, e1, Option.bind_some, ck_3, ck_3, r3, nI_1]
  refine ⟨_, rfl, fun j hj => ?_, e2.tr (Fr.pI rfl)⟩
  by_cases c3 : j = 3
  · subst c3; rw [pI_eq]; rfl
  · rw [pI_nj c3, e3 j hj]
    unfold rwM pas
    by_cases c0 : j = 0
    · rw [if_pos c0, if_pos c0]
      congr 1
      unfold ddm
      congr 1
      apply Nat.eq_of_testBit_eq
      intro i
      rw [wo_tb]
      simp [brs]
    · rw [if_neg c0, if_neg c0, if_neg c3]
      by_cases c5 : j = 5
      · rw [if_pos c5, if_pos c5]; rfl
      · rw [if_neg c5, if_neg c5]
        by_cases c6 : 6 ≤ j ∧ j < 6 + K 0 1 ∧ (b 0).testBit (j - 6) = true
        · rw [if_pos c6, if_pos ⟨c6.1, by omega, c6.2⟩]
        · rw [if_neg c6, if_neg (fun q => c6 ⟨q.1, q.2.2⟩)]
end PM
