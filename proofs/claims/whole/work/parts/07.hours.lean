/-! ===== bonds: a row b: 0 done up, 1 turned, 2 held, 3 hours, 4 silver, 5 broke, 6 + l strain ===== -/
def Bc (r : Rf) (h : Hp) (k : Nat) (b : Nat → Nat) : Prop := h.1 k 1 = nI (b 0) ∧ h.1 k 2 = nI (b 1) ∧ h.1 k 3 = nI (b 2) ∧ h.1 k 4 = nI (b 3) ∧ h.1 k 5 = nI (b 4) ∧ h.1 k 6 = nI (b 5) ∧ ∀ l, l < 10 → h.1 (r k 0) l = nI (b (6 + l))
def Bm (h : Hp) (q : Nat) (b : Nat → Nat) : Prop := ∀ j, j < 16 → h.1 q j = nI (b j)
def BB (K : Kd) (b : Nat → Nat) : Prop := b 0 < 2 ^ (K 0 1) ∧ b 1 < 2 ^ (K 0 1) ∧ b 2 < 2 ^ (K 0 1) ∧ b 3 ≤ 100000 ∧ b 4 ≤ 99 ∧ ∀ l, l < 10 → b (6 + l) ≤ 999 ∧ (l < K 0 1 → (b 0).testBit l = true → b (6 + l) < K 4 l)
def wnd (K : Kd) (k : Nat) : Nat := if K 0 2 = 0 then 0 else K 7 (k % K 0 2)
def pul (kd x : Nat) (hb : Bool) : Nat := if kd = 1 then (if 6 ≤ x then 2 * x else 0) else if kd = 2 then x / 2 else if kd = 3 then (if hb then x - 3 else x) else x
def stn (K : Kd) (b : Nat → Nat) (x l : Nat) : Nat := min (b (6 + l) + pul (K 3 l) x ((b 2).testBit l)) 999
def brk (K : Kd) (b : Nat → Nat) (x l : Nat) : Bool := (b 0).testBit l && decide (K 4 l ≤ stn K b x l)
def brs (K : Kd) (b : Nat → Nat) (x : Nat) : Nat → Nat
  | 0 => 0
  | l + 1 => if brk K b x l then brs K b x l ||| 2 ^ l else brs K b x l
def pas (K : Kd) (b : Nat → Nat) : Nat → Nat := fun j =>
  if j = 0 then wo (b 0) (brs K b (wnd K (b 3)) (K 0 1)) else if j = 3 then b 3 + 1 else if j = 5 then b 5 + pc (brs K b (wnd K (b 3)) (K 0 1)) else if 6 ≤ j ∧ j < 6 + K 0 1 ∧ (b 0).testBit (j - 6) = true then stn K b (wnd K (b 3)) (j - 6) else b j
theorem wnd_le {K : Kd} (hK : Bk K) (k : Nat) : wnd K k ≤ 9 := by
  unfold wnd
  split
  · omega
  · next h => exact hK.2.2.2.2.1 _ (Nat.mod_lt _ (by omega))
theorem pul_le {kd x : Nat} {hb : Bool} (hx : x ≤ 9) : pul kd x hb ≤ 18 := by
  unfold pul
  repeat' split
  all_goals omega
theorem brs_lt {K : Kd} {b : Nat → Nat} {x : Nat} : ∀ l, brs K b x l < 2 ^ l := by
  intro l
  induction l with
  | zero => exact Nat.one_pos
  | succ l ih =>
    unfold brs
    split
    · exact or_lt (Nat.lt_trans ih (pw_lt (by omega))) (pw_lt (by omega))
    · exact Nat.lt_trans ih (pw_lt (by omega))
theorem brs_tb {K : Kd} {b : Nat → Nat} {x : Nat} : ∀ l i, (brs K b x l).testBit i = (decide (i < l) && brk K b x i) := by
  intro l
  induction l with
  | zero => intro i; simp [brs]
  | succ l ih =>
    intro i
    unfold brs
    by_cases c : brk K b x l = true
    · rw [if_pos c, Nat.testBit_or, ih, Nat.testBit_two_pow]
      by_cases e : l = i
      · subst e; simp [c]
      · simp [e]
        by_cases e2 : i < l
        · simp [e2, show i < l + 1 by omega]
        · simp [e2, show ¬ i < l + 1 by omega]
    · rw [if_neg c, ih]
      by_cases e : l = i
      · subst e; simp [c]
      · by_cases e2 : i < l
        · simp [e2, show i < l + 1 by omega]
        · simp [e2, show ¬ i < l + 1 by omega]
theorem pas_BB {K : Kd} {b : Nat → Nat} (hb : BB K b) (h3 : b 3 < 100000) : BB K (pas K b) := by
  obtain ⟨h0, h1, h2, -, h4, h6⟩ := hb
  refine ⟨wo_lt h0, h1, h2, h3, h4, fun l hl => ?_⟩
  have e : pas K b (6 + l) = if 6 ≤ 6 + l ∧ 6 + l < 6 + K 0 1 ∧ (b 0).testBit (6 + l - 6) = true then stn K b (wnd K (b 3)) (6 + l - 6) else b (6 + l) := by
    show (if 6 + l = 0 then _ else if 6 + l = 3 then _ else if 6 + l = 5 then _ else _) = _
    rw [if_neg (by omega), if_neg (by omega), if_neg (by omega)]
  rw [show 6 + l - 6 = l by omega] at e
  rw [e]
  constructor
  · split
    · exact Nat.min_le_right _ _
    · exact (h6 l hl).1
  · intro hlM ht
    have ht : (wo (b 0) (brs K b (wnd K (b 3)) (K 0 1))).testBit l = true := ht
    rw [wo_tb, brs_tb] at ht
    simp only [hlM, decide_true, Bool.true_and, Bool.and_eq_true, Bool.not_eq_true'] at ht
    obtain ⟨t1, t2⟩ := ht
    rw [if_pos ⟨by omega, by omega, t1⟩]
    unfold brk at t2
    rw [t1, Bool.true_and, decide_eq_false_iff_not] at t2
    omega
/-! frames -/
def Fr (P : Nat → Prop) (h h' : Hp) : Prop := h'.2 = h.2 ∧ ∀ a, ¬ P a → h'.1 a = h.1 a
theorem Fr.rf {P : Nat → Prop} {h : Hp} : Fr P h h := ⟨rfl, fun _ _ => rfl⟩
theorem Fr.tr {P : Nat → Prop} {h h' h2 : Hp} (a : Fr P h h') (b : Fr P h' h2) : Fr P h h2 := ⟨b.1.trans a.1, fun q hq => (b.2 q hq).trans (a.2 q hq)⟩
theorem Fr.pI {P : Nat → Prop} {h : Hp} {k j : Nat} {v : Int32} (hk : P k) : Fr P h (pI h k j v) := ⟨rfl, fun a ha => by
  funext x
  show (if a = k then _ else _) = _
  rw [if_neg (show ¬ a = k from fun e => ha (by rw [e]; exact hk))]⟩
theorem Fr.pC {P : Nat → Prop} {h : Hp} {k : Nat} {f : Nat → Int32} (hk : P k) : Fr P h (pC h k f) := ⟨rfl, fun a ha => by
  funext x
  show (if a = k then _ else _) = _
  rw [if_neg (show ¬ a = k from fun e => ha (by rw [e]; exact hk))]⟩
theorem Fr.mono {P Q : Nat → Prop} {h h' : Hp} (a : Fr P h h') (hPQ : ∀ q, P q → Q q) : Fr Q h h' := ⟨a.1, fun q hq => a.2 q (fun z => hq (hPQ q z))⟩
theorem Ch.fr {r : Rf} {h h' : Hp} {c : Nat} {K : Kd} {P : Nat → Prop} (hC : Ch r h c K) (hF : Fr P h h') (hc : ¬ P c) (hj : ∀ j, j < 8 → ¬ P (r c j)) : Ch r h' c K := by
  unfold Ch
  rw [hF.2 c hc, hF.2 _ (hj 0 (by omega)), hF.2 _ (hj 1 (by omega)), hF.2 _ (hj 2 (by omega)), hF.2 _ (hj 3 (by omega)), hF.2 _ (hj 4 (by omega)), hF.2 _ (hj 5 (by omega)), hF.2 _ (hj 6 (by omega)), hF.2 _ (hj 7 (by omega))]
  exact hC
theorem Cm.fr {r : Rf} {h h' : Hp} {K : Kd} {P : Nat → Prop} (hC : Cm r h K) (hF : Fr P h h') (hc : ¬ P 0) (hj : ∀ j, 17 ≤ j → j ≤ 21 → ¬ P (r 0 j)) : Cm r h' K := by
  unfold Cm
  rw [hF.2 0 hc, hF.2 _ (hj 17 (by omega) (by omega)), hF.2 _ (hj 18 (by omega) (by omega)), hF.2 _ (hj 19 (by omega) (by omega)), hF.2 _ (hj 20 (by omega) (by omega)), hF.2 _ (hj 21 (by omega) (by omega))]
  exact hC
theorem pI_eq {h : Hp} {k j : Nat} {v : Int32} : (pI h k j v).1 k j = v := by simp [pI]
theorem pI_nj {h : Hp} {k j i : Nat} {v : Int32} (hi : i ≠ j) : (pI h k j v).1 k i = h.1 k i := by simp [pI, hi]
theorem pI_nk {h : Hp} {k j a i : Nat} {v : Int32} (hi : a ≠ k) : (pI h k j v).1 a i = h.1 a i := by simp [pI, hi]
section HH
variable {r : Rf} {h : Hp} {c k n : Nat} {K : Kd} {b : Nat → Nat}
theorem z_windOf {m : Nat} (hC : Ch r h c K) (hK : Bk K) (hm : m < 2 ^ 31) : fX1_windOf n r c (nI m) h = some (nI (wnd K m)) := by
  have hW := hK.2.2.1
  unfold fX1_windOf wnd
  rw [hC.2.2.1]
  by_cases e : K 0 2 = 0
  · rw [if_pos e, if_pos (by rw [e]; decide)]; rfl
  · have hl := Nat.mod_lt m (show K 0 2 > 0 by omega)
    rw [if_neg e, if_neg (by rw [show (1 : Int32) = nI 1 from rfl, nI_ltI (by omega) (by omega)]; omega), if_pos (by rw [show (0 : Int32) = nI 0 from rfl]; exact nI_le (by omega) hm)]
    unfold cz
    rw [if_neg (by rw [show (0 : Int32) = nI 0 from rfl, nI_eq (by omega) (by omega)]; exact e), pk_rem hm (by omega) (by omega), z_ck (by omega) (by omega), nI_clamp (by omega), hC.2.2.2.2 _ hl]
theorem z_windOfM {m : Nat} (hC : Cm r h K) (hK : Bk K) (hm : m < 2 ^ 31) : fX6_windOf n r 0 (nI m) h = some (nI (wnd K m)) := by
  have hW := hK.2.2.1
  unfold fX6_windOf wnd
  rw [hC.2.2.1]
  by_cases e : K 0 2 = 0
  · rw [if_pos e, if_pos (by rw [e]; decide)]; rfl
  · have hl := Nat.mod_lt m (show K 0 2 > 0 by omega)
    have hne : ¬ nI (K 0 2) = 0 := by rw [show (0 : Int32) = nI 0 from rfl, nI_eq (by omega) (by omega)]; exact e
    rw [if_neg e, if_neg hne]
    unfold cz
    rw [if_neg hne, pk_rem hm (by omega) (by omega), z_ck (by omega) (by omega), nI_clamp (by omega), hC.2.2.2.2 _ hl]
theorem z_pull {kd x : Nat} {q : Bool} (hk : kd ≤ 3) (hx : x ≤ 9) : fX0_pull n r (nI kd) (nI x) (bI q) h = some (nI (pul kd x q)) := by
  have key : ∀ kd, kd ≤ 3 → ∀ x, x ≤ 9 → ∀ q : Bool, fX0_pull 0 (fun _ _ => 0) (nI kd) (nI x) (bI q) (fun _ _ => 0, fun _ _ => 0) = some (nI (pul kd x q)) := by decide +kernel
  exact key kd hk x hx q
end HH
