/-! ===== the two worlds' references ===== -/
def cc (w : Bool) : Nat := if w then 13 else 3
def dd (w : Bool) : Nat := if w then 3 else 13
def RX (w : Bool) : Rf := fun k j => if k = 0 then (if j = 1 then cc w else if j = 2 then dd w else if j = 0 then 1 else if j = 3 then 23 else if j = 4 then 25 else if j = 5 then 27 else if j = 6 then 29 else if j = 7 then 33 else 34) else if k = 1 then 2 else if k = 3 then 4 + j else if k = 13 then 14 + j else if k = 23 then 24 else if k = 25 then 26 else if k = 27 then 28 else 30 + j
def RM : Rf := fun _ j => if j = 1 then 1 else if j = 9 then 2 else if j = 10 then 3 else if j = 11 then 4 else if j = 12 then 5 else if j = 13 then 6 else if j = 17 then 7 else if j = 18 then 8 else if j = 19 then 9 else if j = 20 then 10 else if j = 21 then 11 else if j = 22 then 12 else if j = 23 then 13 else if j = 26 then 14 else if j = 29 then 15 else if j = 30 then 16 else if j = 31 then 17 else if j = 33 then 18 else if j = 34 then 19 else if j = 35 then 20 else if j = 36 then 21 else 22
theorem rx00 (w : Bool) : RX w 0 0 = 1 := rfl
theorem rx01 (w : Bool) : RX w 0 1 = cc w := rfl
theorem rx02 (w : Bool) : RX w 0 2 = dd w := rfl
theorem rx03 (w : Bool) : RX w 0 3 = 23 := rfl
theorem rx04 (w : Bool) : RX w 0 4 = 25 := rfl
theorem rx05 (w : Bool) : RX w 0 5 = 27 := rfl
theorem rx06 (w : Bool) : RX w 0 6 = 29 := rfl
theorem rx07 (w : Bool) : RX w 0 7 = 33 := rfl
theorem rx08 (w : Bool) : RX w 0 8 = 34 := rfl
theorem rx10 (w : Bool) : RX w 1 0 = 2 := rfl
theorem rx230 (w : Bool) : RX w 23 0 = 24 := rfl
theorem rx250 (w : Bool) : RX w 25 0 = 26 := rfl
theorem rx270 (w : Bool) : RX w 27 0 = 28 := rfl
theorem rx290 (w : Bool) : RX w 29 0 = 30 := rfl
theorem rx291 (w : Bool) : RX w 29 1 = 31 := rfl
theorem rx292 (w : Bool) : RX w 29 2 = 32 := rfl
theorem rm1 : RM 0 1 = 1 := rfl
theorem rm9 : RM 0 9 = 2 := rfl
theorem rm10 : RM 0 10 = 3 := rfl
theorem rm11 : RM 0 11 = 4 := rfl
theorem rm12 : RM 0 12 = 5 := rfl
theorem rm13 : RM 0 13 = 6 := rfl
theorem rm17 : RM 0 17 = 7 := rfl
theorem rm18 : RM 0 18 = 8 := rfl
theorem rm19 : RM 0 19 = 9 := rfl
theorem rm20 : RM 0 20 = 10 := rfl
theorem rm21 : RM 0 21 = 11 := rfl
theorem rm22 : RM 0 22 = 12 := rfl
theorem rm23 : RM 0 23 = 13 := rfl
theorem rm26 : RM 0 26 = 14 := rfl
theorem rm29 : RM 0 29 = 15 := rfl
theorem rm30 : RM 0 30 = 16 := rfl
theorem rm31 : RM 0 31 = 17 := rfl
theorem rm33 : RM 0 33 = 18 := rfl
theorem rm34 : RM 0 34 = 19 := rfl
theorem rm35 : RM 0 35 = 20 := rfl
theorem rm36 : RM 0 36 = 21 := rfl
theorem rm37 : RM 0 37 = 22 := rfl
theorem cc_in (w : Bool) : cc w = 3 ∨ cc w = 13 := by cases w <;> simp [cc]
theorem rx_c (w : Bool) (j : Nat) : RX w (cc w) j = cc w + 1 + j := by
  cases w
  · show 4 + j = 3 + 1 + j; rfl
  · show 14 + j = 13 + 1 + j; rfl
theorem ap_now (w : Bool) : Ap (RX w) 23 (cc w) := by
  refine ⟨by rw [rx230]; decide, ?_, ?_, fun j hj => ?_⟩
  · rcases cc_in w with h | h <;> rw [h] <;> decide
  · rw [rx230]; rcases cc_in w with h | h <;> rw [h] <;> decide
  · rw [rx_c, rx230]; rcases cc_in w with h | h <;> rw [h] <;> omega
theorem ap_try (w : Bool) : Ap (RX w) 25 (cc w) := by
  refine ⟨by rw [rx250]; decide, ?_, ?_, fun j hj => ?_⟩
  · rcases cc_in w with h | h <;> rw [h] <;> decide
  · rw [rx250]; rcases cc_in w with h | h <;> rw [h] <;> decide
  · rw [rx_c, rx250]; rcases cc_in w with h | h <;> rw [h] <;> omega
/-- what a call leaves: in the reference, by cells and by the object's own fields -/
def FrM (P Q : Nat → Prop) (h h' : Hp) : Prop := h'.2 = h.2 ∧ (∀ a, a ≠ 0 → ¬ P a → h'.1 a = h.1 a) ∧ ∀ j, ¬ Q j → h'.1 0 j = h.1 0 j
theorem FrM.rf {P Q : Nat → Prop} {h : Hp} : FrM P Q h h := ⟨rfl, fun _ _ _ => rfl, fun _ _ => rfl⟩
theorem FrM.tr {P Q : Nat → Prop} {h h' h2 : Hp} (a : FrM P Q h h') (b : FrM P Q h' h2) : FrM P Q h h2 := ⟨b.1.trans a.1, fun q h0 hq => (b.2.1 q h0 hq).trans (a.2.1 q h0 hq), fun j hj => (b.2.2 j hj).trans (a.2.2 j hj)⟩
theorem FrM.mono {P Q P' Q' : Nat → Prop} {h h' : Hp} (a : FrM P Q h h') (hP : ∀ q, P q → P' q) (hQ : ∀ q, Q q → Q' q) : FrM P' Q' h h' := ⟨a.1, fun q h0 hq => a.2.1 q h0 (fun z => hq (hP q z)), fun j hj => a.2.2 j (fun z => hj (hQ j z))⟩
theorem FrM.of {P Q : Nat → Prop} {h h' : Hp} (a : Fr P h h') (h0 : ¬ P 0) : FrM P Q h h' := ⟨a.1, fun q _ hq => a.2 q hq, fun j _ => by rw [a.2 0 h0]⟩
theorem FrM.ar {P Q : Nat → Prop} {h : Hp} {k j : Nat} {v : Int32} (hk : k ≠ 0) (hP : P k) : FrM P Q h (pI h k j v) := ⟨rfl, fun a _ ha => by
  funext x; exact pI_nk (fun e => ha (by rw [e]; exact hP)), fun x _ => pI_nk (Ne.symm hk)⟩
theorem FrM.p0 {P Q : Nat → Prop} {h : Hp} {j : Nat} {v : Int32} (hQ : Q j) : FrM P Q h (pI h 0 j v) := ⟨rfl, fun a h0 _ => by
  funext x; exact pI_nk h0, fun x hx => pI_nj (fun e => hx (by rw [e]; exact hQ))⟩
/-! ===== what could be undone: lg 1 the latest ===== -/
def LgC (h : Hp) (p c : Nat) (lg : Nat → Nat → Nat) : Prop := h.1 27 1 = nI p ∧ h.1 27 2 = nI c ∧ p < 30 ∧ c ≤ 30 ∧ ∀ i, 1 ≤ i → i ≤ c → rowC h 28 ((p + 30 - i) % 30) (lg i)
def LgM (h : Hp) (p c : Nat) (lg : Nat → Nat → Nat) : Prop := h.1 0 25 = nI p ∧ h.1 0 24 = nI c ∧ p < 30 ∧ c ≤ 30 ∧ ∀ i, 1 ≤ i → i ≤ c → rowM h 14 ((p + 30 - i) % 30) (lg i)
def lcons (b : Nat → Nat) (lg : Nat → Nat → Nat) : Nat → Nat → Nat := fun i => if i = 1 then b else lg (i - 1)
section LG
variable {w : Bool} {h : Hp} {n p c : Nat} {b : Nat → Nat} {lg : Nat → Nat → Nat}
theorem z_note (hB : Bc (RX w) h 23 b) (hL : LgC h p c lg) : ∃ h', fX2_note n (RX w) 27 23 h = some h' ∧ LgC h' ((p + 1) % 30) (min (c + 1) 30) (lcons b lg) ∧ Fr (fun q => q = 27 ∨ q = 28) h h' := by
  obtain ⟨g1, g2, g3, g4, g5⟩ := hL
  obtain ⟨h1, e1, e2, e3, e4⟩ := z_store (n := n) (a := 28) (len := 480) (i := p) hB (by omega) (by omega) (by decide) (by rw [rx230]; decide)
  unfold fX2_note
  rw [rx270, g1, e1, Option.bind_some]
  simp only [lE]
  have q1 : h1.1 27 1 = nI p := by rw [e3.2 27 (by decide), g1]
  have q2 : h1.1 27 2 = nI c := by rw [e3.2 27 (by decide), g2]
  rw [q1, pI_nj (by decide), q2, nI_1, nI_1, show (30 : Int32) = nI 30 from rfl, pk_rem (by omega) (by omega) (by omega)]
  have em : (if nI 30 < nI (c + 1) then nI 30 else nI (c + 1)) = nI (min (c + 1) 30) := by
    by_cases c1 : 30 < c + 1
    · rw [if_pos (nI_lt c1 (by omega)), Nat.min_eq_right (by omega)]
    · rw [if_neg (nI_nlt (by omega) (by omega)), Nat.min_eq_left (by omega)]
  rw [em]
  refine ⟨_, rfl, ⟨?_, ?_, Nat.mod_lt _ (by omega), Nat.min_le_right _ _, fun i i1 i2 => ?_⟩, ?_⟩
  · rw [pI_nj (by decide), pI_eq]
  · rw [pI_eq]
  · have hc : ∀ j, (pI (pI h1 27 1 (nI ((p + 1) % 30))) 27 2 (nI (min (c + 1) 30))).1 28 j = h1.1 28 j := fun j => by rw [pI_nk (by decide), pI_nk (by decide)]
    unfold lcons
    by_cases e : i = 1
    · subst e
      rw [if_pos rfl, show ((p + 1) % 30 + 30 - 1) % 30 = p by omega]
      exact e2.co (fun j _ _ => hc j)
    · rw [if_neg e]
      have hi : i ≤ c + 1 := Nat.le_trans i2 (Nat.min_le_left _ _)
      have hi2 : i ≤ 30 := Nat.le_trans i2 (Nat.min_le_right _ _)
      have er : ((p + 1) % 30 + 30 - i) % 30 = (p + 30 - (i - 1)) % 30 := by omega
      rw [er]
      have hne : (p + 30 - (i - 1)) % 30 ≠ p := by omega
      refine (g5 (i - 1) (by omega) (by omega)).co (fun j j1 j2 => ?_)
      rw [hc, e4 j (by omega)]
  · exact ((e3.mono (Q := fun q => q = 27 ∨ q = 28) (fun q hq => Or.inr hq)).tr (Fr.pI (Or.inl rfl))).tr (Fr.pI (Or.inl rfl))
theorem z_takeBack {k : Nat} (hL : LgC h p c lg) (hk : 1 ≤ k) (hk2 : k ≤ c) : ∃ h', fX2_takeBack n (RX w) 27 (nI k) 23 h = some h' ∧ LgC h' ((p + 30 - k) % 30) (c - k) (fun i => lg (i + k)) ∧ Bc (RX w) h' 23 (lg k) ∧ Fr (fun q => q = 27 ∨ q = 23 ∨ q = 24) h h' := by
  obtain ⟨g1, g2, g3, g4, g5⟩ := hL
  unfold fX2_takeBack
  simp only [lE]
  rw [rx270, pI_nj (show 2 ≠ 1 by decide), g1, g2, show (30 : Int32) = nI 30 from rfl, nI_add, pk_sub (show k ≤ p + 30 by omega), pk_rem (by omega) (by omega) (by omega), pk_sub hk2, pI_nj (show 1 ≠ 2 by decide), pI_eq]
  have hr : rowC (pI (pI h 27 1 (nI ((p + 30 - k) % 30))) 27 2 (nI (c - k))) 28 ((p + 30 - k) % 30) (lg k) := (g5 k hk hk2).co (fun j _ _ => by rw [pI_nk (by decide), pI_nk (by decide)])
  obtain ⟨h1, e1, e2, e3⟩ := z_restore (n := n) (r := RX w) (k := 23) (len := 480) hr (by omega) (by omega) (by decide) (by rw [rx230]; decide) (by rw [rx230]; decide)
  rw [e1, Option.bind_some]
  rw [rx230] at e3
  refine ⟨h1, rfl, ⟨?_, ?_, Nat.mod_lt _ (by omega), by omega, fun i i1 i2 => ?_⟩, e2, ?_⟩
  · rw [e3.2 27 (by decide), pI_nj (by decide), pI_eq]
  · rw [e3.2 27 (by decide), pI_eq]
  · have er : ((p + 30 - k) % 30 + 30 - i) % 30 = (p + 30 - (i + k)) % 30 := by omega
    rw [er]
    refine (g5 (i + k) (by omega) (by omega)).co (fun j _ _ => ?_)
    rw [e3.2 28 (by decide), pI_nk (by decide), pI_nk (by decide)]
  · exact ((Fr.pI (P := fun q => q = 27 ∨ q = 23 ∨ q = 24) (Or.inl rfl)).tr (Fr.pI (Or.inl rfl))).tr (e3.mono (fun q hq => Or.inr hq))
/-! the reference -/
theorem z_remLoop (hB : Bm h 12 b) (h25 : h.1 0 25 = nI p) (hp : p < 30) (hn : 20 ≤ n) :
    ∃ h', it (fun (s : Int32 × Hp) => bX6_remember_2 n RM 0 s.1 s.2) n (0, h) = some h' ∧ rowM h' 14 p b ∧ Fr (fun q => q = 14) h h' ∧ ∀ j, (j < 16 * p ∨ 16 * p + 16 ≤ j) → h'.1 14 j = h.1 14 j := by
  obtain ⟨z, e1, e2, e3, e4⟩ := it_from (b := fun (s : Int32 × Hp) => bX6_remember_2 n RM 0 s.1 s.2) (fun i s => ∃ h', s = (nI i, h') ∧ Fr (fun q => q = 14) h h' ∧ (∀ j, j < i → h'.1 14 (16 * p + j) = nI (b j)) ∧ ∀ j, (j < 16 * p ∨ 16 * p + 16 ≤ j) → h'.1 14 j = h.1 14 j) (fun h' => rowM h' 14 p b ∧ Fr (fun q => q = 14) h h' ∧ ∀ j, (j < 16 * p ∨ 16 * p + 16 ≤ j) → h'.1 14 j = h.1 14 j) 16 (n := n) (x := (0, h)) (by omega) ⟨h, rfl, Fr.rf, fun j hj => by omega, fun _ _ => rfl⟩ (by
    intro i s hi ⟨h', hs, f1, f2, f3⟩
    subst hs
    show (∃ z, bX6_remember_2 n RM 0 (nI i) h' = _ ∧ _) ∨ (_ ∧ ∃ y, bX6_remember_2 n RM 0 (nI i) h' = _ ∧ _)
    unfold bX6_remember_2
    by_cases ce : i < 16
    · right
      refine ⟨ce, ?_⟩
      rw [if_neg (by rw [show (16 : Int32) = nI 16 from rfl]; exact nI_ge ce (by omega)), rm22, rm26, f1.2 0 (by decide), h25, show (16 : Int32) = nI 16 from rfl, pk_mul, nI_add, z_ck ce (by omega), z_ck (by omega) (by omega), nI_clamp (by omega), nI_clamp (by omega), f1.2 12 (by decide), hB i ce]
      simp only [lE, nI_1]
      refine ⟨_, rfl, pI h' 14 (16 * p + i) (nI (b i)), rfl, f1.tr (Fr.pI rfl), fun j hj => ?_, fun j hj => ?_⟩
      · by_cases e : j = i
        · subst e; rw [pI_eq]
        · rw [pI_nj (by omega)]; exact f2 j (by omega)
      · rw [pI_nj (by omega)]; exact f3 j hj
    · left
      have : i = 16 := by omega
      subst this
      rw [if_pos (by decide +kernel)]
      exact ⟨_, rfl, f2, f1, f3⟩)
  exact ⟨z, e1, e2, e3, e4⟩
theorem z_remember (hB : Bm h 12 b) (hL : LgM h p c lg) (hn : 20 ≤ n) : ∃ h', fX6_remember n RM 0 h = some h' ∧ LgM h' ((p + 1) % 30) (min (c + 1) 30) (lcons b lg) ∧ FrM (fun q => q = 14) (fun j => j = 24 ∨ j = 25) h h' := by
  obtain ⟨g1, g2, g3, g4, g5⟩ := hL
  obtain ⟨h1, e1, e2, e3, e4⟩ := z_remLoop (n := n) hB g1 g3 hn
  unfold fX6_remember lX6_remember_2
  rw [e1, Option.bind_some]
  simp only [lE]
  have q1 : h1.1 0 25 = nI p := by rw [e3.2 0 (by decide), g1]
  have q2 : h1.1 0 24 = nI c := by rw [e3.2 0 (by decide), g2]
  rw [q1, pI_nj (by decide), q2, nI_1, show (30 : Int32) = nI 30 from rfl, pk_rem (by omega) (by omega) (by omega)]
  have ej : (if nI 30 ≤ nI c then jX6_remember_66 n RM 0 0 (nI c) (pI h1 0 25 (nI ((p + 1) % 30))) else jX6_remember_66 n RM 0 1 (nI c) (pI h1 0 25 (nI ((p + 1) % 30)))) = some (pI (pI h1 0 25 (nI ((p + 1) % 30))) 0 24 (nI (min (c + 1) 30))) := by
    unfold jX6_remember_66
    simp only [lE]
    by_cases c1 : 30 ≤ c
    · rw [if_pos (nI_le c1 (by omega)), Nat.min_eq_right (by omega), show (0 : Int32) = nI 0 from rfl, nI_add, show c + 0 = 30 by omega]
    · rw [if_neg (nI_ge (by omega) (by omega)), Nat.min_eq_left (by omega), nI_1]
  rw [ej]
  refine ⟨_, rfl, ⟨?_, ?_, Nat.mod_lt _ (by omega), Nat.min_le_right _ _, fun i i1 i2 => ?_⟩, ?_⟩
  · rw [pI_nj (by decide), pI_eq]
  · rw [pI_eq]
  · have hc : ∀ j, (pI (pI h1 0 25 (nI ((p + 1) % 30))) 0 24 (nI (min (c + 1) 30))).1 14 j = h1.1 14 j := fun j => by rw [pI_nk (by decide), pI_nk (by decide)]
    unfold lcons
    by_cases e : i = 1
    · subst e
      rw [if_pos rfl, show ((p + 1) % 30 + 30 - 1) % 30 = p by omega]
      exact e2.co (fun j _ _ => hc j)
    · rw [if_neg e]
      have hi : i ≤ c + 1 := Nat.le_trans i2 (Nat.min_le_left _ _)
      have hi2 : i ≤ 30 := Nat.le_trans i2 (Nat.min_le_right _ _)
      have er : ((p + 1) % 30 + 30 - i) % 30 = (p + 30 - (i - 1)) % 30 := by omega
      rw [er]
      have hne : (p + 30 - (i - 1)) % 30 ≠ p := by omega
      refine (g5 (i - 1) (by omega) (by omega)).co (fun j j1 j2 => ?_)
      rw [hc, e4 j (by omega)]
  · exact ((FrM.of e3 (by decide)).tr (FrM.p0 (Or.inr rfl))).tr (FrM.p0 (Or.inl rfl))
end LG
