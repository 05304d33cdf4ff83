/-! ===== the text: clauses ===== -/
theorem it_go {s q : Type} {b : s → Option (s ⊕ q)} {x y : s} {n : Nat} (h : b x = some (.inl y)) : it b (n + 1) x = it b n y := by
  show (match b x with | none => none | some (.inl y) => it b n y | some (.inr z) => some z) = _
  rw [h]
theorem it_st {s q : Type} {b : s → Option (s ⊕ q)} {x : s} {z : q} {n : Nat} (h : b x = some (.inr z)) : it b (n + 1) x = some z := by
  show (match b x with | none => none | some (.inl y) => it b n y | some (.inr z) => some z) = _
  rw [h]
theorem dd_in (w : Bool) : dd w = 3 ∨ dd w = 13 := by cases w <;> simp [dd]
theorem rx_d (w : Bool) (j : Nat) : RX w (dd w) j = dd w + 1 + j := by
  cases w
  · show 14 + j = 13 + 1 + j; rfl
  · show 4 + j = 3 + 1 + j; rfl
abbrev FrD (w : Bool) (h h' : Hp) : Prop := Fr (fun a => a = 1 ∨ (dd w ≤ a ∧ a ≤ dd w + 9)) h h'
abbrev FrR (h h' : Hp) : Prop := FrM (fun a => 2 ≤ a ∧ a ≤ 6) (fun j => 2 ≤ j ∧ j ≤ 8 ∧ j ≠ 5) h h'
def Cr (h : Hp) (K : Kd) : Prop := h.1 0 6 = nI (K 0 0) ∧ h.1 0 7 = nI (K 0 1) ∧ h.1 0 8 = nI (K 0 2) ∧ (∀ l, l < K 0 1 → h.1 2 (2 * l) = nI (K 1 l) ∧ h.1 2 (2 * l + 1) = nI (K 2 l) ∧ h.1 3 l = nI (K 3 l) ∧ h.1 4 l = nI (K 4 l) ∧ h.1 5 (2 * l) = nI (K 5 l) ∧ h.1 5 (2 * l + 1) = nI (K 6 l)) ∧ ∀ k, k < K 0 2 → h.1 6 k = nI (K 7 k)
section FRQ
variable {w : Bool} {T : Nat → Nat} {k p f : Nat} {h h' : Hp} {fa : Int32} {K : Kd} {P Q : Nat → Prop}
theorem toD (a : Fr1 h h') : FrD w h h' := a.mono (fun _ q => Or.inl q)
theorem toR (a : FrN h h') : FrR h h' := a.mono (fun _ q => q.elim) (fun j q => by rcases q with q | q | q <;> subst q <;> decide)
theorem Cs.fr (hC : Cs T k h p f fa) (hF : Fr P h h') (h1 : ¬ P 1) (h2 : ¬ P 2) : Cs T k h' p f fa := by
  unfold Cs
  rw [hF.2 1 h1, hF.2 2 h2]
  exact hC
theorem Ms.fr (hC : Ms T k h p) (hF : FrM P Q h h') (h1 : ¬ P 1) (h2 : ¬ Q 0) (h3 : ¬ Q 2) : Ms T k h' p := by
  unfold Ms
  rw [hF.2.1 1 (by decide) h1, hF.2.2 0 h2, hF.2.2 2 h3]
  exact hC
theorem Cr.fr (hC : Cr h K) (hF : FrM P Q h h') (h1 : ∀ a, 2 ≤ a → a ≤ 6 → ¬ P a) (h2 : ∀ j, 6 ≤ j → j ≤ 8 → ¬ Q j) : Cr h' K := by
  unfold Cr
  rw [hF.2.1 2 (by decide) (h1 2 (by omega) (by omega)), hF.2.1 3 (by decide) (h1 3 (by omega) (by omega)), hF.2.1 4 (by decide) (h1 4 (by omega) (by omega)), hF.2.1 5 (by decide) (h1 5 (by omega) (by omega)), hF.2.1 6 (by decide) (h1 6 (by omega) (by omega)), hF.2.2 6 (h2 6 (by omega) (by omega)), hF.2.2 7 (h2 7 (by omega) (by omega)), hF.2.2 8 (h2 8 (by omega) (by omega))]
  exact hC
theorem Cr.n (hC : Cr h K) (hF : FrN h h') : Cr h' K := hC.fr hF (fun _ _ _ q => q) (fun j _ _ q => by omega)
theorem Ch.d (hC : Ch (RX w) h (dd w) K) (hF : Fr1 h h') : Ch (RX w) h' (dd w) K := hC.fr hF (by rcases dd_in w with q | q <;> rw [q] <;> decide) (fun j hj => by rw [rx_d]; rcases dd_in w with q | q <;> rw [q] <;> omega)
end FRQ
def St (w : Bool) (T : Nat → Nat) (k : Nat) (K : Kd) (hx hm : Hp) (p : Nat) : Prop := Cs T k hx p 0 (-1) ∧ Ch (RX w) hx (dd w) K ∧ Ms T k hm p ∧ Cr hm K ∧ Bk K
def Bad (T : Nat → Nat) (k : Nat) (hx hm : Hp) : Prop := ∃ kd s q, kd ≠ 0 ∧ kd ≤ 4 ∧ Cs T k hx q kd (nI s) ∧ hm.1 0 4 = nI kd ∧ Ms T k hm s
def Res (w : Bool) (T : Nat → Nat) (k : Nat) (hx hm : Hp) (p : Nat) (X : Option Hp) (Y : Option (Int32 × Hp)) : Prop := ∃ hx' g hm', X = some hx' ∧ Y = some (g, hm') ∧ FrD w hx hx' ∧ FrR hm hm' ∧ ((g = 1 ∧ ∃ K' q, p ≤ q ∧ St w T k K' hx' hm' q) ∨ (g = 0 ∧ Bad T k hx' hm'))
/-- another number of islands -/
def kIs (K : Kd) (v : Nat) : Kd := fun i j => if i = 0 ∧ j = 0 then v else K i j
/-- one link more -/
def kLk (K : Kd) (a b kd st sA sB : Nat) : Kd := fun i j => if i = 0 then (if j = 1 then K 0 1 + 1 else K 0 j) else if i = 7 then K 7 j else if j = K 0 1 then (if i = 1 then a else if i = 2 then b else if i = 3 then kd else if i = 4 then st else if i = 5 then sA else sB) else K i j
/-- one wind more -/
def kWd (K : Kd) (v : Nat) : Kd := fun i j => if i = 0 then (if j = 2 then K 0 2 + 1 else K 0 j) else if i = 7 ∧ j = K 0 2 then v else K i j
theorem nmr_sk {T : Nat → Nat} {k lo hi p : Nat} (hp : p ≤ k) : nmr T k lo hi (sk T k p) = nmr T k lo hi p := by
  unfold nmr
  rw [sk_sk hp]
section CLA
variable {w : Bool} {T : Nat → Nat} {k n p : Nat} {hx hm : Hp} {K : Kd}
/-- what a sign must be, at the end of a clause -/
theorem z_semi {q q2 x : Nat} {fa : Int32} (hC : Cs T k hx q 0 fa) (hM : Ms T k hm q2) (hq : sk T k q = sk T k q2) (hT : TT T k) (hx' : x ≤ 255) (hn : 300 ≤ n) : ∃ h' m', fX4_expect n (RX w) 1 (nI x) hx = some h' ∧ Fr1 hx h' ∧ FrN hm m' ∧ ((fX6_readsSign n RM 0 (nI x) hm = some (1, m') ∧ Cs T k h' (sk T k q + 1) 0 fa ∧ Ms T k m' (sk T k q + 1)) ∨ (fX6_readsSign n RM 0 (nI x) hm = some (0, m') ∧ Cs T k h' (sk T k q) 1 (nI (sk T k q)) ∧ m'.1 0 4 = nI 1 ∧ Ms T k m' (sk T k q))) := by
  rcases z_exp (w := w) (n := n) hC hT hx' hn with ⟨c1, c2, h', e1, e2, e3⟩ | ⟨c1, h', e1, e2, e3⟩
  · obtain ⟨m', f1, f2, f3⟩ := (z_sign (n := n) hM hT hx' hn).1 (by rw [← hq]; exact ⟨c1, c2⟩)
    rw [← hq] at f2
    exact ⟨h', m', e1, e3, f3, Or.inl ⟨f1, e2, f2⟩⟩
  · obtain ⟨m', f1, f2, f3, f4⟩ := (z_sign (n := n) hM hT hx' hn).2 (by rw [← hq]; exact c1)
    rw [← hq] at f3
    exact ⟨h', m', e1, e3, f4, Or.inr ⟨f1, e2, f2, f3⟩⟩
theorem z_islands (hS : St w T k K hx hm p) (h0 : K 0 0 = 0) (hT : TT T k) (hn : 300 ≤ n) : Res w T k hx hm p (fX4_readIslands n (RX w) 1 (dd w) hx) (bd2 (fX6_readsNumber n RM 0 2 8 hm) (fun (x34 : Int32) (h35 : Hp) => if x34 = (-1) then (jX6_readsClause_52 n RM 0 x34 0 h35) else (jX6_readsClause_52 n RM 0 x34 x34 h35))) := by
  obtain ⟨hC, hH, hM, hR, hK⟩ := hS
  have hxn := z_num (w := w) (n := n) (lo := 2) (hi := 8) hC hT (by omega) (by omega) hn
  have hmn := z_numM (n := n) (lo := 2) (hi := 8) hM hT (by omega) (by omega) hn
  unfold fX4_readIslands
  rw [show (2 : Int32) = nI 2 from rfl, show (8 : Int32) = nI 8 from rfl]
  cases hr : nmr T k 2 8 p with
  | inl z =>
    obtain ⟨kd, s⟩ := z
    rw [hr] at hxn hmn
    obtain ⟨c1, c2, c3, v, h', q, e1, e2, e3⟩ := hxn
    obtain ⟨m', f1, f2, f3, f4⟩ := hmn
    obtain ⟨h2, q2, g1, g2, g3⟩ := z_expF (w := w) (n := n) e2 c2 hT (x := 59) (by omega) hn
    rw [e1, f1]
    simp only [bd2_some]
    rw [show (59 : Int32) = nI 59 from rfl, g1, Option.bind_some, g2.2.2.1, if_neg (nI_ne0 (by omega) (by omega))]
    unfold jX6_readsClause_52
    simp only [lE, if_true]
    exact ⟨_, _, _, rfl, rfl, toD (e3.tr g3), (toR f4).tr (FrM.p0 (by decide)), Or.inr ⟨rfl, kd, s, q2, c2, c1, g2, by rw [pI_nj (by decide)]; exact f2, f3.fr (FrM.p0 (P := fun _ => False) (Q := fun j => j = 6) rfl) (fun q => q) (by decide) (by decide)⟩⟩
  | inr z =>
    obtain ⟨v, q⟩ := z
    rw [hr] at hxn hmn
    obtain ⟨c1, c2, c3, h', e1, e2, e3⟩ := hxn
    obtain ⟨m', f1, f2, f3, f4⟩ := hmn
    rw [e1, f1]
    simp only [bd2_some]
    unfold jX6_readsClause_52
    simp only [lE, nI_m1 (show v < 2 ^ 31 by omega), if_false]
    have f3' := f3.fr (FrM.p0 (h := m') (j := 6) (v := nI v) (P := fun _ => False) (Q := fun j => j = 6) rfl) (fun q => q) (by decide) (by decide)
    obtain ⟨h2, m2, g1, g2, g3, g4⟩ := z_semi (w := w) (n := n) e2 f3' rfl hT (x := 59) (by omega) hn
    rw [show (59 : Int32) = nI 59 from rfl, g1, Option.bind_some]
    have hFm : FrR hm m2 := ((toR f4).tr (FrM.p0 (h := m') (j := 6) (v := nI v) (by decide))).tr (toR g3)
    rcases g4 with ⟨g4, g5, g6⟩ | ⟨g4, g5, g6, g7⟩
    · rw [g4, g5.2.2.1, if_pos (show nI 0 = 0 from rfl)]
      simp only [bd2_some, n10, if_false]
      have hD : FrD w h2 (pI h2 (dd w) 9 (nI v)) := Fr.pI (Or.inr ⟨by omega, by omega⟩)
      refine ⟨_, _, _, rfl, rfl, (toD (e3.tr g2)).tr hD, hFm, Or.inl ⟨rfl, kIs K v, sk T k q + 1, ?_, ?_, ?_, g6, ?_, ?_⟩⟩
      · have := (sk_ok (T := T) e2.2.2.2.2.2.1).1; omega
      · exact g5.fr (Fr.pI (P := fun a => a = dd w) rfl) (by rcases dd_in w with z | z <;> rw [z] <;> decide) (by rcases dd_in w with z | z <;> rw [z] <;> decide)
      · obtain ⟨k1, k2, k3, k4, k5⟩ := (hH.d e3).d g2
        have z1 := (hK.2.2.2.2.2 h0).1
        have z2 := (hK.2.2.2.2.2 h0).2
        refine ⟨pI_eq, by rw [pI_nj (by decide)]; exact k2, by rw [pI_nj (by decide)]; exact k3, fun l hl => ?_, fun j hj => ?_⟩
        · have hl : l < K 0 1 := hl
          omega
        · have hj : j < K 0 2 := hj
          omega
      · have z1 := (hK.2.2.2.2.2 h0).1
        have z2 := (hK.2.2.2.2.2 h0).2
        obtain ⟨k1, k2, k3, k4, k5⟩ := hR.n f4
        refine ⟨by rw [g3.2.2 6 (by decide), pI_eq]; rfl, by rw [g3.2.2 7 (by decide), pI_nj (by decide)]; exact k2, by rw [g3.2.2 8 (by decide), pI_nj (by decide)]; exact k3, fun l hl => ?_, fun j hj => ?_⟩
        · have hl : l < K 0 1 := hl
          omega
        · have hj : j < K 0 2 := hj
          omega
      · have z1 := (hK.2.2.2.2.2 h0).1
        have z2 := (hK.2.2.2.2.2 h0).2
        refine ⟨show v ≤ 8 from c2, hK.2.1, hK.2.2.1, fun l hl => ?_, fun j hj => ?_, fun hv => ⟨z1, z2⟩⟩
        · have hl : l < K 0 1 := hl
          omega
        · have hj : j < K 0 2 := hj
          omega
    · rw [g4, g5.2.2.1, if_neg (show ¬ nI 1 = 0 by decide)]
      simp only [bd2_some, if_true]
      exact ⟨_, _, _, rfl, rfl, toD (e3.tr g2), hFm, Or.inr ⟨rfl, 1, _, _, by omega, by omega, g5, g6, g7⟩⟩
end CLA
