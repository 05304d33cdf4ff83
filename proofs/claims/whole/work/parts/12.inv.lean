/-! ===== the invariant between the class's store and the reference's ===== -/
def Tx (hx hm : Hp) : Prop := ∃ k, k ≤ 240 ∧ hx.1 1 1 = nI k ∧ hm.1 0 0 = nI k ∧ (∀ i, i < k → hx.1 2 i = hm.1 1 i ∧ ∃ v, v ≤ 255 ∧ hm.1 1 i = nI v) ∧ hx.1 1 4 = hm.1 0 5
def Lg (K : Kd) (hx hm : Hp) : Prop := ∃ p q c lg, LgC hx p c lg ∧ LgM hm q c lg ∧ ∀ i, 1 ≤ i → i ≤ c → BB K (lg i) ∧ lg i 3 ≤ 90030
def Tk (K : Kd) (hx hm : Hp) : Prop := ∃ (u v g t : Nat) (A B E : Nat → Nat), u ≤ 6 ∧ v ≤ 20 ∧ hx.1 29 3 = nI u ∧ hm.1 0 28 = nI u ∧ hx.1 29 4 = nI v ∧ hm.1 0 32 = nI v ∧ hx.1 29 5 = nI g ∧ g < 2 ^ u ∧ hx.1 29 6 = nI t ∧ t < 2 ^ v ∧ (∀ i, i < u → hx.1 30 i = nI (A i) ∧ hm.1 15 i = nI (A i) ∧ hx.1 31 i = nI (B i) ∧ hm.1 16 i = nI (B i) ∧ A i < K 0 0 ∧ B i < K 0 0 ∧ hm.1 17 i = bI (g.testBit i)) ∧ ∀ i, i < v → hx.1 32 i = nI (E i) ∧ hm.1 18 i = nI (E i) ∧ E i < K 0 1 ∧ hm.1 19 i = bI (t.testBit i)
def Im (K : Kd) (hx hm : Hp) : Prop := ∃ g s, g < 4 ∧ hx.1 0 9 = nI g ∧ (∀ i, i < 2 → hm.1 20 i = bI (g.testBit i)) ∧ hx.1 0 10 = nI s ∧ hm.2 0 27 = lN s ∧ s < 2 ^ 31 ∧ ∀ i, i < 2 → g.testBit i = true → ∃ b s', BB K b ∧ b 3 ≤ 90030 ∧ rowC hx 33 i b ∧ rowM hm 21 i b ∧ hx.1 34 i = nI s' ∧ hm.2 22 i = lN s' ∧ s' < 2 ^ 31
def Inv (w : Bool) (K : Kd) (b : Nat → Nat) (hx hm : Hp) : Prop := Bk K ∧ Ch (RX w) hx (cc w) K ∧ Cm RM hm K ∧ Bc (RX w) hx 23 b ∧ Bm hm 12 b ∧ BB K b ∧ b 3 ≤ 90030 ∧ Tx hx hm ∧ Lg K hx hm ∧ Tk K hx hm ∧ Im K hx hm
section FRS
variable {w : Bool} {K : Kd} {b : Nat → Nat} {hx hx' hm hm' : Hp} {P Pm Qm : Nat → Prop}
theorem Tx.fr (hT : Tx hx hm) (hF : Fr P hx hx') (hM : FrM Pm Qm hm hm') (h1 : ¬ P 1) (h2 : ¬ P 2) (h3 : ¬ Pm 1) (h4 : ¬ Qm 0) (h5 : ¬ Qm 5) : Tx hx' hm' := by
  unfold Tx
  rw [hF.2 1 h1, hF.2 2 h2, hM.2.1 1 (by decide) h3, hM.2.2 0 h4, hM.2.2 5 h5]
  exact hT
theorem LgC.fr {p c : Nat} {lg : Nat → Nat → Nat} (hT : LgC hx p c lg) (h1 : hx'.1 27 = hx.1 27) (h2 : hx'.1 28 = hx.1 28) : LgC hx' p c lg := by
  obtain ⟨g1, g2, g3, g4, g5⟩ := hT
  exact ⟨by rw [h1]; exact g1, by rw [h1]; exact g2, g3, g4, fun i i1 i2 => (g5 i i1 i2).co (fun j _ _ => by rw [h2])⟩
theorem LgM.fr {p c : Nat} {lg : Nat → Nat → Nat} (hT : LgM hm p c lg) (h1 : hm'.1 0 24 = hm.1 0 24) (h3 : hm'.1 0 25 = hm.1 0 25) (h2 : hm'.1 14 = hm.1 14) : LgM hm' p c lg := by
  obtain ⟨g1, g2, g3, g4, g5⟩ := hT
  exact ⟨by rw [h3]; exact g1, by rw [h1]; exact g2, g3, g4, fun i i1 i2 => (g5 i i1 i2).co (fun j _ _ => by rw [h2])⟩
theorem Lg.fr (hT : Lg K hx hm) (hF : Fr P hx hx') (hM : FrM Pm Qm hm hm') (h1 : ¬ P 27) (h2 : ¬ P 28) (h3 : ¬ Pm 14) (h4 : ¬ Qm 24) (h5 : ¬ Qm 25) : Lg K hx' hm' := by
  obtain ⟨p, q, c, lg, g1, g2, g3⟩ := hT
  exact ⟨p, q, c, lg, g1.fr (hF.2 27 h1) (hF.2 28 h2), g2.fr (hM.2.2 24 h4) (hM.2.2 25 h5) (hM.2.1 14 (by decide) h3), g3⟩
theorem Tk.fr (hT : Tk K hx hm) (hF : Fr P hx hx') (hM : FrM Pm Qm hm hm') (h1 : ∀ a, 29 ≤ a → a ≤ 32 → ¬ P a) (h2 : ∀ a, 15 ≤ a → a ≤ 19 → ¬ Pm a) (h3 : ¬ Qm 28) (h4 : ¬ Qm 32) : Tk K hx' hm' := by
  unfold Tk
  rw [hF.2 29 (h1 29 (by omega) (by omega)), hF.2 30 (h1 30 (by omega) (by omega)), hF.2 31 (h1 31 (by omega) (by omega)), hF.2 32 (h1 32 (by omega) (by omega)), hM.2.1 15 (by decide) (h2 15 (by omega) (by omega)), hM.2.1 16 (by decide) (h2 16 (by omega) (by omega)), hM.2.1 17 (by decide) (h2 17 (by omega) (by omega)), hM.2.1 18 (by decide) (h2 18 (by omega) (by omega)), hM.2.1 19 (by decide) (h2 19 (by omega) (by omega)), hM.2.2 28 h3, hM.2.2 32 h4]
  exact hT
theorem Im.fr (hT : Im K hx hm) (hF : Fr P hx hx') (hM : FrM Pm Qm hm hm') (h1 : ¬ P 0) (h2 : ¬ P 33) (h3 : ¬ P 34) (h4 : ¬ Pm 20) (h5 : ¬ Pm 21) : Im K hx' hm' := by
  obtain ⟨g, s, a1, a2, a3, a4, a5, a6, a7⟩ := hT
  refine ⟨g, s, a1, by rw [hF.2 0 h1]; exact a2, fun i hi => by rw [hM.2.1 20 (by decide) h4]; exact a3 i hi, by rw [hF.2 0 h1]; exact a4, by rw [hM.1]; exact a5, a6, fun i hi hg => ?_⟩
  obtain ⟨b, s', c1, c2, c3, c4, c5, c6, c7⟩ := a7 i hi hg
  exact ⟨b, s', c1, c2, c3.co (fun j _ _ => by rw [hF.2 33 h2]), c4.co (fun j _ _ => by rw [hM.2.1 21 (by decide) h5]), by rw [hF.2 34 h3]; exact c5, by rw [hM.1]; exact c6, c7⟩
theorem Ch.frw (hC : Ch (RX w) hx (cc w) K) (hF : Fr P hx hx') (h1 : ∀ a, (3 ≤ a ∧ a ≤ 22) → ¬ P a) : Ch (RX w) hx' (cc w) K := by
  refine hC.fr hF (h1 _ ?_) (fun j hj => h1 _ ?_)
  · rcases cc_in w with h | h <;> rw [h] <;> omega
  · rw [rx_c]; rcases cc_in w with h | h <;> rw [h] <;> omega
theorem Cm.frm (hC : Cm RM hm K) (hM : FrM Pm Qm hm hm') (h1 : ∀ a, 7 ≤ a → a ≤ 11 → ¬ Pm a) (h2 : ∀ j, 14 ≤ j → j ≤ 16 → ¬ Qm j) : Cm RM hm' K := by
  unfold Cm
  rw [hM.2.2 14 (h2 14 (by omega) (by omega)), hM.2.2 15 (h2 15 (by omega) (by omega)), hM.2.2 16 (h2 16 (by omega) (by omega)), rm17, rm18, rm19, rm20, rm21, hM.2.1 7 (by decide) (h1 7 (by omega) (by omega)), hM.2.1 8 (by decide) (h1 8 (by omega) (by omega)), hM.2.1 9 (by decide) (h1 9 (by omega) (by omega)), hM.2.1 10 (by decide) (h1 10 (by omega) (by omega)), hM.2.1 11 (by decide) (h1 11 (by omega) (by omega))]
  exact hC
theorem Bc.frw (hB : Bc (RX w) hx 23 b) (hF : Fr P hx hx') (h1 : ¬ P 23) (h2 : ¬ P 24) : Bc (RX w) hx' 23 b := by
  unfold Bc
  rw [rx230, hF.2 23 h1, hF.2 24 h2]
  exact hB
theorem Bm.frm (hB : Bm hm 12 b) (hM : FrM Pm Qm hm hm') (h1 : ¬ Pm 12) : Bm hm' 12 b := fun j hj => by rw [hM.2.1 12 (by decide) h1]; exact hB j hj
/-- the bonds alone have changed -/
theorem Inv.bonds {b' : Nat → Nat} (hI : Inv w K b hx hm) (hF : Fr (fun a => a = 23 ∨ a = 24) hx hx') (hM : FrM (fun a => a = 12) (fun _ => False) hm hm') (h1 : Bc (RX w) hx' 23 b') (h2 : Bm hm' 12 b') (h3 : BB K b') (h4 : b' 3 ≤ 90030) : Inv w K b' hx' hm' := by
  obtain ⟨i1, i2, i3, -, -, -, -, i8, i9, i10, i11⟩ := hI
  exact ⟨i1, i2.frw hF (fun a ha q => by omega), i3.frm hM (fun a _ _ q => by omega) (fun _ _ _ q => q), h1, h2, h3, h4, i8.fr hF hM (by decide) (by decide) (by decide) (fun q => q) (fun q => q), i9.fr hF hM (by decide) (by decide) (by decide) (fun q => q) (fun q => q), i10.fr hF hM (fun a _ _ q => by omega) (fun a _ _ q => by omega) (fun q => q) (fun q => q), i11.fr hF hM (by decide) (by decide) (by decide) (by decide) (by decide)⟩
/-- a deed begins -/
theorem Inv.deed {n : Nat} (hI : Inv w K b hx hm) (hn : 20 ≤ n) : ∃ hx' hm', fX2_note n (RX w) 27 23 hx = some hx' ∧ fX6_remember n RM 0 hm = some hm' ∧ Inv w K b hx' hm' := by
  obtain ⟨i1, i2, i3, i4, i5, i6, i7, i8, ⟨p, q, c, lg, g1, g2, g3⟩, i10, i11⟩ := hI
  obtain ⟨hx', e1, e2, e3⟩ := z_note (n := n) i4 g1
  obtain ⟨hm', f1, f2, f3⟩ := z_remember (n := n) i5 g2 hn
  refine ⟨hx', hm', e1, f1, i1, i2.frw e3 (fun a ha q => by omega), i3.frm f3 (fun a _ _ q => by omega) (fun j _ _ q => by omega), i4.frw e3 (by decide) (by decide), i5.frm f3 (by decide), i6, i7, i8.fr e3 f3 (by decide) (by decide) (by decide) (by decide) (by decide), ⟨_, _, _, _, e2, f2, fun i j1 j2 => ?_⟩, i10.fr e3 f3 (fun a _ _ q => by omega) (fun a _ _ q => by omega) (by decide) (by decide), i11.fr e3 f3 (by decide) (by decide) (by decide) (by decide) (by decide)⟩
  unfold lcons
  by_cases e : i = 1
  · rw [if_pos e]; exact ⟨i6, i7⟩
  · rw [if_neg e]
    exact g3 (i - 1) (by omega) (by have := Nat.le_trans j2 (Nat.min_le_left _ _); omega)
end FRS
/-! ===== what is a link, an island, two islands ===== -/
theorem n10 : ¬ (1 : Int32) = 0 := by decide +kernel
section LK
variable {w : Bool} {K : Kd} {hx hm : Hp} {n c : Nat} {r : Rf}
theorem z_lk (x : Int32) (hC : Ch r hx c K) (hM : Cm RM hm K) (hK : Bk K) : (∃ l, l < K 0 1 ∧ x = nI l ∧ fX1_hasLink n r c x hx = some 1 ∧ fX6_isLink n RM 0 x hm = some 1) ∨ (fX1_hasLink n r c x hx = some 0 ∧ fX6_isLink n RM 0 x hm = some 0) := by
  have hm10 := hK.2.1
  unfold fX1_hasLink fX6_isLink
  rw [hC.2.1, hM.2.1, z_in, Option.bind_some, z_cb]
  rcases pk_ix x (n := K 0 1) (by omega) with h | h | ⟨j, h1, h2⟩
  · right
    rw [if_pos h, decide_eq_false (fun q => by have := q.1; simp only [Int32.lt_iff_toInt_lt, Int32.le_iff_toInt_le] at *; omega)]
    exact ⟨rfl, rfl⟩
  · right
    by_cases h0 : x < 0
    · rw [if_pos h0, decide_eq_false (fun q => by have := q.1; simp only [Int32.lt_iff_toInt_lt, Int32.le_iff_toInt_le] at *; omega)]
      exact ⟨rfl, rfl⟩
    · rw [if_neg h0, if_pos h, decide_eq_false (fun q => by
        have q2 := q.2
        rw [Int32.le_iff_toInt_le] at h q2
        rw [nI_toInt (by omega)] at h
        rw [show (1 : Int32) = nI 1 from rfl, pk_sub_toInt (by omega) (by omega)] at q2
        omega)]
      exact ⟨rfl, rfl⟩
  · left
    subst h2
    refine ⟨j, h1, rfl, ?_, ?_⟩
    · rw [if_neg (nI_pos (by omega)), if_neg (nI_ge h1 (by omega))]
    · rw [decide_eq_true ⟨nI_pos' (by omega), by
        rw [Int32.le_iff_toInt_le, nI_toInt (by omega), show (1 : Int32) = nI 1 from rfl, pk_sub_toInt (by omega) (by omega)]
        omega⟩]
      rfl
theorem z_is (x : Int32) (hC : Ch r hx c K) (hM : Cm RM hm K) (hK : Bk K) : (∃ l, l < K 0 0 ∧ x = nI l ∧ fX1_hasIsland n r c x hx = some 1 ∧ fX6_isIsland n RM 0 x hm = some 1) ∨ (fX1_hasIsland n r c x hx = some 0 ∧ fX6_isIsland n RM 0 x hm = some 0) := by
  have hm10 := hK.1
  unfold fX1_hasIsland fX6_isIsland
  rw [hC.1, hM.1, z_in, Option.bind_some, z_cb]
  rcases pk_ix x (n := K 0 0) (by omega) with h | h | ⟨j, h1, h2⟩
  · right
    rw [if_pos h, decide_eq_false (fun q => by have := q.1; simp only [Int32.lt_iff_toInt_lt, Int32.le_iff_toInt_le] at *; omega)]
    exact ⟨rfl, rfl⟩
  · right
    by_cases h0 : x < 0
    · rw [if_pos h0, decide_eq_false (fun q => by have := q.1; simp only [Int32.lt_iff_toInt_lt, Int32.le_iff_toInt_le] at *; omega)]
      exact ⟨rfl, rfl⟩
    · rw [if_neg h0, if_pos h, decide_eq_false (fun q => by
        have q2 := q.2
        rw [Int32.le_iff_toInt_le] at h q2
        rw [nI_toInt (by omega)] at h
        rw [show (1 : Int32) = nI 1 from rfl, pk_sub_toInt (by omega) (by omega)] at q2
        omega)]
      exact ⟨rfl, rfl⟩
  · left
    subst h2
    refine ⟨j, h1, rfl, ?_, ?_⟩
    · rw [if_neg (nI_pos (by omega)), if_neg (nI_ge h1 (by omega))]
    · rw [decide_eq_true ⟨nI_pos' (by omega), by
        rw [Int32.le_iff_toInt_le, nI_toInt (by omega), show (1 : Int32) = nI 1 from rfl, pk_sub_toInt (by omega) (by omega)]
        omega⟩]
      rfl
theorem z_two (x y : Int32) (hC : Ch (RX w) hx (cc w) K) (hM : Cm RM hm K) (hK : Bk K) : (∃ a b, a < K 0 0 ∧ b < K 0 0 ∧ a ≠ b ∧ x = nI a ∧ y = nI b ∧ fX5_areTwoIslands n (RX w) 0 x y hx = some 1 ∧ fX6_areTwo n RM 0 x y hm = some 1) ∨ (fX5_areTwoIslands n (RX w) 0 x y hx = some 0 ∧ fX6_areTwo n RM 0 x y hm = some 0) := by
  have hm10 := hK.1
  unfold fX5_areTwoIslands fX6_areTwo
  rw [rx01]
  rcases z_is (n := n) x hC hM hK with ⟨a, a1, a2, a3, a4⟩ | ⟨a3, a4⟩
  · rw [a3, a4]
    simp only [Option.bind_some, n10, if_false]
    rcases z_is (n := n) y hC hM hK with ⟨b, b1, b2, b3, b4⟩ | ⟨b3, b4⟩
    · rw [b3, b4]
      simp only [Option.bind_some, n10, if_false]
      by_cases e : x = y
      · right
        rw [if_pos e]
        exact ⟨rfl, rfl⟩
      · left
        refine ⟨a, b, a1, b1, fun q => e (by rw [a2, b2, q]), a2, b2, ?_, ?_⟩
        · rw [if_neg e]
        · rw [if_neg e]
    · right
      rw [b3, b4]
      exact ⟨rfl, rfl⟩
  · right
    rw [a3, a4]
    exact ⟨rfl, rfl⟩
theorem z_there (hC : Ch r hx c K) (hK : Bk K) : fX1_isThere n r c hx = some (bI (decide (K 0 0 ≠ 0))) := by
  have h8 := hK.1
  unfold fX1_isThere
  rw [hC.1]
  by_cases e : K 0 0 = 0
  · rw [if_pos (by rw [e]; decide +kernel), decide_eq_false (by simp [e])]; rfl
  · rw [if_neg (nI_nle (by omega) (by omega)), decide_eq_true e]; rfl
end LK
/-! ===== one number of the bonds changes ===== -/
def upb (b : Nat → Nat) (j v : Nat) : Nat → Nat := fun i => if i = j then v else b i
theorem upb_eq {b : Nat → Nat} {j v : Nat} : upb b j v j = v := if_pos rfl
theorem upb_ne {b : Nat → Nat} {j v i : Nat} (h : i ≠ j) : upb b j v i = b i := if_neg h
theorem Bc_iff {r : Rf} {h : Hp} {k : Nat} {b : Nat → Nat} : Bc r h k b ↔ (∀ i, i < 6 → h.1 k (i + 1) = nI (b i)) ∧ ∀ l, l < 10 → h.1 (r k 0) l = nI (b (6 + l)) := by
  constructor
  · intro ⟨g1, g2, g3, g4, g5, g6, g7⟩
    refine ⟨fun i hi => ?_, g7⟩
    rcases (by omega : i = 0 ∨ i = 1 ∨ i = 2 ∨ i = 3 ∨ i = 4 ∨ i = 5) with e | e | e | e | e | e <;> subst e <;> assumption
  · intro ⟨g1, g7⟩
    exact ⟨g1 0 (by omega), g1 1 (by omega), g1 2 (by omega), g1 3 (by omega), g1 4 (by omega), g1 5 (by omega), g7⟩
section UP
variable {w : Bool} {K : Kd} {b : Nat → Nat} {hx hm : Hp}
theorem Inv.set1 {j v : Nat} (hI : Inv w K b hx hm) (hj : j < 6) (hb : BB K (upb b j v)) (h3 : upb b j v 3 ≤ 90030) : Inv w K (upb b j v) (pI hx 23 (j + 1) (nI v)) (pI hm 12 j (nI v)) := by
  refine hI.bonds (Fr.pI (Or.inl rfl)) (FrM.ar (by decide) rfl) ?_ ?_ hb h3
  · obtain ⟨g1, g2⟩ := Bc_iff.mp hI.2.2.2.1
    refine Bc_iff.mpr ⟨fun i hi => ?_, fun l hl => ?_⟩
    · by_cases e : i = j
      · subst e; rw [pI_eq, upb_eq]
      · rw [pI_nj (by omega), upb_ne e]; exact g1 i hi
    · rw [rx230, pI_nk (by decide), upb_ne (by omega)]; exact g2 l hl
  · intro i hi
    by_cases e : i = j
    · subst e; rw [pI_eq, upb_eq]
    · rw [pI_nj e, upb_ne e]; exact hI.2.2.2.2.1 i hi
theorem Inv.setS {l v : Nat} (hI : Inv w K b hx hm) (hl : l < 10) (hv : v ≤ 999) (hv2 : l < K 0 1 → v < K 4 l) : Inv w K (upb b (6 + l) v) (pI hx 24 l (nI v)) (pI hm 12 (6 + l) (nI v)) := by
  obtain ⟨g1, g2⟩ := Bc_iff.mp hI.2.2.2.1
  obtain ⟨c1, c2, c3, c4, c5, c6⟩ := hI.2.2.2.2.2.1
  refine hI.bonds (Fr.pI (Or.inr rfl)) (FrM.ar (by decide) rfl) ?_ ?_ ?_ ?_
  · refine Bc_iff.mpr ⟨fun i hi => ?_, fun m hm => ?_⟩
    · rw [pI_nk (by decide), upb_ne (by omega)]; exact g1 i hi
    · rw [rx230]
      by_cases e : m = l
      · subst e; rw [pI_eq, upb_eq]
      · rw [pI_nj e, upb_ne (by omega)]; exact g2 m hm
  · intro i hi
    by_cases e : i = 6 + l
    · subst e; rw [pI_eq, upb_eq]
    · rw [pI_nj e, upb_ne e]; exact hI.2.2.2.2.1 i hi
  · refine ⟨by rw [upb_ne (by omega)]; exact c1, by rw [upb_ne (by omega)]; exact c2, by rw [upb_ne (by omega)]; exact c3, by rw [upb_ne (by omega)]; exact c4, by rw [upb_ne (by omega)]; exact c5, fun m hm => ?_⟩
    by_cases e : m = l
    · subst e; rw [upb_eq]; exact ⟨hv, fun q _ => hv2 q⟩
    · rw [upb_ne (by omega), upb_ne (show 0 ≠ 6 + l by omega)]; exact c6 m hm
  · rw [upb_ne (by omega)]; exact hI.2.2.2.2.2.2.1
theorem BB.up {j v : Nat} (hb : BB K b) (hj : j < 6) (h0 : j < 3 → v < 2 ^ (K 0 1)) (h3 : j = 3 → v ≤ 100000) (h4 : j = 4 → v ≤ 99) (h5 : j = 0 → ∀ l, l < K 0 1 → v.testBit l = true → b (6 + l) < K 4 l := by intro q; omega) : BB K (upb b j v) := by
  obtain ⟨c1, c2, c3, c4, c5, c6⟩ := hb
  have key : ∀ i, i < 3 → b i < 2 ^ (K 0 1) → upb b j v i < 2 ^ (K 0 1) := fun i hi hbi => by
    by_cases e : i = j
    · subst e; rw [upb_eq]; exact h0 hi
    · rw [upb_ne e]; exact hbi
  refine ⟨key 0 (by omega) c1, key 1 (by omega) c2, key 2 (by omega) c3, ?_, ?_, fun l hl => ?_⟩
  · by_cases e : 3 = j
    · subst e; rw [upb_eq]; exact h3 rfl
    · rw [upb_ne e]; exact c4
  · by_cases e : 4 = j
    · subst e; rw [upb_eq]; exact h4 rfl
    · rw [upb_ne e]; exact c5
  · rw [upb_ne (show 6 + l ≠ j by omega)]
    refine ⟨(c6 l hl).1, fun hlM ht => ?_⟩
    by_cases e : 0 = j
    · subst e; rw [upb_eq] at ht; exact h5 rfl l hlM ht
    · rw [upb_ne e] at ht; exact (c6 l hl).2 hlM ht
theorem BB.wo {q : Nat} (hb : BB K b) (hM : K 0 1 ≤ 10) : ∀ l, l < K 0 1 → (wo (b 0) q).testBit l = true → b (6 + l) < K 4 l := by
  intro l hl ht
  rw [wo_tb, Bool.and_eq_true] at ht
  exact (hb.2.2.2.2.2 l (by omega)).2 hl ht.1
theorem BB.or {m : Nat} (hb : BB K b) (hM : K 0 1 ≤ 10) (hm : b (6 + m) < K 4 m) : ∀ l, l < K 0 1 → (b 0 ||| 2 ^ m).testBit l = true → b (6 + l) < K 4 l := by
  intro l hl ht
  rw [Nat.testBit_or, Nat.testBit_two_pow] at ht
  by_cases e : m = l
  · subst e; exact hm
  · simp [e] at ht
    exact (hb.2.2.2.2.2 l (by omega)).2 hl ht
end UP
