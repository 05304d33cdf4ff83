/-! ===== the chart: K 0 0 islands, K 0 1 links, K 0 2 winds; of link l: K 1 A, K 2 B, K 3 kind, K 4 strength, K 5, K 6 sides; K 7 winds ===== -/
abbrev Kd : Type := Nat → Nat → Nat
def Bk (K : Kd) : Prop := K 0 0 ≤ 8 ∧ K 0 1 ≤ 10 ∧ K 0 2 ≤ 12 ∧ (∀ l, l < K 0 1 → K 1 l < K 0 0 ∧ K 2 l < K 0 0 ∧ K 1 l ≠ K 2 l ∧ K 3 l ≤ 3 ∧ 1 ≤ K 4 l ∧ K 4 l ≤ 99 ∧ K 5 l ≤ 9 ∧ K 6 l ≤ 9) ∧ (∀ k, k < K 0 2 → K 7 k ≤ 9) ∧ (K 0 0 = 0 → K 0 1 = 0 ∧ K 0 2 = 0)
def Ch (r : Rf) (h : Hp) (c : Nat) (K : Kd) : Prop := h.1 c 9 = nI (K 0 0) ∧ h.1 c 10 = nI (K 0 1) ∧ h.1 c 11 = nI (K 0 2) ∧ (∀ l, l < K 0 1 → h.1 (r c 0) l = nI (K 1 l) ∧ h.1 (r c 1) l = nI (K 2 l) ∧ h.1 (r c 2) l = nI (2 ^ (K 1 l) ||| 2 ^ (K 2 l)) ∧ h.1 (r c 3) l = nI (K 3 l) ∧ h.1 (r c 4) l = nI (K 4 l) ∧ h.1 (r c 5) l = nI (K 5 l) ∧ h.1 (r c 6) l = nI (K 6 l)) ∧ ∀ k, k < K 0 2 → h.1 (r c 7) k = nI (K 7 k)
def Cm (r : Rf) (h : Hp) (K : Kd) : Prop := h.1 0 14 = nI (K 0 0) ∧ h.1 0 15 = nI (K 0 1) ∧ h.1 0 16 = nI (K 0 2) ∧ (∀ l, l < K 0 1 → h.1 (r 0 17) (2 * l) = nI (K 1 l) ∧ h.1 (r 0 17) (2 * l + 1) = nI (K 2 l) ∧ h.1 (r 0 18) l = nI (K 3 l) ∧ h.1 (r 0 19) l = nI (K 4 l) ∧ h.1 (r 0 20) (2 * l) = nI (K 5 l) ∧ h.1 (r 0 20) (2 * l + 1) = nI (K 6 l)) ∧ ∀ k, k < K 0 2 → h.1 (r 0 21) k = nI (K 7 k)
/-- islands f, and those a link of d away: of the first l links -/
def wid (K : Kd) (d f : Nat) : Nat → Nat
  | 0 => f
  | l + 1 => if d.testBit l && (f.testBit (K 1 l) || f.testBit (K 2 l)) then wid K d f l ||| (2 ^ (K 1 l) ||| 2 ^ (K 2 l)) else wid K d f l
theorem and_ab {f a b : Nat} : f &&& (2 ^ a ||| 2 ^ b) = 0 ↔ (f.testBit a || f.testBit b) = false := by
  constructor
  · intro h
    have ha : (f &&& (2 ^ a ||| 2 ^ b)).testBit a = false := by rw [h]; exact Nat.zero_testBit a
    have hb : (f &&& (2 ^ a ||| 2 ^ b)).testBit b = false := by rw [h]; exact Nat.zero_testBit b
    rw [Nat.testBit_and, Nat.testBit_or, Nat.testBit_two_pow_self] at ha hb
    simp at ha hb
    simp [ha, hb]
  · intro h
    simp at h
    apply Nat.eq_of_testBit_eq
    intro i
    rw [Nat.testBit_and, Nat.testBit_or, Nat.testBit_two_pow, Nat.testBit_two_pow, Nat.zero_testBit]
    by_cases c1 : a = i
    · subst c1; simp [h.1]
    · by_cases c2 : b = i
      · subst c2; simp [h.2]
      · simp [c1, c2]
theorem wid_lt {K : Kd} {d f : Nat} (hK : Bk K) (hf : f < 2 ^ (K 0 0)) : ∀ l, l ≤ K 0 1 → wid K d f l < 2 ^ (K 0 0) := by
  intro l
  induction l with
  | zero => intro _; exact hf
  | succ l ih =>
    intro hl
    unfold wid
    obtain ⟨ha, hb, -⟩ := hK.2.2.2.1 l (by omega)
    split
    · exact or_lt (ih (by omega)) (or_lt (pw_lt ha) (pw_lt hb))
    · exact ih (by omega)
theorem p31 {a k : Nat} (h : a < 2 ^ k) (hk : k ≤ 31) : a < 2 ^ 31 := Nat.lt_of_lt_of_le h (Nat.pow_le_pow_right (by decide) hk)
section GG
variable {r : Rf} {h : Hp} {c n : Nat} {K : Kd}
theorem z_widen {d f : Nat} (hC : Ch r h c K) (hK : Bk K) (hd : d < 2 ^ 31) (hf : f < 2 ^ (K 0 0)) (hn : 20 ≤ n) : fX1_widen n r c (nI f) (nI d) h = some (nI (wid K d f (K 0 1))) := by
  have hM := hK.2.1
  unfold fX1_widen lX1_widen_5
  have key := it_val (b := fun (s : Int32 × Int32) => bX1_widen_5 n r c (nI f) (nI d) s.1 s.2 h) (fun i => (nI (wid K d f i), nI i)) (nI (wid K d f (K 0 1))) (K 0 1) (n := n) (by omega) ?_ ?_
  · rw [show ((nI f, (0 : Int32)) : Int32 × Int32) = (nI (wid K d f 0), nI 0) from rfl, key]; rfl
  · intro i hi
    show bX1_widen_5 n r c (nI f) (nI d) (nI (wid K d f i)) (nI i) h = _
    unfold bX1_widen_5
    rw [hC.2.1, if_neg (nI_ge hi (by omega)), z_has hd (by omega), Option.bind_some]
    obtain ⟨-, -, e2, -⟩ := hC.2.2.2.1 i hi
    by_cases cb : d.testBit i = true
    · rw [cb, if_neg (by decide), z_ck (by omega) (by omega), nI_clamp (by omega), e2, z_and, z_ck (by omega) (by omega), z_or]
      by_cases cf : (f.testBit (K 1 i) || f.testBit (K 2 i)) = true
      · rw [if_neg (by rw [show (0 : Int32) = nI 0 from rfl, nI_eq (Nat.lt_of_le_of_lt Nat.and_le_left (p31 hf (by have := hK.1; omega))) (by omega), and_ab, cf]; decide)]
        simp only [lE, wid, cb, cf, Bool.and_self, if_true, nI_1]
      · rw [if_pos (by rw [and_ab.mpr (by simpa using cf)]; rfl)]
        simp only [lE, wid, cb, cf, Bool.true_and, if_false, nI_1]
        rfl
    · rw [if_pos (by rw [bI_0]; simpa using cb)]
      have cb : d.testBit i = false := by simpa using cb
      simp only [lE, wid, cb, Bool.false_and, nI_1]
      rfl
  · show bX1_widen_5 n r c (nI f) (nI d) (nI (wid K d f (K 0 1))) (nI (K 0 1)) h = _
    unfold bX1_widen_5
    rw [hC.2.1, if_pos (nI_le (Nat.le_refl _) (by omega))]
theorem nI_2 (a : Nat) : (2 : Int32) * nI a = nI (2 * a) := pk_mul 2 a
theorem nI_21 (a : Nat) : (2 : Int32) * nI a + 1 = nI (2 * a + 1) := by rw [nI_2, nI_1]
theorem z_onward {d f : Nat} (hC : Cm r h K) (hK : Bk K) (hd : d < 2 ^ 31) (hf : f < 2 ^ (K 0 0)) (hn : 20 ≤ n) : fX6_onward n r 0 (nI f) (nI d) h = some (nI (wid K d f (K 0 1))) := by
  have hM := hK.2.1
  have hN := hK.1
  have hf31 := p31 hf (by omega)
  unfold fX6_onward lX6_onward_5
  have key := it_val (b := fun (s : Int32 × Int32) => bX6_onward_5 n r 0 (nI f) (nI d) s.1 s.2 h) (fun i => (nI (wid K d f i), nI i)) (nI (wid K d f (K 0 1))) (K 0 1) (n := n) (by omega) ?_ ?_
  · rw [show ((nI f, (0 : Int32)) : Int32 × Int32) = (nI (wid K d f 0), nI 0) from rfl, key]; rfl
  · intro i hi
    show bX6_onward_5 n r 0 (nI f) (nI d) (nI (wid K d f i)) (nI i) h = _
    obtain ⟨ea, eb, -⟩ := hC.2.2.2.1 i hi
    obtain ⟨ha, hb, -⟩ := hK.2.2.2.1 i hi
    have hj : jX6_onward_57 n r 0 (nI f) (nI d) (nI (wid K d f i)) (nI i) h = some (.inl (nI (wid K d f i ||| (2 ^ (K 1 i) ||| 2 ^ (K 2 i))), nI (i + 1))) := by
      unfold jX6_onward_57
      rw [nI_21, nI_2, z_ck (by omega) (by omega), z_ck (by omega) (by omega), nI_clamp (by omega), nI_clamp (by omega), ea, eb, z_shl (by omega), z_shl (by omega), z_or, z_or]
      simp only [lE, nI_1]
    unfold bX6_onward_5
    rw [hC.2.1, if_neg (nI_ge hi (by omega)), z_hasM hd (by omega), Option.bind_some, hj]
    by_cases cb : d.testBit i = true
    · rw [cb, if_neg (by decide), nI_21, nI_2, z_ck (by omega) (by omega), z_ck (by omega) (by omega), nI_clamp (by omega), nI_clamp (by omega), ea, eb, z_hasM hf31 (by omega), z_hasM hf31 (by omega), Option.bind_some, Option.bind_some]
      by_cases ca : f.testBit (K 1 i) = true
      · rw [ca, if_neg (by decide)]
        simp only [wid, cb, ca, Bool.true_or, Bool.and_self, if_true]
      · rw [if_pos (by rw [bI_0]; simpa using ca)]
        have ca : f.testBit (K 1 i) = false := by simpa using ca
        by_cases cc : f.testBit (K 2 i) = true
        · rw [cc, if_neg (by decide)]
          simp only [wid, cb, cc, ca, Bool.false_or, Bool.and_self, if_true]
        · rw [if_pos (by rw [bI_0]; simpa using cc)]
          have cc : f.testBit (K 2 i) = false := by simpa using cc
          simp only [lE, wid, cb, ca, cc, Bool.or_self, Bool.and_false, nI_1]
          rfl
    · rw [if_pos (by rw [bI_0]; simpa using cb)]
      have cb : d.testBit i = false := by simpa using cb
      simp only [lE, wid, cb, Bool.false_and, nI_1]
      rfl
  · show bX6_onward_5 n r 0 (nI f) (nI d) (nI (wid K d f (K 0 1))) (nI (K 0 1)) h = _
    unfold bX6_onward_5
    rw [hC.2.1, if_pos (nI_le (Nat.le_refl _) (by omega))]
end GG
/-- i times wider -/
def rcN (K : Kd) (d s : Nat) : Nat → Nat
  | 0 => s
  | i + 1 => wid K d (rcN K d s i) (K 0 1)
theorem rcN_lt {K : Kd} {d s : Nat} (hK : Bk K) (hs : s < 2 ^ (K 0 0)) : ∀ i, rcN K d s i < 2 ^ (K 0 0) := by
  intro i
  induction i with
  | zero => exact hs
  | succ i ih => exact wid_lt hK ih _ (Nat.le_refl _)
theorem rcN_fix {K : Kd} {d s i : Nat} (h : rcN K d s (i + 1) = rcN K d s i) : ∀ k, rcN K d s (i + k) = rcN K d s i := by
  intro k
  induction k with
  | zero => rfl
  | succ k ih =>
    show wid K d (rcN K d s (i + k)) (K 0 1) = _
    rw [ih]; exact h
/-- what hangs together with a by the links d -/
def rc (K : Kd) (d a : Nat) : Nat := rcN K d (2 ^ a) (K 0 0)
theorem rc_lt {K : Kd} {d a : Nat} (hK : Bk K) (ha : a < K 0 0) : rc K d a < 2 ^ (K 0 0) := rcN_lt hK (pw_lt ha) _
section GG2
variable {r : Rf} {h : Hp} {c n : Nat} {K : Kd}
theorem z_reach {d a : Nat} (hC : Ch r h c K) (hK : Bk K) (hd : d < 2 ^ 31) (ha : a < K 0 0) (hn : 20 ≤ n) : fX1_reach n r c (nI a) (nI d) h = some (nI (rc K d a)) := by
  have hN := hK.1
  have hb := fun i => rcN_lt (d := d) hK (pw_lt ha) i
  unfold fX1_reach lX1_reach_7
  simp only [lE]
  rw [z_shl (by omega)]
  obtain ⟨z, h1, h2⟩ := it_from (b := fun (s : Int32 × Int32) => bX1_reach_7 n r c (nI d) s.1 s.2 h) (fun i x => x = (nI (rcN K d (2 ^ a) i), nI i)) (fun z => (match z with | .inl z => some z | .inr z => some z) = some (nI (rc K d a))) (K 0 0) (n := n) (x := (nI (2 ^ a), 0)) (by omega) rfl (by
    intro i x hi hx
    subst hx
    show (∃ z, bX1_reach_7 n r c (nI d) (nI (rcN K d (2 ^ a) i)) (nI i) h = _ ∧ _) ∨ _
    by_cases ce : i < K 0 0
    · have e0 : bX1_reach_7 n r c (nI d) (nI (rcN K d (2 ^ a) i)) (nI i) h = if nI (rcN K d (2 ^ a) (i + 1)) = nI (rcN K d (2 ^ a) i) then some (.inr (.inl (nI (rcN K d (2 ^ a) i)))) else some (.inl (nI (rcN K d (2 ^ a) (i + 1)), nI (i + 1))) := by
        unfold bX1_reach_7
        rw [hC.1, if_neg (nI_ge ce (by omega)), z_widen hC hK hd (hb i) hn, Option.bind_some]
        simp only [lE, nI_1, rcN]
        rfl
      by_cases cf : rcN K d (2 ^ a) (i + 1) = rcN K d (2 ^ a) i
      · left
        refine ⟨_, by rw [e0, if_pos (by rw [cf])], ?_⟩
        show some (nI (rcN K d (2 ^ a) i)) = some (nI (rc K d a))
        unfold rc
        rw [show K 0 0 = i + (K 0 0 - i) by omega, rcN_fix cf]
      · right
        refine ⟨ce, (nI (rcN K d (2 ^ a) (i + 1)), nI (i + 1)), ?_, rfl⟩
        show bX1_reach_7 n r c (nI d) (nI (rcN K d (2 ^ a) i)) (nI i) h = _
        rw [e0, if_neg (by rw [nI_eq (p31 (hb _) (by omega)) (p31 (hb _) (by omega))]; exact cf)]
    · left
      have : i = K 0 0 := by omega
      subst this
      refine ⟨_, by unfold bX1_reach_7; rw [hC.1, if_pos (nI_le (Nat.le_refl _) (by omega))], rfl⟩)
  rw [h1, Option.bind_some]
  cases z <;> exact h2
theorem z_reached {d a : Nat} (hC : Cm r h K) (hK : Bk K) (hd : d < 2 ^ 31) (ha : a < K 0 0) (hn : 20 ≤ n) : fX6_reached n r 0 (nI a) (nI d) h = some (nI (rc K d a)) := by
  have hN := hK.1
  have hb := fun i => rcN_lt (d := d) hK (pw_lt ha) i
  unfold fX6_reached lX6_reached_7
  simp only [lE]
  rw [z_shl (by omega)]
  have key := it_val (b := fun (s : Int32 × Int32) => bX6_reached_7 n r 0 (nI d) s.1 s.2 h) (fun i => (nI (rcN K d (2 ^ a) i), nI i)) (nI (rc K d a)) (K 0 0) (n := n) (by omega) ?_ ?_
  · rw [show ((nI (2 ^ a), (0 : Int32)) : Int32 × Int32) = (nI (rcN K d (2 ^ a) 0), nI 0) from rfl, key]; rfl
  · intro i hi
    show bX6_reached_7 n r 0 (nI d) (nI (rcN K d (2 ^ a) i)) (nI i) h = _
    unfold bX6_reached_7
    rw [hC.1, if_neg (nI_ge hi (by omega)), z_onward hC hK hd (hb i) hn, Option.bind_some]
    simp only [lE, nI_1, rcN]
  · show bX6_reached_7 n r 0 (nI d) (nI (rcN K d (2 ^ a) (K 0 0))) (nI (K 0 0)) h = _
    unfold bX6_reached_7
    rw [hC.1, if_pos (nI_le (Nat.le_refl _) (by omega))]
    rfl
theorem z_cb {q : Type} {b : Bool} {k : Option q} : cb (bI b) k = k := by cases b <;> rfl
theorem z_hang {d a b : Nat} (hC : Ch r h c K) (hK : Bk K) (hd : d < 2 ^ 31) (ha : a < K 0 0) (hb : b < K 0 0) (hn : 20 ≤ n) : fX1_hang n r c (nI a) (nI b) (nI d) h = some (bI ((rc K d a).testBit b)) := by
  have hN := hK.1
  unfold fX1_hang
  rw [z_reach hC hK hd ha hn, Option.bind_some, z_has (p31 (rc_lt hK ha) (by omega)) (by omega), Option.bind_some, z_cb]
/-- how many parts, and what was met, behind the first a islands -/
def prt (K : Kd) (d : Nat) : Nat → Nat × Nat
  | 0 => (0, 0)
  | a + 1 => if (prt K d a).2.testBit a then prt K d a else ((prt K d a).1 + 1, (prt K d a).2 ||| rc K d a)
theorem prt_le {K : Kd} {d : Nat} (hK : Bk K) : ∀ a, a ≤ K 0 0 → (prt K d a).1 ≤ a ∧ (prt K d a).2 < 2 ^ (K 0 0) := by
  intro a
  induction a with
  | zero => intro _; exact ⟨Nat.le_refl _, Nat.two_pow_pos _⟩
  | succ a ih =>
    intro ha
    obtain ⟨h1, h2⟩ := ih (by omega)
    unfold prt
    split
    · exact ⟨by omega, h2⟩
    · exact ⟨by show _ + 1 ≤ _; omega, or_lt h2 (rc_lt hK (by omega))⟩
def parts (K : Kd) (d : Nat) : Nat := (prt K d (K 0 0)).1
theorem parts_le {K : Kd} {d : Nat} (hK : Bk K) : parts K d ≤ 8 := Nat.le_trans (prt_le hK _ (Nat.le_refl _)).1 hK.1
theorem z_partsBy {d : Nat} (hC : Ch r h c K) (hK : Bk K) (hd : d < 2 ^ 31) (hn : 20 ≤ n) : fX1_partsBy n r c (nI d) h = some (nI (parts K d)) := by
  have hN := hK.1
  unfold fX1_partsBy lX1_partsBy_7
  have key := it_val (b := fun (s : Int32 × Int32 × Int32) => bX1_partsBy_7 n r c (nI d) s.1 s.2.1 s.2.2 h) (fun i => (nI (prt K d i).1, nI (prt K d i).2, nI i)) (nI (parts K d)) (K 0 0) (n := n) (by omega) ?_ ?_
  · rw [show (((0 : Int32), (0 : Int32), (0 : Int32)) : Int32 × Int32 × Int32) = (nI (prt K d 0).1, nI (prt K d 0).2, nI 0) from rfl, key]; rfl
  · intro i hi
    obtain ⟨h1, h2⟩ := prt_le (d := d) hK i (by omega)
    show bX1_partsBy_7 n r c (nI d) (nI (prt K d i).1) (nI (prt K d i).2) (nI i) h = _
    unfold bX1_partsBy_7
    rw [hC.1, if_neg (nI_ge hi (by omega)), z_has (p31 h2 (by omega)) (by omega), Option.bind_some]
    by_cases cb : (prt K d i).2.testBit i = true
    · rw [cb, if_neg (by decide)]
      simp only [lE, nI_1, prt, cb, if_true]
    · rw [if_pos (by rw [bI_0]; simpa using cb), z_reach hC hK hd hi hn, Option.bind_some, z_or]
      have cb : (prt K d i).2.testBit i = false := by simpa using cb
      simp only [lE, nI_1, prt, cb]
      rfl
  · show bX1_partsBy_7 n r c (nI d) (nI (prt K d (K 0 0)).1) (nI (prt K d (K 0 0)).2) (nI (K 0 0)) h = _
    unfold bX1_partsBy_7
    rw [hC.1, if_pos (nI_le (Nat.le_refl _) (by omega))]
    rfl
theorem z_partsOf {d : Nat} (hC : Cm r h K) (hK : Bk K) (hd : d < 2 ^ 31) (hn : 20 ≤ n) : fX6_partsOf n r 0 (nI d) h = some (nI (parts K d)) := by
  have hN := hK.1
  unfold fX6_partsOf lX6_partsOf_7
  have key := it_val (b := fun (s : Int32 × Int32 × Int32) => bX6_partsOf_7 n r 0 (nI d) s.1 s.2.1 s.2.2 h) (fun i => (nI (prt K d i).1, nI (prt K d i).2, nI i)) (nI (parts K d)) (K 0 0) (n := n) (by omega) ?_ ?_
  · rw [show (((0 : Int32), (0 : Int32), (0 : Int32)) : Int32 × Int32 × Int32) = (nI (prt K d 0).1, nI (prt K d 0).2, nI 0) from rfl, key]; rfl
  · intro i hi
    obtain ⟨h1, h2⟩ := prt_le (d := d) hK i (by omega)
    show bX6_partsOf_7 n r 0 (nI d) (nI (prt K d i).1) (nI (prt K d i).2) (nI i) h = _
    unfold bX6_partsOf_7
    rw [hC.1, if_neg (nI_ge hi (by omega)), z_hasM (p31 h2 (by omega)) (by omega), Option.bind_some]
    by_cases cb : (prt K d i).2.testBit i = true
    · rw [cb, if_neg (by decide)]
      simp only [lE, nI_1, prt, cb, if_true]
    · rw [if_pos (by rw [bI_0]; simpa using cb)]
      simp only [lE]
      rw [z_reached hC hK hd hi hn, Option.bind_some, z_or]
      have cb : (prt K d i).2.testBit i = false := by simpa using cb
      simp only [nI_1, prt, cb]
      rfl
  · show bX6_partsOf_7 n r 0 (nI d) (nI (prt K d (K 0 0)).1) (nI (prt K d (K 0 0)).2) (nI (K 0 0)) h = _
    unfold bX6_partsOf_7
    rw [hC.1, if_pos (nI_le (Nat.le_refl _) (by omega))]
    rfl
/-- how far from a to b -/
def stp (K : Kd) (d a b : Nat) : Option Nat := ff (fun i => (rcN K d (2 ^ a) i).testBit b) (K 0 0) 0
def oI (o : Option Nat) : Int32 := match o with
  | some i => nI i
  | none => -1
theorem z_steps {d a b : Nat} (hC : Ch r h c K) (hK : Bk K) (hd : d < 2 ^ 31) (ha : a < K 0 0) (hb : b < K 0 0) (hn : 20 ≤ n) : fX1_steps n r c (nI a) (nI b) (nI d) h = some (oI (stp K d a b)) := by
  have hN := hK.1
  have hx := fun i => p31 (rcN_lt (d := d) hK (pw_lt ha) i) (by omega)
  unfold fX1_steps lX1_steps_8
  simp only [lE]
  rw [z_shl (by omega)]
  have key := it_find (b := fun (s : Int32 × Int32) => bX1_steps_8 n r c (nI b) (nI d) s.1 s.2 h) (fun i => (nI (rcN K d (2 ^ a) i), nI i)) (fun i => (rcN K d (2 ^ a) i).testBit b) (fun i => .inl (nI i)) (.inr ()) (K 0 0) (n := n) (by omega) ?_ ?_ ?_
  · rw [show ((nI (2 ^ a), (0 : Int32)) : Int32 × Int32) = (nI (rcN K d (2 ^ a) 0), nI 0) from rfl, key]
    unfold stp
    cases ff (fun i => (rcN K d (2 ^ a) i).testBit b) (K 0 0) 0 <;> rfl
  · intro i hi hp
    show bX1_steps_8 n r c (nI b) (nI d) (nI (rcN K d (2 ^ a) i)) (nI i) h = _
    unfold bX1_steps_8
    rw [hC.1, if_neg (nI_ge hi (by omega)), z_has (hx i) (by omega), Option.bind_some, hp, if_pos (by decide), z_widen hC hK hd (rcN_lt hK (pw_lt ha) i) hn, Option.bind_some]
    simp only [lE, nI_1, rcN]
  · intro i hi hp
    show bX1_steps_8 n r c (nI b) (nI d) (nI (rcN K d (2 ^ a) i)) (nI i) h = _
    unfold bX1_steps_8
    rw [hC.1, if_neg (nI_ge hi (by omega)), z_has (hx i) (by omega), Option.bind_some, hp, if_neg (by decide)]
  · show bX1_steps_8 n r c (nI b) (nI d) (nI (rcN K d (2 ^ a) (K 0 0))) (nI (K 0 0)) h = _
    unfold bX1_steps_8
    rw [hC.1, if_pos (nI_le (Nat.le_refl _) (by omega))]
theorem z_wayOf {d a b : Nat} (hC : Cm r h K) (hK : Bk K) (h22 : h.1 (r 0 22) 0 = nI d) (hd : d < 2 ^ 31) (ha : a < K 0 0) (hb : b < K 0 0) (hn : 20 ≤ n) : fX6_wayOf n r 0 (nI a) (nI b) h = some (oI (stp K d a b)) := by
  have hN := hK.1
  have hx := fun i => p31 (rcN_lt (d := d) hK (pw_lt ha) i) (by omega)
  unfold fX6_wayOf lX6_wayOf_7
  simp only [lE]
  rw [z_shl (by omega)]
  have key := it_find (b := fun (s : Int32 × Int32) => bX6_wayOf_7 n r 0 (nI b) s.1 s.2 h) (fun i => (nI (rcN K d (2 ^ a) i), nI i)) (fun i => (rcN K d (2 ^ a) i).testBit b) (fun i => .inl (nI i)) (.inr ()) (K 0 0) (n := n) (by omega) ?_ ?_ ?_
  · rw [show ((nI (2 ^ a), (0 : Int32)) : Int32 × Int32) = (nI (rcN K d (2 ^ a) 0), nI 0) from rfl, key]
    unfold stp
    cases ff (fun i => (rcN K d (2 ^ a) i).testBit b) (K 0 0) 0 <;> rfl
  · intro i hi hp
    show bX6_wayOf_7 n r 0 (nI b) (nI (rcN K d (2 ^ a) i)) (nI i) h = _
    unfold bX6_wayOf_7
    rw [hC.1, if_neg (nI_ge hi (by omega)), z_hasM (hx i) (by omega), Option.bind_some, hp, if_pos (by decide), show (0 : Int32) = nI 0 from rfl, z_ck (by omega) (by omega), nI_clamp (by omega), h22, z_onward hC hK hd (rcN_lt hK (pw_lt ha) i) hn, Option.bind_some]
    simp only [lE, nI_1, rcN]
  · intro i hi hp
    show bX6_wayOf_7 n r 0 (nI b) (nI (rcN K d (2 ^ a) i)) (nI i) h = _
    unfold bX6_wayOf_7
    rw [hC.1, if_neg (nI_ge hi (by omega)), z_hasM (hx i) (by omega), Option.bind_some, hp, if_neg (by decide)]
  · show bX6_wayOf_7 n r 0 (nI b) (nI (rcN K d (2 ^ a) (K 0 0))) (nI (K 0 0)) h = _
    unfold bX6_wayOf_7
    rw [hC.1, if_pos (nI_le (Nat.le_refl _) (by omega))]
end GG2
