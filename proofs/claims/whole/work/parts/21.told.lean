/-! ===== told: by which link alone, who reads two things ===== -/
/-- the class writes, the reference does not -/
def SimX (w : Bool) (hm : Hp) (x : Option (Int32 × Hp)) (m : Option Int32) : Prop := ∃ o hx', x = some (o, hx') ∧ m = some o ∧ IV w hx' hm
theorem SimX.no {w : Bool} {hx hm : Hp} (hI : IV w hx hm) (o : Int32) : SimX w hm (some (o, hx)) (some o) := ⟨o, hx, rfl, rfl, hI⟩
theorem SimX.ite {w : Bool} {hm : Hp} {c : Prop} [Decidable c] {a b : Option (Int32 × Hp)} {a' b' : Option Int32} (h1 : SimX w hm a a') (h2 : SimX w hm b b') : SimX w hm (if c then a else b) (if c then a' else b') := by
  by_cases q : c
  · rw [if_pos q, if_pos q]; exact h1
  · rw [if_neg q, if_neg q]; exact h2
theorem nI_or0 (a : Nat) : nI a ||| 0 = nI a := by rw [show (0 : Int32) = nI 0 from rfl, z_or, Nat.or_zero]
theorem pc_two {m u v : Nat} (huv : u < v) (hv : v < 12) (hu : m.testBit u = true) (h2 : m.testBit v = true) : 1 < pc m := by
  have e1 : pcN m (u + 1) = pcN m u + 1 := by show pcN m u + _ = _; rw [if_pos hu]
  have e2 : pcN m (v + 1) = pcN m v + 1 := by show pcN m v + _ = _; rw [if_pos h2]
  have e3 := pcN_mono (m := m) (u + 1) v (by omega)
  have e4 := pcN_mono (m := m) (v + 1) 12 (by omega)
  unfold pc
  omega
theorem pc_one {m v : Nat} (h : ∀ i, m.testBit i = true → i = v) : pc m ≤ 1 := by
  have key : ∀ k, pcN m k ≤ if v < k then 1 else 0 := by
    intro k
    induction k with
    | zero => exact Nat.zero_le _
    | succ k ih =>
      show pcN m k + _ ≤ _
      by_cases c : m.testBit k = true
      · have := h k c
        subst this
        rw [if_neg (by omega)] at ih
        rw [if_pos c, if_pos (by omega)]; omega
      · rw [if_neg c]
        by_cases c2 : v < k
        · rw [if_pos c2] at ih; rw [if_pos (by omega)]; omega
        · rw [if_neg c2] at ih; omega
  have := key 12
  unfold pc
  split at this <;> omega
theorem pc_0 : pc 0 = 0 := by decide
/-- what a reads, of the first l links: a set, the last, and whether there are two -/
def nmb (K : Kd) (d t a : Nat) : Nat → Nat
  | 0 => 0
  | l + 1 => match rdo K d t a l with
    | some v => nmb K d t a l ||| 2 ^ v
    | none => nmb K d t a l
def lst (K : Kd) (d t a : Nat) : Nat → Option Nat
  | 0 => none
  | l + 1 => match rdo K d t a l with
    | some v => some v
    | none => lst K d t a l
def clb (K : Kd) (d t a : Nat) : Nat → Bool
  | 0 => false
  | l + 1 => match rdo K d t a l with
    | some v => match lst K d t a l with
      | some u => if v = u then clb K d t a l else true
      | none => clb K d t a l
    | none => clb K d t a l
def cls (K : Kd) (d t : Nat) : Nat → Nat
  | 0 => 0
  | a + 1 => if 1 < pc (nmb K d t a (K 0 1)) then cls K d t a ||| 2 ^ a else cls K d t a
theorem rdo_le {K : Kd} {d t a l v : Nat} (hK : Bk K) (hl : l < K 0 1) (h : rdo K d t a l = some v) : v ≤ 9 := by
  obtain ⟨-, -, -, -, -, -, g7, g8⟩ := hK.2.2.2.1 l hl
  unfold rdo at h
  repeat' split at h
  all_goals first | (cases h; assumption) | cases h
theorem nmb_lt {K : Kd} {d t a : Nat} (hK : Bk K) : ∀ l, l ≤ K 0 1 → nmb K d t a l < 2 ^ 10 := by
  intro l
  induction l with
  | zero => intro _; exact Nat.two_pow_pos _
  | succ l ih =>
    intro hl
    unfold nmb
    cases h : rdo K d t a l with
    | none => exact ih (by omega)
    | some v => exact or_lt (ih (by omega)) (pw_lt (by have := rdo_le hK (by omega) h; omega))
theorem cls_lt {K : Kd} {d t : Nat} : ∀ a, cls K d t a < 2 ^ a := by
  intro a
  induction a with
  | zero => exact Nat.one_pos
  | succ a ih =>
    unfold cls
    split
    · exact or_lt (Nat.lt_trans ih (pw_lt (by omega))) (pw_lt (by omega))
    · exact Nat.lt_trans ih (pw_lt (by omega))
theorem clb_eq {K : Kd} {d t a : Nat} (hK : Bk K) : ∀ l, l ≤ K 0 1 → (lst K d t a l = none → nmb K d t a l = 0 ∧ clb K d t a l = false) ∧ (∀ u, lst K d t a l = some u → u ≤ 9 ∧ (nmb K d t a l).testBit u = true ∧ (clb K d t a l = false → ∀ i, (nmb K d t a l).testBit i = true → i = u) ∧ (clb K d t a l = true → ∃ p q, p < q ∧ q < 12 ∧ (nmb K d t a l).testBit p = true ∧ (nmb K d t a l).testBit q = true)) := by
  intro l
  induction l with
  | zero => intro _; exact ⟨fun _ => ⟨rfl, rfl⟩, fun u h => by cases h⟩
  | succ l ih =>
    intro hl
    obtain ⟨h1, h2⟩ := ih (by omega)
    cases hr : rdo K d t a l with
    | none =>
      simp only [lst, nmb, clb, hr]
      exact ⟨h1, h2⟩
    | some v =>
      have hv := rdo_le hK (by omega) hr
      simp only [lst, nmb, clb, hr]
      refine ⟨fun h => (by cases h), fun u hu => ?_⟩
      cases hu
      refine ⟨hv, by rw [Nat.testBit_or, Nat.testBit_two_pow_self]; simp, ?_⟩
      cases hq : lst K d t a l with
      | none =>
        obtain ⟨g1, g2⟩ := h1 hq
        simp only [g1, g2]
        refine ⟨fun _ i hi => ?_, fun h => by cases h⟩
        rw [Nat.zero_or, Nat.testBit_two_pow] at hi
        exact (of_decide_eq_true hi).symm
      | some u =>
        obtain ⟨g1, g2, g3, g4⟩ := h2 u hq
        simp only
        by_cases e : v = u
        · subst e
          rw [if_pos rfl]
          have e2 : nmb K d t a l ||| 2 ^ v = nmb K d t a l := by
            apply Nat.eq_of_testBit_eq
            intro i
            rw [Nat.testBit_or, Nat.testBit_two_pow]
            by_cases c : v = i
            · subst c; simp [g2]
            · simp [c]
          rw [e2]
          exact ⟨g3, g4⟩
        · rw [if_neg e]
          refine ⟨fun h => by simp at h, fun _ => ?_⟩
          have b1 : (nmb K d t a l ||| 2 ^ v).testBit v = true := by rw [Nat.testBit_or, Nat.testBit_two_pow_self]; simp
          have b2 : (nmb K d t a l ||| 2 ^ v).testBit u = true := by rw [Nat.testBit_or, g2]; rfl
          by_cases c : v < u
          · exact ⟨v, u, c, by omega, b1, b2⟩
          · exact ⟨u, v, by omega, by omega, b2, b1⟩
theorem clb_pc {K : Kd} {d t a : Nat} (hK : Bk K) : clb K d t a (K 0 1) = decide (1 < pc (nmb K d t a (K 0 1))) := by
  obtain ⟨h1, h2⟩ := clb_eq (d := d) (t := t) (a := a) hK (K 0 1) (Nat.le_refl _)
  cases hq : lst K d t a (K 0 1) with
  | none =>
    obtain ⟨g1, g2⟩ := h1 hq
    rw [g2, g1, pc_0]; rfl
  | some u =>
    obtain ⟨g1, g2, g3, g4⟩ := h2 u hq
    cases hc : clb K d t a (K 0 1) with
    | true =>
      obtain ⟨p, q, c1, c2, c3, c4⟩ := g4 hc
      rw [decide_eq_true (pc_two c1 c2 c3 c4)]
    | false =>
      rw [decide_eq_false (by have := pc_one (g3 hc); omega)]
section CL
variable {w : Bool} {K : Kd} {b : Nat → Nat} {hx hm : Hp} {n : Nat}
theorem z_clashing {r : Rf} {h : Hp} {c d t : Nat} (hC : Ch r h c K) (hK : Bk K) (hd : d < 2 ^ 31) (ht : t < 2 ^ 31) (hA : r c 8 ≠ c ∧ ∀ j, j < 8 → r c j ≠ r c 8) (hn : 20 ≤ n) : ∃ h', fX1_clashing n r c (nI d) (nI t) h = some (nI (cls K d t (K 0 0)), h') ∧ Fr (fun a => a = r c 8) h h' := by
  have hM10 := hK.2.1
  have hN := hK.1
  unfold fX1_clashing lX1_clashing_2
  obtain ⟨h1, a1, a2, a3⟩ := it_from (b := fun (s : Int32 × Hp) => bX1_clashing_2 n r c (nI d) (nI t) s.1 s.2) (fun i x => ∃ h', x = (nI i, h') ∧ Fr (fun a => a = r c 8) h h' ∧ ∀ a, a < i → h'.1 (r c 8) a = nI 0) (fun h' => Fr (fun a => a = r c 8) h h' ∧ ∀ a, a < K 0 0 → h'.1 (r c 8) a = nI 0) (K 0 0) (n := n) (x := (0, h)) (by omega) ⟨h, rfl, Fr.rf, fun a ha => by omega⟩ (by
    rintro i x hi ⟨h', rfl, f1, f2⟩
    have hC' : Ch r h' c K := hC.fr f1 (fun q => hA.1 q.symm) (fun j hj => hA.2 j hj)
    show (∃ z, bX1_clashing_2 n r c (nI d) (nI t) (nI i) h' = _ ∧ _) ∨ (_ ∧ ∃ y, bX1_clashing_2 n r c (nI d) (nI t) (nI i) h' = _ ∧ _)
    unfold bX1_clashing_2
    rw [hC'.1]
    by_cases ce : i < K 0 0
    · right
      rw [if_neg (nI_ge ce (by omega)), z_ck (by omega) (by omega), nI_clamp (by omega)]
      simp only [lE, nI_1]
      refine ⟨ce, _, rfl, _, rfl, f1.tr (Fr.pI rfl), fun a ha => ?_⟩
      by_cases e : a = i
      · subst e; rw [pI_eq]; rfl
      · rw [pI_nj e]; exact f2 a (by omega)
    · left
      rw [if_pos (nI_le (by omega) (by omega))]
      exact ⟨_, rfl, f1, fun a ha => f2 a (by omega)⟩)
  rw [a1, Option.bind_some]
  unfold lX1_clashing_25
  obtain ⟨h2, c1, c2, c3⟩ := it_from (b := fun (s : Int32 × Hp) => bX1_clashing_25 n r c (nI d) (nI t) s.1 s.2) (fun i x => ∃ h', x = (nI i, h') ∧ Fr (fun a => a = r c 8) h h' ∧ ∀ a, a < K 0 0 → h'.1 (r c 8) a = nI (nmb K d t a i)) (fun h' => Fr (fun a => a = r c 8) h h' ∧ ∀ a, a < K 0 0 → h'.1 (r c 8) a = nI (nmb K d t a (K 0 1))) (K 0 1) (n := n) (x := (0, h1)) (by omega) ⟨h1, rfl, a2, a3⟩ (by
    rintro i x hi ⟨h', rfl, f1, f2⟩
    have hC' : Ch r h' c K := hC.fr f1 (fun q => hA.1 q.symm) (fun j hj => hA.2 j hj)
    show (∃ z, bX1_clashing_25 n r c (nI d) (nI t) (nI i) h' = _ ∧ _) ∨ (_ ∧ ∃ y, bX1_clashing_25 n r c (nI d) (nI t) (nI i) h' = _ ∧ _)
    unfold bX1_clashing_25
    rw [hC'.2.1]
    by_cases ce : i < K 0 1
    · right
      obtain ⟨e1, e2, -⟩ := hC'.2.2.2.1 i ce
      obtain ⟨g1, g2, g3, -, -, -, g7, g8⟩ := hK.2.2.2.1 i ce
      have hck : ∀ {q : Type} (x : Option q), ck (nI i) 10 x = x := fun x => z_ck (by omega) (by omega)
      have hc1 : ∀ {q : Type} (x : Option q), ck (nI (K 1 i)) 8 x = x := fun x => z_ck (by omega) (by omega)
      have hc2 : ∀ {q : Type} (x : Option q), ck (nI (K 2 i)) 8 x = x := fun x => z_ck (by omega) (by omega)
      rw [if_neg (nI_ge ce (by omega)), z_has hd (by omega), Option.bind_some]
      by_cases cb : d.testBit i = true
      · have s1 : fX1_sideRead n r c (nI i) 1 (bI (t.testBit i)) h' = some (nI (if true = t.testBit i then K 6 i else K 5 i)) := z_sideRead (p := true) hC' hK ce
        rw [cb, if_neg (by decide)]
        simp only [hck, nI_clamp (show i < 2 ^ 31 by omega), e1, hc1, nI_clamp (show K 1 i < 2 ^ 31 by omega), lE]
        rw [z_has ht (by omega), Option.bind_some, s1, Option.bind_some, f2 _ g1, z_shl (by split <;> omega), z_or]
        have hC2 : ∀ v, Ch r (pI h' (r c 8) (K 1 i) v) c K := fun v => hC.fr (f1.tr (Fr.pI rfl)) (fun q => hA.1 q.symm) (fun j hj => hA.2 j hj)
        have s2 : ∀ v, fX1_sideRead n r c (nI i) 0 (bI (t.testBit i)) (pI h' (r c 8) (K 1 i) v) = some (nI (if false = t.testBit i then K 6 i else K 5 i)) := fun v => z_sideRead (p := false) (hC2 v) hK ce
        have e2' : ∀ v, (pI h' (r c 8) (K 1 i) v).1 (r c 1) i = nI (K 2 i) := fun v => ((hC2 v).2.2.2.1 i ce).2.1
        rw [e2']
        simp only [hc2, nI_clamp (show K 2 i < 2 ^ 31 by omega)]
        rw [z_has ht (by omega), Option.bind_some, s2, Option.bind_some, pI_nj (fun q => g3 q.symm), f2 _ g2, z_shl (by split <;> omega), z_or, nI_1]
        refine ⟨ce, _, rfl, _, rfl, (f1.tr (Fr.pI rfl)).tr (Fr.pI rfl), fun a ha => ?_⟩
        by_cases k2 : a = K 2 i
        · subst k2
          have hr : rdo K d t (K 2 i) i = some (if t.testBit i then K 5 i else K 6 i) := by
            unfold rdo; rw [if_pos cb, if_neg g3, if_pos rfl]
          rw [pI_eq]
          simp only [nmb, hr]
          cases t.testBit i <;> rfl
        · rw [pI_nj k2]
          by_cases k1 : a = K 1 i
          · subst k1
            have hr : rdo K d t (K 1 i) i = some (if t.testBit i then K 6 i else K 5 i) := by
              unfold rdo; rw [if_pos cb, if_pos rfl]
            rw [pI_eq]
            simp only [nmb, hr]
            cases t.testBit i <;> rfl
          · have hr : rdo K d t a i = none := by
              unfold rdo; rw [if_pos cb, if_neg (fun q => k1 q.symm), if_neg (fun q => k2 q.symm)]
            rw [pI_nj k1]
            simp only [nmb, hr]
            exact f2 a ha
      · rw [if_pos (by rw [bI_0]; simpa using cb)]
        simp only [lE, nI_1]
        refine ⟨ce, _, rfl, _, rfl, f1, fun a ha => ?_⟩
        have hr : rdo K d t a i = none := by unfold rdo; rw [if_neg cb]
        simp only [nmb, hr]
        exact f2 a ha
    · left
      rw [if_pos (nI_le (by omega) (by omega))]
      exact ⟨_, rfl, f1, fun a ha => by rw [f2 a ha, show i = K 0 1 by omega]⟩)
  rw [c1, Option.bind_some]
  have hC' : Ch r h2 c K := hC.fr c2 (fun q => hA.1 q.symm) (fun j hj => hA.2 j hj)
  unfold lX1_clashing_106
  have key := it_val (b := fun (s : Int32 × Int32) => bX1_clashing_106 n r c s.1 s.2 h2) (fun i => (nI (cls K d t i), nI i)) (nI (cls K d t (K 0 0))) (K 0 0) (n := n) (by omega) ?_ ?_
  · rw [show (((0 : Int32), (0 : Int32)) : Int32 × Int32) = (nI (cls K d t 0), nI 0) from rfl, key]
    exact ⟨h2, rfl, c2⟩
  · intro i hi
    show bX1_clashing_106 n r c (nI (cls K d t i)) (nI i) h2 = _
    have hnm := nmb_lt (d := d) (t := t) (a := i) hK (K 0 1) (Nat.le_refl _)
    have hpc := pc_le (nmb K d t i (K 0 1))
    unfold bX1_clashing_106
    rw [hC'.1, if_neg (nI_ge hi (by omega)), z_ck (by omega) (by omega), nI_clamp (by omega), c3 i hi, z_bc (by omega), Option.bind_some, z_shl (by omega), z_or, nI_1]
    simp only [lE, cls]
    by_cases cp : 1 < pc (nmb K d t i (K 0 1))
    · rw [if_neg (show ¬ nI (pc (nmb K d t i (K 0 1))) ≤ 1 from nI_ge (a := 1) cp (by omega)), if_pos cp]
    · rw [if_pos (show nI (pc (nmb K d t i (K 0 1))) ≤ 1 from nI_le (b := 1) (by omega) (by omega)), if_neg cp]
  · show bX1_clashing_106 n r c (nI (cls K d t (K 0 0))) (nI (K 0 0)) h2 = _
    unfold bX1_clashing_106
    rw [hC'.1, if_pos (nI_le (Nat.le_refl _) (by omega))]
theorem z_clashesBy {d t : Nat} (hM : Cm RM hm K) (hK : Bk K) (hd : d < 2 ^ 31) (ht : t < 2 ^ 31) (hn : 20 ≤ n) : fX6_clashesBy n RM 0 (nI d) (nI t) hm = some (nI (cls K d t (K 0 0))) := by
  have hM10 := hK.2.1
  have hN := hK.1
  unfold fX6_clashesBy lX6_clashesBy_5
  have key := it_val (b := fun (s : Int32 × Int32) => bX6_clashesBy_5 n RM 0 (nI d) (nI t) s.1 s.2 hm) (fun i => (nI (cls K d t i), nI i)) (nI (cls K d t (K 0 0))) (K 0 0) (n := n) (by omega) ?_ ?_
  · rw [show (((0 : Int32), (0 : Int32)) : Int32 × Int32) = (nI (cls K d t 0), nI 0) from rfl, key]; rfl
  · intro a ha
    show bX6_clashesBy_5 n RM 0 (nI d) (nI t) (nI (cls K d t a)) (nI a) hm = _
    unfold bX6_clashesBy_5
    rw [hM.1, if_neg (nI_ge ha (by omega))]
    unfold lX6_clashesBy_20
    have k2 := it_val (b := fun (s : Int32 × Int32 × Int32) => bX6_clashesBy_20 n RM 0 (nI d) (nI t) s.1 (nI a) s.2.1 s.2.2 hm) (fun l => (nI (cls K d t a ||| (if clb K d t a l then 2 ^ a else 0)), oI (lst K d t a l), nI l)) (nI (cls K d t a ||| (if clb K d t a (K 0 1) then 2 ^ a else 0))) (K 0 1) (n := n) (by omega) ?_ ?_
    · rw [show ((nI (cls K d t a), ((-1 : Int32), (0 : Int32))) : Int32 × Int32 × Int32) = (nI (cls K d t a ||| (if clb K d t a 0 then 2 ^ a else 0)), oI (lst K d t a 0), nI 0) by
        show _ = (nI (cls K d t a ||| 0), oI none, nI 0)
        rw [Nat.or_zero]; rfl, k2, Option.bind_some, nI_1, clb_pc hK]
      simp only [lE, cls]
      by_cases cp : 1 < pc (nmb K d t a (K 0 1))
      · rw [decide_eq_true cp, if_pos cp, if_pos rfl]
      · rw [decide_eq_false cp, if_neg cp, if_neg (by decide), Nat.or_zero]
    · intro l hl
      show bX6_clashesBy_20 n RM 0 (nI d) (nI t) (nI (cls K d t a ||| (if clb K d t a l then 2 ^ a else 0))) (nI a) (oI (lst K d t a l)) (nI l) hm = _
      unfold bX6_clashesBy_20 jX6_clashesBy_69
      rw [hM.2.1, if_neg (nI_ge hl (by omega)), z_readBy hM hK hl ha hd ht, Option.bind_some, nI_1, z_shl (by omega)]
      simp only [lE, nI_or0]
      cases hr : rdo K d t a l with
      | none => simp only [oI, if_true, lst, clb, hr]
      | some v =>
        have hv := rdo_le hK hl hr
        simp only [oI, nI_m1 (show v < 2 ^ 31 by omega), if_false]
        cases hq : lst K d t a l with
        | none => simp only [if_true, lst, clb, hr, hq]
        | some u =>
          have hu := (((clb_eq (d := d) (t := t) (a := a) hK l (by omega)).2) u hq).1
          simp only [nI_m1 (show u < 2 ^ 31 by omega), if_false, nI_eq (show v < 2 ^ 31 by omega) (show u < 2 ^ 31 by omega), lst, clb, hr, hq]
          by_cases e : v = u
          · rw [if_pos e, if_pos e]
          · rw [if_neg e, if_neg e, z_or, if_pos rfl]
            congr 3
            cases clb K d t a l with
            | true => rw [if_pos rfl, Nat.or_assoc, Nat.or_self]
            | false => rw [if_neg (by decide), Nat.or_zero]
    · show bX6_clashesBy_20 n RM 0 (nI d) (nI t) (nI (cls K d t a ||| (if clb K d t a (K 0 1) then 2 ^ a else 0))) (nI a) (oI (lst K d t a (K 0 1))) (nI (K 0 1)) hm = _
      unfold bX6_clashesBy_20
      rw [hM.2.1, if_pos (nI_le (Nat.le_refl _) (by omega))]
  · show bX6_clashesBy_5 n RM 0 (nI d) (nI t) (nI (cls K d t (K 0 0))) (nI (K 0 0)) hm = _
    unfold bX6_clashesBy_5
    rw [hM.1, if_pos (nI_le (Nat.le_refl _) (by omega))]
theorem Inv.num {hx' : Hp} (hI : Inv w K b hx hm) (hF : Fr (fun a => a = cc w + 9) hx hx') : Inv w K b hx' hm := by
  obtain ⟨i1, i2, i3, i4, i5, i6, i7, i8, i9, i10, i11⟩ := hI
  have h9 : cc w + 9 = 12 ∨ cc w + 9 = 22 := by rcases cc_in w with h | h <;> rw [h] <;> decide
  have hM : FrM (fun _ => False) (fun _ => False) hm hm := FrM.rf
  have hne : ∀ a, a ≠ 12 → a ≠ 22 → ¬ a = cc w + 9 := fun a _ _ q => by rcases h9 with h | h <;> omega
  refine ⟨i1, i2.fr hF (by omega) (fun j hj => by rw [rx_c]; omega), i3, i4.frw hF (hne _ (by decide) (by decide)) (hne _ (by decide) (by decide)), i5, i6, i7, i8.fr hF hM (hne _ (by decide) (by decide)) (hne _ (by decide) (by decide)) (fun q => q) (fun q => q) (fun q => q), i9.fr hF hM (hne _ (by decide) (by decide)) (hne _ (by decide) (by decide)) (fun q => q) (fun q => q) (fun q => q), i10.fr hF hM (fun a _ _ => hne _ (by omega) (by omega)) (fun a _ _ q => q) (fun q => q) (fun q => q), i11.fr hF hM (hne _ (by decide) (by decide)) (hne _ (by decide) (by decide)) (hne _ (by decide) (by decide)) (fun q => q) (fun q => q)⟩
/-- both count the clashes alike -/
theorem Inv.clash {d t : Nat} (hI : Inv w K b hx hm) (hd : d < 2 ^ 31) (ht : t < 2 ^ 31) (hn : 20 ≤ n) : (∃ hx', fX1_clashing n (RX w) (cc w) (nI d) (nI t) hx = some (nI (cls K d t (K 0 0)), hx') ∧ Inv w K b hx' hm) ∧ fX6_clashesBy n RM 0 (nI d) (nI t) hm = some (nI (cls K d t (K 0 0))) := by
  refine ⟨?_, z_clashesBy hI.2.2.1 hI.1 hd ht hn⟩
  obtain ⟨h', e1, e2⟩ := z_clashing (n := n) hI.2.1 hI.1 hd ht ⟨by rw [rx_c]; omega, fun j hj => by rw [rx_c, rx_c]; omega⟩ hn
  rw [rx_c] at e2
  exact ⟨h', e1, hI.num e2⟩
theorem z_doneUpWithout {c : Nat} (hI : Inv w K b hx hm) (hc : c < 31) : fX5_doneUpWithout n (RX w) 0 (nI c) hx = some (nI (wo (b 0) (2 ^ c))) := by
  unfold fX5_doneUpWithout
  rw [rx03, hI.2.2.2.1.1, z_shl hc, z_wo]
theorem sim_alone (hI : Inv w K b hx hm) (hn : 20 ≤ n) : Sim0 (fX5_linksAlone n (RX w) 0 hx) (fX6_alone n RM 0 hm) := by
  have hI0 := hI
  obtain ⟨i1, i2, i3, i4, i5, i6, -⟩ := hI
  have hM10 := i1.2.1
  have hd31 := p31 i6.1 (show K 0 1 ≤ 31 by omega)
  unfold fX5_linksAlone fX6_alone lX6_alone_4
  rw [rx01, rx03, i4.1, z_partsBy i2 i1 hd31 hn, Option.bind_some]
  unfold lX5_linksAlone_19
  obtain ⟨z, h1, h2⟩ := it_same (b := fun (s : Int32 × Int32) => bX5_linksAlone_19 n (RX w) 0 (nI (parts K (b 0))) s.1 s.2 hx) (d := fun (s : Int32 × Int32) => bX6_alone_4 n RM 0 s.1 s.2 hm) (fun i s => ∃ m, s = (nI m, nI i)) (K 0 1) (n := n) (m := n) (x := (0, 0)) (by omega) (by omega) ⟨0, rfl⟩ (by
    rintro i s hi ⟨m, rfl⟩
    show (∃ z, bX5_linksAlone_19 n (RX w) 0 (nI (parts K (b 0))) (nI m) (nI i) hx = _ ∧ bX6_alone_4 n RM 0 (nI m) (nI i) hm = _) ∨ (_ ∧ ∃ y, bX5_linksAlone_19 n (RX w) 0 (nI (parts K (b 0))) (nI m) (nI i) hx = _ ∧ bX6_alone_4 n RM 0 (nI m) (nI i) hm = _ ∧ _)
    unfold bX5_linksAlone_19 bX6_alone_4
    rw [rx01, i2.2.1, i3.2.1]
    by_cases ce : i < K 0 1
    · right
      have hw31 : wo (b 0) (2 ^ i) < 2 ^ 31 := p31 (wo_lt i6.1) (show K 0 1 ≤ 31 by omega)
      rw [if_neg (nI_ge ce (by omega)), if_neg (nI_ge ce (by omega))]
      simp only [ck_0, cl_0, rm22, rx03, lE, nI_or0]
      rw [i4.1, i5 0 (by omega), z_has hd31 (by omega), z_hasM hd31 (by omega), z_doneUpWithout hI0 (by omega), z_shl (by omega), z_wo, Option.bind_some, Option.bind_some, Option.bind_some, z_partsBy i2 i1 hw31 hn, z_partsOf i3 i1 hw31 hn, z_partsOf i3 i1 hd31 hn, Option.bind_some, Option.bind_some, Option.bind_some, z_or, nI_1]
      refine ⟨ce, ?_⟩
      cases (b 0).testBit i with
      | false => exact ⟨_, rfl, rfl, _, rfl⟩
      | true =>
        by_cases cp : nI (parts K (wo (b 0) (2 ^ i))) ≤ nI (parts K (b 0))
        · simp only [bI, if_true, n10, if_false, cp]
          exact ⟨_, rfl, rfl, _, rfl⟩
        · simp only [bI, if_true, n10, if_false, cp]
          exact ⟨_, rfl, rfl, _, rfl⟩
    · left
      rw [if_pos (nI_le (by omega) (by omega)), if_pos (nI_le (by omega) (by omega))]
      exact ⟨_, rfl, rfl⟩)
  rw [h1, h2]
  exact Sim0.rf _
theorem sim_told (hI : IV w hx hm) (x : Int32) (hn : 20 ≤ n) : SimX w hm (fX5_told n (RX w) 0 x hx) (fX6_told n RM 0 x hm) := by
  have hI0 := hI
  obtain ⟨K, b, hI⟩ := hI
  have hI1 := hI
  obtain ⟨i1, i2, i3, i4, i5, i6, i7, ⟨k, -, k2, k3, -⟩, ⟨p, q, c, lg, l1, l2, -⟩, ⟨u, v, -, -, -, -, -, -, -, u1, u2, v1, v2, -⟩, -⟩ := hI
  have hM10 := i1.2.1
  have hd31 := p31 i6.1 (show K 0 1 ≤ 31 by omega)
  have ht31 := p31 i6.2.1 (show K 0 1 ≤ 31 by omega)
  unfold fX5_told fX6_told
  simp only [lE, rx00, rx01, rx03, rx05, rx06, rm22, ck_0, ck_1, ck_3, ck_4, ck_5, cl_0, cl_1, cl_3, cl_4, cl_5]
  rw [i2.1, i2.2.1, i2.2.2.1, i3.1, i3.2.1, i3.2.2.1, k2, k3, i4.1, i4.2.1, i4.2.2.2.1, i4.2.2.2.2.1, i4.2.2.2.2.2.1, i5 0 (by omega), i5 1 (by omega), i5 3 (by omega), i5 4 (by omega), i5 5 (by omega), u1, u2, v1, v2, l1.2.1, l2.2.1]
  refine SimX.ite (SimX.no hI0 _) (SimX.ite (SimX.no hI0 _) (SimX.ite (SimX.no hI0 _) (SimX.ite (SimX.no hI0 _) (SimX.ite (SimX.no hI0 _) (SimX.ite (SimX.no hI0 _) (SimX.ite (SimX.no hI0 _) (SimX.ite (SimX.no hI0 _) (SimX.ite ?_ (SimX.ite ?_ (SimX.ite (SimX.no hI0 _) (SimX.ite (SimX.no hI0 _) (SimX.ite (SimX.no hI0 _) (SimX.no hI0 _)))))))))))))
  · obtain ⟨o, e1, e2⟩ := sim_alone (n := n) hI1 hn
    rw [e1, e2]
    exact SimX.no hI0 _
  · obtain ⟨⟨x1, e1, hJ⟩, e2⟩ := hI1.clash (n := n) hd31 ht31 hn
    rw [e1, e2]
    exact ⟨_, x1, rfl, rfl, K, b, hJ⟩
end CL
