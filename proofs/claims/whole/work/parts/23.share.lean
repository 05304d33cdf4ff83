/-! ===== shares of silver ===== -/
/-- of the set s, the link with the most strain, of the first l -/
def mx (b : Nat → Nat) (s : Nat) : Nat → Option Nat
  | 0 => none
  | l + 1 => if s.testBit l then (match mx b s l with
    | none => some l
    | some p => if b (6 + l) ≤ b (6 + p) then some p else some l) else mx b s l
theorem mx_none {b : Nat → Nat} {s : Nat} : ∀ l, mx b s l = none ↔ ∀ j, j < l → s.testBit j = false := by
  intro l
  induction l with
  | zero => exact ⟨fun _ j hj => by omega, fun _ => rfl⟩
  | succ l ih =>
    unfold mx
    by_cases c : s.testBit l = true
    · rw [if_pos c]
      constructor
      · intro h
        cases hq : mx b s l with
        | none => rw [hq] at h; cases h
        | some p =>
          rw [hq] at h
          by_cases c2 : b (6 + l) ≤ b (6 + p)
          · simp only [c2, if_true] at h; cases h
          · simp only [c2, if_false] at h; cases h
      · intro h
        rw [h l (by omega)] at c; cases c
    · rw [if_neg c, ih]
      constructor
      · intro h j hj
        by_cases e : j = l
        · subst e; simpa using c
        · exact h j (by omega)
      · intro h j hj; exact h j (by omega)
theorem mx_some {b : Nat → Nat} {s : Nat} : ∀ l p, mx b s l = some p → p < l ∧ s.testBit p = true := by
  intro l
  induction l with
  | zero => intro p h; cases h
  | succ l ih =>
    intro p h
    unfold mx at h
    by_cases c : s.testBit l = true
    · rw [if_pos c] at h
      cases hq : mx b s l with
      | none => rw [hq] at h; cases h; exact ⟨by omega, c⟩
      | some q =>
        rw [hq] at h
        obtain ⟨h1, h2⟩ := ih q hq
        by_cases c2 : b (6 + l) ≤ b (6 + q)
        · simp only [c2, if_true] at h; cases h; exact ⟨by omega, h2⟩
        · simp only [c2, if_false] at h; cases h; exact ⟨by omega, c⟩
    · rw [if_neg c] at h
      obtain ⟨h1, h2⟩ := ih p h
      exact ⟨by omega, h2⟩
theorem pcN_wo {s p : Nat} (hp : s.testBit p = true) : ∀ k, pcN (wo s (2 ^ p)) k + (if p < k then 1 else 0) = pcN s k := by
  intro k
  induction k with
  | zero => rfl
  | succ k ih =>
    show pcN (wo s (2 ^ p)) k + (if (wo s (2 ^ p)).testBit k then 1 else 0) + _ = pcN s k + (if s.testBit k then 1 else 0)
    rw [wo_tb, Nat.testBit_two_pow]
    by_cases e : p = k
    · subst e
      rw [if_neg (by omega)] at ih
      simp [hp]; omega
    · by_cases c : p < k
      · rw [if_pos c] at ih
        simp [e, show p < k + 1 by omega]; omega
      · rw [if_neg c] at ih
        simp [e, show ¬ p < k + 1 by omega]; omega
theorem pc_wo {s p : Nat} (hp : s.testBit p = true) (h12 : p < 12) : pc (wo s (2 ^ p)) + 1 = pc s := by
  have := pcN_wo hp 12
  rw [if_pos h12] at this
  exact this
theorem pc_lt {s m : Nat} (hs : s < 2 ^ m) : pc s ≤ m := by
  have key : ∀ k, pcN s k ≤ m := by
    intro k
    induction k with
    | zero => exact Nat.zero_le _
    | succ k ih =>
      show pcN s k + _ ≤ _
      by_cases c : k < m
      · have := pcN_le s k
        split <;> omega
      · rw [z_tbl hs (by omega)]; exact ih
  exact key 12
theorem pc_z {s : Nat} (h : pc s = 0) : ∀ j, j < 12 → s.testBit j = false := by
  have key : ∀ k, pcN s k = 0 → ∀ j, j < k → s.testBit j = false := by
    intro k
    induction k with
    | zero => intro _ j hj; omega
    | succ k ih =>
      intro h j hj
      have h : pcN s k + (if s.testBit k then 1 else 0) = 0 := h
      by_cases e : j = k
      · subst e
        by_cases c : s.testBit j = true
        · rw [if_pos c] at h; omega
        · simpa using c
      · exact ih (by omega) j (by omega)
  exact key 12 h
def shs (b : Nat → Nat) (M : Nat) (q : Nat × Nat) : Nat × Nat := if q.2 = 0 then q else match mx b (wo (b 0) q.1) M with
  | none => q
  | some p => (q.1 ||| 2 ^ p, q.2 - 1)
def shN (b : Nat → Nat) (M k : Nat) : Nat → Nat × Nat
  | 0 => (0, k)
  | i + 1 => shs b M (shN b M k i)
theorem shN_fix {b : Nat → Nat} {M k i : Nat} (h : shs b M (shN b M k i) = shN b M k i) : ∀ j, shN b M k (i + j) = shN b M k i := by
  intro j
  induction j with
  | zero => rfl
  | succ j ih => show shs b M (shN b M k (i + j)) = _; rw [ih, h]
theorem shN_ok {b : Nat → Nat} {M k : Nat} (hM : M ≤ 10) (hd : b 0 < 2 ^ M) : ∀ i, (shN b M k i).1 < 2 ^ M ∧ (shN b M k i).2 ≤ k ∧ (∀ j, (shN b M k i).1.testBit j = true → (b 0).testBit j = true) ∧ (i ≤ M → (shN b M k i).2 = 0 ∨ mx b (wo (b 0) (shN b M k i).1) M = none ∨ pc (wo (b 0) (shN b M k i).1) + i ≤ M) := by
  intro i
  induction i with
  | zero =>
    refine ⟨Nat.two_pow_pos _, Nat.le_refl _, fun j hj => ?_, fun _ => Or.inr (Or.inr ?_)⟩
    · rw [show (shN b M k 0).1 = 0 from rfl, Nat.zero_testBit] at hj; cases hj
    · have := pc_lt (wo_lt (b := (shN b M k 0).1) hd); omega
  | succ i ih =>
    obtain ⟨h1, h2, h3, h4⟩ := ih
    have e : shN b M k (i + 1) = shs b M (shN b M k i) := rfl
    rw [e]
    unfold shs
    by_cases c : (shN b M k i).2 = 0
    · rw [if_pos c]; exact ⟨h1, h2, h3, fun _ => Or.inl c⟩
    · rw [if_neg c]
      cases hq : mx b (wo (b 0) (shN b M k i).1) M with
      | none => exact ⟨h1, h2, h3, fun _ => Or.inr (Or.inl hq)⟩
      | some p =>
        obtain ⟨p1, p2⟩ := mx_some _ _ hq
        refine ⟨or_lt h1 (pw_lt p1), by show _ - 1 ≤ k; omega, fun j hj => ?_, fun hi => ?_⟩
        · have hj : ((shN b M k i).1 ||| 2 ^ p).testBit j = true := hj
          rw [Nat.testBit_or, Nat.testBit_two_pow] at hj
          by_cases e : p = j
          · subst e
            rw [wo_tb, Bool.and_eq_true] at p2
            exact p2.1
          · simp [e] at hj; exact h3 j hj
        · rcases h4 (by omega) with g | g | g
          · exact absurd g c
          · rw [hq] at g; cases g
          · right; right
            show pc (wo (b 0) ((shN b M k i).1 ||| 2 ^ p)) + (i + 1) ≤ M
            rw [← wo_wo]
            have := pc_wo p2 (by omega)
            omega
/-- behind M steps nothing changes -/
theorem shN_end {b : Nat → Nat} {M k : Nat} (hM : M ≤ 10) (hd : b 0 < 2 ^ M) : shs b M (shN b M k M) = shN b M k M := by
  obtain ⟨h1, h2, h3, h4⟩ := shN_ok (k := k) hM hd M
  unfold shs
  rcases h4 (Nat.le_refl _) with g | g | g
  · rw [if_pos g]
  · rw [g]; split <;> rfl
  · have : mx b (wo (b 0) (shN b M k M).1) M = none := (mx_none M).mpr (fun j hj => pc_z (by omega) j (by omega))
    rw [this]; split <;> rfl
section SH
variable {w : Bool} {K : Kd} {b : Nat → Nat} {hx hm : Hp} {n : Nat}
theorem z_most {s f : Nat} (hI : Inv w K b hx hm) (hs : s < 2 ^ (K 0 1)) (hf : ff (fun i => s.testBit i) 10 0 = some f) (hn : 20 ≤ n) : fX5_mostStrained n (RX w) 0 (nI s) hx = some (oI (mx b s (K 0 1))) := by
  obtain ⟨i1, i2, i3, i4, i5, i6, -⟩ := hI
  have hM10 := i1.2.1
  have hs31 := p31 hs (show K 0 1 ≤ 31 by omega)
  have hs10 : s < 1024 := Nat.lt_of_lt_of_le hs (Nat.pow_le_pow_right (by decide) hM10)
  obtain ⟨-, f1, f2, f3⟩ := ff_some 10 0 f hf
  have hfM : f < K 0 1 := by
    by_cases c : f < K 0 1
    · exact c
    · rw [show s.testBit f = false from z_tbl hs (by omega)] at f2; cases f2
  have hb := fun l (hl : l < 10) => (i6.2.2.2.2.2 l hl).1
  have hpN : ∀ l, l ≤ f → mx b s l = none := fun l hl => (mx_none l).mpr (fun j hj => f3 j (by omega) (by omega))
  unfold fX5_mostStrained
  rw [z_leastOf hs10, hf, Option.bind_some]
  unfold lX5_mostStrained_7
  have hlt : ∀ l, l ≤ 10 → (match mx b s l with | none => f | some p => p) < 10 := fun l hl => by
    cases hq : mx b s l with
    | none => exact by omega
    | some p => have := (mx_some _ _ hq).1; show p < 10; omega
  have key := it_val (b := fun (q : Int32 × Int32) => bX5_mostStrained_7 n (RX w) 0 (nI s) q.1 q.2 hx) (fun l => (nI (match mx b s l with | none => f | some p => p), nI l)) (nI (match mx b s (K 0 1) with | none => f | some p => p)) (K 0 1) (n := n) (by omega) ?_ ?_
  · rw [show ((oI (some f), (0 : Int32)) : Int32 × Int32) = (nI (match mx b s 0 with | none => f | some p => p), nI 0) from rfl, key, Option.bind_some]
    cases hq : mx b s (K 0 1) with
    | none => rw [(mx_none _).mp hq f hfM] at f2; cases f2
    | some p => rfl
  · intro l hl
    show bX5_mostStrained_7 n (RX w) 0 (nI s) (nI (match mx b s l with | none => f | some p => p)) (nI l) hx = _
    have hm10 := hlt l (by omega)
    have e0 : ∀ p, p < 10 → bX5_mostStrained_7 n (RX w) 0 (nI s) (nI p) (nI l) hx = if s.testBit l = false then some (.inl (nI p, nI (l + 1))) else if b (6 + l) ≤ b (6 + p) then some (.inl (nI p, nI (l + 1))) else some (.inl (nI l, nI (l + 1))) := by
      intro p hp
      unfold bX5_mostStrained_7
      have g1 := hb l (by omega)
      have g2 := hb p hp
      rw [rx01, rx03, i2.2.1, if_neg (nI_ge hl (by omega)), z_has hs31 (by omega), Option.bind_some, if_neg (nI_m1 (by omega)), z_ck (by omega) (by omega), z_ck (by omega) (by omega), nI_clamp (by omega), nI_clamp (by omega), i4.2.2.2.2.2.2 l (by omega), i4.2.2.2.2.2.2 p hp, nI_1]
      simp only [lE, bI_0]
      by_cases c : b (6 + l) ≤ b (6 + p)
      · rw [if_pos (nI_le c (by omega)), if_pos c]
      · rw [if_neg (nI_ge (by omega) (by omega)), if_neg c]
    rw [e0 _ hm10]
    by_cases c : s.testBit l = true
    · rw [c, if_neg (by decide)]
      cases hq : mx b s l with
      | none =>
        have : l = f := by
          by_cases e : l < f
          · rw [f3 l (by omega) e] at c; cases c
          · by_cases e2 : f < l
            · rw [(mx_none _).mp hq f e2] at f2; cases f2
            · omega
        subst this
        simp only [mx, c, if_true, hq, Nat.le_refl]
      | some p =>
        simp only [mx, c, if_true, hq]
        by_cases c2 : b (6 + l) ≤ b (6 + p)
        · simp only [c2, if_true]
        · simp only [c2, if_false]
    · have c : s.testBit l = false := by simpa using c
      rw [if_pos c]
      simp only [mx, c]
      rfl
  · show bX5_mostStrained_7 n (RX w) 0 (nI s) (nI (match mx b s (K 0 1) with | none => f | some p => p)) (nI (K 0 1)) hx = _
    unfold bX5_mostStrained_7
    rw [rx01, i2.2.1, if_pos (nI_le (Nat.le_refl _) (by omega))]
theorem nI_m {a : Nat} (h : 1 ≤ a) : nI a + (-1) = nI (a - 1) := by
  have : nI a = nI (a - 1) + nI 1 := by rw [nI_add]; congr 1; omega
  rw [this, show nI 1 = (1 : Int32) from rfl, Int32.add_assoc]
  have e : (1 : Int32) + (-1) = 0 := by decide
  rw [e, Int32.add_zero]
theorem z_bestM {g i : Nat} {y x : Int32} (hI : Inv w K b hx hm) (hg : g < 2 ^ 31) (hi : i < 2 ^ 31) (hn : 20 ≤ n) : lX6_share_49 n RM 0 y x (nI g) (nI i) (-1) 0 hm = (if oI (mx b (wo (b 0) g) (K 0 1)) = -1 then some (.inl (x, nI g, nI i + 1)) else some (.inl (x + (-1), nI g ||| 1 <<< (oI (mx b (wo (b 0) g) (K 0 1)) &&& 31), nI i + 1))) := by
  obtain ⟨i1, i2, i3, i4, i5, i6, -⟩ := hI
  have hM10 := i1.2.1
  have hd31 := p31 i6.1 (show K 0 1 ≤ 31 by omega)
  have hb := fun l (hl : l < 10) => (i6.2.2.2.2.2 l hl).1
  unfold lX6_share_49
  have key := it_val (b := fun (s : Int32 × Int32) => bX6_share_49 n RM 0 y x (nI g) (nI i) s.1 s.2 hm) (fun l => (oI (mx b (wo (b 0) g) l), nI l)) (oI (mx b (wo (b 0) g) (K 0 1))) (K 0 1) (n := n) (by omega) ?_ ?_
  · rw [show (((-1 : Int32), (0 : Int32)) : Int32 × Int32) = (oI (mx b (wo (b 0) g) 0), nI 0) from rfl, key]
    rfl
  · intro l hl
    show bX6_share_49 n RM 0 y x (nI g) (nI i) (oI (mx b (wo (b 0) g) l)) (nI l) hm = _
    have e0 : bX6_share_49 n RM 0 y x (nI g) (nI i) (oI (mx b (wo (b 0) g) l)) (nI l) hm = jX6_share_87 n RM 0 y x (nI g) (nI i) (oI (mx b (wo (b 0) g) l)) (nI l) (bI ((wo (b 0) g).testBit l)) hm := by
      unfold bX6_share_49
      rw [i3.2.1, if_neg (nI_ge hl (by omega)), ck_0, cl_0, rm22, i5 0 (by omega), z_hasM hd31 (by omega), z_hasM hg (by omega), Option.bind_some, Option.bind_some, wo_tb]
      cases (b 0).testBit l <;> cases g.testBit l <;> rfl
    rw [e0]
    unfold jX6_share_87
    rw [nI_1, n6, rm22]
    simp only [lE]
    cases c : (wo (b 0) g).testBit l with
    | false =>
      rw [if_pos (by decide)]
      simp only [mx, c]
      rfl
    | true =>
      rw [if_neg (by decide)]
      cases hq : mx b (wo (b 0) g) l with
      | none =>
        rw [if_pos (show oI none = -1 from rfl)]
        simp only [mx, c, if_true, hq, oI]
      | some p =>
        have p1 := (mx_some _ _ hq).1
        have g1 := hb l (by omega)
        have g2 := hb p (by omega)
        rw [show oI (some p) = nI p from rfl, if_neg (nI_m1 (by omega)), n6, z_ck (by omega) (by omega), z_ck (by omega) (by omega), nI_clamp (by omega), nI_clamp (by omega), i5 (6 + l) (by omega), i5 (6 + p) (by omega)]
        simp only [mx, c, if_true, hq]
        by_cases c2 : b (6 + l) ≤ b (6 + p)
        · rw [if_pos (nI_le c2 (by omega)), if_pos c2]; rfl
        · rw [if_neg (nI_ge (by omega) (by omega)), if_neg c2]; rfl
  · show bX6_share_49 n RM 0 y x (nI g) (nI i) (oI (mx b (wo (b 0) g) (K 0 1))) (nI (K 0 1)) hm = _
    unfold bX6_share_49
    rw [i3.2.1, if_pos (nI_le (Nat.le_refl _) (by omega))]
theorem sim_share (hI : IV w hx hm) (x y : Int32) (hn : 20 ≤ n) : Sim0 (fX5_share n (RX w) 0 x y hx) (fX6_share n RM 0 x y hm) := by
  obtain ⟨K, b, hI⟩ := hI
  have hI0 := hI
  obtain ⟨i1, i2, i3, i4, i5, i6, -⟩ := hI
  have hM10 := i1.2.1
  have hd31 := p31 i6.1 (show K 0 1 ≤ 31 by omega)
  have hb := fun l (hl : l < 10) => (i6.2.2.2.2.2 l hl).1
  unfold fX5_share fX6_share
  rw [z_within, z_in, z_within, z_in, Option.bind_some, Option.bind_some, Option.bind_some, Option.bind_some]
  rcases z_win x 0 99 (by omega) (by omega) with ⟨k, k1, k2, rfl, k4⟩ | k4
  · rw [show decide ((0 : Int32) ≤ nI k ∧ nI k ≤ 99) = true from k4]
    rcases z_win y 0 1 (by omega) (by omega) with ⟨j, j1, j2, rfl, j4⟩ | j4
    · rw [show decide ((0 : Int32) ≤ nI j ∧ nI j ≤ 1) = true from j4]
      simp only [bI, if_true, n10, if_false]
      have hok := shN_ok (k := k) hM10 i6.1
      have hend : ∀ i, shs b (K 0 1) (shN b (K 0 1) k i) = shN b (K 0 1) k i → shN b (K 0 1) k i = shN b (K 0 1) k (K 0 1) := fun i h => by
        by_cases c : i ≤ K 0 1
        · have := shN_fix h (K 0 1 - i)
          rw [show i + (K 0 1 - i) = K 0 1 by omega] at this
          exact this.symm
        · have := shN_fix (shN_end (k := k) hM10 i6.1) (i - K 0 1)
          rw [show K 0 1 + (i - K 0 1) = i by omega] at this
          exact this
      have hgd : ∀ i, (shN b (K 0 1) k i).1 = b 0 ↔ mx b (wo (b 0) (shN b (K 0 1) k i).1) (K 0 1) = none := fun i => by
        rw [mx_none]
        constructor
        · intro h j hj
          rw [h, wo_tb]
          cases (b 0).testBit j <;> rfl
        · intro h
          apply Nat.eq_of_testBit_eq
          intro j
          by_cases c : j < K 0 1
          · have h1 := h j c
            have h2 := (hok i).2.2.1 j
            rw [wo_tb] at h1
            cases hq : (shN b (K 0 1) k i).1.testBit j with
            | true => rw [h2 hq]
            | false => rw [hq] at h1; simpa using h1
          · rw [z_tbl (hok i).1 (by omega), z_tbl i6.1 (by omega)]
      unfold lX5_share_30 lX6_share_30
      obtain ⟨z, a1, a2⟩ := it_from (b := fun (s : Int32 × Int32 × Int32) => bX5_share_30 n (RX w) 0 (nI j) s.1 s.2.1 s.2.2 hx) (fun i s => s = (nI (shN b (K 0 1) k i).1, nI (shN b (K 0 1) k i).2, nI i)) (fun z => z = (nI (shN b (K 0 1) k (K 0 1)).1, nI (shN b (K 0 1) k (K 0 1)).2)) 10 (n := n) (x := (0, nI k, 0)) (by omega) rfl (by
        rintro i s hi rfl
        obtain ⟨o1, o2, o3, -⟩ := hok i
        show (∃ z, bX5_share_30 n (RX w) 0 (nI j) (nI (shN b (K 0 1) k i).1) (nI (shN b (K 0 1) k i).2) (nI i) hx = _ ∧ _) ∨ (_ ∧ ∃ y, bX5_share_30 n (RX w) 0 (nI j) (nI (shN b (K 0 1) k i).1) (nI (shN b (K 0 1) k i).2) (nI i) hx = _ ∧ _)
        unfold bX5_share_30
        by_cases c10 : i < 10
        · rw [if_neg (show ¬ (10 : Int32) ≤ nI i from nI_ge (b := 10) c10 (by omega))]
          by_cases c0 : (shN b (K 0 1) k i).2 = 0
          · left
            rw [if_pos (show nI (shN b (K 0 1) k i).2 ≤ 0 by rw [c0]; decide)]
            refine ⟨_, rfl, ?_⟩
            rw [hend i (by unfold shs; rw [if_pos c0])]
          · rw [if_neg (nI_nle (by omega) (by omega)), rx03, i4.1]
            cases hq : mx b (wo (b 0) (shN b (K 0 1) k i).1) (K 0 1) with
            | none =>
              left
              rw [if_pos (by rw [(hgd i).mpr hq])]
              refine ⟨_, rfl, ?_⟩
              rw [hend i (by unfold shs; rw [if_neg c0, hq])]
            | some p =>
              right
              obtain ⟨p1, p2⟩ := mx_some _ _ hq
              have hne : ¬ (shN b (K 0 1) k i).1 = b 0 := fun h => by rw [(hgd i).mp h] at hq; cases hq
              rw [if_neg (by rw [nI_eq (p31 o1 (by omega)) hd31]; exact hne), z_wo]
              cases hf : ff (fun i_1 => (wo (b 0) (shN b (K 0 1) k i).1).testBit i_1) 10 0 with
              | none => rw [ff_none 10 0 hf p (by omega) (by omega)] at p2; cases p2
              | some f =>
                rw [z_most hI0 (wo_lt i6.1) hf hn, hq, Option.bind_some]
                simp only [lE]
                rw [show oI (some p) = nI p from rfl, z_shl (by omega), z_or, nI_m (by omega), nI_1]
                refine ⟨c10, _, rfl, ?_⟩
                have : shN b (K 0 1) k (i + 1) = ((shN b (K 0 1) k i).1 ||| 2 ^ p, (shN b (K 0 1) k i).2 - 1) := by
                  show shs b (K 0 1) (shN b (K 0 1) k i) = _
                  unfold shs; rw [if_neg c0, hq]
                rw [this]
        · left
          have : i = 10 := by omega
          subst this
          rw [if_pos (show (10 : Int32) ≤ nI 10 by decide)]
          refine ⟨_, rfl, ?_⟩
          have e := shN_fix (shN_end (k := k) hM10 i6.1) (10 - K 0 1)
          rw [show K 0 1 + (10 - K 0 1) = 10 by omega] at e
          rw [e])
      obtain ⟨z', d1, d2⟩ := it_from (b := fun (s : Int32 × Int32 × Int32) => bX6_share_30 n RM 0 (nI j) s.1 s.2.1 s.2.2 hm) (fun i s => s = (nI (shN b (K 0 1) k i).2, nI (shN b (K 0 1) k i).1, nI i)) (fun z => z = (nI (shN b (K 0 1) k (K 0 1)).2, nI (shN b (K 0 1) k (K 0 1)).1)) (K 0 1) (n := n) (x := (nI k, 0, 0)) (by omega) rfl (by
        rintro i s hi rfl
        obtain ⟨o1, o2, o3, -⟩ := hok i
        show (∃ z, bX6_share_30 n RM 0 (nI j) (nI (shN b (K 0 1) k i).2) (nI (shN b (K 0 1) k i).1) (nI i) hm = _ ∧ _) ∨ (_ ∧ ∃ y, bX6_share_30 n RM 0 (nI j) (nI (shN b (K 0 1) k i).2) (nI (shN b (K 0 1) k i).1) (nI i) hm = _ ∧ _)
        unfold bX6_share_30
        rw [i3.2.1]
        by_cases ce : i < K 0 1
        · rw [if_neg (nI_ge ce (by omega))]
          by_cases c0 : (shN b (K 0 1) k i).2 = 0
          · left
            rw [if_pos (show nI (shN b (K 0 1) k i).2 ≤ 0 by rw [c0]; decide)]
            refine ⟨_, rfl, ?_⟩
            rw [hend i (by unfold shs; rw [if_pos c0])]
          · right
            rw [if_neg (nI_nle (by omega) (by omega)), z_bestM hI0 (p31 o1 (by omega)) (by omega) hn]
            refine ⟨ce, ?_⟩
            have es : shN b (K 0 1) k (i + 1) = shs b (K 0 1) (shN b (K 0 1) k i) := rfl
            unfold shs at es
            rw [if_neg c0] at es
            cases hq : mx b (wo (b 0) (shN b (K 0 1) k i).1) (K 0 1) with
            | none =>
              rw [hq] at es
              rw [es, if_pos (show oI none = -1 from rfl), nI_1]
              exact ⟨_, rfl, rfl⟩
            | some p =>
              rw [hq] at es
              obtain ⟨p1, p2⟩ := mx_some _ _ hq
              rw [es, show oI (some p) = nI p from rfl, if_neg (nI_m1 (by omega)), z_shl (by omega), z_or, nI_m (by omega), nI_1]
              exact ⟨_, rfl, rfl⟩
        · left
          rw [if_pos (nI_le (by omega) (by omega))]
          refine ⟨_, rfl, ?_⟩
          rw [show i = K 0 1 by omega])
      rw [a1, d1, Option.bind_some, Option.bind_some, a2, d2]
      unfold jX5_share_82 jX6_share_162
      exact Sim0.ite (Sim0.rf _) (Sim0.rf _)
    · rw [show decide ((0 : Int32) ≤ y ∧ y ≤ 1) = false from j4]
      exact Sim0.rf _
  · rw [show decide ((0 : Int32) ≤ x ∧ x ≤ 99) = false from k4]
    exact Sim0.rf _
end SH
