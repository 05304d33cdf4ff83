/-! ===== the strongest way ===== -/
def spr (K : Kd) (b : Nat → Nat) (l : Nat) : Nat := K 4 l - b (6 + l)
/-- done up and at least v to spare: of the first l links -/
def wsN (K : Kd) (b : Nat → Nat) (v : Nat) : Nat → Nat
  | 0 => 0
  | l + 1 => if (b 0).testBit l = true ∧ v ≤ spr K b l then wsN K b v l ||| 2 ^ l else wsN K b v l
theorem wsN_tb {K : Kd} {b : Nat → Nat} {v : Nat} : ∀ l i, (wsN K b v l).testBit i = decide (i < l ∧ (b 0).testBit i = true ∧ v ≤ spr K b i) := by
  intro l
  induction l with
  | zero => intro i; simp [wsN]
  | succ l ih =>
    intro i
    unfold wsN
    by_cases c : (b 0).testBit l = true ∧ v ≤ spr K b l
    · rw [if_pos c, Nat.testBit_or, ih, Nat.testBit_two_pow]
      by_cases e : l = i
      · subst e; simp [c]
      · by_cases e2 : i < l
        · simp [e, e2, show i < l + 1 by omega]
        · simp [e, e2, show ¬ i < l + 1 by omega]
    · rw [if_neg c, ih]
      by_cases e : l = i
      · subst e
        rw [decide_eq_false (fun q => by omega), decide_eq_false (fun q => c q.2)]
      · by_cases e2 : i < l
        · simp [e2, show i < l + 1 by omega]
        · simp [e2, show ¬ i < l + 1 by omega]
theorem wsN_lt {K : Kd} {b : Nat → Nat} {v : Nat} (l : Nat) : wsN K b v l < 2 ^ l := z_lt2 (fun i hi => by rw [wsN_tb]; exact decide_eq_false (fun q => by omega))
def wdH (K : Kd) (b : Nat → Nat) (a c v : Nat) : Bool := (rc K (wsN K b v (K 0 1)) a).testBit c
def nu (o : Option Nat) (s : Nat) : Bool := match o with
  | none => true
  | some t => decide (t < s)
def wd (K : Kd) (b : Nat → Nat) (a c : Nat) : Nat → Option Nat
  | 0 => none
  | l + 1 => if (b 0).testBit l = true ∧ nu (wd K b a c l) (spr K b l) = true ∧ wdH K b a c (spr K b l) = true then some (spr K b l) else wd K b a c l
theorem wd_ok {K : Kd} {b : Nat → Nat} {a c : Nat} : ∀ l, (wd K b a c l = none → ∀ j, j < l → (b 0).testBit j = true → wdH K b a c (spr K b j) = false) ∧ (∀ u, wd K b a c l = some u → (∃ j, j < l ∧ (b 0).testBit j = true ∧ spr K b j = u) ∧ wdH K b a c u = true ∧ ∀ j, j < l → (b 0).testBit j = true → wdH K b a c (spr K b j) = true → spr K b j ≤ u) := by
  intro l
  induction l with
  | zero => exact ⟨fun _ j hj => by omega, fun u h => (by cases h)⟩
  | succ l ih =>
    obtain ⟨h1, h2⟩ := ih
    unfold wd
    by_cases q : (b 0).testBit l = true ∧ nu (wd K b a c l) (spr K b l) = true ∧ wdH K b a c (spr K b l) = true
    · rw [if_pos q]
      refine ⟨fun h => (by cases h), fun u hu => ?_⟩
      have hu := Option.some.inj hu
      subst hu
      refine ⟨⟨l, by omega, q.1, rfl⟩, q.2.2, fun j hj hd hH => ?_⟩
      by_cases e : j = l
      · subst e; exact Nat.le_refl _
      · cases hq : wd K b a c l with
        | none => rw [h1 hq j (by omega) hd] at hH; cases hH
        | some t =>
          have := (h2 t hq).2.2 j (by omega) hd hH
          have q2 := q.2.1
          rw [hq] at q2
          have q2 : t < spr K b l := of_decide_eq_true q2
          omega
    · rw [if_neg q]
      refine ⟨fun h j hj hd => ?_, fun u hu => ?_⟩
      · by_cases e : j = l
        · subst e
          cases hH : wdH K b a c (spr K b j) with
          | false => rfl
          | true => exact absurd ⟨hd, by rw [h]; rfl, hH⟩ q
        · exact h1 h j (by omega) hd
      · obtain ⟨⟨j0, g1, g2, g3⟩, g4, g5⟩ := h2 u hu
        refine ⟨⟨j0, by omega, g2, g3⟩, g4, fun j hj hd hH => ?_⟩
        by_cases e : j = l
        · subst e
          by_cases e2 : u < spr K b j
          · exact absurd ⟨hd, by rw [hu]; exact decide_eq_true e2, hH⟩ q
          · omega
        · exact g5 j (by omega) hd hH
theorem min_of {W : Nat → Prop} {f : Nat → Nat} : ∀ L, (∃ l, l < L ∧ W l) → ∃ l, l < L ∧ W l ∧ ∀ j, j < L → W j → f l ≤ f j := by
  intro L
  induction L with
  | zero => rintro ⟨l, hl, -⟩; omega
  | succ L ih =>
    rintro ⟨l, hl, hw⟩
    by_cases c : ∃ l, l < L ∧ W l
    · obtain ⟨m, m1, m2, m3⟩ := ih c
      by_cases e : W L ∧ f L < f m
      · refine ⟨L, by omega, e.1, fun j hj hW => ?_⟩
        by_cases e2 : j = L
        · subst e2; exact Nat.le_refl _
        · have := m3 j (by omega) hW; omega
      · refine ⟨m, by omega, m2, fun j hj hW => ?_⟩
        by_cases e2 : j = L
        · subst e2
          by_cases e3 : f j < f m
          · exact absurd ⟨hW, e3⟩ e
          · omega
        · exact m3 j (by omega) hW
    · have : l = L := by
        by_cases e : l = L
        · exact e
        · exact absurd ⟨l, by omega, hw⟩ c
      subst this
      refine ⟨l, hl, hw, fun j hj hW => ?_⟩
      by_cases e2 : j = l
      · subst e2; exact Nat.le_refl _
      · exact absurd ⟨j, by omega, hW⟩ c
theorem wid_0 {K : Kd} {f : Nat} : ∀ l, wid K 0 f l = f := by
  intro l
  induction l with
  | zero => rfl
  | succ l ih => unfold wid; rw [Nat.zero_testBit, Bool.false_and, if_neg (by decide), ih]
theorem rc_0 {K : Kd} {a c : Nat} (h : a ≠ c) : (rc K 0 a).testBit c = false := by
  have : ∀ i, rcN K 0 (2 ^ a) i = 2 ^ a := by
    intro i
    induction i with
    | zero => rfl
    | succ i ih => show wid K 0 (rcN K 0 (2 ^ a) i) _ = _; rw [ih, wid_0]
  unfold rc
  rw [this, Nat.testBit_two_pow]
  exact decide_eq_false h
/-- what hangs at v hangs at the spare of a link that is v or more -/
theorem wdH_at {K : Kd} {b : Nat → Nat} {a c v : Nat} (hac : a ≠ c) (h : wdH K b a c v = true) : ∃ l, l < K 0 1 ∧ (b 0).testBit l = true ∧ v ≤ spr K b l ∧ wdH K b a c (spr K b l) = true := by
  by_cases q : ∃ l, l < K 0 1 ∧ ((b 0).testBit l = true ∧ v ≤ spr K b l)
  · obtain ⟨l, l1, l2, l3⟩ := min_of (W := fun l => (b 0).testBit l = true ∧ v ≤ spr K b l) (f := spr K b) (K 0 1) q
    refine ⟨l, l1, l2.1, l2.2, ?_⟩
    have : wsN K b (spr K b l) (K 0 1) = wsN K b v (K 0 1) := by
      apply Nat.eq_of_testBit_eq
      intro i
      rw [wsN_tb, wsN_tb]
      apply decide_eq_decide.mpr
      constructor
      · intro ⟨g1, g2, g3⟩; exact ⟨g1, g2, by omega⟩
      · intro ⟨g1, g2, g3⟩; exact ⟨g1, g2, l3 i g1 ⟨g2, g3⟩⟩
    unfold wdH at *
    rw [this]; exact h
  · have : wsN K b v (K 0 1) = 0 := by
      apply Nat.eq_of_testBit_eq
      intro i
      rw [wsN_tb, Nat.zero_testBit]
      exact decide_eq_false (fun z => q ⟨i, z.1, z.2⟩)
    unfold wdH at h
    rw [this, rc_0 hac] at h
    cases h
theorem wd_ff {K : Kd} {b : Nat → Nat} {a c : Nat} (hac : a ≠ c) (hs : ∀ l, l < K 0 1 → (b 0).testBit l = true → 1 ≤ spr K b l ∧ spr K b l ≤ 99) : wd K b a c (K 0 1) = match ff (fun i => wdH K b a c (99 - i)) 99 0 with
    | some i => some (99 - i)
    | none => none := by
  obtain ⟨h1, h2⟩ := wd_ok (K := K) (b := b) (a := a) (c := c) (K 0 1)
  cases hf : ff (fun i => wdH K b a c (99 - i)) 99 0 with
  | none =>
    cases hq : wd K b a c (K 0 1) with
    | none => rfl
    | some u =>
      obtain ⟨⟨j, j1, j2, j3⟩, g1, -⟩ := h2 u hq
      have := hs j j1 j2
      have := ff_none _ _ hf (99 - u) (by omega) (by omega)
      rw [show 99 - (99 - u) = u by omega, g1] at this
      cases this
  | some i =>
    obtain ⟨-, i1, i2, i3⟩ := ff_some _ _ _ hf
    obtain ⟨l, l1, l2, l3, l4⟩ := wdH_at hac i2
    have hl := hs l l1 l2
    cases hq : wd K b a c (K 0 1) with
    | none => rw [h1 hq l l1 l2] at l4; cases l4
    | some u =>
      obtain ⟨⟨j, j1, j2, j3⟩, g1, g2⟩ := h2 u hq
      have hj := hs j j1 j2
      have := g2 l l1 l2 l4
      by_cases e : u = 99 - i
      · rw [e]
      · have := i3 (99 - u) (by omega) (by omega)
        rw [show 99 - (99 - u) = u by omega, g1] at this
        cases this
section WI
variable {w : Bool} {K : Kd} {b : Nat → Nat} {hx hm : Hp} {n : Nat}
theorem z_spr (hI : Inv w K b hx hm) {l : Nat} (hl : l < K 0 1) (hd : (b 0).testBit l = true) : 1 ≤ spr K b l ∧ spr K b l ≤ 99 ∧ nI (K 4 l) - nI (b (6 + l)) = nI (spr K b l) := by
  have hM10 := hI.1.2.1
  have h1 := (hI.2.2.2.2.2.1.2.2.2.2.2 l (by omega)).2 hl hd
  have h2 := (hI.1.2.2.2.1 l hl).2.2.2.2.2.1
  unfold spr
  exact ⟨by omega, by omega, pk_sub (by omega)⟩
theorem z_withSpare {v : Nat} (hI : Inv w K b hx hm) (hv : v ≤ 99) (hn : 20 ≤ n) : fX5_linksWithSpare n (RX w) 0 (nI v) hx = some (nI (wsN K b v (K 0 1))) := by
  have hI0 := hI
  obtain ⟨i1, i2, i3, i4, i5, i6, -⟩ := hI
  have hM10 := i1.2.1
  have hd31 := p31 i6.1 (show K 0 1 ≤ 31 by omega)
  unfold fX5_linksWithSpare lX5_linksWithSpare_4
  have key := it_val (b := fun (s : Int32 × Int32) => bX5_linksWithSpare_4 n (RX w) 0 (nI v) s.1 s.2 hx) (fun i => (nI (wsN K b v i), nI i)) (nI (wsN K b v (K 0 1))) (K 0 1) (n := n) (by omega) ?_ ?_
  · rw [show (((0 : Int32), (0 : Int32)) : Int32 × Int32) = (nI (wsN K b v 0), nI 0) from rfl, key]; rfl
  · intro l hl
    show bX5_linksWithSpare_4 n (RX w) 0 (nI v) (nI (wsN K b v l)) (nI l) hx = _
    obtain ⟨-, -, -, -, es, -⟩ := i2.2.2.2.1 l hl
    unfold bX5_linksWithSpare_4
    rw [rx01, rx03, i2.2.1, if_neg (nI_ge hl (by omega)), i4.1, z_has hd31 (by omega), Option.bind_some, z_spare (by omega) es (i4.2.2.2.2.2.2 l (by omega)), Option.bind_some, z_shl (by omega), z_or, nI_1]
    simp only [lE, wsN]
    cases hd : (b 0).testBit l with
    | false => simp [bI]
    | true =>
      obtain ⟨s1, s2, s3⟩ := z_spr hI0 hl hd
      rw [if_neg (by decide), s3]
      by_cases c : v ≤ spr K b l
      · rw [if_neg (nI_nlt c (by omega)), if_pos ⟨rfl, c⟩]
      · rw [if_pos (nI_lt (by omega) (by omega)), if_neg (fun q => c q.2)]
  · show bX5_linksWithSpare_4 n (RX w) 0 (nI v) (nI (wsN K b v (K 0 1))) (nI (K 0 1)) hx = _
    unfold bX5_linksWithSpare_4
    rw [rx01, i2.2.1, if_pos (nI_le (Nat.le_refl _) (by omega))]
theorem z_withM {v : Nat} {x y : Int32} (hI : Inv w K b hx hm) (hv : v ≤ 99) (hn : 20 ≤ n) : it (fun (s : Int32 × Int32) => bX6_widest_25 n RM 0 x y (nI v) s.1 s.2 hm) n (0, 0) = some (nI (wsN K b v (K 0 1))) := by
  have hI0 := hI
  obtain ⟨i1, i2, i3, i4, i5, i6, -⟩ := hI
  have hM10 := i1.2.1
  have hd31 := p31 i6.1 (show K 0 1 ≤ 31 by omega)
  have key := it_val (b := fun (s : Int32 × Int32) => bX6_widest_25 n RM 0 x y (nI v) s.1 s.2 hm) (fun i => (nI (wsN K b v i), nI i)) (nI (wsN K b v (K 0 1))) (K 0 1) (n := n) (by omega) ?_ ?_
  · exact key
  · intro l hl
    show bX6_widest_25 n RM 0 x y (nI v) (nI (wsN K b v l)) (nI l) hm = _
    obtain ⟨-, -, -, em, -⟩ := i3.2.2.2.1 l hl
    unfold bX6_widest_25
    rw [i3.2.1, if_neg (nI_ge hl (by omega)), ck_0, cl_0, rm22, i5 0 (by omega), z_hasM hd31 (by omega), Option.bind_some, n6, z_ck (by omega) (by omega), z_ck (by omega) (by omega), nI_clamp (by omega), nI_clamp (by omega), em, i5 (6 + l) (by omega), z_shl (by omega), z_or, nI_1]
    simp only [lE, wsN, nI_or0]
    cases hd : (b 0).testBit l with
    | false => simp [bI]
    | true =>
      obtain ⟨s1, s2, s3⟩ := z_spr hI0 hl hd
      rw [if_neg (by decide), s3]
      by_cases c : v ≤ spr K b l
      · rw [if_neg (nI_nlt c (by omega)), if_pos ⟨rfl, c⟩]
      · rw [if_pos (nI_lt (by omega) (by omega)), if_neg (fun q => c q.2)]
  · show bX6_widest_25 n RM 0 x y (nI v) (nI (wsN K b v (K 0 1))) (nI (K 0 1)) hm = _
    unfold bX6_widest_25
    rw [i3.2.1, if_pos (nI_le (Nat.le_refl _) (by omega))]
theorem sim_widest (hI : IV w hx hm) (x y : Int32) (hn : 300 ≤ n) : Sim0 (fX5_widest n (RX w) 0 x y hx) (fX6_widest n RM 0 x y hm) := by
  obtain ⟨K, b, hI⟩ := hI
  have hI0 := hI
  obtain ⟨i1, i2, i3, i4, i5, i6, -⟩ := hI
  have hN := i1.1
  have hM10 := i1.2.1
  have hd31 := p31 i6.1 (show K 0 1 ≤ 31 by omega)
  unfold fX5_widest fX6_widest
  rcases z_two (n := n) x y i2 i3 i1 with ⟨a, c, a1, c1, hac, rfl, rfl, t1, t2⟩ | ⟨t1, t2⟩
  · rw [t1, t2, Option.bind_some, Option.bind_some, if_neg n10, if_neg n10]
    unfold lX5_widest_17 lX6_widest_15
    have k1 := it_val (b := fun (s : Int32 × Int32) => bX5_widest_17 n (RX w) 0 (nI a) (nI c) s.1 s.2 hx) (fun l => (oI (wd K b a c l), nI l)) (oI (wd K b a c (K 0 1))) (K 0 1) (n := n) (by omega) ?_ ?_
    · have k2 := it_find (b := fun (s : Int32) => bX6_widest_15 n RM 0 (nI a) (nI c) s hm) (fun i => nI (99 - i)) (fun i => wdH K b a c (99 - i)) (fun i => .inl (nI (99 - i))) (.inr ()) 99 (n := n) (by omega) ?_ ?_ ?_
      · rw [show (((-1 : Int32), (0 : Int32)) : Int32 × Int32) = (oI (wd K b a c 0), nI 0) from rfl, k1, show (99 : Int32) = nI (99 - 0) from rfl, k2, wd_ff hac (fun l hl hd => ⟨(z_spr hI0 hl hd).1, (z_spr hI0 hl hd).2.1⟩)]
        cases ff (fun i => wdH K b a c (99 - i)) 99 0 <;> exact Sim0.rf _
      all_goals skip
      · intro i hi hp
        show bX6_widest_15 n RM 0 (nI a) (nI c) (nI (99 - i)) hm = _
        unfold bX6_widest_15 lX6_widest_25
        rw [if_neg (nI_nle (by omega) (by omega)), z_withM hI0 (by omega) (by omega), Option.bind_some, z_reached i3 i1 (p31 (wsN_lt _) (by omega)) a1 (by omega), Option.bind_some, z_hasM (p31 (rc_lt i1 a1) (by omega)) (by omega), Option.bind_some, show (rc K (wsN K b (99 - i) (K 0 1)) a).testBit c = false from hp, if_pos (by decide), nI_m (by omega)]
        simp only [lE]
        rw [show 99 - i - 1 = 99 - (i + 1) by omega]
      · intro i hi hp
        show bX6_widest_15 n RM 0 (nI a) (nI c) (nI (99 - i)) hm = _
        unfold bX6_widest_15 lX6_widest_25
        rw [if_neg (nI_nle (by omega) (by omega)), z_withM hI0 (by omega) (by omega), Option.bind_some, z_reached i3 i1 (p31 (wsN_lt _) (by omega)) a1 (by omega), Option.bind_some, z_hasM (p31 (rc_lt i1 a1) (by omega)) (by omega), Option.bind_some, show (rc K (wsN K b (99 - i) (K 0 1)) a).testBit c = true from hp, if_neg (by decide)]
      · show bX6_widest_15 n RM 0 (nI a) (nI c) (nI (99 - 99)) hm = _
        unfold bX6_widest_15
        rw [if_pos (show nI (99 - 99) ≤ 0 by decide)]
    · intro l hl
      show bX5_widest_17 n (RX w) 0 (nI a) (nI c) (oI (wd K b a c l)) (nI l) hx = _
      obtain ⟨-, -, -, -, es, -⟩ := i2.2.2.2.1 l hl
      have ew : wd K b a c (l + 1) = if (b 0).testBit l = true ∧ nu (wd K b a c l) (spr K b l) = true ∧ wdH K b a c (spr K b l) = true then some (spr K b l) else wd K b a c l := rfl
      unfold bX5_widest_17
      rw [rx01, rx03, i2.2.1, if_neg (nI_ge hl (by omega)), z_spare (by omega) es (i4.2.2.2.2.2.2 l (by omega)), Option.bind_some, i4.1, z_has hd31 (by omega), Option.bind_some, nI_1]
      simp only [lE]
      cases hd : (b 0).testBit l with
      | false =>
        rw [if_pos (by decide), ew, if_neg (fun q => by rw [hd] at q; cases q.1)]
      | true =>
        obtain ⟨s1, s2, s3⟩ := z_spr hI0 hl hd
        have hle : (nI (spr K b l) ≤ oI (wd K b a c l)) ↔ nu (wd K b a c l) (spr K b l) = false := by
          cases hq : wd K b a c l with
          | none =>
            constructor
            · intro h
              have : ¬ nI (spr K b l) ≤ (-1 : Int32) := by
                rw [Int32.le_iff_toInt_le, nI_toInt (by omega), show ((-1 : Int32)).toInt = -1 by decide +kernel]; omega
              exact absurd h this
            · intro h; cases h
          | some t =>
            obtain ⟨⟨j, j1, j2, j3⟩, -⟩ := (wd_ok l).2 t hq
            have := (z_spr hI0 (show j < K 0 1 by omega) j2).2.1
            show nI (spr K b l) ≤ nI t ↔ decide (t < spr K b l) = false
            by_cases e : t < spr K b l
            · rw [decide_eq_true e]
              exact ⟨fun h => absurd h (nI_ge e (by omega)), fun h => by cases h⟩
            · rw [decide_eq_false e]
              exact ⟨fun _ => rfl, fun _ => nI_le (by omega) (by omega)⟩
        rw [if_neg (by decide), s3]
        by_cases cl : nu (wd K b a c l) (spr K b l) = false
        · rw [if_pos (hle.mpr cl), ew, if_neg (fun q => by rw [cl] at q; cases q.2.1)]
        · rw [if_neg (fun q => cl (hle.mp q)), z_withSpare hI0 s2 (by omega), Option.bind_some, z_hang i2 i1 (p31 (wsN_lt _) (by omega)) a1 c1 (by omega), Option.bind_some]
          cases hH : (rc K (wsN K b (spr K b l) (K 0 1)) a).testBit c with
          | false =>
            rw [if_pos (by decide), ew, if_neg (fun q => by rw [show wdH K b a c (spr K b l) = false from hH] at q; cases q.2.2)]
          | true =>
            rw [if_neg (by decide), ew, if_pos ⟨hd, by simpa using cl, hH⟩]
            rfl
    · show bX5_widest_17 n (RX w) 0 (nI a) (nI c) (oI (wd K b a c (K 0 1))) (nI (K 0 1)) hx = _
      unfold bX5_widest_17
      rw [rx01, i2.2.1, if_pos (nI_le (Nat.le_refl _) (by omega))]
  · rw [t1, t2]
    exact Sim0.rf _
end WI
