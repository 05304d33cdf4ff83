/-! ===== which link was undone, which two to ask ===== -/
/-- what was heard as i is not so with the links s -/
def odd (K : Kd) (A B : Nat → Nat) (g s i : Nat) : Bool := (rc K s (A i)).testBit (B i) != g.testBit i
def fitB (K : Kd) (A B : Nat → Nat) (g u s : Nat) : Bool := (ff (odd K A B g s) u 0).isNone
section AS
variable {w : Bool} {K : Kd} {b : Nat → Nat} {hx hm : Hp} {n : Nat}
theorem z_hangs {a c l : Nat} (hI : Inv w K b hx hm) (ha : a < K 0 0) (hc : c < K 0 0) (hl : l < 31) (hn : 20 ≤ n) : fX6_hangs n RM 0 (nI a) (nI c) (nI l) hm = some (bI ((rc K (wo (b 0) (2 ^ l)) a).testBit c)) := by
  obtain ⟨i1, i2, i3, i4, i5, i6, -⟩ := hI
  have hN := i1.1
  have hM10 := i1.2.1
  unfold fX6_hangs
  rw [ck_0, cl_0, rm22, i5 0 (by omega), z_shl hl, z_wo, z_reached i3 i1 (p31 (wo_lt i6.1) (by omega)) ha hn, Option.bind_some, z_hasM (p31 (rc_lt i1 ha) (by omega)) (by omega), Option.bind_some, z_cb]
/-- the mask of those that fit -/
theorem z_traitor (hI : Inv w K b hx hm) (hn : 20 ≤ n) : ∃ m, m < 2048 ∧ fX5_traitor n (RX w) 0 hx = some (nI m) ∧ fX6_suspects n RM 0 hm = some (nI m) := by
  have hI0 := hI
  obtain ⟨i1, i2, i3, i4, i5, i6, i7, i8, i9, ⟨u, v, g, t, A, B, E, u6, v20, u1, u2, v1, v2, g1, g2, t1, t2, hA, hE⟩, i11⟩ := hI
  have hN := i1.1
  have hM10 := i1.2.1
  have hd31 := p31 i6.1 (show K 0 1 ≤ 31 by omega)
  have hg31 : g < 2 ^ 31 := p31 g2 (by omega)
  have hfit : ∀ l, l < 11 → fX3_fits n (RX w) 29 (cc w) (nI (wo (b 0) (2 ^ l))) hx = some (bI (fitB K A B g u (wo (b 0) (2 ^ l)))) := by
    intro l hl
    have hw31 : wo (b 0) (2 ^ l) < 2 ^ 31 := p31 (wo_lt i6.1) (show K 0 1 ≤ 31 by omega)
    unfold fX3_fits lX3_fits_2
    have e0 : ∀ i, i < u → bX3_fits_2 n (RX w) 29 (cc w) (nI (wo (b 0) (2 ^ l))) (nI i) hx = if odd K A B g (wo (b 0) (2 ^ l)) i = true then some (.inr (.inl ())) else some (.inl (nI (i + 1))) := by
      intro i hi
      obtain ⟨a1, a2, a3, a4, a5, a6, a7⟩ := hA i hi
      unfold bX3_fits_2
      rw [rx290, rx291, u1, if_neg (nI_ge hi (by omega)), z_ck (by omega) (by omega), z_ck (by omega) (by omega), nI_clamp (by omega), a1, a3, z_hang i2 i1 hw31 a5 a6 hn, Option.bind_some, g1, z_has hg31 (by omega), Option.bind_some, nI_1]
      unfold odd
      simp only [lE, bI_inj]
      by_cases c : (rc K (wo (b 0) (2 ^ l)) (A i)).testBit (B i) = g.testBit i
      · rw [if_pos c, c]; simp
      · rw [if_neg c, if_pos (by simpa using c)]
    have k1 := it_find (b := fun (s : Int32) => bX3_fits_2 n (RX w) 29 (cc w) (nI (wo (b 0) (2 ^ l))) s hx) (fun i => nI i) (odd K A B g (wo (b 0) (2 ^ l))) (fun i => .inl ()) (.inr ()) u (n := n) (by omega) (fun i hi hp => by rw [e0 i hi, if_neg (by rw [hp]; decide)]) (fun i hi hp => by rw [e0 i hi, if_pos hp]) (by
      show bX3_fits_2 n (RX w) 29 (cc w) (nI (wo (b 0) (2 ^ l))) (nI u) hx = _
      unfold bX3_fits_2
      rw [u1, if_pos (nI_le (Nat.le_refl _) (by omega))])
    rw [show (0 : Int32) = nI 0 from rfl, k1]
    unfold fitB
    cases ff (odd K A B g (wo (b 0) (2 ^ l))) u 0 <;> rfl
  have hsus : ∀ l m q, l < 11 → lX6_suspects_38 n RM 0 m (nI l) (bI q) 0 hm = jX6_suspects_92 n RM 0 m (nI l) (bI (q && fitB K A B g u (wo (b 0) (2 ^ l)))) hm := by
    intro l m q hl
    unfold lX6_suspects_38
    obtain ⟨z, k1, k2⟩ := it_from (b := fun (s : Int32 × Int32) => bX6_suspects_38 n RM 0 m (nI l) s.1 s.2 hm) (fun i s => (q = true ∧ s = (1, nI i) ∧ ∀ j, j < i → odd K A B g (wo (b 0) (2 ^ l)) j = false) ∨ (s = (0, nI i) ∧ (q = false ∨ ∃ j, j < u ∧ odd K A B g (wo (b 0) (2 ^ l)) j = true))) (fun z => z = bI (q && fitB K A B g u (wo (b 0) (2 ^ l)))) u (n := n) (x := (bI q, 0)) (by omega) (by
      cases q with
      | true => exact Or.inl ⟨rfl, rfl, fun j hj => by omega⟩
      | false => exact Or.inr ⟨rfl, Or.inl rfl⟩) (by
      intro i s hi hs
      have hend : (q = false ∨ ∃ j, j < u ∧ odd K A B g (wo (b 0) (2 ^ l)) j = true) → (0 : Int32) = bI (q && fitB K A B g u (wo (b 0) (2 ^ l))) := by
        intro h
        rcases h with h | ⟨j, j1, j2⟩
        · rw [h]; rfl
        · have : fitB K A B g u (wo (b 0) (2 ^ l)) = false := by
            unfold fitB
            cases hf : ff (odd K A B g (wo (b 0) (2 ^ l))) u 0 with
            | none => rw [ff_none u 0 hf j (by omega) (by omega)] at j2; cases j2
            | some _ => rfl
          rw [this, Bool.and_false]; rfl
      rcases hs with ⟨rfl, rfl, hs⟩ | ⟨rfl, hs⟩
      · show (∃ z, bX6_suspects_38 n RM 0 m (nI l) 1 (nI i) hm = _ ∧ _) ∨ (_ ∧ ∃ y, bX6_suspects_38 n RM 0 m (nI l) 1 (nI i) hm = _ ∧ _)
        unfold bX6_suspects_38
        rw [u2]
        by_cases ce : i < u
        · right
          obtain ⟨a1, a2, a3, a4, a5, a6, a7⟩ := hA i ce
          rw [if_neg (nI_ge ce (by omega)), if_neg n10, z_ck (by omega) (by omega), z_ck (by omega) (by omega), nI_clamp (by omega), show RM 0 29 = 15 from rfl, show RM 0 30 = 16 from rfl, show RM 0 31 = 17 from rfl, a2, a4, z_hangs hI0 a5 a6 (by omega) hn, Option.bind_some, z_ck (by omega) (by omega), a7, nI_1]
          simp only [lE, bI_inj]
          refine ⟨ce, ?_⟩
          by_cases c : (rc K (wo (b 0) (2 ^ l)) (A i)).testBit (B i) = g.testBit i
          · rw [if_pos c]
            refine ⟨_, rfl, Or.inl ⟨trivial, rfl, fun j hj => ?_⟩⟩
            by_cases e : j = i
            · subst e; unfold odd; rw [c]; simp
            · exact hs j (by omega)
          · rw [if_neg c]
            exact ⟨_, rfl, Or.inr ⟨rfl, Or.inr ⟨i, ce, by unfold odd; simpa using c⟩⟩⟩
        · left
          rw [if_pos (nI_le (by omega) (by omega))]
          refine ⟨_, rfl, ?_⟩
          unfold fitB
          rw [ff_no (fun j hj => hs j (by omega))]
          rfl
      · left
        show ∃ z, bX6_suspects_38 n RM 0 m (nI l) 0 (nI i) hm = _ ∧ _
        unfold bX6_suspects_38
        rw [if_pos (rfl : (0 : Int32) = 0)]
        refine ⟨0, ?_, hend hs⟩
        split <;> rfl)
    rw [k1, Option.bind_some, k2]
  unfold fX5_traitor lX5_traitor_4 fX6_suspects lX6_suspects_4
  obtain ⟨z, v', h1, h2, h3, m, h4, h5⟩ := it_two (b := fun (s : Int32 × Int32) => bX5_traitor_4 n (RX w) 0 s.1 s.2 hx) (d := fun (s : Int32 × Int32) => bX6_suspects_4 n RM 0 s.1 s.2 hm) (fun i x y => x = y ∧ ∃ m, m < 2 ^ i ∧ x = (nI m, nI i)) (fun z v => z = v ∧ ∃ m, m < 2048 ∧ z = nI m) 11 (n := n) (m := n) (x := (0, 0)) (y := (0, 0)) (by omega) (by omega) ⟨rfl, 0, by decide, rfl⟩ (by
    rintro i x y hi ⟨rfl, m, hml, rfl⟩
    show (∃ z v, bX5_traitor_4 n (RX w) 0 (nI m) (nI i) hx = _ ∧ bX6_suspects_4 n RM 0 (nI m) (nI i) hm = _ ∧ _) ∨ (_ ∧ ∃ x' y', bX5_traitor_4 n (RX w) 0 (nI m) (nI i) hx = _ ∧ bX6_suspects_4 n RM 0 (nI m) (nI i) hm = _ ∧ _)
    unfold bX5_traitor_4 bX6_suspects_4
    by_cases ce : i < 11
    · right
      refine ⟨ce, ?_⟩
      have hm1 : m < 2 ^ (i + 1) := Nat.lt_trans hml (pw_lt (by omega))
      have hm2 : m ||| 2 ^ i < 2 ^ (i + 1) := or_lt hm1 (pw_lt (by omega))
      have step : ∀ q : Bool, ∃ x' y', jX5_traitor_35 n (RX w) 0 (nI m) (nI i) (bI q) hx = some (.inl x') ∧ lX6_suspects_38 n RM 0 (nI m) (nI i) (bI q) 0 hm = some (.inl y') ∧ x' = y' ∧ ∃ m, m < 2 ^ (i + 1) ∧ x' = (nI m, nI (i + 1)) := by
        intro q
        rw [hsus i (nI m) q (by omega)]
        unfold jX5_traitor_35 jX6_suspects_92
        rw [z_doneUpWithout hI0 (by omega), Option.bind_some, rx06, rx01, hfit i (by omega), Option.bind_some, z_shl (by omega), z_or, nI_or0, nI_1]
        simp only [lE]
        cases q with
        | false => exact ⟨_, _, rfl, rfl, rfl, m, hm1, rfl⟩
        | true =>
          rw [Bool.true_and]
          cases fitB K A B g u (wo (b 0) (2 ^ i)) with
          | false => exact ⟨_, _, rfl, rfl, rfl, m, hm1, rfl⟩
          | true => exact ⟨_, _, rfl, rfl, rfl, _, hm2, rfl⟩
      rw [if_neg (show ¬ (10 : Int32) < nI i from nI_nlt (a := 10) (by omega) (by omega)), if_neg (show ¬ (10 : Int32) < nI i from nI_nlt (a := 10) (by omega) (by omega))]
      by_cases c10 : i = 10
      · rw [if_pos (show nI i = 10 by rw [c10]; rfl), if_pos (show nI i = 10 by rw [c10]; rfl)]
        exact step true
      · have hne : ¬ nI i = 10 := by rw [show (10 : Int32) = nI 10 from rfl, nI_eq (by omega) (by omega)]; exact c10
        rw [if_neg hne, if_neg hne, ck_0, cl_0, rm22, rx03, i4.1, i5 0 (by omega), z_has hd31 (by omega), z_hasM hd31 (by omega), Option.bind_some, Option.bind_some]
        cases (b 0).testBit i with
        | false => exact step false
        | true => exact step true
    · left
      have : i = 11 := by omega
      subst this
      rw [if_pos (show (10 : Int32) < nI 11 by decide), if_pos (show (10 : Int32) < nI 11 by decide)]
      exact ⟨_, _, rfl, rfl, rfl, m, hml, rfl⟩)
  subst h3
  subst h5
  exact ⟨m, h4, by rw [h1]; rfl, by rw [h2]; rfl⟩
theorem sim_traitor (hI : IV w hx hm) (hn : 20 ≤ n) : Sim0 (fX5_traitor n (RX w) 0 hx) (fX6_traitor n RM 0 hm) := by
  obtain ⟨K, b, hI⟩ := hI
  obtain ⟨m, -, h1, h2⟩ := z_traitor (n := n) hI hn
  unfold fX6_traitor
  rw [h1, h2]
  exact Sim0.rf _
/-- the greater part -/
theorem z_part {a c m : Nat} (hI : Inv w K b hx hm) (ha : a < K 0 0) (hc : c < K 0 0) (hm' : m < 2048) (hn : 20 ≤ n) : ∃ p, fX5_greaterPart n (RX w) 0 (nI a) (nI c) (nI m) hx = some p ∧ ∀ best least, lX6_ask_48 n RM 0 (nI m) (nI (pc m)) best least (nI a) (nI c) 0 0 hm = jX6_ask_111 n RM 0 (nI m) (nI (pc m)) best least (nI a) (nI c) p hm := by
  have hI0 := hI
  obtain ⟨i1, i2, i3, i4, i5, i6, -⟩ := hI
  have hM10 := i1.2.1
  have hm31 : m < 2 ^ 31 := by omega
  have key : ∃ z, it (fun (s : Int32 × Int32) => bX5_greaterPart_6 n (RX w) 0 (nI a) (nI c) (nI m) s.1 s.2 hx) n (0, 0) = some z ∧ ∀ best least, it (fun (s : Int32 × Int32) => bX6_ask_48 n RM 0 (nI m) (nI (pc m)) best least (nI a) (nI c) s.1 s.2 hm) n (0, 0) = some z := by
    have k := fun best least => it_same (b := fun (s : Int32 × Int32) => bX5_greaterPart_6 n (RX w) 0 (nI a) (nI c) (nI m) s.1 s.2 hx) (d := fun (s : Int32 × Int32) => bX6_ask_48 n RM 0 (nI m) (nI (pc m)) best least (nI a) (nI c) s.1 s.2 hm) (fun i s => ∃ c, s = (c, nI i)) 11 (n := n) (m := n) (x := (0, 0)) (by omega) (by omega) ⟨0, rfl⟩ (by
      rintro i s hi ⟨v, rfl⟩
      show (∃ z, bX5_greaterPart_6 n (RX w) 0 (nI a) (nI c) (nI m) v (nI i) hx = _ ∧ bX6_ask_48 n RM 0 (nI m) (nI (pc m)) best least (nI a) (nI c) v (nI i) hm = _) ∨ (_ ∧ ∃ y, bX5_greaterPart_6 n (RX w) 0 (nI a) (nI c) (nI m) v (nI i) hx = _ ∧ bX6_ask_48 n RM 0 (nI m) (nI (pc m)) best least (nI a) (nI c) v (nI i) hm = _ ∧ _)
      unfold bX5_greaterPart_6 bX6_ask_48
      by_cases ce : i < 11
      · right
        refine ⟨ce, ?_⟩
        have hw31 : wo (b 0) (2 ^ i) < 2 ^ 31 := p31 (wo_lt i6.1) (show K 0 1 ≤ 31 by omega)
        rw [if_neg (show ¬ (10 : Int32) < nI i from nI_nlt (a := 10) (by omega) (by omega)), if_neg (show ¬ (10 : Int32) < nI i from nI_nlt (a := 10) (by omega) (by omega)), z_has hm31 (by omega), z_hasM hm31 (by omega), z_doneUpWithout hI0 (by omega), z_hangs hI0 ha hc (by omega) hn, nI_1]
        simp only [Option.bind_some, lE, rx01, Int32.add_zero]
        rw [z_hang i2 i1 hw31 ha hc hn, Option.bind_some]
        cases m.testBit i with
        | false => exact ⟨_, rfl, rfl, _, rfl⟩
        | true =>
          cases (rc K (wo (b 0) (2 ^ i)) a).testBit c with
          | false => exact ⟨_, rfl, rfl, _, rfl⟩
          | true => exact ⟨_, rfl, rfl, _, rfl⟩
      · left
        have : i = 11 := by omega
        subst this
        rw [if_pos (show (10 : Int32) < nI 11 by decide), if_pos (show (10 : Int32) < nI 11 by decide)]
        exact ⟨_, rfl, rfl⟩)
    obtain ⟨z, h1, -⟩ := k 0 0
    refine ⟨z, h1, fun best least => ?_⟩
    obtain ⟨z2, g1, g2⟩ := k best least
    rw [h1] at g1
    cases g1
    exact g2
  obtain ⟨z, h1, h2⟩ := key
  unfold fX5_greaterPart lX5_greaterPart_6 lX6_ask_48
  rw [h1, Option.bind_some, z_bc hm', Option.bind_some]
  refine ⟨_, rfl, fun best least => ?_⟩
  rw [h2 best least, Option.bind_some]
  by_cases c1 : z < nI (pc m) - z
  · rw [if_pos c1, if_pos (by simp only [Int32.lt_iff_toInt_lt, Int32.le_iff_toInt_le] at *; omega)]
  · rw [if_neg c1]
    by_cases c2 : z ≤ nI (pc m) - z
    · have : nI (pc m) - z = z := by
        apply Int32.toInt_inj.mp
        simp only [Int32.lt_iff_toInt_lt, Int32.le_iff_toInt_le] at *
        omega
      rw [if_pos c2, this]
    · rw [if_neg c2]
theorem sim_ask (hI : IV w hx hm) (hn : 20 ≤ n) : Sim0 (fX5_ask n (RX w) 0 hx) (fX6_ask n RM 0 hm) := by
  obtain ⟨K, b, hI⟩ := hI
  obtain ⟨m, hm', h1, h2⟩ := z_traitor (n := n) hI hn
  have hI0 := hI
  obtain ⟨i1, i2, i3, i4, i5, i6, -⟩ := hI
  have hN := i1.1
  unfold fX5_ask fX6_ask
  rw [h1, h2, Option.bind_some, Option.bind_some, z_bc hm', z_bits hm' hn, Option.bind_some, Option.bind_some]
  unfold lX5_ask_15 lX6_ask_18
  obtain ⟨z, v, g1, g2, g3⟩ := it_two (b := fun (s : Int32 × Int32 × Int32) => bX5_ask_15 n (RX w) 0 (nI m) s.1 s.2.1 s.2.2 hx) (d := fun (s : Int32 × Int32 × Int32) => bX6_ask_18 n RM 0 (nI m) (nI (pc m)) s.1 s.2.1 s.2.2 hm) (fun i x y => ∃ le be, x = (le, be, nI i) ∧ y = (be, le, nI i)) (fun z v => z = v) (K 0 0) (n := n) (m := n) (x := (nI (pc m), -1, 0)) (y := (-1, nI (pc m), 0)) (by omega) (by omega) ⟨_, _, rfl, rfl⟩ (by
    rintro i x y hi ⟨le, be, rfl, rfl⟩
    show (∃ z v, bX5_ask_15 n (RX w) 0 (nI m) le be (nI i) hx = _ ∧ bX6_ask_18 n RM 0 (nI m) (nI (pc m)) be le (nI i) hm = _ ∧ _) ∨ (_ ∧ ∃ x' y', bX5_ask_15 n (RX w) 0 (nI m) le be (nI i) hx = _ ∧ bX6_ask_18 n RM 0 (nI m) (nI (pc m)) be le (nI i) hm = _ ∧ _)
    unfold bX5_ask_15 bX6_ask_18
    rw [rx01, i2.1, i3.1]
    by_cases ce : i < K 0 0
    · right
      rw [if_neg (nI_ge ce (by omega)), if_neg (nI_ge ce (by omega)), nI_1]
      simp only [lE]
      unfold lX5_ask_33 lX6_ask_33
      obtain ⟨z, v, g1, g2, g3, g4⟩ := it_two (b := fun (s : Int32 × Int32 × Int32) => bX5_ask_33 n (RX w) 0 (nI m) s.1 s.2.1 (nI i) s.2.2 hx) (d := fun (s : Int32 × Int32 × Int32) => bX6_ask_33 n RM 0 (nI m) (nI (pc m)) s.1 s.2.1 (nI i) s.2.2 hm) (fun j x y => ∃ le be, x = (le, be, nI (i + 1 + j)) ∧ y = (be, le, nI (i + 1 + j))) (fun z v => z.1 = v.2 ∧ z.2 = v.1) (K 0 0 - (i + 1)) (n := n) (m := n) (x := (le, be, nI (i + 1))) (y := (be, le, nI (i + 1))) (by omega) (by omega) ⟨_, _, rfl, rfl⟩ (by
        rintro j x y hj ⟨le, be, rfl, rfl⟩
        show (∃ z v, bX5_ask_33 n (RX w) 0 (nI m) le be (nI i) (nI (i + 1 + j)) hx = _ ∧ bX6_ask_33 n RM 0 (nI m) (nI (pc m)) be le (nI i) (nI (i + 1 + j)) hm = _ ∧ _) ∨ (_ ∧ ∃ x' y', bX5_ask_33 n (RX w) 0 (nI m) le be (nI i) (nI (i + 1 + j)) hx = _ ∧ bX6_ask_33 n RM 0 (nI m) (nI (pc m)) be le (nI i) (nI (i + 1 + j)) hm = _ ∧ _)
        unfold bX5_ask_33 bX6_ask_33
        rw [rx01, i2.1, i3.1]
        by_cases cf : i + 1 + j < K 0 0
        · right
          obtain ⟨p, p1, p2⟩ := z_part (n := n) hI0 ce cf hm' hn
          rw [if_neg (nI_ge cf (by omega)), if_neg (nI_ge cf (by omega)), p1, p2, Option.bind_some]
          unfold jX6_ask_111 jX6_ask_132
          rw [nI_1]
          simp only [lE]
          refine ⟨by omega, ?_⟩
          by_cases cl : le ≤ p
          · rw [if_pos cl, if_pos cl, if_pos cl]
            exact ⟨_, _, rfl, rfl, _, _, rfl, rfl⟩
          · rw [if_neg cl, if_neg cl, if_neg cl]
            exact ⟨_, _, rfl, rfl, _, _, rfl, rfl⟩
        · left
          rw [if_pos (nI_le (by omega) (by omega)), if_pos (nI_le (by omega) (by omega))]
          exact ⟨_, _, rfl, rfl, rfl, rfl⟩)
      rw [g1, g2, Option.bind_some, Option.bind_some, nI_1]
      exact ⟨ce, _, _, rfl, rfl, _, _, rfl, by rw [g3, g4]⟩
    · left
      rw [if_pos (nI_le (by omega) (by omega)), if_pos (nI_le (by omega) (by omega))]
      exact ⟨_, _, rfl, rfl, rfl⟩)
  rw [g1, g2, g3]
  exact Sim0.rf _
end AS
