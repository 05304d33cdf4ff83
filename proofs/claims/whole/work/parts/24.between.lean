/-! ===== the fewest: by size, and of one size the least ===== -/
def Gd (d : Nat) (P : Nat → Bool) (s : Nat) : Prop := s ≤ d ∧ wo s d = 0 ∧ P s = true
def Lq (s t : Nat) : Prop := pc s < pc t ∨ (pc s = pc t ∧ s ≤ t)
/-- not larger than what was found -/
def nb (o : Option Nat) (s : Nat) : Bool := match o with
  | none => true
  | some t => decide (pc s ≤ pc t)
/-- the best of d, d - 1, .., i of them -/
def bsN (d : Nat) (P : Nat → Bool) : Nat → Option Nat
  | 0 => none
  | i + 1 => if wo (d - i) d = 0 ∧ nb (bsN d P i) (d - i) = true ∧ P (d - i) = true then some (d - i) else bsN d P i
theorem bsN_ok {d : Nat} {P : Nat → Bool} : ∀ i, i ≤ d + 1 → (bsN d P i = none → ∀ t, d < t + i → ¬ Gd d P t) ∧ (∀ s, bsN d P i = some s → Gd d P s ∧ d < s + i ∧ ∀ t, d < t + i → Gd d P t → Lq s t) := by
  intro i
  induction i with
  | zero => intro _; exact ⟨fun _ t ht hG => by have := hG.1; omega, fun s h => (by cases h)⟩
  | succ i ih =>
    intro hi
    obtain ⟨h1, h2⟩ := ih (by omega)
    unfold bsN
    by_cases c : wo (d - i) d = 0 ∧ nb (bsN d P i) (d - i) = true ∧ P (d - i) = true
    · rw [if_pos c]
      refine ⟨fun h => (by cases h), fun s hs => ?_⟩
      have hs := Option.some.inj hs
      subst hs
      refine ⟨⟨by omega, c.1, c.2.2⟩, by omega, fun t ht hG => ?_⟩
      by_cases e : t = d - i
      · subst e; exact Or.inr ⟨rfl, Nat.le_refl _⟩
      · cases hq : bsN d P i with
        | none => exact absurd hG (h1 hq t (by omega))
        | some u =>
          obtain ⟨g1, g2, g3⟩ := h2 u hq
          have c2 : pc (d - i) ≤ pc u := by have := c.2.1; rw [hq] at this; exact of_decide_eq_true this
          rcases g3 t (by omega) hG with g | ⟨g, g'⟩
          · exact Or.inl (by omega)
          · by_cases e2 : pc (d - i) < pc t
            · exact Or.inl e2
            · exact Or.inr ⟨by omega, by omega⟩
    · rw [if_neg c]
      cases hq : bsN d P i with
      | none =>
        rw [hq] at c
        refine ⟨fun _ t ht hG => ?_, fun s h => (by cases h)⟩
        by_cases e : t = d - i
        · subst e; exact c ⟨hG.2.1, rfl, hG.2.2⟩
        · exact h1 hq t (by omega) hG
      | some u =>
        rw [hq] at c
        refine ⟨fun h => (by cases h), fun s hs => ?_⟩
        cases hs
        obtain ⟨g1, g2, g3⟩ := h2 u hq
        refine ⟨g1, by omega, fun t ht hG => ?_⟩
        by_cases e : t = d - i
        · subst e
          left
          by_cases e2 : pc u < pc (d - i)
          · exact e2
          · exact absurd ⟨hG.2.1, decide_eq_true (show pc (d - i) ≤ pc u by omega), hG.2.2⟩ c
        · exact g3 t (by omega) hG
theorem bs_some {d s : Nat} {P : Nat → Bool} (hG : Gd d P s) (hb : ∀ t, Gd d P t → Lq s t) : bsN d P (d + 1) = some s := by
  obtain ⟨h1, h2⟩ := bsN_ok (d := d) (P := P) (d + 1) (Nat.le_refl _)
  cases hq : bsN d P (d + 1) with
  | none => exact absurd hG (h1 hq s (by omega))
  | some u =>
    obtain ⟨g1, g2, g3⟩ := h2 u hq
    have l1 := hb u g1
    have l2 := g3 s (by omega) hG
    have : u = s := by
      unfold Lq at l1 l2
      omega
    rw [this]
theorem bs_none {d : Nat} {P : Nat → Bool} (hb : ∀ t, ¬ Gd d P t) : bsN d P (d + 1) = none := by
  obtain ⟨h1, h2⟩ := bsN_ok (d := d) (P := P) (d + 1) (Nat.le_refl _)
  cases hq : bsN d P (d + 1) with
  | none => rfl
  | some u => exact absurd (h2 u hq).1 (hb u)
/-- a search by size: B one size, O the sizes -/
theorem it_size {d n : Nat} {P : Nat → Bool} {B : Nat → Int32 → Option (Int32 ⊕ (Int32 ⊕ Unit))} {O : Int32 → Option (Int32 ⊕ (Int32 ⊕ Unit))} (hd : d < 1024) (hn : 1100 ≤ n)
    (hB : ∀ z, z ≤ 10 → ∀ s, s ≤ d → B z (nI s) = if wo s d = 0 ∧ pc s = z ∧ P s = true then some (.inr (.inl (nI s))) else some (.inl (nI (s + 1))))
    (hB2 : ∀ z, z ≤ 10 → B z (nI (d + 1)) = some (.inr (.inr ())))
    (hO : ∀ z, z ≤ 10 → ∀ s, it (B z) n 0 = some (.inl s) → O (nI z) = some (.inr (.inl s)))
    (hO2 : ∀ z, z ≤ 10 → it (B z) n 0 = some (.inr ()) → O (nI z) = some (.inl (nI (z + 1))))
    (hO3 : O (nI 11) = some (.inr (.inr ()))) : it O n 0 = some (match bsN d P (d + 1) with | some s => .inl (nI s) | none => .inr ()) := by
  have hpc : ∀ s, s ≤ d → pc s ≤ 10 := fun s hs => pc_lt (m := 10) (Nat.lt_of_le_of_lt hs hd)
  have hin : ∀ z, z ≤ 10 → it (B z) n 0 = some (match ff (fun s => decide (wo s d = 0 ∧ pc s = z ∧ P s = true)) (d + 1) 0 with | some s => .inl (nI s) | none => .inr ()) := by
    intro z hz
    have k := it_find (b := B z) (fun i => nI i) (fun s => decide (wo s d = 0 ∧ pc s = z ∧ P s = true)) (fun i => .inl (nI i)) (.inr ()) (d + 1) (n := n) (by omega) (fun i hi hp => by rw [hB z hz i (by omega), if_neg (of_decide_eq_false hp)]) (fun i hi hp => by rw [hB z hz i (by omega), if_pos (of_decide_eq_true hp)]) (hB2 z hz)
    rw [show (0 : Int32) = nI 0 from rfl, k]
    cases ff (fun s => decide (wo s d = 0 ∧ pc s = z ∧ P s = true)) (d + 1) 0 <;> rfl
  obtain ⟨z, k1, k2⟩ := it_from (b := O) (fun i x => x = nI i ∧ ∀ t, Gd d P t → i ≤ pc t) (fun z => z = (match bsN d P (d + 1) with | some s => .inl (nI s) | none => .inr ())) 11 (n := n) (x := 0) (by omega) ⟨rfl, fun t _ => Nat.zero_le _⟩ (by
    rintro i x hi ⟨rfl, hI⟩
    by_cases c : i < 11
    · have h1 := hin i (by omega)
      cases hf : ff (fun s => decide (wo s d = 0 ∧ pc s = i ∧ P s = true)) (d + 1) 0 with
      | none =>
        rw [hf] at h1
        right
        refine ⟨c, _, hO2 i (by omega) h1, rfl, fun t hG => ?_⟩
        have := hI t hG
        by_cases e : pc t = i
        · have q := ff_none _ _ hf t (by omega) (by have := hG.1; omega)
          exact absurd ⟨hG.2.1, e, hG.2.2⟩ (of_decide_eq_false q)
        · omega
      | some s =>
        rw [hf] at h1
        left
        obtain ⟨-, s1, s2, s3⟩ := ff_some _ _ _ hf
        have s2 := of_decide_eq_true s2
        refine ⟨_, hO i (by omega) _ h1, ?_⟩
        rw [bs_some (s := s) ⟨by omega, s2.1, s2.2.2⟩ (fun t hG => ?_)]
        have := hI t hG
        by_cases e : pc t = i
        · refine Or.inr ⟨by omega, ?_⟩
          by_cases e2 : s ≤ t
          · exact e2
          · have q := of_decide_eq_false (s3 t (by omega) (by omega))
            exact absurd ⟨hG.2.1, e, hG.2.2⟩ q
        · exact Or.inl (by omega)
    · left
      have : i = 11 := by omega
      subst this
      refine ⟨_, hO3, ?_⟩
      rw [bs_none (fun t hG => by have := hI t hG; have := hpc t hG.1; omega)])
  rw [k1, k2]
theorem pc_sub {s d : Nat} (h : wo s d = 0) : pc s ≤ pc d := by
  have hb : ∀ j, s.testBit j = true → d.testBit j = true := fun j hj => by
    have := wo_tb s d j
    rw [h, Nat.zero_testBit, hj] at this
    cases hd : d.testBit j with
    | true => rfl
    | false => rw [hd] at this; cases this
  have key : ∀ k, pcN s k ≤ pcN d k := by
    intro k
    induction k with
    | zero => exact Nat.le_refl _
    | succ k ih =>
      show pcN s k + (if s.testBit k then 1 else 0) ≤ pcN d k + (if d.testBit k then 1 else 0)
      by_cases c : s.testBit k = true
      · rw [if_pos c, if_pos (hb k c)]; omega
      · rw [if_neg c]; omega
  exact key 12
section BE
variable {w : Bool} {K : Kd} {b : Nat → Nat} {hx hm : Hp} {n : Nat}
theorem z_isChoice {s z : Nat} (hI : Inv w K b hx hm) (hs : s ≤ b 0) (hz : z ≤ 10) : fX5_isChoice n (RX w) 0 (nI s) (nI z) hx = some (bI (decide (wo s (b 0) = 0 ∧ pc s = z))) := by
  obtain ⟨i1, i2, i3, i4, i5, i6, -⟩ := hI
  have hM10 := i1.2.1
  have hd10 : b 0 < 1024 := Nat.lt_of_lt_of_le i6.1 (Nat.pow_le_pow_right (by decide) hM10)
  have hp := pc_le s
  unfold fX5_isChoice
  have hw : wo s (b 0) < 2 ^ 10 := wo_lt (k := 10) (by omega)
  rw [rx03, i4.1, z_wo, z_bc (by omega), Option.bind_some]
  by_cases c : wo s (b 0) = 0
  · rw [if_pos (by rw [c]; rfl)]
    by_cases c2 : pc s = z
    · rw [if_pos (by rw [c2]), decide_eq_true ⟨c, c2⟩]; rfl
    · rw [if_neg (by rw [nI_eq (by omega) (by omega)]; exact c2), decide_eq_false (fun q => c2 q.2)]; rfl
  · rw [if_neg (nI_ne0 (by omega) (by omega)), decide_eq_false (fun q => c q.1)]; rfl
/-- a and c part without the set s -/
def sev (K : Kd) (d a c s : Nat) : Bool := !(rc K (wo d s) a).testBit c
theorem z_fewestToPart {a c : Nat} (hI : Inv w K b hx hm) (ha : a < K 0 0) (hc : c < K 0 0) (hn : 1100 ≤ n) : fX5_fewestToPart n (RX w) 0 (nI a) (nI c) hx = some (nI (match bsN (b 0) (sev K (b 0) a c) (b 0 + 1) with | some s => s | none => b 0)) := by
  have hI0 := hI
  obtain ⟨i1, i2, i3, i4, i5, i6, -⟩ := hI
  have hM10 := i1.2.1
  have hd31 := p31 i6.1 (show K 0 1 ≤ 31 by omega)
  have hd10 : b 0 < 1024 := Nat.lt_of_lt_of_le i6.1 (Nat.pow_le_pow_right (by decide) hM10)
  unfold fX5_fewestToPart lX5_fewestToPart_2
  have k := it_size (d := b 0) (n := n) (P := sev K (b 0) a c) (B := fun z s => bX5_fewestToPart_11 n (RX w) 0 (nI a) (nI c) (nI z) s hx) (O := fun s => bX5_fewestToPart_2 n (RX w) 0 (nI a) (nI c) s hx) hd10 hn ?_ ?_ ?_ ?_ ?_
  · rw [k, Option.bind_some, rx03, i4.1]
    cases bsN (b 0) (sev K (b 0) a c) (b 0 + 1) <;> rfl
  · intro z hz s hs
    show bX5_fewestToPart_11 n (RX w) 0 (nI a) (nI c) (nI z) (nI s) hx = _
    unfold bX5_fewestToPart_11
    rw [rx03, rx01, i4.1, if_neg (nI_nlt hs (by omega)), z_isChoice hI0 hs hz, Option.bind_some, z_wo, z_hang i2 i1 (p31 (wo_lt i6.1) (by omega)) ha hc (by omega), Option.bind_some, nI_1]
    simp only [lE, bI_0]
    unfold sev
    by_cases c1 : wo s (b 0) = 0 ∧ pc s = z
    · rw [decide_eq_true c1, if_neg (by decide)]
      cases (rc K (wo (b 0) s) a).testBit c with
      | true => rw [if_neg (by decide), if_neg (by simp)]
      | false => rw [if_pos rfl, if_pos ⟨c1.1, c1.2, rfl⟩]
    · rw [decide_eq_false c1, if_pos rfl, if_neg (fun q => c1 ⟨q.1, q.2.1⟩)]
  · intro z hz
    show bX5_fewestToPart_11 n (RX w) 0 (nI a) (nI c) (nI z) (nI (b 0 + 1)) hx = _
    unfold bX5_fewestToPart_11
    rw [rx03, i4.1, if_pos (nI_lt (by omega) (by omega))]
  · intro z hz s h
    show bX5_fewestToPart_2 n (RX w) 0 (nI a) (nI c) (nI z) hx = _
    unfold bX5_fewestToPart_2 lX5_fewestToPart_11
    rw [if_neg (show ¬ (10 : Int32) < nI z from nI_nlt (a := 10) (by omega) (by omega)), h]
    rfl
  · intro z hz h
    show bX5_fewestToPart_2 n (RX w) 0 (nI a) (nI c) (nI z) hx = _
    unfold bX5_fewestToPart_2 lX5_fewestToPart_11
    rw [if_neg (show ¬ (10 : Int32) < nI z from nI_nlt (a := 10) (by omega) (by omega)), h, ← nI_1]
    rfl
  · show bX5_fewestToPart_2 n (RX w) 0 (nI a) (nI c) (nI 11) hx = _
    unfold bX5_fewestToPart_2
    rw [if_pos (show (10 : Int32) < nI 11 by decide)]
/-- how the reference counts down -/
def dn (d i : Nat) : Int32 := if i ≤ d then nI (d - i) else -1
theorem dn_step {d i : Nat} (hi : i ≤ d) : nI (d - i) + (-1) = dn d (i + 1) := by
  unfold dn
  by_cases c : i + 1 ≤ d
  · rw [if_pos c, nI_m (by omega)]; congr 1
  · rw [if_neg c, show d - i = 0 by omega]; decide
theorem z_betweenM {a c : Nat} {y : Int32} (hI : Inv w K b hx hm) (ha : a < K 0 0) (hc : c < K 0 0) (hn : 1100 ≤ n) : it (fun (s : Int32 × Int32) => bX6_between_40 n RM 0 (nI a) (nI c) y s.1 s.2 hm) n (nI (b 0), nI (b 0)) = some (nI (match bsN (b 0) (sev K (b 0) a c) (b 0 + 1) with | some s => s | none => b 0)) := by
  obtain ⟨i1, i2, i3, i4, i5, i6, -⟩ := hI
  have hN := i1.1
  have hM10 := i1.2.1
  have hd10 : b 0 < 1024 := Nat.lt_of_lt_of_le i6.1 (Nat.pow_le_pow_right (by decide) hM10)
  have hlt : ∀ i, i ≤ b 0 + 1 → (match bsN (b 0) (sev K (b 0) a c) i with | some s => s | none => b 0) ≤ b 0 := fun i hi => by
    cases hq : bsN (b 0) (sev K (b 0) a c) i with
    | none => exact Nat.le_refl _
    | some s => exact ((bsN_ok i hi).2 s hq).1.1
  have key := it_val (b := fun (s : Int32 × Int32) => bX6_between_40 n RM 0 (nI a) (nI c) y s.1 s.2 hm) (fun i => (nI (match bsN (b 0) (sev K (b 0) a c) i with | some s => s | none => b 0), dn (b 0) i)) (nI (match bsN (b 0) (sev K (b 0) a c) (b 0 + 1) with | some s => s | none => b 0)) (b 0 + 1) (n := n) (by omega) ?_ ?_
  · rw [show ((nI (b 0), nI (b 0)) : Int32 × Int32) = (nI (match bsN (b 0) (sev K (b 0) a c) 0 with | some s => s | none => b 0), dn (b 0) 0) by unfold dn; rw [if_pos (Nat.zero_le _)]; rfl]
    exact key
  · intro i hi
    show bX6_between_40 n RM 0 (nI a) (nI c) y (nI (match bsN (b 0) (sev K (b 0) a c) i with | some s => s | none => b 0)) (dn (b 0) i) hm = some (.inl (nI (match bsN (b 0) (sev K (b 0) a c) (i + 1) with | some s => s | none => b 0), dn (b 0) (i + 1)))
    have hl := hlt i (by omega)
    rw [show dn (b 0) i = nI (b 0 - i) by unfold dn; rw [if_pos (by omega)]]
    have ej : ∀ q : Bool, ∀ v : Nat, jX6_between_77 n RM 0 (nI a) (nI c) y (nI v) (nI (b 0 - i)) (bI q) hm = some (.inl (if q = true ∧ sev K (b 0) a c (b 0 - i) = true then nI (b 0 - i) else nI v, dn (b 0) (i + 1))) := fun q v => by
      unfold jX6_between_77
      rw [ck_0, cl_0, rm22, i5 0 (by omega), z_wo, z_reached i3 i1 (p31 (wo_lt i6.1) (by omega)) ha (by omega), Option.bind_some, z_hasM (p31 (rc_lt i1 ha) (by omega)) (by omega), Option.bind_some, dn_step (by omega)]
      simp only [lE]
      unfold sev
      cases q with
      | false => simp [bI]
      | true =>
        cases (rc K (wo (b 0) (b 0 - i)) a).testBit c <;> simp [bI]
    have ej0 : ∀ v : Nat, jX6_between_77 n RM 0 (nI a) (nI c) y (nI v) (nI (b 0 - i)) 0 hm = some (.inl (nI v, dn (b 0) (i + 1))) := fun v => by
      have := ej false v
      rw [if_neg (fun q => by cases q.1)] at this
      exact this
    have ej1 : ∀ v : Nat, jX6_between_77 n RM 0 (nI a) (nI c) y (nI v) (nI (b 0 - i)) 1 hm = some (.inl (if sev K (b 0) a c (b 0 - i) = true then nI (b 0 - i) else nI v, dn (b 0) (i + 1))) := fun v => by
      have := ej true v
      simp only [true_and] at this
      exact this
    have hw : wo (b 0 - i) (b 0) < 2 ^ 10 := wo_lt (k := 10) (by omega)
    have hp1 := pc_le (b 0 - i)
    have hp2 := fun v => pc_le v
    have eb : ∀ v : Nat, v ≤ b 0 → bX6_between_40 n RM 0 (nI a) (nI c) y (nI v) (nI (b 0 - i)) hm = some (.inl (if wo (b 0 - i) (b 0) = 0 ∧ pc (b 0 - i) ≤ pc v ∧ sev K (b 0) a c (b 0 - i) = true then nI (b 0 - i) else nI v, dn (b 0) (i + 1))) := fun v hv => by
      unfold bX6_between_40
      rw [if_neg (nI_pos (by omega)), ck_0, cl_0, rm22, i5 0 (by omega), z_wo, z_bits (by omega) (by omega), z_bits (by omega) (by omega), Option.bind_some, Option.bind_some, ej0, ej1]
      by_cases c1 : wo (b 0 - i) (b 0) = 0
      · rw [if_pos (by rw [c1]; rfl)]
        by_cases c2 : pc (b 0 - i) ≤ pc v
        · rw [if_neg (nI_nlt c2 (by have := hp2 v; omega))]
          simp [c1, c2]
        · rw [if_pos (nI_lt (by omega) (by omega))]
          simp [c2]
      · rw [if_neg (nI_ne0 (by omega) (by omega))]
        simp [c1]
    rw [eb _ hl]
    congr 3
    have es : bsN (b 0) (sev K (b 0) a c) (i + 1) = if wo (b 0 - i) (b 0) = 0 ∧ nb (bsN (b 0) (sev K (b 0) a c) i) (b 0 - i) = true ∧ sev K (b 0) a c (b 0 - i) = true then some (b 0 - i) else bsN (b 0) (sev K (b 0) a c) i := rfl
    rw [es]
    cases hq : bsN (b 0) (sev K (b 0) a c) i with
    | none =>
      by_cases c1 : wo (b 0 - i) (b 0) = 0 ∧ sev K (b 0) a c (b 0 - i) = true
      · rw [if_pos (show wo (b 0 - i) (b 0) = 0 ∧ pc (b 0 - i) ≤ pc (b 0) ∧ sev K (b 0) a c (b 0 - i) = true from ⟨c1.1, pc_sub c1.1, c1.2⟩), if_pos (show wo (b 0 - i) (b 0) = 0 ∧ nb none (b 0 - i) = true ∧ sev K (b 0) a c (b 0 - i) = true from ⟨c1.1, rfl, c1.2⟩)]
      · rw [if_neg (show ¬ (wo (b 0 - i) (b 0) = 0 ∧ pc (b 0 - i) ≤ pc (b 0) ∧ sev K (b 0) a c (b 0 - i) = true) from fun q => c1 ⟨q.1, q.2.2⟩), if_neg (show ¬ (wo (b 0 - i) (b 0) = 0 ∧ nb none (b 0 - i) = true ∧ sev K (b 0) a c (b 0 - i) = true) from fun q => c1 ⟨q.1, q.2.2⟩)]
    | some t =>
      by_cases c1 : wo (b 0 - i) (b 0) = 0 ∧ pc (b 0 - i) ≤ pc t ∧ sev K (b 0) a c (b 0 - i) = true
      · rw [if_pos (show wo (b 0 - i) (b 0) = 0 ∧ nb (some t) (b 0 - i) = true ∧ sev K (b 0) a c (b 0 - i) = true from ⟨c1.1, decide_eq_true c1.2.1, c1.2.2⟩)]
        exact if_pos c1
      · rw [if_neg (show ¬ (wo (b 0 - i) (b 0) = 0 ∧ nb (some t) (b 0 - i) = true ∧ sev K (b 0) a c (b 0 - i) = true) from fun q => c1 ⟨q.1, of_decide_eq_true q.2.1, q.2.2⟩)]
        exact if_neg c1
  · show bX6_between_40 n RM 0 (nI a) (nI c) y _ (dn (b 0) (b 0 + 1)) hm = _
    rw [show dn (b 0) (b 0 + 1) = -1 by unfold dn; rw [if_neg (by omega)]]
    unfold bX6_between_40
    rw [if_pos (show (-1 : Int32) < 0 by decide)]
theorem sim_between (hI : IV w hx hm) (x y z : Int32) (hn : 1100 ≤ n) : Sim0 (fX5_between n (RX w) 0 x y z hx) (fX6_between n RM 0 x y z hm) := by
  obtain ⟨K, b, hI⟩ := hI
  have hI0 := hI
  obtain ⟨i1, i2, i3, i4, i5, i6, -⟩ := hI
  have hM10 := i1.2.1
  have hd10 : b 0 < 1024 := Nat.lt_of_lt_of_le i6.1 (Nat.pow_le_pow_right (by decide) hM10)
  unfold fX5_between fX6_between
  rw [z_within, z_in, Option.bind_some, Option.bind_some]
  simp only [ck_0, cl_0, rm22, lE]
  rw [i5 0 (by omega)]
  rcases z_two (n := n) x y i2 i3 i1 with ⟨a, c, a1, c1, -, rfl, rfl, t1, t2⟩ | ⟨t1, t2⟩
  · rw [t1, t2, Option.bind_some, Option.bind_some, z_fewestToPart hI0 a1 c1 hn, Option.bind_some]
    unfold lX6_between_40
    rw [z_betweenM hI0 a1 c1 hn, Option.bind_some]
    have hl : (match bsN (b 0) (sev K (b 0) a c) (b 0 + 1) with | some s => s | none => b 0) ≤ b 0 := by
      cases hq : bsN (b 0) (sev K (b 0) a c) (b 0 + 1) with
      | none => exact Nat.le_refl _
      | some s => exact ((bsN_ok _ (Nat.le_refl _)).2 s hq).1.1
    rw [z_bc (by omega), z_bits (by omega) (by omega)]
    exact Sim0.ite (Sim0.rf _) (Sim0.ite (Sim0.rf _) (Sim0.ite (Sim0.rf _) (Sim0.rf _)))
  · rw [t1, t2]
    exact Sim0.rf _
end BE
