/-! ===== the fewest that must be turned ===== -/
/-- before: by size, then by the set itself -/
def lx (s z q : Nat) : Prop := pc s < z ∨ (pc s = z ∧ s < q)
def Lz (f : Nat → Nat) (s t : Nat) : Prop := f s < f t ∨ (f s = f t ∧ (pc s < pc t ∨ (pc s = pc t ∧ s ≤ t)))
def agN (f : Nat → Nat) (d : Nat) : Nat → Nat
  | 0 => 0
  | i + 1 => if wo (i + 1) d = 0 ∧ (f (i + 1) < f (agN f d i) ∨ (f (i + 1) = f (agN f d i) ∧ pc (i + 1) < pc (agN f d i))) then i + 1 else agN f d i
theorem wo_0 (d : Nat) : wo 0 d = 0 := by unfold wo; rw [Nat.zero_and, Nat.xor_zero]
theorem agN_ok {f : Nat → Nat} {d : Nat} : ∀ i, agN f d i ≤ i ∧ wo (agN f d i) d = 0 ∧ ∀ t, t ≤ i → wo t d = 0 → Lz f (agN f d i) t := by
  intro i
  induction i with
  | zero => exact ⟨Nat.le_refl _, wo_0 d, fun t ht _ => by rw [show t = 0 by omega]; exact Or.inr ⟨rfl, Or.inr ⟨rfl, Nat.le_refl _⟩⟩⟩
  | succ i ih =>
    obtain ⟨h1, h2, h3⟩ := ih
    unfold agN
    by_cases c : wo (i + 1) d = 0 ∧ (f (i + 1) < f (agN f d i) ∨ (f (i + 1) = f (agN f d i) ∧ pc (i + 1) < pc (agN f d i)))
    · rw [if_pos c]
      refine ⟨Nat.le_refl _, c.1, fun t ht hw => ?_⟩
      by_cases e : t = i + 1
      · subst e; exact Or.inr ⟨rfl, Or.inr ⟨rfl, Nat.le_refl _⟩⟩
      · have := h3 t (by omega) hw
        have c2 := c.2
        unfold Lz at *
        omega
    · rw [if_neg c]
      refine ⟨by omega, h2, fun t ht hw => ?_⟩
      by_cases e : t = i + 1
      · subst e
        have c2 : ¬ (f (i + 1) < f (agN f d i) ∨ (f (i + 1) = f (agN f d i) ∧ pc (i + 1) < pc (agN f d i))) := fun q => c ⟨hw, q⟩
        unfold Lz
        omega
      · exact h3 t (by omega) hw
theorem ag_is {f : Nat → Nat} {d s : Nat} (hs : s ≤ d) (hw : wo s d = 0) (hb : ∀ t, t ≤ d → wo t d = 0 → Lz f s t) : agN f d d = s := by
  obtain ⟨h1, h2, h3⟩ := agN_ok (f := f) (d := d) d
  have l1 := hb _ h1 h2
  have l2 := h3 s hs hw
  unfold Lz at l1 l2
  omega
def AgI (f : Nat → Nat) (d s z q : Nat) : Prop := s ≤ d ∧ wo s d = 0 ∧ lx s z q ∧ ∀ t, t ≤ d → wo t d = 0 → lx t z q → Lz f s t
theorem AgI.zero {f : Nat → Nat} {d s z q z' q' : Nat} (h : AgI f d s z q) (h0 : f s = 0) (hz : lx s z' q') : AgI f d s z' q' := by
  obtain ⟨h1, h2, h3, h4⟩ := h
  refine ⟨h1, h2, hz, fun t ht hw hl => ?_⟩
  by_cases c : lx t z q
  · exact h4 t ht hw c
  · unfold lx at *
    unfold Lz
    omega
theorem AgI.next {f : Nat → Nat} {d s z : Nat} (h : AgI f d s z (d + 1)) : AgI f d s (z + 1) 1 := by
  obtain ⟨h1, h2, h3, h4⟩ := h
  refine ⟨h1, h2, ?_, fun t ht hw hl => h4 t ht hw ?_⟩
  · unfold lx at *; omega
  · unfold lx at *
    by_cases e : t = 0
    · subst e; rw [pc_0] at *; omega
    · omega
theorem AgI.end {f : Nat → Nat} {d s : Nat} (hd : d < 1024) (h : AgI f d s 11 1) : agN f d d = s :=
  ag_is h.1 h.2.1 (fun t ht hw => h.2.2.2 t ht hw (Or.inl (by have := pc_lt (s := t) (m := 10) (by omega); omega)))
theorem AgI.begin {f : Nat → Nat} {d : Nat} (hd : d < 1024) : AgI f d 0 1 1 := by
  refine ⟨Nat.zero_le _, wo_0 d, Or.inl (by rw [pc_0]; omega), fun t ht hw hl => ?_⟩
  have : t = 0 := by
    by_cases e : t = 0
    · exact e
    · unfold lx at hl
      have h0 : pc t = 0 := by omega
      apply Nat.eq_of_testBit_eq
      intro i
      rw [Nat.zero_testBit]
      by_cases c : i < 12
      · exact pc_z h0 i c
      · exact z_tbl (k := 10) (by omega) (by omega)
  subst this
  exact Or.inr ⟨rfl, Or.inr ⟨rfl, Nat.le_refl _⟩⟩
/-- how many clash, if those of s are turned -/
def clt (K : Kd) (b : Nat → Nat) (s : Nat) : Nat := pc (cls K (b 0) (b 1 ^^^ s) (K 0 0))
section AG
variable {w : Bool} {K : Kd} {b : Nat → Nat} {hx hm : Hp} {n : Nat}
theorem cls_2048 {d t : Nat} (hK : Bk K) : cls K d t (K 0 0) < 2048 := Nat.lt_of_lt_of_le (cls_lt _) (Nat.pow_le_pow_right (by decide) (show K 0 0 ≤ 11 by have := hK.1; omega))
theorem xor_le {s : Nat} (hI : Inv w K b hx hm) (hs : s ≤ b 0) : b 1 ^^^ s < 2 ^ 31 := by
  have hM10 := hI.1.2.1
  exact p31 (xor_lt hI.2.2.2.2.2.1.2.1 (Nat.lt_of_le_of_lt hs hI.2.2.2.2.2.1.1)) (by omega)
theorem Inv.turned {s : Nat} (hI : Inv w K b hx hm) (hs : s ≤ b 0) (hn : 20 ≤ n) : ∃ hx', fX5_clashesIfTurned n (RX w) 0 (nI s) hx = some (nI (clt K b s), hx') ∧ Inv w K b hx' hm := by
  have hM10 := hI.1.2.1
  have hd31 := p31 hI.2.2.2.2.2.1.1 (show K 0 1 ≤ 31 by omega)
  obtain ⟨⟨x1, e1, hJ⟩, -⟩ := hI.clash (n := n) hd31 (xor_le hI hs) hn
  unfold fX5_clashesIfTurned
  rw [rx01, rx03, hI.2.2.2.1.1, hI.2.2.2.1.2.1, z_xor, e1]
  simp only [bd2_some]
  rw [z_bc (cls_2048 hI.1)]
  exact ⟨x1, rfl, hJ⟩
theorem clt_le (s : Nat) : clt K b s ≤ 12 := pc_le _
theorem z_fewestToTurn (hI : Inv w K b hx hm) (hn : 1100 ≤ n) : ∃ hx', fX5_fewestToTurn n (RX w) 0 hx = some (nI (agN (clt K b) (b 0) (b 0)), hx') ∧ Inv w K b hx' hm := by
  have hM10 := hI.1.2.1
  have hd10 : b 0 < 1024 := Nat.lt_of_lt_of_le hI.2.2.2.2.2.1.1 (Nat.pow_le_pow_right (by decide) hM10)
  have hcl := fun s => clt_le (K := K) (b := b) s
  unfold fX5_fewestToTurn
  obtain ⟨x1, e1, hJ⟩ := hI.turned (s := 0) (n := n) (Nat.zero_le _) (by omega)
  rw [show (0 : Int32) = nI 0 from rfl, e1]
  simp only [bd2_some]
  unfold lX5_fewestToTurn_10
  obtain ⟨z, a1, a2, a3⟩ := it_from (b := fun (s : Int32 × Int32 × Int32 × Hp) => bX5_fewestToTurn_10 n (RX w) 0 s.1 s.2.1 s.2.2.1 s.2.2.2) (fun i x => ∃ s h', x = (nI s, nI (clt K b s), nI (i + 1), h') ∧ Inv w K b h' hm ∧ AgI (clt K b) (b 0) s (i + 1) 1) (fun z => z.1 = nI (agN (clt K b) (b 0) (b 0)) ∧ Inv w K b z.2 hm) 10 (n := n) (x := (nI 0, nI (clt K b 0), 1, x1)) (by omega) ⟨0, x1, rfl, hJ, AgI.begin hd10⟩ (by
    rintro i x hi ⟨s, h', rfl, hJ, hA⟩
    show (∃ z, bX5_fewestToTurn_10 n (RX w) 0 (nI s) (nI (clt K b s)) (nI (i + 1)) h' = _ ∧ _) ∨ (_ ∧ ∃ y, bX5_fewestToTurn_10 n (RX w) 0 (nI s) (nI (clt K b s)) (nI (i + 1)) h' = _ ∧ _)
    unfold bX5_fewestToTurn_10
    by_cases c : i < 10
    · rw [if_neg (show ¬ (10 : Int32) < nI (i + 1) from nI_nlt (a := 10) (by omega) (by omega))]
      by_cases c0 : clt K b s = 0
      · left
        rw [if_pos (show nI (clt K b s) ≤ 0 by rw [c0]; decide)]
        refine ⟨_, rfl, ?_, hJ⟩
        rw [AgI.end hd10 (hA.zero c0 (Or.inl (by have := pc_lt (s := s) (m := 10) (by have := hA.1; omega); omega)))]
      · right
        rw [if_neg (nI_nle (by omega) (by have := hcl s; omega))]
        unfold lX5_fewestToTurn_23
        obtain ⟨z, d1, s', h2, d2, d3, d4⟩ := it_from (b := fun (q : Int32 × Int32 × Int32 × Hp) => bX5_fewestToTurn_23 n (RX w) 0 q.1 q.2.1 (nI (i + 1)) q.2.2.1 q.2.2.2) (fun j x => ∃ s h', x = (nI s, nI (clt K b s), nI (j + 1), h') ∧ Inv w K b h' hm ∧ AgI (clt K b) (b 0) s (i + 1) (j + 1)) (fun z => ∃ s h', z = (nI s, nI (clt K b s), h') ∧ Inv w K b h' hm ∧ AgI (clt K b) (b 0) s (i + 1 + 1) 1) (b 0) (n := n) (x := (nI s, nI (clt K b s), 1, h')) (by omega) ⟨s, h', rfl, hJ, hA⟩ (by
          rintro j x hj ⟨s, h', rfl, hJ, hA⟩
          show (∃ z, bX5_fewestToTurn_23 n (RX w) 0 (nI s) (nI (clt K b s)) (nI (i + 1)) (nI (j + 1)) h' = _ ∧ _) ∨ (_ ∧ ∃ y, bX5_fewestToTurn_23 n (RX w) 0 (nI s) (nI (clt K b s)) (nI (i + 1)) (nI (j + 1)) h' = _ ∧ _)
          unfold bX5_fewestToTurn_23
          rw [rx03, hJ.2.2.2.1.1]
          by_cases ce : j < b 0
          · rw [if_neg (nI_nlt (by omega) (by omega))]
            by_cases c0 : clt K b s = 0
            · left
              rw [if_pos (show nI (clt K b s) ≤ 0 by rw [c0]; decide)]
              refine ⟨_, rfl, s, h', rfl, hJ, hA.zero c0 ?_⟩
              have := hA.2.2.1
              unfold lx at *; omega
            · right
              obtain ⟨x2, e2, hJ2⟩ := hJ.turned (s := j + 1) (n := n) (by omega) (by omega)
              rw [if_neg (nI_nle (by omega) (by have := hcl s; omega)), z_isChoice hJ (by omega) (by omega), Option.bind_some, e2]
              simp only [bd2_some]
              unfold jX5_fewestToTurn_59
              rw [nI_1]
              simp only [lE]
              refine ⟨ce, ?_⟩
              by_cases cc : wo (j + 1) (b 0) = 0 ∧ pc (j + 1) = i + 1
              · rw [decide_eq_true cc, if_neg (by decide)]
                by_cases cl : clt K b s ≤ clt K b (j + 1)
                · rw [if_pos (nI_le cl (by have := hcl (j + 1); omega))]
                  refine ⟨_, rfl, s, x2, rfl, hJ2, hA.1, hA.2.1, ?_, fun t ht hw hl => ?_⟩
                  · have := hA.2.2.1
                    unfold lx at *; omega
                  · by_cases e : t = j + 1
                    · subst e
                      have := hA.2.2.1
                      unfold lx Lz at *; omega
                    · exact hA.2.2.2 t ht hw (by unfold lx at *; omega)
                · rw [if_neg (nI_ge (by omega) (by have := hcl s; omega))]
                  refine ⟨_, rfl, j + 1, x2, rfl, hJ2, by omega, cc.1, ?_, fun t ht hw hl => ?_⟩
                  · unfold lx; omega
                  · by_cases e : t = j + 1
                    · subst e
                      unfold Lz; omega
                    · have := hA.2.2.2 t ht hw (by unfold lx at *; omega)
                      unfold Lz at *; omega
              · rw [decide_eq_false cc, if_pos (by decide), if_pos (nI_le (Nat.le_refl _) (by have := hcl s; omega))]
                refine ⟨_, rfl, s, h', rfl, hJ, hA.1, hA.2.1, ?_, fun t ht hw hl => ?_⟩
                · have := hA.2.2.1
                  unfold lx at *; omega
                · by_cases e : t = j + 1
                  · subst e
                    have h1 : ¬ pc (j + 1) = i + 1 := fun q => cc ⟨hw, q⟩
                    exact hA.2.2.2 _ ht hw (by unfold lx at *; omega)
                  · exact hA.2.2.2 t ht hw (by unfold lx at *; omega)
          · left
            have : j = b 0 := by omega
            subst this
            rw [if_pos (nI_lt (by omega) (by omega))]
            exact ⟨_, rfl, s, h', rfl, hJ, hA.next⟩)
        rw [d1, Option.bind_some, d2]
        simp only [lE, nI_1]
        exact ⟨c, _, rfl, s', h2, rfl, d3, d4⟩
    · left
      have : i = 10 := by omega
      subst this
      rw [if_pos (show (10 : Int32) < nI (10 + 1) by decide)]
      exact ⟨_, rfl, by rw [AgI.end hd10 hA], hJ⟩)
  rw [a1, Option.bind_some]
  obtain ⟨z1, z2⟩ := z
  exact ⟨z2, by rw [show z1 = nI (agN (clt K b) (b 0) (b 0)) from a2], a3⟩
theorem z_agreeM {y : Int32} (hI : Inv w K b hx hm) (hn : 1100 ≤ n) : it (fun (s : Int32 × Int32 × Int32) => bX6_agree_20 n RM 0 y s.1 s.2.1 s.2.2 hm) n (-1, 1000000, 0) = some (nI (agN (clt K b) (b 0) (b 0)), nI (clt K b (agN (clt K b) (b 0) (b 0)))) := by
  have hI0 := hI
  obtain ⟨i1, i2, i3, i4, i5, i6, -⟩ := hI
  have hM10 := i1.2.1
  have hd31 := p31 i6.1 (show K 0 1 ≤ 31 by omega)
  have hd10 : b 0 < 1024 := Nat.lt_of_lt_of_le i6.1 (Nat.pow_le_pow_right (by decide) hM10)
  have hcl := fun s => clt_le (K := K) (b := b) s
  have hpc := fun s => pc_le s
  have e98 : ∀ v2 v3 v4 v5 : Int32, ∀ q : Bool, jX6_agree_98 n RM 0 y v2 v3 v4 v5 (bI q) hm = some (.inl (if q then v4 else v2, if q then v5 else v3, v4 + 1)) := fun v2 v3 v4 v5 q => by
    unfold jX6_agree_98 jX6_agree_111
    simp only [lE]
    cases q <;> rfl
  have e980 : ∀ v2 v3 v4 v5 : Int32, jX6_agree_98 n RM 0 y v2 v3 v4 v5 0 hm = some (.inl (v2, v3, v4 + 1)) := fun v2 v3 v4 v5 => e98 v2 v3 v4 v5 false
  have e981 : ∀ v2 v3 v4 v5 : Int32, jX6_agree_98 n RM 0 y v2 v3 v4 v5 1 hm = some (.inl (v4, v5, v4 + 1)) := fun v2 v3 v4 v5 => e98 v2 v3 v4 v5 true
  have eb : ∀ v2 v3 : Int32, ∀ s, s ≤ b 0 → bX6_agree_20 n RM 0 y v2 v3 (nI s) hm = (if wo s (b 0) = 0 then (if nI (clt K b s) < v3 then some (.inl (nI s, nI (clt K b s), nI (s + 1))) else if nI (clt K b s) = v3 then (fX6_bits n RM v2 hm).bind (fun x24 => if x24 ≤ nI (pc s) then some (.inl (v2, v3, nI (s + 1))) else some (.inl (nI s, nI (clt K b s), nI (s + 1)))) else some (.inl (v2, v3, nI (s + 1)))) else some (.inl (v2, v3, nI (s + 1)))) := fun v2 v3 s hs => by
    have hw : wo s (b 0) < 2 ^ 10 := wo_lt (k := 10) (by omega)
    have hcb := (hI0.clash (n := n) hd31 (xor_le hI0 hs) (by omega)).2
    unfold bX6_agree_20
    simp only [ck_0, ck_1, cl_0, cl_1, rm22]
    rw [i5 0 (by omega), i5 1 (by omega), if_neg (nI_nlt hs (by omega)), z_wo, z_xor, hcb, Option.bind_some, z_bits (cls_2048 i1) (by omega), Option.bind_some, z_bits (by omega) (by omega), Option.bind_some]
    simp only [e980, e981, lE, nI_1]
    by_cases c : wo s (b 0) = 0
    · rw [if_pos (show nI (wo s (b 0)) = 0 by rw [c]; rfl), if_pos c]
      rfl
    · rw [if_neg (nI_ne0 (by omega) (by omega)), if_neg c]
  have key := it_val (b := fun (s : Int32 × Int32 × Int32) => bX6_agree_20 n RM 0 y s.1 s.2.1 s.2.2 hm) (fun i => match i with
    | 0 => (-1, 1000000, 0)
    | i + 1 => (nI (agN (clt K b) (b 0) i), nI (clt K b (agN (clt K b) (b 0) i)), nI (i + 1))) (nI (agN (clt K b) (b 0) (b 0)), nI (clt K b (agN (clt K b) (b 0) (b 0)))) (b 0 + 1) (n := n) (by omega) ?_ ?_
  · exact key
  · intro i hi
    cases i with
    | zero =>
      show bX6_agree_20 n RM 0 y (-1) 1000000 (nI 0) hm = some (.inl (nI 0, nI (clt K b 0), nI 1))
      rw [eb _ _ 0 (Nat.zero_le _), if_pos (wo_0 _), if_pos (show nI (clt K b 0) < 1000000 from nI_lt (b := 1000000) (by have := hcl 0; omega) (by omega))]
    | succ i =>
      show bX6_agree_20 n RM 0 y (nI (agN (clt K b) (b 0) i)) (nI (clt K b (agN (clt K b) (b 0) i))) (nI (i + 1)) hm = some (.inl (nI (agN (clt K b) (b 0) (i + 1)), nI (clt K b (agN (clt K b) (b 0) (i + 1))), nI (i + 1 + 1)))
      have ha := (agN_ok (f := clt K b) (d := b 0) i).1
      have h1 := hcl (agN (clt K b) (b 0) i)
      have h2 := hcl (i + 1)
      have h3 := hpc (i + 1)
      have h4 := hpc (agN (clt K b) (b 0) i)
      rw [eb _ _ (i + 1) (by omega), z_bits (by omega) (by omega), Option.bind_some]
      have es : agN (clt K b) (b 0) (i + 1) = if wo (i + 1) (b 0) = 0 ∧ (clt K b (i + 1) < clt K b (agN (clt K b) (b 0) i) ∨ (clt K b (i + 1) = clt K b (agN (clt K b) (b 0) i) ∧ pc (i + 1) < pc (agN (clt K b) (b 0) i))) then i + 1 else agN (clt K b) (b 0) i := rfl
      rw [es]
      by_cases c : wo (i + 1) (b 0) = 0
      · rw [if_pos c]
        by_cases c1 : clt K b (i + 1) < clt K b (agN (clt K b) (b 0) i)
        · rw [if_pos (nI_lt c1 (by omega)), if_pos ⟨c, Or.inl c1⟩]
        · rw [if_neg (nI_nlt (by omega) (by omega))]
          by_cases c2 : clt K b (i + 1) = clt K b (agN (clt K b) (b 0) i)
          · rw [if_pos (by rw [c2])]
            by_cases c3 : pc (i + 1) < pc (agN (clt K b) (b 0) i)
            · rw [if_neg (nI_ge c3 (by omega)), if_pos ⟨c, Or.inr ⟨c2, c3⟩⟩]
            · rw [if_pos (nI_le (by omega) (by omega)), if_neg (fun q => by omega)]
          · rw [if_neg (by rw [nI_eq (by omega) (by omega)]; exact c2), if_neg (fun q => by omega)]
      · rw [if_neg c, if_neg (fun q => c q.1)]
  · show bX6_agree_20 n RM 0 y (nI (agN (clt K b) (b 0) (b 0))) (nI (clt K b (agN (clt K b) (b 0) (b 0)))) (nI (b 0 + 1)) hm = _
    unfold bX6_agree_20
    rw [ck_0, cl_0, rm22, i5 0 (by omega), if_pos (nI_lt (by omega) (by omega))]
theorem sim_agree (hI : IV w hx hm) (y : Int32) (hn : 1100 ≤ n) : SimX w hm (fX5_agree n (RX w) 0 y hx) (fX6_agree n RM 0 y hm) := by
  have hI0 := hI
  obtain ⟨K, b, hI⟩ := hI
  unfold fX5_agree fX6_agree
  rw [z_within, z_in, Option.bind_some, Option.bind_some]
  rcases z_win y 0 1 (by omega) (by omega) with ⟨j, j1, j2, rfl, j4⟩ | j4
  · rw [show decide ((0 : Int32) ≤ nI j ∧ nI j ≤ 1) = true from j4]
    simp only [bI, if_true, n10, if_false]
    unfold lX6_agree_20
    obtain ⟨x1, e1, hJ⟩ := z_fewestToTurn (n := n) hI hn
    have ha := (agN_ok (f := clt K b) (d := b 0) (b 0)).1
    obtain ⟨x2, e2, hJ2⟩ := hJ.turned (n := n) ha (by omega)
    rw [e1, z_agreeM hI hn, Option.bind_some]
    simp only [bd2_some]
    rw [e2]
    simp only [bd2_some]
    rcases (by omega : j = 0 ∨ j = 1) with e | e
    · subst e
      rw [if_neg (show ¬ nI 0 = 1 by decide), if_pos (show nI 0 = 0 from rfl)]
      exact ⟨_, x2, rfl, rfl, K, b, hJ2⟩
    · subst e
      rw [if_pos (show nI 1 = 1 from rfl), if_neg (show ¬ nI 1 = 0 by decide)]
      exact ⟨_, x1, rfl, rfl, K, b, hJ⟩
  · rw [show decide ((0 : Int32) ≤ y ∧ y ≤ 1) = false from j4]
    exact SimX.no hI0 _
end AG
