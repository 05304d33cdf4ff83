/-! ===== first ===== -/
def ntv (v : Int32) : Option Int32 := fX5_leastOf 0 (fun _ _ => 0) v (fun _ _ => 0, fun _ _ => 0)
theorem ntv_all : ∀ m, m < 1024 → ntv (nI m) = some (oI (ff (fun i => m.testBit i) 10 0)) := by decide +kernel
theorem z_leastOf {n : Nat} {r : Rf} {h : Hp} {m : Nat} (hm : m < 1024) : fX5_leastOf n r (nI m) h = some (oI (ff (fun i => m.testBit i) 10 0)) := ntv_all m hm
theorem ff_congr {P Q : Nat → Bool} : ∀ (k i : Nat), (∀ j, i ≤ j → j < i + k → P j = Q j) → ff P k i = ff Q k i := by
  intro k
  induction k with
  | zero => intro i _; rfl
  | succ k ih =>
    intro i h
    unfold ff
    rw [h i (Nat.le_refl _) (by omega), ih (i + 1) (fun j h1 h2 => h j (by omega) (by omega))]
theorem ff_ext {P : Nat → Bool} {e e' : Nat} (he : e ≤ e') (h : ∀ j, e ≤ j → j < e' → P j = false) : ff P e' 0 = ff P e 0 := by
  cases q : ff P e 0 with
  | none => exact ff_no (fun m hm => by
      by_cases c : m < e
      · exact ff_none e 0 q m (by omega) (by omega)
      · exact h m (by omega) hm)
  | some j =>
    obtain ⟨-, h2, h3, h4⟩ := ff_some e 0 j q
    exact ff_at (by omega) h3 (fun m hm => h4 m (by omega) hm)
section FI
variable {w : Bool} {K : Kd} {b : Nat → Nat} {hx hm : Hp} {n : Nat}
def anyN (K : Kd) (b : Nat → Nat) (i : Nat) : Bool := (ff (bkN K b i) (K 0 1) 0).isSome
theorem anyN_no {i : Nat} (h : anyN K b i = false) : ∀ l, l < K 0 1 → bkN K b i l = false := by
  unfold anyN at h
  cases q : ff (bkN K b i) (K 0 1) 0 with
  | none => exact fun l hl => ff_none _ 0 q l (by omega) (by omega)
  | some j => rw [q] at h; cases h
theorem pas_same {c : Nat → Nat} (hb : c 0 < 2 ^ (K 0 1)) (h : ∀ l, l < K 0 1 → brk K c (wnd K (c 3)) l = false) : pas K c 0 = c 0 := by
  show wo (c 0) _ = _
  apply Nat.eq_of_testBit_eq
  intro i
  rw [wo_tb, brs_tb]
  by_cases c1 : i < K 0 1
  · simp [c1, h i c1]
  · simp [c1]
theorem pasN_same {i : Nat} (hb : BB K b) (h3 : b 3 ≤ 90030) (hi : i ≤ 200) (h : ∀ j, j < i → anyN K b j = false) : pasN K b i 0 = b 0 := by
  induction i with
  | zero => rfl
  | succ i ih =>
    have e := ih (by omega) (fun j hj => h j (by omega))
    show pas K (pasN K b i) 0 = b 0
    rw [pas_same (pasN_BB hb h3 i (by omega)).1 (anyN_no (h i (by omega))), e]
theorem z_firstLoop (hI : Inv w K b hx hm) (y : Int32) {h0 : Hp} (b2 : Bm h0 13 b) (b3 : Fr (fun a => a = 13) hm h0) (hn : 300 ≤ n) : (∃ i, i < 200 ∧ ff (anyN K b) 200 0 = some i ∧ ∃ h', it (fun (s : Int32 × Hp) => bX6_first_18 n RM 0 y s.1 s.2) n (1, h0) = some (.inl (nI (i + 1), oI (ff (bkN K b i) (K 0 1) 0), h')) ∧ Fr (fun a => a = 13) hm h') ∨ (ff (anyN K b) 200 0 = none ∧ ∃ h', it (fun (s : Int32 × Hp) => bX6_first_18 n RM 0 y s.1 s.2) n (1, h0) = some (.inr h') ∧ Fr (fun a => a = 13) hm h') := by
  have hM10 := hI.1.2.1
  have step : ∀ i h1, i < 200 → Fr (fun a => a = 13) hm h1 → Bm h1 13 (pasN K b i) → ∃ h2, bX6_first_18 n RM 0 y (nI (i + 1)) h1 = (if anyN K b i = false then some (.inl (nI (i + 2), h2)) else some (.inr (.inl (nI (i + 1), oI (ff (bkN K b i) (K 0 1) 0), h2)))) ∧ Fr (fun a => a = 13) hm h2 ∧ Bm h2 13 (pasN K b (i + 1)) := by
    intro i h1 hi f1 f2
    obtain ⟨h2, g1, g2, g3⟩ := z_tpM (n := n) hI f1 f2 (pasN_BB hI.2.2.2.2.2.1 hI.2.2.2.2.2.2.1 i (by omega)) (by omega)
    refine ⟨h2, ?_, g3, g2⟩
    unfold bX6_first_18
    rw [if_neg (show ¬ (200 : Int32) < nI (i + 1) from nI_nlt (a := 200) (by omega) (by omega)), rm23, show fX6_passes n RM 0 13 16 h1 = some (oI (ff (bkN K b i) (K 0 1) 0), h2) from g1]
    simp only [bd2_some, lE, nI_1]
    unfold anyN
    cases q : ff (bkN K b i) (K 0 1) 0 with
    | none => rfl
    | some j =>
      obtain ⟨-, h2', -, -⟩ := ff_some _ 0 j q
      have hne : ¬ oI (some j) = -1 := nI_m1 (by omega)
      rw [if_neg hne]
      rfl
  rcases it_findH (b := fun (s : Int32 × Hp) => bX6_first_18 n RM 0 y s.1 s.2) (fun i s => ∃ h', s = (nI (i + 1), h') ∧ Fr (fun a => a = 13) hm h' ∧ Bm h' 13 (pasN K b i)) (anyN K b) (fun i z => ∃ h', z = .inl (nI (i + 1), oI (ff (bkN K b i) (K 0 1) 0), h') ∧ Fr (fun a => a = 13) hm h') (fun z => ∃ h', z = .inr h' ∧ Fr (fun a => a = 13) hm h') 200 (by
      rintro i x hi ⟨h1, rfl, f1, f2⟩ hp
      obtain ⟨h2, g1, g2, g3⟩ := step i h1 hi f1 f2
      rw [if_pos hp] at g1
      exact ⟨_, g1, h2, rfl, g2, g3⟩) (by
      rintro i x hi ⟨h1, rfl, f1, f2⟩ hp
      obtain ⟨h2, g1, g2, g3⟩ := step i h1 hi f1 f2
      rw [if_neg (by rw [hp]; decide)] at g1
      exact ⟨_, g1, h2, rfl, g2⟩) (by
      rintro x ⟨h1, rfl, f1, f2⟩
      refine ⟨_, ?_, h1, rfl, f1⟩
      show bX6_first_18 n RM 0 y (nI (200 + 1)) h1 = _
      unfold bX6_first_18
      rw [if_pos (by decide +kernel)]) (n := n) (x := (1, h0)) (by omega) ⟨h0, rfl, b3, b2⟩ with ⟨i, i1, i2, z, e1, h', rfl, e3⟩ | ⟨i2, z, e1, h', rfl, e3⟩
  · exact Or.inl ⟨i, i1, i2, h', e1, e3⟩
  · exact Or.inr ⟨i2, h', e1, e3⟩
theorem sim_first (hI : IV w hx hm) (x : Int32) (hn : 300 ≤ n) : Sim w (fX5_first n (RX w) 0 x hx) (fX6_first n RM 0 x hm) := by
  have hI0 := hI
  obtain ⟨K, b, hI⟩ := hI
  have hM10 := hI.1.2.1
  have hbb := hI.2.2.2.2.2.1
  have h90 := hI.2.2.2.2.2.2.1
  unfold fX5_first fX6_first
  rw [z_within, z_in, Option.bind_some, Option.bind_some, rx03, hI.2.2.2.1.1]
  rcases z_win x 0 1 (by omega) (by omega) with ⟨j, j1, j2, rfl, j4⟩ | j4
  · obtain ⟨x1, e1, e2⟩ := z_until (n := n) (set := b 0) (anyN K b) hI hbb.1 (fun i hi => by
      constructor
      · intro h
        unfold anyN
        rw [ff_no (fun l hl => ?_)]; rfl
        cases q : bkN K b i l with
        | false => rfl
        | true =>
          have hsub : ∀ i, (pasN K b i 0).testBit l = true → (b 0).testBit l = true := by
            intro i
            induction i with
            | zero => exact fun h => h
            | succ i ih =>
              intro h
              have h' : (pas K (pasN K b i) 0).testBit l = true := h
              rw [pas_0 hl] at h'
              exact ih (by simp at h'; exact h'.1)
          have hd : (b 0).testBit l = true := hsub i (by unfold bkN brk at q; simp at q; exact q.1)
          have : (brs K (pasN K b i) (wnd K (pasN K b i 3)) (K 0 1) &&& b 0).testBit l = false := by rw [h]; exact Nat.zero_testBit l
          rw [Nat.testBit_and, brs_tb, hd] at this
          simp [hl] at this
          unfold bkN at q
          rw [q] at this; cases this
      · intro h
        have h0 := anyN_no h
        apply Nat.eq_of_testBit_eq
        intro l
        rw [Nat.testBit_and, brs_tb, Nat.zero_testBit]
        by_cases c : l < K 0 1
        · have := h0 l c; unfold bkN at this; simp [c, this]
        · simp [c]) hn
    obtain ⟨h0, b1, b2, b3⟩ := z_copyNow (n := n) hI (by omega)
    rw [show decide ((0 : Int32) ≤ nI j ∧ nI j ≤ 1) = true from j4, e1, b1]
    simp only [bI, if_true, n10, if_false, bd2_some, Option.bind_some]
    unfold lX6_first_18
    rcases z_firstLoop (n := n) hI (nI j) b2 b3 hn with ⟨i, i1, i2, m1, f1, f2⟩ | ⟨i2, m1, f1, f2⟩
    · have hJ := hI.tri e2 (FrM.of (Q := fun _ => False) f2 (by decide))
      have hne : ¬ nI (i + 1) = -1 := nI_m1 (by omega)
      rw [f1, i2]
      simp only [Option.map_some, oI, Option.bind_some, hne, if_false]
      rcases (by omega : j = 0 ∨ j = 1) with hj | hj
      · subst hj
        rw [if_neg (show ¬ nI 0 = 1 by decide), if_pos (show nI 0 = 0 from rfl)]
        obtain ⟨x2, g1, g2⟩ := z_doneUpBehind (n := n) (k := i + 1) hJ (by omega) hn
        rw [g1]
        simp only [bd2_some]
        obtain ⟨-, -, ffa, ffb⟩ := ff_some 200 0 i i2
        have hs : pasN K b i 0 = b 0 := pasN_same hbb h90 (by omega) (fun m hm => ffb m (by omega) hm)
        have hw : wo (b 0) (pasN K b (i + 1) 0) = brs K (pasN K b i) (wnd K (pasN K b i 3)) (K 0 1) := by
          apply Nat.eq_of_testBit_eq
          intro l
          rw [wo_tb, show pasN K b (i + 1) 0 = wo (pasN K b i 0) (brs K (pasN K b i) (wnd K (pasN K b i 3)) (K 0 1)) from rfl, wo_tb, brs_tb, hs]
          by_cases c : l < K 0 1
          · have : brk K (pasN K b i) (wnd K (pasN K b i 3)) l = true → (b 0).testBit l = true := fun h => by
              unfold brk at h; rw [hs] at h; simp at h; exact h.1
            cases q : brk K (pasN K b i) (wnd K (pasN K b i 3)) l with
            | true => simp [c, this q]
            | false => simp
          · simp [c]
        have hlt : brs K (pasN K b i) (wnd K (pasN K b i 3)) (K 0 1) < 1024 := Nat.lt_of_lt_of_le (brs_lt _) (Nat.pow_le_pow_right (by decide) (show K 0 1 ≤ 10 by omega))
        rw [hJ.2.2.2.1.1, z_wo, hw, z_leastOf hlt, Option.bind_some]
        have hfe : ff (fun l => (brs K (pasN K b i) (wnd K (pasN K b i 3)) (K 0 1)).testBit l) 10 0 = ff (bkN K b i) (K 0 1) 0 := by
          rw [ff_ext hM10 (fun l h1 h2 => z_tbl (brs_lt _) h1)]
          exact ff_congr _ 0 (fun l _ h2 => by rw [brs_tb]; simp [show l < K 0 1 by omega, bkN])
        rw [hfe]
        exact ⟨_, _, _, rfl, rfl, K, b, hI.tri (e2.tr g2) (FrM.of f2 (by decide))⟩
      · subst hj
        rw [if_pos (show nI 1 = 1 from rfl), if_neg (show ¬ nI 1 = 0 by decide)]
        exact ⟨_, _, _, rfl, rfl, K, b, hJ⟩
    · rw [f1, i2]
      exact ⟨_, _, _, rfl, rfl, K, b, hI.tri e2 (FrM.of f2 (by decide))⟩
  · rw [show decide ((0 : Int32) ≤ x ∧ x ≤ 1) = false from j4]
    exact Sim.no hI0 _
end FI
