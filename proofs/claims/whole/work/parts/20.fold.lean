/-! ===== a fold that lays islands on one another ===== -/
/-- two loops that go alike -/
theorem it_same {s q : Type} {b d : s → Option (s ⊕ q)} (I : Nat → s → Prop) (e : Nat) {n m : Nat} {x : s} (hn : e < n) (hm : e < m) (h0 : I 0 x) (hs : ∀ i x, i ≤ e → I i x → (∃ z, b x = some (.inr z) ∧ d x = some (.inr z)) ∨ (i < e ∧ ∃ y, b x = some (.inl y) ∧ d x = some (.inl y) ∧ I (i + 1) y)) : ∃ z, it b n x = some z ∧ it d m x = some z := by
  obtain ⟨z, v, h1, h2, h3⟩ := it_two (b := b) (d := d) (fun i x y => x = y ∧ I i x) (fun z v => z = v) e hn hm ⟨rfl, h0⟩ (by
    rintro i x y hi ⟨rfl, hx⟩
    rcases hs i x hi hx with ⟨z, g1, g2⟩ | ⟨g0, y, g1, g2, g3⟩
    · exact Or.inl ⟨z, z, g1, g2, rfl⟩
    · exact Or.inr ⟨g0, y, y, g1, g2, rfl, g3⟩)
  subst h3
  exact ⟨z, h1, h2⟩
theorem wo_wo (a b c : Nat) : wo (wo a b) c = wo a (b ||| c) := by
  apply Nat.eq_of_testBit_eq
  intro i
  rw [wo_tb, wo_tb, wo_tb, Nat.testBit_or]
  cases a.testBit i <;> cases b.testBit i <;> cases c.testBit i <;> rfl
/-- those beside a, but for b -/
def bes (K : Kd) (d a b : Nat) : Nat := wo (wid K d (2 ^ a) (K 0 1)) (2 ^ a ||| 2 ^ b)
def lie (K : Kd) (d a b : Nat) : Bool := decide (bes K d a b = bes K d b a) && decide (bes K d a b ≠ 0)
theorem or_cm (a b : Nat) : a ||| b = b ||| a := Nat.or_comm a b
section FO
variable {w : Bool} {K : Kd} {b : Nat → Nat} {hx hm : Hp} {n : Nat}
theorem z_liesOn {a c : Nat} (hI : Inv w K b hx hm) (ha : a < K 0 0) (hc : c < K 0 0) (hn : 20 ≤ n) : fX5_liesOn n (RX w) 0 (nI a) (nI c) hx = some (bI (lie K (b 0) a c)) := by
  obtain ⟨i1, i2, i3, i4, i5, i6, -⟩ := hI
  have hM10 := i1.2.1
  have hN := i1.1
  have hd31 := p31 i6.1 (show K 0 1 ≤ 31 by omega)
  have hlt : ∀ x y, x < K 0 0 → bes K (b 0) x y < 2 ^ 31 := fun x y hx => p31 (wo_lt (wid_lt i1 (pw_lt hx) _ (Nat.le_refl _))) (by omega)
  unfold fX5_liesOn
  simp only [lE]
  rw [rx01, rx03, i4.1, z_shl (by omega), z_shl (by omega), z_widen i2 i1 hd31 (pw_lt ha) hn, z_widen i2 i1 hd31 (pw_lt hc) hn, z_or]
  simp only [Option.bind_some, z_wo]
  rw [show wo (wid K (b 0) (2 ^ a) (K 0 1)) (2 ^ a ||| 2 ^ c) = bes K (b 0) a c from rfl, or_cm, show wo (wid K (b 0) (2 ^ c) (K 0 1)) (2 ^ c ||| 2 ^ a) = bes K (b 0) c a from rfl]
  unfold lie
  by_cases e1 : bes K (b 0) a c = bes K (b 0) c a
  · rw [if_pos (by rw [e1]), decide_eq_true e1]
    by_cases e2 : bes K (b 0) a c = 0
    · rw [if_pos (by rw [e2]; rfl), decide_eq_false (by simp [e2])]; rfl
    · rw [if_neg (nI_ne0 (by omega) (hlt _ _ ha)), decide_eq_true e2]; rfl
  · rw [if_neg (by rw [nI_eq (hlt _ _ ha) (hlt _ _ hc)]; exact e1), decide_eq_false e1]; rfl
theorem z_others {a : Nat} (hI : Inv w K b hx hm) (ha : a < K 0 0) (hn : 20 ≤ n) : fX6_others n RM 0 (nI a) hm = some (nI (wo (wid K (b 0) (2 ^ a) (K 0 1)) (2 ^ a))) := by
  obtain ⟨i1, i2, i3, i4, i5, i6, -⟩ := hI
  have hM10 := i1.2.1
  have hN := i1.1
  have hd31 := p31 i6.1 (show K 0 1 ≤ 31 by omega)
  unfold fX6_others
  rw [ck_0, cl_0, rm22, i5 0 (by omega), z_shl (by omega), z_onward i3 i1 hd31 (pw_lt ha) hn, Option.bind_some, z_wo]
theorem sim_fold (hI : IV w hx hm) (x : Int32) (hn : 20 ≤ n) : Sim0 (fX5_fold n (RX w) 0 x hx) (fX6_fold n RM 0 x hm) := by
  obtain ⟨K, b, hI⟩ := hI
  have hI0 := hI
  obtain ⟨i1, i2, i3, i4, i5, i6, -⟩ := hI
  have hN := i1.1
  have hlt : ∀ x y, x < K 0 0 → bes K (b 0) x y < 2 ^ 31 := fun x y hx => p31 (wo_lt (wid_lt i1 (pw_lt hx) _ (Nat.le_refl _))) (by omega)
  unfold fX5_fold fX6_fold lX5_fold_4 lX6_fold_4
  obtain ⟨z, h1, h2⟩ := it_same (b := fun (s : Int32 × Int32) => bX5_fold_4 n (RX w) 0 x s.1 s.2 hx) (d := fun (s : Int32 × Int32) => bX6_fold_4 n RM 0 x s.1 s.2 hm) (fun i s => ∃ c, s = (c, nI i)) (K 0 0) (n := n) (m := n) (x := (0, 0)) (by omega) (by omega) ⟨0, rfl⟩ (by
    rintro i s hi ⟨c, rfl⟩
    show (∃ z, bX5_fold_4 n (RX w) 0 x c (nI i) hx = _ ∧ bX6_fold_4 n RM 0 x c (nI i) hm = _) ∨ (_ ∧ ∃ y, bX5_fold_4 n (RX w) 0 x c (nI i) hx = _ ∧ bX6_fold_4 n RM 0 x c (nI i) hm = _ ∧ _)
    unfold bX5_fold_4 bX6_fold_4
    rw [rx01, i2.1, i3.1]
    by_cases ce : i < K 0 0
    · rw [if_neg (nI_ge ce (by omega)), if_neg (nI_ge ce (by omega)), nI_1]
      simp only [lE]
      unfold lX5_fold_20 lX6_fold_17
      obtain ⟨z, h1, h2⟩ := it_same (b := fun (s : Int32 × Int32) => bX5_fold_20 n (RX w) 0 x s.1 (nI i) s.2 hx) (d := fun (s : Int32 × Int32) => bX6_fold_17 n RM 0 x s.1 (nI i) s.2 hm) (fun j s => ∃ c, s = (c, nI (i + 1 + j))) (K 0 0 - (i + 1)) (n := n) (m := n) (x := (c, nI (i + 1))) (by omega) (by omega) ⟨c, rfl⟩ (by
        rintro j s hj ⟨c, rfl⟩
        show (∃ z, bX5_fold_20 n (RX w) 0 x c (nI i) (nI (i + 1 + j)) hx = _ ∧ bX6_fold_17 n RM 0 x c (nI i) (nI (i + 1 + j)) hm = _) ∨ (_ ∧ ∃ y, bX5_fold_20 n (RX w) 0 x c (nI i) (nI (i + 1 + j)) hx = _ ∧ bX6_fold_17 n RM 0 x c (nI i) (nI (i + 1 + j)) hm = _ ∧ _)
        unfold bX5_fold_20 bX6_fold_17
        rw [rx01, i2.1, i3.1]
        by_cases cf : i + 1 + j < K 0 0
        · rw [if_neg (nI_ge cf (by omega)), if_neg (nI_ge cf (by omega)), z_liesOn hI0 ce cf hn, z_others hI0 ce hn, z_others hI0 cf hn]
          simp only [lE, Option.bind_some]
          rw [z_shl (by omega), z_shl (by omega), z_wo, z_wo, wo_wo, wo_wo, nI_1, show wo (wid K (b 0) (2 ^ i) (K 0 1)) (2 ^ i ||| 2 ^ (i + 1 + j)) = bes K (b 0) i (i + 1 + j) from rfl, show wo (wid K (b 0) (2 ^ (i + 1 + j)) (K 0 1)) (2 ^ (i + 1 + j) ||| 2 ^ i) = bes K (b 0) (i + 1 + j) i from rfl]
          unfold lie
          by_cases e2 : bes K (b 0) i (i + 1 + j) = 0
          · right
            rw [if_pos (show nI (bes K (b 0) i (i + 1 + j)) = 0 by rw [e2]; rfl), if_pos (by rw [bI_0, e2]; simp)]
            exact ⟨by omega, _, rfl, rfl, _, rfl⟩
          · rw [if_neg (nI_ne0 (by omega) (hlt _ _ ce))]
            by_cases e1 : bes K (b 0) i (i + 1 + j) = bes K (b 0) (i + 1 + j) i
            · rw [if_pos (show nI (bes K (b 0) i (i + 1 + j)) = nI (bes K (b 0) (i + 1 + j) i) by rw [e1]), if_neg (by rw [bI_0, decide_eq_true e1, decide_eq_true e2]; decide)]
              by_cases cx : c = x
              · left
                rw [if_pos cx]
                exact ⟨_, rfl, rfl⟩
              · right
                rw [if_neg cx]
                exact ⟨by omega, _, rfl, rfl, _, rfl⟩
            · right
              rw [if_neg (show ¬ nI (bes K (b 0) i (i + 1 + j)) = nI (bes K (b 0) (i + 1 + j) i) by rw [nI_eq (hlt _ _ ce) (hlt _ _ cf)]; exact e1), if_pos (by rw [bI_0, decide_eq_false e1]; rfl)]
              exact ⟨by omega, _, rfl, rfl, _, rfl⟩
        · left
          rw [if_pos (nI_le (by omega) (by omega)), if_pos (nI_le (by omega) (by omega))]
          exact ⟨_, rfl, rfl⟩)
      rw [h1, h2, Option.bind_some, Option.bind_some]
      cases z with
      | inl z => exact Or.inl ⟨_, rfl, rfl⟩
      | inr z => exact Or.inr ⟨ce, _, rfl, rfl, _, by rw [nI_1]⟩
    · left
      rw [if_pos (nI_le (by omega) (by omega)), if_pos (nI_le (by omega) (by omega))]
      exact ⟨_, rfl, rfl⟩)
  rw [h1, h2, Option.bind_some, Option.bind_some]
  cases z with
  | inl z => exact Sim0.rf _
  | inr z => exact Sim0.ite (Sim0.rf _) (Sim0.rf _)
end FO
