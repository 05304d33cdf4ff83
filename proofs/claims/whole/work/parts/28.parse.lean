/-! ===== the text: blanks, numbers, signs ===== -/
/-- where a run of C from p on ends -/
def spn (C : Nat → Bool) (k p : Nat) : Nat := p + (ff (fun j => !(decide (p + j < k) && C (p + j))) (k + 1) 0).getD 0
theorem spn_ok {C : Nat → Bool} {k p : Nat} (hp : p ≤ k) : ∃ c, spn C k p = p + c ∧ p + c ≤ k ∧ (∀ j, j < c → p + j < k ∧ C (p + j) = true) ∧ (p + c < k → C (p + c) = false) := by
  unfold spn
  cases hf : ff (fun j => !(decide (p + j < k) && C (p + j))) (k + 1) 0 with
  | none =>
    have := ff_none _ _ hf (k - p) (by omega) (by omega)
    rw [show p + (k - p) = k by omega] at this
    simp at this
  | some c =>
    obtain ⟨-, h1, h2, h3⟩ := ff_some _ _ _ hf
    refine ⟨c, rfl, ?_, fun j hj => ?_, fun h => ?_⟩
    · by_cases e : p + c ≤ k
      · exact e
      · have := h3 (k - p) (by omega) (by omega)
        rw [show p + (k - p) = k by omega] at this
        simp at this
    · have := h3 j (by omega) hj
      simpa using this
    · simpa [h] using h2
def isB (T : Nat → Nat) (i : Nat) : Bool := decide (T i = 32)
def isD (T : Nat → Nat) (i : Nat) : Bool := decide (48 ≤ T i ∧ T i ≤ 57)
def sk (T : Nat → Nat) (k p : Nat) : Nat := spn (isB T) k p
theorem sk_ok {T : Nat → Nat} {k p : Nat} (hp : p ≤ k) : p ≤ sk T k p ∧ sk T k p ≤ k ∧ (sk T k p < k → T (sk T k p) ≠ 32) := by
  obtain ⟨c, h1, h2, h3, h4⟩ := spn_ok (C := isB T) hp
  unfold sk
  rw [h1]
  exact ⟨by omega, h2, fun h => of_decide_eq_false (h4 h)⟩
theorem sk_sk {T : Nat → Nat} {k p : Nat} (hp : p ≤ k) : sk T k (sk T k p) = sk T k p := by
  obtain ⟨h1, h2, h3⟩ := sk_ok (T := T) hp
  obtain ⟨c, g1, g2, g3, g4⟩ := spn_ok (C := isB T) h2
  show spn (isB T) k (sk T k p) = _
  rw [g1]
  by_cases e : c = 0
  · omega
  · have := g3 0 (by omega)
    exact absurd (of_decide_eq_true this.2) (by have := h3 (by omega); exact this)
/-- the figures' value: as the class has it, as the reference has it -/
def cvl (T : Nat → Nat) (s : Nat) : Nat → Nat
  | 0 => 0
  | j + 1 => if j < 3 then cvl T s j * 10 + (T (s + j) - 48) else cvl T s j
def mvl (T : Nat → Nat) (s : Nat) : Nat → Nat
  | 0 => 0
  | j + 1 => if mvl T s j ≤ 999 then 10 * mvl T s j + (T (s + j) - 48) else mvl T s j
theorem cvl_eq {T : Nat → Nat} {s : Nat} : ∀ j, j ≤ 3 → (∀ i, i < j → isD T (s + i) = true) → cvl T s j = mvl T s j ∧ cvl T s j < 10 ^ j := by
  intro j
  induction j with
  | zero => intro _ _; exact ⟨rfl, Nat.one_pos⟩
  | succ j ih =>
    intro hj hd
    obtain ⟨h1, h2⟩ := ih (by omega) (fun i hi => hd i (by omega))
    have hT := of_decide_eq_true (hd j (by omega))
    unfold cvl mvl
    rw [if_pos (by omega), ← h1, if_pos (by have := Nat.pow_le_pow_right (show 10 > 0 by decide) (show j ≤ 2 by omega); omega)]
    refine ⟨by omega, ?_⟩
    rw [Nat.pow_succ]
    omega
theorem cvl_le {T : Nat → Nat} {s : Nat} : ∀ j, (∀ i, i < j → isD T (s + i) = true) → cvl T s j ≤ 999 := by
  intro j
  induction j with
  | zero => intro _; exact Nat.zero_le _
  | succ j ih =>
    intro hd
    by_cases e : j < 3
    · have := (cvl_eq (j + 1) (by omega) hd).2
      have := Nat.pow_le_pow_right (show 10 > 0 by decide) (show j + 1 ≤ 3 by omega)
      omega
    · unfold cvl
      rw [if_neg e]
      exact ih (fun i hi => hd i (by omega))
theorem mvl_le {T : Nat → Nat} {s : Nat} : ∀ j, (∀ i, i < j → isD T (s + i) = true) → mvl T s j ≤ 9999 := by
  intro j
  induction j with
  | zero => intro _; exact Nat.zero_le _
  | succ j ih =>
    intro hd
    have := ih (fun i hi => hd i (by omega))
    have hT := of_decide_eq_true (hd j (by omega))
    unfold mvl
    split <;> omega
/-- a number at p: its fault and where, or its value and where it ends -/
def nmr (T : Nat → Nat) (k lo hi p : Nat) : (Nat × Nat) ⊕ (Nat × Nat) :=
  let s := sk T k p
  let c := spn (isD T) k s - s
  if c = 0 then .inl (1, s) else if 3 < c ∨ ¬ (lo ≤ cvl T s c ∧ cvl T s c ≤ hi) then .inl (2, s) else .inr (cvl T s c, s + c)
def Cs (T : Nat → Nat) (k : Nat) (h : Hp) (p f : Nat) (fa : Int32) : Prop := h.1 1 1 = nI k ∧ h.1 1 2 = nI p ∧ h.1 1 3 = nI f ∧ h.1 1 4 = fa ∧ (∀ i, i < k → h.1 2 i = nI (T i)) ∧ p ≤ k ∧ f ≤ 4
def Ms (T : Nat → Nat) (k : Nat) (h : Hp) (p : Nat) : Prop := h.1 0 0 = nI k ∧ h.1 0 2 = nI p ∧ (∀ i, i < k → h.1 1 i = nI (T i)) ∧ p ≤ k
def TT (T : Nat → Nat) (k : Nat) : Prop := k ≤ 240 ∧ ∀ i, i < k → T i ≤ 255
abbrev Fr1 (h h' : Hp) : Prop := Fr (fun a => a = 1) h h'
abbrev FrN (h h' : Hp) : Prop := FrM (fun _ => False) (fun j => j = 2 ∨ j = 3 ∨ j = 4) h h'
theorem fr1 {h : Hp} {j : Nat} {v : Int32} : Fr1 h (pI h 1 j v) := Fr.pI rfl
theorem fn2 {h : Hp} {v : Int32} : FrN h (pI h 0 2 v) := FrM.p0 (Or.inl rfl)
theorem fn3 {h : Hp} {v : Int32} : FrN h (pI h 0 3 v) := FrM.p0 (Or.inr (Or.inl rfl))
theorem fn4 {h : Hp} {v : Int32} : FrN h (pI h 0 4 v) := FrM.p0 (Or.inr (Or.inr rfl))
theorem pI_pI {h : Hp} {a j : Nat} {x y : Int32} : pI (pI h a j x) a j y = pI h a j y := by
  unfold pI
  refine Prod.ext ?_ rfl
  funext u v
  by_cases c : u = a
  · simp only [c, if_true]
    by_cases c2 : v = j <;> simp [c2]
  · simp [c]
section PA
variable {w : Bool} {T : Nat → Nat} {k n p f : Nat} {h : Hp} {fa : Int32}
theorem Cs.at (hC : Cs T k h p f fa) {q : Nat} (hq : q ≤ k) : Cs T k (pI h 1 2 (nI q)) q f fa := by
  obtain ⟨h1, h2, h3, h4, h5, h6, h7⟩ := hC
  exact ⟨by rw [pI_nj (by decide)]; exact h1, pI_eq, by rw [pI_nj (by decide)]; exact h3, by rw [pI_nj (by decide)]; exact h4, fun i hi => by rw [pI_nk (by decide)]; exact h5 i hi, hq, h7⟩
theorem Ms.at (hC : Ms T k h p) {q : Nat} (hq : q ≤ k) : Ms T k (pI h 0 2 (nI q)) q := by
  obtain ⟨h1, h2, h5, h6⟩ := hC
  exact ⟨by rw [pI_nj (by decide)]; exact h1, pI_eq, fun i hi => by rw [pI_nk (by decide)]; exact h5 i hi, hq⟩
theorem z_skip (hC : Cs T k h p f fa) (hT : TT T k) (hn : 300 ≤ n) : fX4_skipBlanks n (RX w) 1 h = some (pI h 1 2 (nI (sk T k p))) := by
  have hk := hT.1
  obtain ⟨c, e1, e2, e3, e4⟩ := spn_ok (C := isB T) hC.2.2.2.2.2.1
  unfold fX4_skipBlanks lX4_skipBlanks_0 sk
  rw [e1]
  have key := it_val (b := fun (s : Hp) => bX4_skipBlanks_0 n (RX w) 1 s) (fun j => pI h 1 2 (nI (p + j))) (pI h 1 2 (nI (p + c))) c (n := n) (by omega) ?_ ?_
  · rw [show h = pI h 1 2 (nI (p + 0)) from (pI_same hC.2.1).symm]
    rw [show pI (pI h 1 2 (nI (p + 0))) 1 2 (nI (p + c)) = pI h 1 2 (nI (p + c)) from pI_pI, key]
    rfl
  · intro j hj
    obtain ⟨g1, g2⟩ := e3 j hj
    have hJ := hC.at (q := p + j) (by omega)
    show bX4_skipBlanks_0 n (RX w) 1 (pI h 1 2 (nI (p + j))) = _
    unfold bX4_skipBlanks_0
    rw [rx10, hJ.1, hJ.2.1, if_neg (nI_ge g1 (by omega)), z_ck (by omega) (by omega), nI_clamp (by omega), hJ.2.2.2.2.1 _ g1, if_pos (show nI (T (p + j)) = 32 by rw [of_decide_eq_true g2]; rfl), nI_1]
    simp only [lE]
    rw [pI_pI]
    rfl
  · have hJ := hC.at (q := p + c) e2
    show bX4_skipBlanks_0 n (RX w) 1 (pI h 1 2 (nI (p + c))) = _
    unfold bX4_skipBlanks_0
    rw [rx10, hJ.1, hJ.2.1]
    by_cases q : p + c < k
    · have hq := hT.2 _ q
      rw [if_neg (nI_ge q (by omega)), z_ck (by omega) (by omega), nI_clamp (by omega), hJ.2.2.2.2.1 _ q, if_neg (show ¬ nI (T (p + c)) = 32 by rw [show (32 : Int32) = nI 32 from rfl, nI_eq (by omega) (by omega)]; exact of_decide_eq_false (e4 q))]
    · rw [if_pos (nI_le (by omega) (by omega))]
theorem z_fail0 (hC : Cs T k h p 0 fa) {kd s : Nat} (hkd : kd ≤ 4) : ∃ h', fX4_fail n (RX w) 1 (nI kd) (nI s) h = some h' ∧ Cs T k h' p kd (nI s) ∧ Fr1 h h' := by
  obtain ⟨h1, h2, h3, h4, h5, h6, h7⟩ := hC
  unfold fX4_fail
  rw [h3, if_pos (show nI 0 = 0 from rfl)]
  simp only [lE]
  refine ⟨_, rfl, ⟨?_, ?_, ?_, pI_eq, fun i hi => ?_, h6, hkd⟩, fr1.tr fr1⟩
  · rw [pI_nj (by decide), pI_nj (by decide)]; exact h1
  · rw [pI_nj (by decide), pI_nj (by decide)]; exact h2
  · rw [pI_nj (by decide), pI_eq]
  · rw [pI_nk (by decide), pI_nk (by decide)]; exact h5 i hi
theorem z_fail1 (hC : Cs T k h p f fa) (hf : f ≠ 0) {x y : Int32} : fX4_fail n (RX w) 1 x y h = some h := by
  unfold fX4_fail
  rw [hC.2.2.1, if_neg (nI_ne0 (by omega) (by have := hC.2.2.2.2.2.2; omega))]
theorem nI_nle' {a b : Nat} (ha : a < 2 ^ 31) (hb : b < 2 ^ 31) : decide (nI a ≤ nI b) = decide (a ≤ b) := decide_eq_decide.mpr (nI_leI ha hb)
/-- the figures are read -/
theorem z_figs {lo hi : Int32} {s : Nat} (hC : Cs T k h s f fa) (hT : TT T k) (hn : 300 ≤ n) : it (fun (q : Int32 × Hp) => bX4_number_12 n (RX w) 1 lo hi (nI s) q.1 q.2) n (0, h) = some (nI (cvl T s (spn (isD T) k s - s)), pI h 1 2 (nI (spn (isD T) k s))) := by
  have hk := hT.1
  obtain ⟨c, e1, e2, e3, e4⟩ := spn_ok (C := isD T) hC.2.2.2.2.2.1
  rw [e1, show s + c - s = c by omega]
  have key := it_val (b := fun (q : Int32 × Hp) => bX4_number_12 n (RX w) 1 lo hi (nI s) q.1 q.2) (fun j => (nI (cvl T s j), pI h 1 2 (nI (s + j)))) (nI (cvl T s c), pI h 1 2 (nI (s + c))) c (n := n) (by omega) ?_ ?_
  · have e0 : ((0 : Int32), h) = (nI (cvl T s 0), pI h 1 2 (nI (s + 0))) := by
      rw [show pI h 1 2 (nI (s + 0)) = h from pI_same hC.2.1]; rfl
    rw [e0]
    exact key
  · intro j hj
    obtain ⟨g1, g2⟩ := e3 j hj
    have g2 := of_decide_eq_true g2
    have hJ := hC.at (q := s + j) (by omega)
    have hv := cvl_le (T := T) (s := s) j (fun i hi => (e3 i (by omega)).2)
    show bX4_number_12 n (RX w) 1 lo hi (nI s) (nI (cvl T s j)) (pI h 1 2 (nI (s + j))) = _
    have ej : ∀ v, jX4_number_81 n (RX w) 1 lo hi (nI s) v (pI h 1 2 (nI (s + j))) = some (.inl (v, pI h 1 2 (nI (s + (j + 1))))) := fun v => by
      unfold jX4_number_81
      rw [hJ.2.1, nI_1]
      simp only [lE]
      rw [pI_pI]
      rfl
    unfold bX4_number_12
    rw [rx10, hJ.1, hJ.2.1, if_neg (nI_ge g1 (by omega)), z_ck (by omega) (by omega), nI_clamp (by omega), hJ.2.2.2.2.1 _ g1, if_neg (show ¬ nI (T (s + j)) < 48 from nI_nlt (b := 48) g2.1 (by omega)), z_ck (by omega) (by omega), if_neg (show ¬ (57 : Int32) < nI (T (s + j)) from nI_nlt (a := 57) g2.2 (by omega)), pk_sub (by omega), show s + j - s = j by omega, z_ck (by omega) (by omega)]
    simp only [lE]
    rw [ej, ej]
    by_cases c3 : j < 3
    · rw [if_neg (show ¬ (3 : Int32) ≤ nI j from nI_ge (b := 3) c3 (by omega)), show (10 : Int32) = nI 10 from rfl, pk_mul, nI_add, show (48 : Int32) = nI 48 from rfl, pk_sub (by omega)]
      simp only [cvl, c3, if_true]
      rw [show cvl T s j * 10 + T (s + j) - 48 = cvl T s j * 10 + (T (s + j) - 48) by omega]
    · rw [if_pos (show (3 : Int32) ≤ nI j from nI_le (a := 3) (by omega) (by omega))]
      simp only [cvl, c3, if_false]
  · have hJ := hC.at (q := s + c) e2
    show bX4_number_12 n (RX w) 1 lo hi (nI s) (nI (cvl T s c)) (pI h 1 2 (nI (s + c))) = _
    unfold bX4_number_12
    rw [rx10, hJ.1, hJ.2.1]
    by_cases q : s + c < k
    · have hq := hT.2 _ q
      have hd := of_decide_eq_false (e4 q)
      rw [if_neg (nI_ge q (by omega)), z_ck (by omega) (by omega), nI_clamp (by omega), hJ.2.2.2.2.1 _ q]
      by_cases c1 : T (s + c) < 48
      · rw [if_pos (show nI (T (s + c)) < 48 from nI_lt (b := 48) c1 (by omega))]
      · rw [if_neg (show ¬ nI (T (s + c)) < 48 from nI_nlt (b := 48) (by omega) (by omega)), z_ck (by omega) (by omega), if_pos (show (57 : Int32) < nI (T (s + c)) from nI_lt (a := 57) (by omega) (by omega))]
    · rw [if_pos (nI_le (by omega) (by omega))]
/-- a number, where there is a fault already -/
theorem z_numF {lo hi : Int32} (hC : Cs T k h p f fa) (hf : f ≠ 0) (hT : TT T k) (hn : 300 ≤ n) : ∃ v h' q, fX4_number n (RX w) 1 lo hi h = some (v, h') ∧ Cs T k h' q f fa ∧ Fr1 h h' := by
  obtain ⟨s1, s2, s3⟩ := sk_ok (T := T) hC.2.2.2.2.2.1
  have hJ := hC.at (q := sk T k p) s2
  obtain ⟨c, e1, e2, e3, e4⟩ := spn_ok (C := isD T) s2
  have hL := hJ.at (q := spn (isD T) k (sk T k p)) (by rw [e1]; exact e2)
  unfold fX4_number
  rw [z_skip hC hT hn, Option.bind_some]
  simp only [lE]
  rw [hJ.2.1]
  unfold lX4_number_12
  rw [z_figs hJ hT hn, Option.bind_some]
  have hF : Fr1 h (pI (pI h 1 2 (nI (sk T k p))) 1 2 (nI (spn (isD T) k (sk T k p)))) := fr1.tr fr1
  unfold jX4_number_94 jX4_number_131
  rw [z_fail1 hL hf, z_fail1 hL hf, z_within]
  simp only [Option.bind_some]
  refine ⟨nI (cvl T (sk T k p) (spn (isD T) k (sk T k p) - sk T k p)), _, spn (isD T) k (sk T k p), ?_, hL, hF⟩
  split
  · rfl
  · split
    · rfl
    · split <;> rfl
/-- a number, where there is none -/
theorem z_num {lo hi : Nat} (hC : Cs T k h p 0 fa) (hT : TT T k) (hlo : lo ≤ 999) (hhi : hi ≤ 999) (hn : 300 ≤ n) : match nmr T k lo hi p with
    | .inl (kd, s) => kd ≤ 4 ∧ kd ≠ 0 ∧ s ≤ k ∧ ∃ v h' q, fX4_number n (RX w) 1 (nI lo) (nI hi) h = some (v, h') ∧ Cs T k h' q kd (nI s) ∧ Fr1 h h'
    | .inr (v, q) => lo ≤ v ∧ v ≤ hi ∧ p < q ∧ ∃ h', fX4_number n (RX w) 1 (nI lo) (nI hi) h = some (nI v, h') ∧ Cs T k h' q 0 fa ∧ Fr1 h h' := by
  have hk := hT.1
  obtain ⟨s1, s2, s3⟩ := sk_ok (T := T) hC.2.2.2.2.2.1
  have hJ := hC.at (q := sk T k p) s2
  obtain ⟨c, e1, e2, e3, e4⟩ := spn_ok (C := isD T) s2
  have hL := hJ.at (q := spn (isD T) k (sk T k p)) (by rw [e1]; exact e2)
  have hF : Fr1 h (pI (pI h 1 2 (nI (sk T k p))) 1 2 (nI (spn (isD T) k (sk T k p)))) := fr1.tr fr1
  have hv := cvl_le (T := T) (s := sk T k p) c (fun i hi => (e3 i hi).2)
  have main : fX4_number n (RX w) 1 (nI lo) (nI hi) h = jX4_number_94 n (RX w) 1 (nI lo) (nI hi) (nI (sk T k p)) (nI (cvl T (sk T k p) c)) (pI (pI h 1 2 (nI (sk T k p))) 1 2 (nI (spn (isD T) k (sk T k p)))) := by
    unfold fX4_number
    rw [z_skip hC hT hn, Option.bind_some]
    simp only [lE]
    rw [hJ.2.1]
    unfold lX4_number_12
    rw [z_figs hJ hT hn, Option.bind_some]
    rw [e1, show sk T k p + c - sk T k p = c by omega]
  unfold nmr
  simp only
  rw [e1, show sk T k p + c - sk T k p = c by omega]
  rw [e1] at hL hF main
  unfold jX4_number_94 jX4_number_131 at main
  rw [hL.2.1, z_within, Option.bind_some, pk_sub (show sk T k p ≤ sk T k p + c by omega), show sk T k p + c - sk T k p = c by omega] at main
  by_cases c0 : c = 0
  · rw [if_pos c0]
    rw [if_pos (by rw [c0]; rfl)] at main
    obtain ⟨h', g1, g2, g3⟩ := z_fail0 (w := w) (n := n) hL (kd := 1) (s := sk T k p) (by omega)
    rw [show (1 : Int32) = nI 1 from rfl, g1, Option.bind_some] at main
    exact ⟨by omega, by omega, s2, _, h', _, main, g2, hF.tr g3⟩
  · rw [if_neg c0]
    rw [if_neg (by rw [nI_eq (by omega) (by omega)]; omega)] at main
    by_cases c3 : 3 < c
    · rw [if_pos (Or.inl c3)]
      rw [if_pos (show (3 : Int32) < nI c from nI_lt (a := 3) c3 (by omega))] at main
      obtain ⟨h', g1, g2, g3⟩ := z_fail0 (w := w) (n := n) hL (kd := 2) (s := sk T k p) (by omega)
      rw [show (2 : Int32) = nI 2 from rfl, g1, Option.bind_some] at main
      exact ⟨by omega, by omega, s2, _, h', _, main, g2, hF.tr g3⟩
    · rw [if_neg (show ¬ (3 : Int32) < nI c from nI_nlt (a := 3) (by omega) (by omega))] at main
      have ed : decide (nI lo ≤ nI (cvl T (sk T k p) c) ∧ nI (cvl T (sk T k p) c) ≤ nI hi) = decide (lo ≤ cvl T (sk T k p) c ∧ cvl T (sk T k p) c ≤ hi) := decide_eq_decide.mpr (by rw [nI_leI (by omega) (by omega), nI_leI (by omega) (by omega)])
      rw [ed] at main
      by_cases cv : lo ≤ cvl T (sk T k p) c ∧ cvl T (sk T k p) c ≤ hi
      · rw [if_neg (fun q => by rcases q with q | q; exact c3 q; exact q cv)]
        rw [decide_eq_true cv, if_neg (by decide)] at main
        exact ⟨cv.1, cv.2, by omega, _, main, hL, hF⟩
      · rw [if_pos (Or.inr cv)]
        rw [decide_eq_false cv, if_pos (by decide)] at main
        obtain ⟨h', g1, g2, g3⟩ := z_fail0 (w := w) (n := n) hL (kd := 2) (s := sk T k p) (by omega)
        rw [show (2 : Int32) = nI 2 from rfl, g1, Option.bind_some] at main
        exact ⟨by omega, by omega, s2, _, h', _, main, g2, hF.tr g3⟩
/-! the reference -/
def ltr (T : Nat → Nat) (k q : Nat) : Int32 := if q < k then nI (T q) else -1
theorem z_letterAt (hC : Ms T k h p) (hT : TT T k) {q : Nat} (hq : q ≤ k) : fX6_letterAt n RM 0 (nI q) h = some (ltr T k q) := by
  have hk := hT.1
  unfold fX6_letterAt ltr
  rw [hC.1]
  by_cases c : q < k
  · rw [if_neg (nI_ge c (by omega)), if_pos c, z_ck (by omega) (by omega), nI_clamp (by omega), rm1, hC.2.2.1 q c]
  · rw [if_pos (nI_le (by omega) (by omega)), if_neg c]
theorem ltr_eq (hT : TT T k) {q x : Nat} (hx : x ≤ 255) : ltr T k q = nI x ↔ q < k ∧ T q = x := by
  unfold ltr
  by_cases c : q < k
  · have := hT.2 q c
    rw [if_pos c, nI_eq (by omega) (by omega)]
    exact ⟨fun h => ⟨c, h⟩, fun h => h.2⟩
  · rw [if_neg c]
    exact ⟨fun h => absurd h.symm (nI_m1 (by omega)), fun h => absurd h.1 c⟩
theorem ltr_m1 (hT : TT T k) {q : Nat} : ltr T k q = -1 ↔ ¬ q < k := by
  unfold ltr
  by_cases c : q < k
  · have := hT.2 q c
    rw [if_pos c]
    exact ⟨fun h => absurd h (nI_m1 (by omega)), fun h => absurd c h⟩
  · rw [if_neg c]
    exact ⟨fun _ => c, fun _ => rfl⟩
theorem ltr_d (hT : TT T k) {q : Nat} : decide ((48 : Int32) ≤ ltr T k q ∧ ltr T k q ≤ 57) = (decide (q < k) && isD T q) := by
  unfold ltr isD
  by_cases c : q < k
  · have := hT.2 q c
    rw [if_pos c, decide_eq_true c, Bool.true_and]
    apply decide_eq_decide.mpr
    rw [show (48 : Int32) = nI 48 from rfl, show (57 : Int32) = nI 57 from rfl, nI_leI (by omega) (by omega), nI_leI (by omega) (by omega)]
  · rw [if_neg c, decide_eq_false c, Bool.false_and]
    decide
theorem z_next (hC : Ms T k h p) (hT : TT T k) (hn : 300 ≤ n) : fX6_nextLetter n RM 0 h = some (ltr T k (sk T k p), pI h 0 2 (nI (sk T k p))) := by
  have hk := hT.1
  obtain ⟨c, e1, e2, e3, e4⟩ := spn_ok (C := isB T) hC.2.2.2
  unfold fX6_nextLetter lX6_nextLetter_0 sk
  rw [e1]
  have key := it_val (b := fun (s : Hp) => bX6_nextLetter_0 n RM 0 s) (fun j => pI h 0 2 (nI (p + j))) (pI h 0 2 (nI (p + c))) c (n := n) (by omega) ?_ ?_
  · have e0 : it (fun (s : Hp) => bX6_nextLetter_0 n RM 0 s) n h = some (pI h 0 2 (nI (p + c))) := by
      have := key
      rw [show pI h 0 2 (nI (p + 0)) = h from pI_same hC.2.1] at this
      exact this
    have hJ := hC.at (q := p + c) e2
    rw [e0, Option.bind_some, hJ.2.1, z_letterAt hJ hT e2, Option.bind_some]
  · intro j hj
    obtain ⟨g1, g2⟩ := e3 j hj
    have hJ := hC.at (q := p + j) (by omega)
    show bX6_nextLetter_0 n RM 0 (pI h 0 2 (nI (p + j))) = _
    unfold bX6_nextLetter_0
    rw [hJ.2.1, z_letterAt hJ hT (by omega), Option.bind_some, if_pos (show ltr T k (p + j) = 32 from (ltr_eq hT (x := 32) (by omega)).mpr ⟨g1, of_decide_eq_true g2⟩), nI_1]
    simp only [lE]
    rw [pI_pI]
    rfl
  · have hJ := hC.at (q := p + c) e2
    show bX6_nextLetter_0 n RM 0 (pI h 0 2 (nI (p + c))) = _
    unfold bX6_nextLetter_0
    rw [hJ.2.1, z_letterAt hJ hT e2, Option.bind_some, if_neg (show ¬ ltr T k (p + c) = 32 from fun q => by
      have := (ltr_eq hT (x := 32) (by omega)).mp q
      exact of_decide_eq_false (e4 this.1) this.2)]
theorem z_numM {lo hi : Nat} (hC : Ms T k h p) (hT : TT T k) (hlo : lo ≤ 999) (hhi : hi ≤ 999) (hn : 300 ≤ n) : match nmr T k lo hi p with
    | .inl (kd, s) => ∃ h', fX6_readsNumber n RM 0 (nI lo) (nI hi) h = some (-1, h') ∧ h'.1 0 4 = nI kd ∧ Ms T k h' s ∧ FrN h h'
    | .inr (v, q) => ∃ h', fX6_readsNumber n RM 0 (nI lo) (nI hi) h = some (nI v, h') ∧ h'.1 0 3 = nI (sk T k p) ∧ Ms T k h' q ∧ FrN h h' := by
  have hk := hT.1
  obtain ⟨s1, s2, s3⟩ := sk_ok (T := T) hC.2.2.2
  have hJ := hC.at (q := sk T k p) s2
  obtain ⟨c, e1, e2, e3, e4⟩ := spn_ok (C := isD T) s2
  have hv := cvl_le (T := T) (s := sk T k p) c (fun i hi => (e3 i hi).2)
  have hmv := mvl_le (T := T) (s := sk T k p) c (fun i hi => (e3 i hi).2)
  have hF1 : FrN h (pI h 0 2 (nI (sk T k p))) := fn2
  have hfail : ∀ (g : Hp) (kd s : Nat), Ms T k g s → ∀ s', s' ≤ k → ∃ h', fX6_fails n RM 0 (nI kd) (nI s') g = some (-1, h') ∧ h'.1 0 4 = nI kd ∧ Ms T k h' s' ∧ FrN g h' := by
    intro g kd s hG s' hs'
    unfold fX6_fails
    simp only [lE]
    refine ⟨_, rfl, by rw [pI_nj (by decide), pI_eq], ?_, fn4.tr fn2⟩
    exact ⟨by rw [pI_nj (by decide), pI_nj (by decide)]; exact hG.1, pI_eq, fun i hi => by rw [pI_nk (by decide), pI_nk (by decide)]; exact hG.2.2.1 i hi, hs'⟩
  unfold nmr fX6_readsNumber
  simp only
  rw [e1, show sk T k p + c - sk T k p = c by omega, z_next hC hT hn]
  simp only [bd2_some]
  rw [z_in, Option.bind_some, ltr_d hT]
  by_cases c0 : c = 0
  · have hd : (decide (sk T k p < k) && isD T (sk T k p)) = false := by
      by_cases q : sk T k p < k
      · rw [decide_eq_true q, Bool.true_and]
        have := e4 (by omega)
        rw [c0] at this
        exact this
      · rw [decide_eq_false q]; rfl
    rw [if_pos c0, hd, if_pos (show bI false = 0 by decide), hJ.2.1]
    obtain ⟨h', g1, g2, g3, g4⟩ := hfail _ 1 (sk T k p) hJ (sk T k p) s2
    rw [show (1 : Int32) = nI 1 from rfl, g1]
    simp only [bd2_some]
    exact ⟨h', rfl, g2, g3, hF1.tr g4⟩
  · have hd : (decide (sk T k p < k) && isD T (sk T k p)) = true := by
      have := e3 0 (by omega)
      rw [Nat.add_zero] at this
      rw [decide_eq_true this.1, Bool.true_and]; exact this.2
    rw [if_neg c0, hd, if_neg (show ¬ bI true = 0 by decide)]
    simp only [lE]
    rw [hJ.2.1]
    unfold lX6_readsNumber_34
    have hL : ∀ q, q ≤ k → Ms T k (pI (pI (pI h 0 2 (nI (sk T k p))) 0 3 (nI (sk T k p))) 0 2 (nI q)) q := fun q hq => by
      obtain ⟨m1, m2, m3, m4⟩ := hJ
      exact ⟨by rw [pI_nj (by decide), pI_nj (by decide)]; exact m1, pI_eq, fun i hi => by rw [pI_nk (by decide), pI_nk (by decide)]; exact m3 i hi, hq⟩
    have hF2 : ∀ q, FrN h (pI (pI (pI h 0 2 (nI (sk T k p))) 0 3 (nI (sk T k p))) 0 2 (nI q)) := fun q => (hF1.tr fn3).tr fn2
    have h3 : ∀ q, (pI (pI (pI h 0 2 (nI (sk T k p))) 0 3 (nI (sk T k p))) 0 2 (nI q)).1 0 3 = nI (sk T k p) := fun q => by rw [pI_nj (by decide), pI_eq]
    have key := it_val (b := fun (q : Int32 × Hp) => bX6_readsNumber_34 n RM 0 (nI lo) (nI hi) q.1 q.2) (fun j => (nI (mvl T (sk T k p) j), pI (pI (pI h 0 2 (nI (sk T k p))) 0 3 (nI (sk T k p))) 0 2 (nI (sk T k p + j)))) (nI (mvl T (sk T k p) c), pI (pI (pI h 0 2 (nI (sk T k p))) 0 3 (nI (sk T k p))) 0 2 (nI (sk T k p + c))) c (n := n) (by omega) ?_ ?_
    · have e0 : ((0 : Int32), pI (pI h 0 2 (nI (sk T k p))) 0 3 (nI (sk T k p))) = (nI (mvl T (sk T k p) 0), pI (pI (pI h 0 2 (nI (sk T k p))) 0 3 (nI (sk T k p))) 0 2 (nI (sk T k p + 0))) := by
        rw [show pI (pI (pI h 0 2 (nI (sk T k p))) 0 3 (nI (sk T k p))) 0 2 (nI (sk T k p + 0)) = pI (pI h 0 2 (nI (sk T k p))) 0 3 (nI (sk T k p)) from pI_same (by rw [pI_nj (by decide)]; exact pI_eq)]
        rfl
      have hLc := hL (sk T k p + c) e2
      have key2 : it (fun (q : Int32 × Hp) => bX6_readsNumber_34 n RM 0 (nI lo) (nI hi) q.1 q.2) n (0, pI (pI h 0 2 (nI (sk T k p))) 0 3 (nI (sk T k p))) = some (nI (mvl T (sk T k p) c), pI (pI (pI h 0 2 (nI (sk T k p))) 0 3 (nI (sk T k p))) 0 2 (nI (sk T k p + c))) := by
        rw [e0]; exact key
      rw [key2, Option.bind_some]
      simp only
      rw [hLc.2.1, h3, pk_sub (by omega), show sk T k p + c - sk T k p = c by omega, z_in, Option.bind_some]
      have hbad : ∃ h', jX6_readsNumber_115 n RM 0 (pI (pI (pI h 0 2 (nI (sk T k p))) 0 3 (nI (sk T k p))) 0 2 (nI (sk T k p + c))) = some (-1, h') ∧ h'.1 0 4 = nI 2 ∧ Ms T k h' (sk T k p) ∧ FrN h h' := by
        unfold jX6_readsNumber_115
        obtain ⟨h', g1, g2, g3, g4⟩ := hfail _ 2 _ hLc (sk T k p) s2
        rw [h3, show (2 : Int32) = nI 2 from rfl, g1]
        simp only [bd2_some]
        exact ⟨h', rfl, g2, g3, (hF2 _).tr g4⟩
      by_cases c3 : 3 < c
      · rw [if_pos (Or.inl c3), if_pos (show (3 : Int32) < nI c from nI_lt (a := 3) c3 (by omega))]
        exact hbad
      · rw [if_neg (show ¬ (3 : Int32) < nI c from nI_nlt (a := 3) (by omega) (by omega))]
        have ev := (cvl_eq (T := T) (s := sk T k p) c (by omega) (fun i hi => (e3 i hi).2)).1
        rw [← ev]
        have ed : decide (nI lo ≤ nI (cvl T (sk T k p) c) ∧ nI (cvl T (sk T k p) c) ≤ nI hi) = decide (lo ≤ cvl T (sk T k p) c ∧ cvl T (sk T k p) c ≤ hi) := decide_eq_decide.mpr (by rw [nI_leI (by omega) (by omega), nI_leI (by omega) (by omega)])
        rw [ed]
        by_cases cv : lo ≤ cvl T (sk T k p) c ∧ cvl T (sk T k p) c ≤ hi
        · rw [if_neg (fun q => by rcases q with q | q; exact c3 q; exact q cv), decide_eq_true cv, if_neg (by decide)]
          exact ⟨_, rfl, h3 _, hLc, hF2 _⟩
        · rw [if_pos (Or.inr cv), decide_eq_false cv, if_pos (by decide)]
          exact hbad
    · intro j hj
      obtain ⟨g1, g2⟩ := e3 j hj
      have hLj := hL (sk T k p + j) (by omega)
      have hm := mvl_le (T := T) (s := sk T k p) j (fun i hi => (e3 i (by omega)).2)
      have gd := of_decide_eq_true g2
      show bX6_readsNumber_34 n RM 0 (nI lo) (nI hi) (nI (mvl T (sk T k p) j)) (pI (pI (pI h 0 2 (nI (sk T k p))) 0 3 (nI (sk T k p))) 0 2 (nI (sk T k p + j))) = _
      have ej : ∀ v, jX6_readsNumber_79 n RM 0 (nI lo) (nI hi) v (pI (pI (pI h 0 2 (nI (sk T k p))) 0 3 (nI (sk T k p))) 0 2 (nI (sk T k p + j))) = some (.inl (v, pI (pI (pI h 0 2 (nI (sk T k p))) 0 3 (nI (sk T k p))) 0 2 (nI (sk T k p + (j + 1))))) := fun v => by
        unfold jX6_readsNumber_79
        rw [hLj.2.1, nI_1]
        simp only [lE]
        rw [pI_pI]
        rfl
      unfold bX6_readsNumber_34
      rw [hLj.2.1, z_letterAt hLj hT (by omega), Option.bind_some, z_in, Option.bind_some, ltr_d hT, decide_eq_true g1, Bool.true_and, g2, if_neg (by decide), Option.bind_some, ej, ej, show ltr T k (sk T k p + j) = nI (T (sk T k p + j)) from if_pos g1]
      by_cases c9 : mvl T (sk T k p) j ≤ 999
      · rw [if_pos (show nI (mvl T (sk T k p) j) ≤ 999 from nI_le (b := 999) c9 (by omega)), show (10 : Int32) = nI 10 from rfl, pk_mul, nI_add, show (48 : Int32) = nI 48 from rfl, pk_sub (by omega)]
        simp only [mvl, c9, if_true]
        rw [show 10 * mvl T (sk T k p) j + T (sk T k p + j) - 48 = 10 * mvl T (sk T k p) j + (T (sk T k p + j) - 48) by omega]
      · rw [if_neg (show ¬ nI (mvl T (sk T k p) j) ≤ 999 from nI_ge (a := 999) (by omega) (by omega))]
        simp only [mvl, c9, if_false]
    · have hLj := hL (sk T k p + c) e2
      show bX6_readsNumber_34 n RM 0 (nI lo) (nI hi) (nI (mvl T (sk T k p) c)) (pI (pI (pI h 0 2 (nI (sk T k p))) 0 3 (nI (sk T k p))) 0 2 (nI (sk T k p + c))) = _
      have hd2 : (decide (sk T k p + c < k) && isD T (sk T k p + c)) = false := by
        by_cases q : sk T k p + c < k
        · rw [decide_eq_true q, Bool.true_and]; exact e4 q
        · rw [decide_eq_false q]; rfl
      unfold bX6_readsNumber_34
      rw [hLj.2.1, z_letterAt hLj hT e2, Option.bind_some, z_in, Option.bind_some, ltr_d hT, hd2, if_pos (by decide)]
/-! signs -/
theorem z_take (hC : Cs T k h p f fa) (hT : TT T k) {x : Nat} (hx : x ≤ 255) (hn : 300 ≤ n) : ∃ h', fX4_take n (RX w) 1 (nI x) h = some (bI (decide (sk T k p < k ∧ T (sk T k p) = x)), h') ∧ Cs T k h' (if sk T k p < k ∧ T (sk T k p) = x then sk T k p + 1 else sk T k p) f fa ∧ Fr1 h h' := by
  have hk := hT.1
  obtain ⟨s1, s2, s3⟩ := sk_ok (T := T) hC.2.2.2.2.2.1
  have hJ := hC.at (q := sk T k p) s2
  unfold fX4_take
  rw [z_skip hC hT hn, Option.bind_some, hJ.1, hJ.2.1, rx10]
  by_cases c : sk T k p < k
  · have ht := hT.2 _ c
    rw [if_neg (nI_ge c (by omega)), z_ck (by omega) (by omega), nI_clamp (by omega), hJ.2.2.2.2.1 _ c, nI_1]
    simp only [lE]
    by_cases e : T (sk T k p) = x
    · rw [if_pos (show nI (T (sk T k p)) = nI x by rw [e]), if_pos ⟨c, e⟩, decide_eq_true ⟨c, e⟩]
      exact ⟨_, rfl, hJ.at (by omega), fr1.tr fr1⟩
    · rw [if_neg (show ¬ nI (T (sk T k p)) = nI x by rw [nI_eq (by omega) (by omega)]; exact e), if_neg (fun q => e q.2), decide_eq_false (fun q => e q.2)]
      exact ⟨_, rfl, hJ, fr1⟩
  · rw [if_pos (nI_le (by omega) (by omega)), if_neg (fun q => c q.1), decide_eq_false (fun q => c q.1)]
    exact ⟨_, rfl, hJ, fr1⟩
theorem z_expF (hC : Cs T k h p f fa) (hf : f ≠ 0) (hT : TT T k) {x : Nat} (hx : x ≤ 255) (hn : 300 ≤ n) : ∃ h' q, fX4_expect n (RX w) 1 (nI x) h = some h' ∧ Cs T k h' q f fa ∧ Fr1 h h' := by
  obtain ⟨h', e1, e2, e3⟩ := z_take (w := w) (n := n) hC hT hx hn
  unfold fX4_expect
  rw [e1]
  simp only [bd2_some]
  rw [z_fail1 e2 hf, Option.bind_some]
  refine ⟨h', _, ?_, e2, e3⟩
  split <;> rfl
theorem z_exp (hC : Cs T k h p 0 fa) (hT : TT T k) {x : Nat} (hx : x ≤ 255) (hn : 300 ≤ n) : (sk T k p < k ∧ T (sk T k p) = x ∧ ∃ h', fX4_expect n (RX w) 1 (nI x) h = some h' ∧ Cs T k h' (sk T k p + 1) 0 fa ∧ Fr1 h h') ∨ (¬ (sk T k p < k ∧ T (sk T k p) = x) ∧ ∃ h', fX4_expect n (RX w) 1 (nI x) h = some h' ∧ Cs T k h' (sk T k p) 1 (nI (sk T k p)) ∧ Fr1 h h') := by
  obtain ⟨h', e1, e2, e3⟩ := z_take (w := w) (n := n) hC hT hx hn
  unfold fX4_expect
  rw [e1]
  simp only [bd2_some]
  by_cases c : sk T k p < k ∧ T (sk T k p) = x
  · left
    rw [if_pos c] at e2
    rw [decide_eq_true c, if_neg (by decide)]
    exact ⟨c.1, c.2, h', rfl, e2, e3⟩
  · right
    rw [if_neg c] at e2
    rw [decide_eq_false c, if_pos (by decide), e2.2.1]
    obtain ⟨h2, g1, g2, g3⟩ := z_fail0 (w := w) (n := n) e2 (kd := 1) (s := sk T k p) (by omega)
    rw [show (1 : Int32) = nI 1 from rfl, g1, Option.bind_some]
    exact ⟨c, h2, rfl, g2, e3.tr g3⟩
theorem z_sign (hC : Ms T k h p) (hT : TT T k) {x : Nat} (hx : x ≤ 255) (hn : 300 ≤ n) : (sk T k p < k ∧ T (sk T k p) = x → ∃ h', fX6_readsSign n RM 0 (nI x) h = some (1, h') ∧ Ms T k h' (sk T k p + 1) ∧ FrN h h') ∧ (¬ (sk T k p < k ∧ T (sk T k p) = x) → ∃ h', fX6_readsSign n RM 0 (nI x) h = some (0, h') ∧ h'.1 0 4 = nI 1 ∧ Ms T k h' (sk T k p) ∧ FrN h h') := by
  obtain ⟨s1, s2, s3⟩ := sk_ok (T := T) hC.2.2.2
  have hJ := hC.at (q := sk T k p) s2
  unfold fX6_readsSign
  rw [z_next hC hT hn]
  simp only [bd2_some]
  rw [hJ.2.1, nI_1]
  constructor
  · intro c
    rw [if_pos ((ltr_eq hT hx).mpr c)]
    simp only [lE]
    exact ⟨_, rfl, hJ.at (by omega), fn2.tr fn2⟩
  · intro c
    rw [if_neg (fun q => c ((ltr_eq hT hx).mp q))]
    unfold fX6_fails
    simp only [lE, bd2_some]
    refine ⟨_, rfl, by rw [pI_nj (by decide), pI_eq]; rfl, ⟨?_, pI_eq, fun i hi => ?_, s2⟩, (fn2.tr fn4).tr fn2⟩
    · rw [pI_nj (by decide), pI_nj (by decide)]; exact hJ.1
    · rw [pI_nk (by decide), pI_nk (by decide)]; exact hJ.2.2.1 i hi
end PA
