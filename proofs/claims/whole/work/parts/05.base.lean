/-! ===== numbers ===== -/
theorem z_s31 : ∀ k, k < 32 → ((nI k &&& 31).toBitVec.smod 32).toNat = k := by decide +kernel
theorem z_shl {k : Nat} (hk : k < 31) : (1 : Int32) <<< (nI k &&& 31) = nI (2 ^ k) := by
  have h := pk_shlN (n := 1) (nI k &&& 31) k (z_s31 k (by omega)) (by rw [Nat.one_mul]; exact Nat.pow_lt_pow_right (by decide) (by omega))
  rw [Nat.one_mul] at h
  exact h
theorem z_shr {m k : Nat} (hm : m < 2 ^ 31) (hk : k < 32) : nI m >>> (nI k &&& 31) = nI (m / 2 ^ k) := pk_shrN hm _ k (z_s31 k hk)
theorem z_nb (n : Nat) : (nI n).toBitVec = BitVec.ofNat 32 n := rfl
theorem z_ext {x y : Int32} (h : x.toBitVec = y.toBitVec) : x = y := Int32.toBitVec_inj.mp h
theorem z_or (a b : Nat) : nI a ||| nI b = nI (a ||| b) := by
  apply z_ext
  rw [Int32.toBitVec_or, z_nb, z_nb, z_nb]
  apply BitVec.eq_of_toNat_eq
  simp [Nat.or_mod_two_pow]
theorem z_and (a b : Nat) : nI a &&& nI b = nI (a &&& b) := by
  apply z_ext
  rw [Int32.toBitVec_and, z_nb, z_nb, z_nb]
  apply BitVec.eq_of_toNat_eq
  simp [Nat.and_mod_two_pow]
theorem z_xor (a b : Nat) : nI a ^^^ nI b = nI (a ^^^ b) := by
  apply z_ext
  rw [Int32.toBitVec_xor, z_nb, z_nb, z_nb]
  apply BitVec.eq_of_toNat_eq
  simp [Nat.xor_mod_two_pow]
/-- a without b -/
def wo (a b : Nat) : Nat := a ^^^ (a &&& b)
theorem wo_tb (a b k : Nat) : (wo a b).testBit k = (a.testBit k && !b.testBit k) := by
  unfold wo
  rw [Nat.testBit_xor, Nat.testBit_and]
  cases a.testBit k <;> cases b.testBit k <;> rfl
theorem z_wo (a b : Nat) : nI a &&& (nI b ^^^ (-1)) = nI (wo a b) := by
  have e : (nI a &&& (nI b ^^^ (-1))) = nI a ^^^ (nI a &&& nI b) := by
    apply z_ext
    rw [Int32.toBitVec_and, Int32.toBitVec_xor, Int32.toBitVec_xor, Int32.toBitVec_and]
    have : ((-1 : Int32)).toBitVec = BitVec.allOnes 32 := by decide +kernel
    rw [this]
    apply BitVec.eq_of_getLsbD_eq
    intro i hi
    simp only [BitVec.getLsbD_and, BitVec.getLsbD_xor, BitVec.getLsbD_allOnes, hi, decide_true]
    cases (nI a).toBitVec.getLsbD i <;> cases (nI b).toBitVec.getLsbD i <;> rfl
  rw [e, z_and, z_xor]
  rfl
theorem z_lt2 {a k : Nat} (h : ∀ i, k ≤ i → a.testBit i = false) : a < 2 ^ k := Nat.lt_pow_two_of_testBit a (fun i hi => h i hi)
theorem z_tbl {a k i : Nat} (h : a < 2 ^ k) (hi : k ≤ i) : a.testBit i = false := Nat.testBit_lt_two_pow (Nat.lt_of_lt_of_le h (Nat.pow_le_pow_right (by decide) hi))
theorem or_lt {a b k : Nat} (ha : a < 2 ^ k) (hb : b < 2 ^ k) : a ||| b < 2 ^ k := Nat.or_lt_two_pow ha hb
theorem xor_lt {a b k : Nat} (ha : a < 2 ^ k) (hb : b < 2 ^ k) : a ^^^ b < 2 ^ k := Nat.xor_lt_two_pow ha hb
theorem wo_lt {a b k : Nat} (ha : a < 2 ^ k) : wo a b < 2 ^ k := z_lt2 (fun i hi => by rw [wo_tb, z_tbl ha hi]; rfl)
theorem pw_lt {a k : Nat} (h : a < k) : 2 ^ a < 2 ^ k := Nat.pow_lt_pow_right (by decide) h
/-- bit k of m, as the program tells it -/
def bI (b : Bool) : Int32 := if b then 1 else 0
theorem z_bit {m k : Nat} (hm : m < 2 ^ 31) (hk : k < 32) : (nI m >>> (nI k &&& 31)) &&& 1 = bI (m.testBit k) := by
  have h1 : (1 : Int32) = nI 1 := rfl
  rw [z_shr hm hk, h1, z_and, Nat.and_one_is_mod, Nat.testBit_eq_decide_div_mod_eq]
  unfold bI
  rcases Nat.mod_two_eq_zero_or_one (m / 2 ^ k) with h | h <;> rw [h] <;> decide
theorem bI_0 {b : Bool} : bI b = 0 ↔ b = false := by cases b <;> decide
theorem bI_1 {b : Bool} : bI b = 1 ↔ b = true := by cases b <;> decide
theorem z_has {n : Nat} {r : Rf} {m k : Nat} {h : Hp} (hm : m < 2 ^ 31) (hk : k < 32) : fX5_has n r (nI m) (nI k) h = some (bI (m.testBit k)) := by
  unfold fX5_has
  rw [z_bit hm hk]
  cases m.testBit k <;> rfl
theorem z_hasM {n : Nat} {r : Rf} {m k : Nat} {h : Hp} (hm : m < 2 ^ 31) (hk : k < 32) : fX6_has n r (nI m) (nI k) h = some (bI (m.testBit k)) := by
  unfold fX6_has
  rw [z_bit hm hk]
  cases m.testBit k <;> rfl
theorem z_ck {q : Type} {j n : Nat} {k : Option q} (h : j < n) (hn : n < 2 ^ 31) : ck (nI j) n k = k := by
  unfold ck
  rw [if_neg (nI_in h hn)]
theorem z_within {n : Nat} {r : Rf} {x lo hi : Int32} {h : Hp} : fX5_isWithin n r x lo hi h = some (bI (decide (lo ≤ x ∧ x ≤ hi))) := by
  unfold fX5_isWithin
  by_cases a : x < lo
  · rw [if_pos a, decide_eq_false (fun q => by have := q.1; simp only [Int32.lt_iff_toInt_lt, Int32.le_iff_toInt_le] at *; omega)]; rfl
  · rw [if_neg a]
    by_cases b : hi < x
    · rw [if_pos b, decide_eq_false (fun q => by have := q.2; simp only [Int32.lt_iff_toInt_lt, Int32.le_iff_toInt_le] at *; omega)]; rfl
    · rw [if_neg b, decide_eq_true (by simp only [Int32.lt_iff_toInt_lt, Int32.le_iff_toInt_le] at *; omega)]; rfl
theorem z_in {n : Nat} {r : Rf} {x lo hi : Int32} {h : Hp} : fX6_in n r x lo hi h = some (bI (decide (lo ≤ x ∧ x ≤ hi))) := by
  have : fX6_in n r x lo hi h = fX5_isWithin n r x lo hi h := rfl
  rw [this, z_within]
/-! a number within bounds, or not -/
theorem z_win (x : Int32) (lo hi : Nat) (hl : lo < 2 ^ 31) (hh : hi < 2 ^ 31) : (∃ k, lo ≤ k ∧ k ≤ hi ∧ x = nI k ∧ decide (nI lo ≤ x ∧ x ≤ nI hi) = true) ∨ decide (nI lo ≤ x ∧ x ≤ nI hi) = false := by
  by_cases c : nI lo ≤ x ∧ x ≤ nI hi
  · left
    have c1 := c.1
    have c2 := c.2
    rw [Int32.le_iff_toInt_le, nI_toInt hl] at c1
    rw [Int32.le_iff_toInt_le, nI_toInt hh] at c2
    refine ⟨x.toInt.toNat, by omega, by omega, ?_, decide_eq_true c⟩
    apply Int32.toInt_inj.mp
    rw [nI_toInt (by omega)]
    omega
  · right; exact decide_eq_false c
/-! ===== loops ===== -/
theorem it_mono {s q : Type} {b : s → Option (s ⊕ q)} {z : q} : ∀ (n m : Nat) (x : s), n ≤ m → it b n x = some z → it b m x = some z := by
  intro n
  induction n with
  | zero => intro m x _ h; cases h
  | succ n ih =>
    intro m x hm h
    cases m with
    | zero => omega
    | succ m =>
      unfold it at h ⊢
      cases hb : b x with
      | none => rw [hb] at h; cases h
      | some w =>
        rw [hb] at h
        cases w with
        | inl y => exact ih m y (by omega) h
        | inr z0 => exact h
/-- a loop that counts: at i its state is as I says; it goes on or ends -/
theorem it_run {s q : Type} {b : s → Option (s ⊕ q)} (I : Nat → s → Prop) (Q : q → Prop) (e : Nat) (hs : ∀ i x, i ≤ e → I i x → (∃ z, b x = some (.inr z) ∧ Q z) ∨ (i < e ∧ ∃ y, b x = some (.inl y) ∧ I (i + 1) y)) : ∀ (k i n : Nat) (x : s), e = i + k → k < n → I i x → ∃ z, it b n x = some z ∧ Q z := by
  intro k
  induction k with
  | zero =>
    intro i n x he hn hI
    cases n with
    | zero => omega
    | succ n =>
      rcases hs i x (by omega) hI with ⟨z, hb, hq⟩ | ⟨h1, _⟩
      · exact ⟨z, by unfold it; rw [hb], hq⟩
      · omega
  | succ k ih =>
    intro i n x he hn hI
    cases n with
    | zero => omega
    | succ n =>
      rcases hs i x (by omega) hI with ⟨z, hb, hq⟩ | ⟨h1, y, hb, hy⟩
      · exact ⟨z, by unfold it; rw [hb], hq⟩
      · obtain ⟨z, h2, h3⟩ := ih (i + 1) n y (by omega) (by omega) hy
        exact ⟨z, by unfold it; rw [hb]; exact h2, h3⟩
theorem it_from {s q : Type} {b : s → Option (s ⊕ q)} (I : Nat → s → Prop) (Q : q → Prop) (e : Nat) {n : Nat} {x : s} (hn : e < n) (h0 : I 0 x) (hs : ∀ i x, i ≤ e → I i x → (∃ z, b x = some (.inr z) ∧ Q z) ∨ (i < e ∧ ∃ y, b x = some (.inl y) ∧ I (i + 1) y)) : ∃ z, it b n x = some z ∧ Q z :=
  it_run I Q e hs e 0 n x (by omega) hn h0
/-- the same, where the state at i is one value -/
theorem it_val {s q : Type} {b : s → Option (s ⊕ q)} (v : Nat → s) (z : q) (e : Nat) {n : Nat} (hn : e < n) (hs : ∀ i, i < e → b (v i) = some (.inl (v (i + 1)))) (hx : b (v e) = some (.inr z)) : it b n (v 0) = some z := by
  obtain ⟨w, h1, h2⟩ := it_from (b := b) (fun i x => x = v i) (fun w => w = z) e hn rfl (fun i x hi hx2 => by
    subst hx2
    by_cases c : i < e
    · exact Or.inr ⟨c, _, hs i c, rfl⟩
    · have : i = e := by omega
      subst this
      exact Or.inl ⟨z, hx, rfl⟩)
  rw [h1, h2]
/-- the first of e numbers with P -/
def ff (P : Nat → Bool) : Nat → Nat → Option Nat
  | 0, _ => none
  | k + 1, i => if P i then some i else ff P k (i + 1)
theorem ff_some {P : Nat → Bool} : ∀ (k i j : Nat), ff P k i = some j → i ≤ j ∧ j < i + k ∧ P j = true ∧ ∀ m, i ≤ m → m < j → P m = false := by
  intro k
  induction k with
  | zero => intro i j h; cases h
  | succ k ih =>
    intro i j h
    unfold ff at h
    by_cases c : P i = true
    · rw [if_pos c] at h
      cases h
      exact ⟨Nat.le_refl _, by omega, c, fun m h1 h2 => by omega⟩
    · rw [if_neg c] at h
      obtain ⟨h1, h2, h3, h4⟩ := ih (i + 1) j h
      refine ⟨by omega, by omega, h3, fun m h5 h6 => ?_⟩
      by_cases e : m = i
      · subst e; simpa using c
      · exact h4 m (by omega) h6
theorem ff_none {P : Nat → Bool} : ∀ (k i : Nat), ff P k i = none → ∀ m, i ≤ m → m < i + k → P m = false := by
  intro k
  induction k with
  | zero => intro i _ m h1 h2; omega
  | succ k ih =>
    intro i h m h1 h2
    unfold ff at h
    by_cases c : P i = true
    · rw [if_pos c] at h; cases h
    · rw [if_neg c] at h
      by_cases e : m = i
      · subst e; simpa using c
      · exact ih (i + 1) h m (by omega) (by omega)
theorem ff_at {P : Nat → Bool} {e j : Nat} (hj : j < e) (hP : P j = true) (hb : ∀ m, m < j → P m = false) : ff P e 0 = some j := by
  cases h : ff P e 0 with
  | none => rw [ff_none e 0 h j (by omega) (by omega)] at hP; cases hP
  | some i =>
    obtain ⟨-, h2, h3, h4⟩ := ff_some e 0 i h
    by_cases c : i < j
    · rw [hb i c] at h3; cases h3
    · by_cases c2 : j < i
      · rw [h4 j (by omega) c2] at hP; cases hP
      · rw [show i = j by omega]
theorem ff_no {P : Nat → Bool} {e : Nat} (hb : ∀ m, m < e → P m = false) : ff P e 0 = none := by
  cases h : ff P e 0 with
  | none => rfl
  | some i =>
    obtain ⟨-, h2, h3, -⟩ := ff_some e 0 i h
    rw [hb i (by omega)] at h3; cases h3
/-- a loop that looks for the first -/
theorem it_find {s q : Type} {b : s → Option (s ⊕ q)} (v : Nat → s) (P : Nat → Bool) (zf : Nat → q) (ze : q) (e : Nat) {n : Nat} (hn : e < n) (hs : ∀ i, i < e → P i = false → b (v i) = some (.inl (v (i + 1)))) (hp : ∀ i, i < e → P i = true → b (v i) = some (.inr (zf i))) (hx : b (v e) = some (.inr ze)) : it b n (v 0) = some (match ff P e 0 with | some i => zf i | none => ze) := by
  cases h : ff P e 0 with
  | none => exact it_val v ze e hn (fun i hi => hs i hi (ff_none e 0 h i (by omega) (by omega))) hx
  | some j =>
    obtain ⟨-, h2, h3, h4⟩ := ff_some e 0 j h
    exact it_val v (zf j) j (by omega) (fun i hi => hs i (by omega) (h4 i (by omega) hi)) (hp j (by omega) h3)
