/-! ===== counting bits ===== -/
def pcN (m : Nat) : Nat → Nat
  | 0 => 0
  | i + 1 => pcN m i + (if m.testBit i then 1 else 0)
def pc (m : Nat) : Nat := pcN m 12
def bcv (v0 : Int32) : Option Int32 := fJ6_bitCount_0f7a4 0 (fun _ _ => 0) v0 (fun _ _ => 0, fun _ _ => 0)
theorem bcv_all : ∀ m, m < 2048 → bcv (nI m) = some (nI (pc m)) := by decide +kernel
theorem z_bc {n : Nat} {r : Rf} {h : Hp} {m : Nat} (hm : m < 2048) : fJ6_bitCount_0f7a4 n r (nI m) h = some (nI (pc m)) := bcv_all m hm
def bbv (s : Int32 × Int32) : Option ((Int32 × Int32) ⊕ Int32) := bX6_bits_4 0 (fun _ _ => 0) s.1 s.2 (fun _ _ => 0, fun _ _ => 0)
theorem bbv_all : ∀ m, m < 2048 → it bbv 13 (0, nI m) = some (nI (pc m)) := by decide +kernel
theorem z_bits {n : Nat} {r : Rf} {h : Hp} {m : Nat} (hm : m < 2048) (hn : 20 ≤ n) : fX6_bits n r (nI m) h = some (nI (pc m)) := by
  unfold fX6_bits lX6_bits_4
  have e : it (fun (s : Int32 × Int32) => bX6_bits_4 n r s.1 s.2 h) n (0, nI m) = some (nI (pc m)) := it_mono 13 n _ (by omega) (bbv_all m hm)
  rw [e]; rfl
theorem pcN_le (m : Nat) : ∀ k, pcN m k ≤ k := by
  intro k
  induction k with
  | zero => exact Nat.le_refl _
  | succ k ih => unfold pcN; split <;> omega
theorem pc_le (m : Nat) : pc m ≤ 12 := pcN_le m 12
