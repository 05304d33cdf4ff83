/-! ===== rows of bonds kept in arrays ===== -/
def rowC (h : Hp) (a k : Nat) (b : Nat → Nat) : Prop := (∀ l, l < 10 → h.1 a (16 * k + l) = nI (b (6 + l))) ∧ h.1 a (16 * k + 10) = nI (b 0) ∧ h.1 a (16 * k + 11) = nI (b 1) ∧ h.1 a (16 * k + 12) = nI (b 2) ∧ h.1 a (16 * k + 13) = nI (b 3) ∧ h.1 a (16 * k + 14) = nI (b 4) ∧ h.1 a (16 * k + 15) = nI (b 5)
def rowM (h : Hp) (a k : Nat) (b : Nat → Nat) : Prop := ∀ j, j < 16 → h.1 a (16 * k + j) = nI (b j)
theorem rowC.co {h h' : Hp} {a k : Nat} {b : Nat → Nat} (hr : rowC h a k b) (hs : ∀ j, 16 * k ≤ j → j < 16 * k + 16 → h'.1 a j = h.1 a j) : rowC h' a k b := by
  obtain ⟨h1, h2, h3, h4, h5, h6, h7⟩ := hr
  refine ⟨fun l hl => by rw [hs _ (by omega) (by omega)]; exact h1 l hl, ?_, ?_, ?_, ?_, ?_, ?_⟩
  all_goals (rw [hs _ (by omega) (by omega)]; assumption)
theorem rowM.co {h h' : Hp} {a k : Nat} {b : Nat → Nat} (hr : rowM h a k b) (hs : ∀ j, 16 * k ≤ j → j < 16 * k + 16 → h'.1 a j = h.1 a j) : rowM h' a k b := fun j hj => by rw [hs _ (by omega) (by omega)]; exact hr j hj
theorem pC_eq {h : Hp} {k i : Nat} {f : Nat → Int32} : (pC h k f).1 k i = f i := by simp [pC]
theorem pC_nk {h : Hp} {k a i : Nat} {f : Nat → Int32} (hi : a ≠ k) : (pC h k f).1 a i = h.1 a i := by simp [pC, hi]
theorem z_cy {q : Type} {sp dp m n0 n1 : Nat} {k : Option q} (h1 : sp + m ≤ n0) (h2 : dp + m ≤ n1) (h3 : n0 < 2 ^ 20) (h4 : n1 < 2 ^ 20) : cy (nI sp) (nI dp) (nI m) n0 n1 k = k := by
  unfold cy
  rw [if_pos ⟨⟨nI_pos (by omega), nI_pos (by omega), nI_pos (by omega)⟩, by rw [nI_clamp (by omega), nI_clamp (by omega)]; exact h1, by rw [nI_clamp (by omega), nI_clamp (by omega)]; exact h2⟩]
section RR
variable {r : Rf} {h : Hp} {k n : Nat} {b : Nat → Nat}
theorem z_store {a len i : Nat} (hB : Bc r h k b) (hl : 16 * i + 16 ≤ len) (hlen : len < 2 ^ 20) (h1 : k ≠ a) (h2 : r k 0 ≠ a) :
    ∃ h', fX0_store n r k a len (nI i) h = some h' ∧ rowC h' a i b ∧ Fr (fun q => q = a) h h' ∧ ∀ j, (j < 16 * i ∨ 16 * i + 16 ≤ j) → h'.1 a j = h.1 a j := by
  have e16 : nI i * (16 : Int32) = nI (16 * i) := by rw [show (16 : Int32) = nI 16 from rfl, pk_mul, Nat.mul_comm]
  have ea : ∀ m : Nat, nI (16 * i) + nI m = nI (16 * i + m) := fun m => nI_add _ _
  have eb : ∀ m t : Nat, nI (16 * i + m) + nI t = nI (16 * i + (m + t)) := fun m t => by rw [nI_add, Nat.add_assoc]
  unfold fX0_store
  simp only [lE]
  rw [e16, if_neg (nI_pos (by omega)), show (16 : Int32) = nI 16 from rfl, ea, if_pos (show nI (16 * i + 16) ≤ Int32.ofNat len from nI_le hl (by omega)), show (0 : Int32) = nI 0 from rfl, show (10 : Int32) = nI 10 from rfl, show (1 : Int32) = nI 1 from rfl, show (2 : Int32) = nI 2 from rfl, show (3 : Int32) = nI 3 from rfl, show (4 : Int32) = nI 4 from rfl, show (5 : Int32) = nI 5 from rfl, z_cy (by omega) (by omega) (by omega) hlen]
  simp only [ea, eb]
  rw [z_ck (by omega) (by omega), z_ck (by omega) (by omega), z_ck (by omega) (by omega), z_ck (by omega) (by omega), z_ck (by omega) (by omega), z_ck (by omega) (by omega)]
  simp only [nI_clamp (show 16 * i + 10 < 2 ^ 31 by omega), nI_clamp (show 16 * i + (10 + 1) < 2 ^ 31 by omega), nI_clamp (show 16 * i + (10 + 2) < 2 ^ 31 by omega), nI_clamp (show 16 * i + (10 + 3) < 2 ^ 31 by omega), nI_clamp (show 16 * i + (10 + 4) < 2 ^ 31 by omega), nI_clamp (show 16 * i + (10 + 5) < 2 ^ 31 by omega), nI_clamp (show 16 * i < 2 ^ 31 by omega), nI_clamp (show 0 < 2 ^ 31 by omega), nI_clamp (show 10 < 2 ^ 31 by omega), pI_nk h1, pC_nk h1, hB.1, hB.2.1, hB.2.2.1, hB.2.2.2.1, hB.2.2.2.2.1, hB.2.2.2.2.2.1]
  refine ⟨_, rfl, ?_, ?_, ?_⟩
  · refine ⟨fun l hl2 => ?_, ?_, ?_, ?_, ?_, ?_, ?_⟩
    · rw [pI_nj (by omega), pI_nj (by omega), pI_nj (by omega), pI_nj (by omega), pI_nj (by omega), pI_nj (by omega), pC_eq, pk_cpy_in (by omega) (by omega), show 0 + (16 * i + l - 16 * i) = l by omega]
      exact hB.2.2.2.2.2.2 l hl2
    · rw [pI_nj (by omega), pI_nj (by omega), pI_nj (by omega), pI_nj (by omega), pI_nj (by omega), pI_eq]
    · rw [pI_nj (by omega), pI_nj (by omega), pI_nj (by omega), pI_nj (by omega), pI_eq]
    · rw [pI_nj (by omega), pI_nj (by omega), pI_nj (by omega), pI_eq]
    · rw [pI_nj (by omega), pI_nj (by omega), pI_eq]
    · rw [pI_nj (by omega), pI_eq]
    · rw [pI_eq]
  · exact ((((((Fr.pC (P := fun q => q = a) rfl).tr (Fr.pI rfl)).tr (Fr.pI rfl)).tr (Fr.pI rfl)).tr (Fr.pI rfl)).tr (Fr.pI rfl)).tr (Fr.pI rfl)
  · intro j hj
    rw [pI_nj (by omega), pI_nj (by omega), pI_nj (by omega), pI_nj (by omega), pI_nj (by omega), pI_nj (by omega), pC_eq, pk_cpy_out (by omega)]
theorem z_restore {a len i : Nat} (hR : rowC h a i b) (hl : 16 * i + 16 ≤ len) (hlen : len < 2 ^ 20) (h1 : k ≠ a) (h2 : r k 0 ≠ a) (h3 : k ≠ r k 0) :
    ∃ h', fX0_restore n r k a len (nI i) h = some h' ∧ Bc r h' k b ∧ Fr (fun q => q = k ∨ q = r k 0) h h' := by
  have e16 : nI i * (16 : Int32) = nI (16 * i) := by rw [show (16 : Int32) = nI 16 from rfl, pk_mul, Nat.mul_comm]
  have ea : ∀ m : Nat, nI (16 * i) + nI m = nI (16 * i + m) := fun m => nI_add _ _
  have eb : ∀ m t : Nat, nI (16 * i + m) + nI t = nI (16 * i + (m + t)) := fun m t => by rw [nI_add, Nat.add_assoc]
  obtain ⟨g1, g2, g3, g4, g5, g6, g7⟩ := hR
  have h1' : a ≠ k := Ne.symm h1
  have h2' : a ≠ r k 0 := Ne.symm h2
  unfold fX0_restore
  simp only [lE]
  rw [e16, if_neg (nI_pos (by omega)), show (16 : Int32) = nI 16 from rfl, ea, if_pos (show nI (16 * i + 16) ≤ Int32.ofNat len from nI_le hl (by omega)), show (0 : Int32) = nI 0 from rfl, show (10 : Int32) = nI 10 from rfl, show (1 : Int32) = nI 1 from rfl, show (2 : Int32) = nI 2 from rfl, show (3 : Int32) = nI 3 from rfl, show (4 : Int32) = nI 4 from rfl, show (5 : Int32) = nI 5 from rfl, z_cy (by omega) (by omega) hlen (by omega)]
  simp only [ea, eb]
  rw [z_ck (by omega) (by omega), z_ck (by omega) (by omega), z_ck (by omega) (by omega), z_ck (by omega) (by omega), z_ck (by omega) (by omega), z_ck (by omega) (by omega)]
  simp only [nI_clamp (show 16 * i + 10 < 2 ^ 31 by omega), nI_clamp (show 16 * i + (10 + 1) < 2 ^ 31 by omega), nI_clamp (show 16 * i + (10 + 2) < 2 ^ 31 by omega), nI_clamp (show 16 * i + (10 + 3) < 2 ^ 31 by omega), nI_clamp (show 16 * i + (10 + 4) < 2 ^ 31 by omega), nI_clamp (show 16 * i + (10 + 5) < 2 ^ 31 by omega), nI_clamp (show 16 * i < 2 ^ 31 by omega), nI_clamp (show 0 < 2 ^ 31 by omega), nI_clamp (show 10 < 2 ^ 31 by omega), pI_nk h1', pC_nk h2', g2, g3, g4, g5, g6, g7]
  refine ⟨_, rfl, ?_, ?_⟩
  · refine ⟨?_, ?_, ?_, ?_, ?_, ?_, fun l hl2 => ?_⟩
    · rw [pI_nj (by decide), pI_nj (by decide), pI_nj (by decide), pI_nj (by decide), pI_nj (by decide), pI_eq]
    · rw [pI_nj (by decide), pI_nj (by decide), pI_nj (by decide), pI_nj (by decide), pI_eq]
    · rw [pI_nj (by decide), pI_nj (by decide), pI_nj (by decide), pI_eq]
    · rw [pI_nj (by decide), pI_nj (by decide), pI_eq]
    · rw [pI_nj (by decide), pI_eq]
    · rw [pI_eq]
    · rw [pI_nk (Ne.symm h3), pI_nk (Ne.symm h3), pI_nk (Ne.symm h3), pI_nk (Ne.symm h3), pI_nk (Ne.symm h3), pI_nk (Ne.symm h3), pC_eq, pk_cpy_in (by omega) (by omega), show 16 * i + (l - 0) = 16 * i + l by omega]
      exact g1 l hl2
  · exact ((((((Fr.pC (P := fun q => q = k ∨ q = r k 0) (Or.inr rfl)).tr (Fr.pI (Or.inl rfl))).tr (Fr.pI (Or.inl rfl))).tr (Fr.pI (Or.inl rfl))).tr (Fr.pI (Or.inl rfl))).tr (Fr.pI (Or.inl rfl))).tr (Fr.pI (Or.inl rfl))
theorem z_become {k2 : Nat} (hB : Bc r h k2 b) (h1 : k2 ≠ k) (h2 : r k2 0 ≠ r k 0) (h3 : k ≠ r k 0) (h4 : k2 ≠ r k 0) :
    ∃ h', fX0_become n r k k2 h = some h' ∧ Bc r h' k b ∧ Fr (fun q => q = k ∨ q = r k 0) h h' := by
  obtain ⟨g1, g2, g3, g4, g5, g6, g7⟩ := hB
  unfold fX0_become
  rw [show (0 : Int32) = nI 0 from rfl, show (10 : Int32) = nI 10 from rfl, z_cy (by omega) (by omega) (by omega) (by omega)]
  simp only [lE, nI_clamp (show 0 < 2 ^ 31 by omega), nI_clamp (show 10 < 2 ^ 31 by omega), pI_nk h1, pC_nk h4, g1, g2, g3, g4, g5, g6]
  refine ⟨_, rfl, ?_, ?_⟩
  · refine ⟨?_, ?_, ?_, ?_, ?_, ?_, fun l hl2 => ?_⟩
    · rw [pI_nj (by decide), pI_nj (by decide), pI_nj (by decide), pI_nj (by decide), pI_nj (by decide), pI_eq]
    · rw [pI_nj (by decide), pI_nj (by decide), pI_nj (by decide), pI_nj (by decide), pI_eq]
    · rw [pI_nj (by decide), pI_nj (by decide), pI_nj (by decide), pI_eq]
    · rw [pI_nj (by decide), pI_nj (by decide), pI_eq]
    · rw [pI_nj (by decide), pI_eq]
    · rw [pI_eq]
    · rw [pI_nk (Ne.symm h3), pI_nk (Ne.symm h3), pI_nk (Ne.symm h3), pI_nk (Ne.symm h3), pI_nk (Ne.symm h3), pI_nk (Ne.symm h3), pC_eq, pk_cpy_in (by omega) (by omega), show 0 + (l - 0) = l by omega]
      exact g7 l hl2
  · exact ((((((Fr.pC (P := fun q => q = k ∨ q = r k 0) (Or.inr rfl)).tr (Fr.pI (Or.inl rfl))).tr (Fr.pI (Or.inl rfl))).tr (Fr.pI (Or.inl rfl))).tr (Fr.pI (Or.inl rfl))).tr (Fr.pI (Or.inl rfl))).tr (Fr.pI (Or.inl rfl))
end RR
