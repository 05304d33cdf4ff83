/-! ===== the sea is told ===== -/
section TEL
variable {w : Bool} {T : Nat → Nat} {k n p f : Nat} {h hx hm : Hp} {K : Kd} {b : Nat → Nat} {fa : Int32}
theorem St.blank (hS : St w T k K hx hm p) : St w T k K (pI hx 1 2 (nI (sk T k p))) (pI hm 0 2 (nI (sk T k p))) (sk T k p) := by
  obtain ⟨hC, hH, hM, hR, hK⟩ := hS
  have s := sk_ok (T := T) hC.2.2.2.2.2.1
  exact ⟨hC.at s.2.1, hH.d fr1, hM.at s.2.1, hR.n fn2, hK⟩
theorem z_all (hS : St w T k K hx hm 0) (hT : TT T k) (hn : 300 ≤ n) : ∃ z hx' g hm', it (fun (s : Int32 × Hp) => bX4_tell_21 n (RX w) 1 (dd w) s.1 s.2) n (0, hx) = some z ∧ (z = .inl hx' ∨ z = .inr hx') ∧ it (fun (s : Int32 × Hp) => bX6_readsSea_22 n RM 0 s.1 s.2) n (1, hm) = some (g, hm') ∧ FrD w hx hx' ∧ FrR hm hm' ∧ ((g = 1 ∧ ∃ K' q, St w T k K' hx' hm' q) ∨ (g = 0 ∧ Bad T k hx' hm')) := by
  have hk := hT.1
  obtain ⟨z, v, e1, e2, hx', g, hm', e3, e4, e5⟩ := it_two (b := fun (s : Int32 × Hp) => bX4_tell_21 n (RX w) 1 (dd w) s.1 s.2) (d := fun (s : Int32 × Hp) => bX6_readsSea_22 n RM 0 s.1 s.2) (fun i x y => (∃ hx' hm' p K, x = (nI i, hx') ∧ y = (1, hm') ∧ St w T k K hx' hm' p ∧ i ≤ p ∧ FrD w hx hx' ∧ FrR hm hm') ∨ (∃ hx' hm', x = (nI i, hx') ∧ y = (0, hm') ∧ Bad T k hx' hm' ∧ FrD w hx hx' ∧ FrR hm hm')) (fun z v => ∃ hx' g hm', (z = .inl hx' ∨ z = .inr hx') ∧ v = (g, hm') ∧ FrD w hx hx' ∧ FrR hm hm' ∧ ((g = 1 ∧ ∃ K' q, St w T k K' hx' hm' q) ∨ (g = 0 ∧ Bad T k hx' hm'))) 240 (n := n) (m := n) (x := (0, hx)) (y := (1, hm)) (by omega) (by omega) (Or.inl ⟨hx, hm, 0, K, rfl, rfl, hS, by omega, Fr.rf, FrM.rf⟩) (by
    rintro i x y hi (⟨hx', hm', p, K, rfl, rfl, hS, hip, f1, f2⟩ | ⟨hx', hm', rfl, rfl, hB, f1, f2⟩)
    · show (∃ z v, bX4_tell_21 n (RX w) 1 (dd w) (nI i) hx' = _ ∧ bX6_readsSea_22 n RM 0 1 hm' = _ ∧ _) ∨ (_ ∧ ∃ x' y', bX4_tell_21 n (RX w) 1 (dd w) (nI i) hx' = _ ∧ bX6_readsSea_22 n RM 0 1 hm' = _ ∧ _)
      have hpk := hS.1.2.2.2.2.2.1
      have sp := sk_ok (T := T) hpk
      have hSb := hS.blank
      unfold bX4_tell_21 bX6_readsSea_22
      rw [if_neg n10, z_next hS.2.2.1 hT hn]
      simp only [bd2_some]
      by_cases c : i < 240
      · rw [if_neg (show ¬ (240 : Int32) ≤ nI i from nI_ge (b := 240) c (by omega)), hS.1.2.2.1, if_pos (show nI 0 = 0 from rfl), z_skip hS.1 hT hn, Option.bind_some, hSb.1.2.1, hSb.1.1]
        by_cases cp : sk T k p < k
        · right
          rw [if_pos (nI_lt cp (by omega)), if_neg (fun q => (ltr_m1 hT).mp q cp)]
          obtain ⟨x2, g, m2, a1, a2, a3, a4, a5⟩ := z_clause (n := n) hSb cp (sk_sk hpk) hT hn
          rw [a1, a2, Option.bind_some]
          simp only [bd2_some, lE, nI_1]
          refine ⟨c, _, _, rfl, rfl, ?_⟩
          rcases a5 with ⟨rfl, K', q, q1, q2⟩ | ⟨rfl, hB⟩
          · exact Or.inl ⟨x2, m2, q, K', rfl, rfl, q2, by omega, (f1.tr (toD fr1)).tr a3, (f2.tr (toR fn2)).tr a4⟩
          · exact Or.inr ⟨x2, m2, rfl, rfl, hB, (f1.tr (toD fr1)).tr a3, (f2.tr (toR fn2)).tr a4⟩
        · left
          rw [if_neg (nI_nlt (by omega) (by omega)), if_pos ((ltr_m1 hT).mpr cp)]
          exact ⟨_, _, rfl, rfl, _, _, _, Or.inl rfl, rfl, f1.tr (toD fr1), f2.tr (toR fn2), Or.inl ⟨rfl, K, _, hSb⟩⟩
      · left
        have e : sk T k p = p := by omega
        rw [if_pos (show (240 : Int32) ≤ nI i from nI_le (a := 240) (by omega) (by omega)), e, if_pos ((ltr_m1 hT).mpr (by omega))]
        exact ⟨_, _, rfl, rfl, _, _, _, Or.inr rfl, rfl, f1, f2.tr (toR fn2), Or.inl ⟨rfl, K, p, hS.1, hS.2.1, hS.2.2.1.at hpk, hS.2.2.2.1.n fn2, hS.2.2.2.2⟩⟩
    · left
      show ∃ z v, bX4_tell_21 n (RX w) 1 (dd w) (nI i) hx' = _ ∧ bX6_readsSea_22 n RM 0 0 hm' = _ ∧ _
      unfold bX4_tell_21 bX6_readsSea_22
      have hB0 := hB
      obtain ⟨kd, s, q, b1, b2, b3, b4, b5⟩ := hB
      rw [if_pos (rfl : (0 : Int32) = 0), b3.2.2.1, if_neg (nI_ne0 (by omega) (by omega))]
      refine ⟨.inr hx', _, ?_, rfl, hx', 0, hm', Or.inr rfl, rfl, f1, f2, Or.inr ⟨rfl, hB0⟩⟩
      split <;> rfl)
  obtain ⟨e6, e7, e8⟩ := e5
  subst e4
  exact ⟨z, hx', g, hm', e1, e3, e2, e6, e7, e8⟩
def kZ : Kd := fun _ _ => 0
theorem kZ_ok : Bk kZ := ⟨by decide, by decide, by decide, fun l hl => absurd hl (Nat.not_lt_zero l), fun l hl => absurd hl (Nat.not_lt_zero l), fun _ => ⟨rfl, rfl⟩⟩
/-- the text is read -/
theorem z_tell (hI : Inv w K b hx hm) (hn : 300 ≤ n) : ∃ T k hx' g hm', TT T k ∧ FrD w hx hx' ∧ FrR hm hm' ∧ fX4_tell n (RX w) 1 (dd w) hx = some ((pI hx' 1 1 0).1 1 3, pI hx' 1 1 0) ∧ fX6_readsSea n RM 0 hm = some (g, hm') ∧ ((g = 1 ∧ ∃ K' q, St w T k K' hx' hm' q) ∨ (g = 0 ∧ Bad T k hx' hm')) := by
  obtain ⟨-, -, -, -, -, -, -, ⟨k, k1, k2, k3, k4, k5⟩, -⟩ := hI
  have hd3 := dd_in w
  let T : Nat → Nat := fun i => (hm.1 1 i).toNatClampNeg
  have eT : ∀ i, i < k → hm.1 1 i = nI (T i) ∧ T i ≤ 255 := fun i hi => by
    obtain ⟨-, v, v1, v2⟩ := k4 i hi
    have : T i = v := by show (hm.1 1 i).toNatClampNeg = v; rw [v2, nI_clamp (by omega)]
    rw [this]; exact ⟨v2, v1⟩
  have hT : TT T k := ⟨k1, fun i hi => (eT i hi).2⟩
  unfold fX4_tell fX1_clear fX6_readsSea
  simp only [lE, Option.bind_some]
  have hS : St w T k kZ (pI (pI (pI (pI (pI (pI hx (dd w) 9 0) (dd w) 10 0) (dd w) 11 0) 1 2 0) 1 3 0) 1 4 (-1)) (pI (pI (pI (pI hm 0 2 0) 0 6 0) 0 7 0) 0 8 0) 0 := by
    refine ⟨⟨?_, ?_, ?_, pI_eq, fun i hi => ?_, by omega, by omega⟩, ⟨?_, ?_, ?_, fun l hl => absurd hl (by show ¬ l < 0; omega), fun l hl => absurd hl (by show ¬ l < 0; omega)⟩, ⟨?_, ?_, fun i hi => ?_, by omega⟩, ⟨?_, ?_, pI_eq, fun l hl => absurd hl (by show ¬ l < 0; omega), fun l hl => absurd hl (by show ¬ l < 0; omega)⟩, kZ_ok⟩
    · rw [pI_nj (by decide), pI_nj (by decide), pI_nj (by decide), pI_nk (by omega), pI_nk (by omega), pI_nk (by omega)]; exact k2
    · rw [pI_nj (by decide), pI_nj (by decide), pI_eq]; rfl
    · rw [pI_nj (by decide), pI_eq]; rfl
    · rw [pI_nk (by decide), pI_nk (by decide), pI_nk (by decide), pI_nk (by omega), pI_nk (by omega), pI_nk (by omega), (k4 i hi).1]; exact (eT i hi).1
    · rw [pI_nk (by omega), pI_nk (by omega), pI_nk (by omega), pI_nj (by decide), pI_nj (by decide), pI_eq]; rfl
    · rw [pI_nk (by omega), pI_nk (by omega), pI_nk (by omega), pI_nj (by decide), pI_eq]; rfl
    · rw [pI_nk (by omega), pI_nk (by omega), pI_nk (by omega), pI_eq]; rfl
    · rw [pI_nj (by decide), pI_nj (by decide), pI_nj (by decide), pI_nj (by decide)]; exact k3
    · rw [pI_nj (by decide), pI_nj (by decide), pI_nj (by decide), pI_eq]; rfl
    · rw [pI_nk (by decide), pI_nk (by decide), pI_nk (by decide), pI_nk (by decide)]; exact (eT i hi).1
    · rw [pI_nj (by decide), pI_nj (by decide), pI_eq]; rfl
    · rw [pI_nj (by decide), pI_eq]; rfl
  have fd : ∀ (q : Hp) (j : Nat) (v : Int32), FrD w q (pI q (dd w) j v) := fun q j v => Fr.pI (Or.inr ⟨by omega, by omega⟩)
  have f1 : ∀ (q : Hp) (j : Nat) (v : Int32), FrD w q (pI q 1 j v) := fun q j v => Fr.pI (Or.inl rfl)
  have g1 : ∀ (q : Hp) (j : Nat) (v : Int32), 2 ≤ j ∧ j ≤ 8 ∧ j ≠ 5 → FrR q (pI q 0 j v) := fun q j v hj => FrM.p0 hj
  have fx := (((((fd hx 9 0).tr (fd _ 10 0)).tr (fd _ 11 0)).tr (f1 _ 2 0)).tr (f1 _ 3 0)).tr (f1 _ 4 (-1))
  have fm := (((g1 hm 2 0 (by decide)).tr (g1 _ 6 0 (by decide))).tr (g1 _ 7 0 (by decide))).tr (g1 _ 8 0 (by decide))
  obtain ⟨z, hx', g, hm', e1, e2, e3, e4, e5, e6⟩ := z_all (n := n) hS hT hn
  refine ⟨T, k, hx', g, hm', hT, fx.tr e4, fm.tr e5, ?_, ?_, e6⟩
  · unfold lX4_tell_21 jX4_tell_64
    rw [e1, Option.bind_some]
    rcases e2 with rfl | rfl <;> rfl
  · unfold lX6_readsSea_22
    rw [e3, Option.bind_some]
    rcases e6 with ⟨rfl, -⟩ | ⟨rfl, -⟩ <;> rfl
end TEL
