/-! ===== the sea begins ===== -/
/-- the bonds at first -/
def bg (K : Kd) : Nat → Nat := fun j => if j = 0 then 2 ^ (K 0 1) - 1 else if j = 4 then (if K 0 0 = 0 then 0 else 3) else 0
theorem bg_BB {K : Kd} (hK : Bk K) : BB K (bg K) := by
  refine ⟨?_, Nat.two_pow_pos _, Nat.two_pow_pos _, Nat.zero_le _, ?_, fun l hl => ?_⟩
  · show 2 ^ (K 0 1) - 1 < 2 ^ (K 0 1)
    have := Nat.two_pow_pos (K 0 1); omega
  · show (if K 0 0 = 0 then 0 else 3) ≤ 99
    split <;> omega
  · have e : bg K (6 + l) = 0 := by unfold bg; rw [if_neg (by omega), if_neg (by omega)]
    rw [e]
    exact ⟨by omega, fun hM _ => (hK.2.2.2.1 l hM).2.2.2.2.1⟩
theorem z_pow1 {m : Nat} (hm : m ≤ 10) : (1 : Int32) <<< (nI m &&& 31) - 1 = nI (2 ^ m - 1) := by
  rw [z_shl (by omega), show (1 : Int32) = nI 1 from rfl, pk_sub (Nat.two_pow_pos m)]
theorem rx_swap (w : Bool) : pR (pR (RX w) 0 1 (dd w)) 0 2 (cc w) = RX (!w) := by
  funext x y
  unfold pR
  by_cases c : x = 0
  · subst c
    rw [if_pos rfl]
    by_cases c2 : y = 2
    · subst c2; rw [if_pos rfl]; cases w <;> rfl
    · rw [if_neg c2, if_pos rfl]
      by_cases c1 : y = 1
      · subst c1; rw [if_pos rfl]; cases w <;> rfl
      · rw [if_neg c1]
        unfold RX
        simp [c1, c2]
  · rw [if_neg c, if_neg c]
    unfold RX
    simp [c]
theorem cc_n (w : Bool) : cc (!w) = dd w := by cases w <;> rfl
section SE2
variable {w : Bool} {T : Nat → Nat} {k n : Nat} {h hx hm : Hp} {K K' : Kd} {b : Nat → Nat}
theorem z_bg {h' : Hp} {r : Rf} {c : Nat} (r23 : r 23 0 = 24) (hc : c ≠ 23 ∧ c ≠ 24) (hK : Bk K) (h9 : h.1 c 9 = nI (K 0 0)) (h10 : h.1 c 10 = nI (K 0 1)) (hn : 20 ≤ n) : ∃ h', fX0_begin n r 23 c h = some h' ∧ Bc r h' 23 (bg K) ∧ Fr (fun a => a = 23 ∨ a = 24) h h' := by
  have hN := hK.1
  unfold fX0_begin lX0_begin_2
  obtain ⟨g, e1, e2, e3⟩ := it_from (b := fun (s : Int32 × Hp) => bX0_begin_2 n r 23 c s.1 s.2) (fun i s => ∃ h', s = (nI i, h') ∧ Fr (fun a => a = 24) h h' ∧ ∀ l, l < i → h'.1 24 l = nI 0) (fun h' => Fr (fun a => a = 24) h h' ∧ ∀ l, l < 10 → h'.1 24 l = nI 0) 10 (n := n) (x := (0, h)) (by omega) ⟨h, rfl, Fr.rf, fun l hl => by omega⟩ (by
    rintro i s hi ⟨h1, rfl, f1, f2⟩
    show (∃ z, bX0_begin_2 n r 23 c (nI i) h1 = _ ∧ _) ∨ (_ ∧ ∃ y, bX0_begin_2 n r 23 c (nI i) h1 = _ ∧ _)
    unfold bX0_begin_2
    by_cases ce : i < 10
    · right
      rw [if_neg (show ¬ (10 : Int32) ≤ nI i from nI_ge (b := 10) ce (by omega)), z_ck ce (by omega), nI_clamp (by omega), r23]
      simp only [lE, nI_1]
      refine ⟨ce, _, rfl, _, rfl, f1.tr (Fr.pI rfl), fun l hl => ?_⟩
      by_cases e : l = i
      · subst e; rw [pI_eq]; rfl
      · rw [pI_nj e]; exact f2 l (by omega)
    · left
      rw [if_pos (show (10 : Int32) ≤ nI i from nI_le (a := 10) (by omega) (by omega))]
      exact ⟨_, rfl, f1, fun l hl => f2 l (by omega)⟩)
  rw [e1, Option.bind_some]
  simp only [lE]
  have fq : ∀ (q : Hp) (j : Nat) (v : Int32), Fr (fun a => a = 23 ∨ a = 24) q (pI q 23 j v) := fun q j v => Fr.pI (Or.inl rfl)
  have t1 : fX1_isThere n r c (pI (pI (pI (pI g 23 1 (1 <<< (g.1 c 10 &&& 31) - 1)) 23 2 0) 23 3 0) 23 4 0) = some (bI (decide (K 0 0 ≠ 0))) := by
    unfold fX1_isThere
    rw [pI_nk hc.1, pI_nk hc.1, pI_nk hc.1, pI_nk hc.1, e2.2 c hc.2, h9]
    by_cases e : K 0 0 = 0
    · rw [if_pos (by rw [e]; decide +kernel), decide_eq_false (by simp [e])]; rfl
    · rw [if_neg (nI_nle (by omega) (by omega)), decide_eq_true e]; rfl
  have e10 : g.1 c 10 = nI (K 0 1) := by rw [e2.2 c hc.2]; exact h10
  rw [t1, Option.bind_some, e10, z_pow1 hK.2.1]
  unfold jX0_begin_61
  simp only [lE]
  have fin : ∀ v : Nat, v = (if K 0 0 = 0 then 0 else 3) → ∃ h', some (pI (pI (pI (pI (pI (pI g 23 1 (nI (2 ^ K 0 1 - 1))) 23 2 0) 23 3 0) 23 4 0) 23 5 (nI v)) 23 6 0) = some h' ∧ Bc r h' 23 (bg K) ∧ Fr (fun a => a = 23 ∨ a = 24) h h' := by
    intro v hv
    refine ⟨_, rfl, ⟨?_, ?_, ?_, ?_, ?_, ?_, fun l hl => ?_⟩, ((((((e2.mono (fun a q => Or.inr q)).tr (fq _ 1 _)).tr (fq _ 2 _)).tr (fq _ 3 _)).tr (fq _ 4 _)).tr (fq _ 5 _)).tr (fq _ 6 _)⟩
    · rw [pI_nj (by decide), pI_nj (by decide), pI_nj (by decide), pI_nj (by decide), pI_nj (by decide), pI_eq]; rfl
    · rw [pI_nj (by decide), pI_nj (by decide), pI_nj (by decide), pI_nj (by decide), pI_eq]; rfl
    · rw [pI_nj (by decide), pI_nj (by decide), pI_nj (by decide), pI_eq]; rfl
    · rw [pI_nj (by decide), pI_nj (by decide), pI_eq]; rfl
    · rw [pI_nj (by decide), pI_eq, hv]; rfl
    · rw [pI_eq]; rfl
    · rw [r23, pI_nk (by decide), pI_nk (by decide), pI_nk (by decide), pI_nk (by decide), pI_nk (by decide), pI_nk (by decide), e3 l hl]
      unfold bg
      rw [if_neg (by omega), if_neg (by omega)]
  by_cases e : K 0 0 = 0
  · rw [decide_eq_false (by simp [e]), if_pos (show bI false = 0 from rfl)]
    exact fin 0 (by rw [if_pos e])
  · rw [decide_eq_true e, if_neg (show ¬ bI true = 0 by decide)]
    exact fin 3 (by rw [if_neg e])
/-- the reference takes what it has read over -/
theorem z_copy (hR : Cr hm K) (hK : Bk K) (h15 : hm.1 0 15 = nI (K 0 1)) (h14 : hm.1 0 14 = nI (K 0 0)) (h16 : hm.1 0 16 = nI (K 0 2)) (hn : 300 ≤ n) : ∃ h', lX6_sea_64 n RM 0 0 hm = some (nI (K 0 1), h') ∧ Cm RM h' K ∧ Bm h' 12 (bg K) ∧ h'.1 0 24 = 0 ∧ h'.1 0 28 = 0 ∧ h'.1 0 32 = 0 ∧ (∀ i, i < 2 → h'.1 20 i = 0) ∧ FrM (fun a => (7 ≤ a ∧ a ≤ 12) ∨ a = 20) (fun j => j = 24 ∨ j = 28 ∨ j = 32) hm h' := by
  have hN := hK.1
  have hM10 := hK.2.1
  have hW := hK.2.2.1
  have fa : ∀ (q : Hp) (a j : Nat) (v : Int32), ((7 ≤ a ∧ a ≤ 12) ∨ a = 20) → FrM (fun a => (7 ≤ a ∧ a ≤ 12) ∨ a = 20) (fun j => j = 24 ∨ j = 28 ∨ j = 32) q (pI q a j v) := fun q a j v ha => FrM.ar (by omega) ha
  unfold lX6_sea_64
  obtain ⟨g1, a1, a2, a3⟩ := it_from (b := fun (s : Int32 × Hp) => bX6_sea_64 n RM 0 s.1 s.2) (fun i s => ∃ h', s = (nI i, h') ∧ FrM (fun a => (7 ≤ a ∧ a ≤ 12) ∨ a = 20) (fun j => j = 24 ∨ j = 28 ∨ j = 32) hm h' ∧ ∀ y, y < i → h'.1 7 y = hm.1 2 y ∧ h'.1 10 y = hm.1 5 y) (fun h' => FrM (fun a => (7 ≤ a ∧ a ≤ 12) ∨ a = 20) (fun j => j = 24 ∨ j = 28 ∨ j = 32) hm h' ∧ ∀ y, y < 2 * K 0 1 → h'.1 7 y = hm.1 2 y ∧ h'.1 10 y = hm.1 5 y) (2 * K 0 1) (n := n) (x := (0, hm)) (by omega) ⟨hm, rfl, FrM.rf, fun l hl => by omega⟩ (by
    rintro i s hi ⟨h1, rfl, f1, f2⟩
    show (∃ z, bX6_sea_64 n RM 0 (nI i) h1 = _ ∧ _) ∨ (_ ∧ ∃ y, bX6_sea_64 n RM 0 (nI i) h1 = _ ∧ _)
    unfold bX6_sea_64
    rw [f1.2.2 15 (by decide), h15, nI_2]
    by_cases ce : i < 2 * K 0 1
    · right
      have hck : ∀ {q : Type} (x : Option q), ck (nI i) 20 x = x := fun x => z_ck (by omega) (by omega)
      rw [if_neg (nI_ge ce (by omega)), rm17, rm20, rm9, rm12]
      simp only [hck, lE, nI_1, nI_clamp (show i < 2 ^ 31 by omega)]
      refine ⟨ce, _, rfl, _, rfl, (f1.tr (fa _ 7 _ _ (by omega))).tr (fa _ 10 _ _ (by omega)), fun y hy => ?_⟩
      rw [pI_nk (show 7 ≠ 10 by decide), pI_nk (show 5 ≠ 7 by decide), f1.2.1 2 (by decide) (by decide), f1.2.1 5 (by decide) (by decide)]
      by_cases e : y = i
      · subst e; rw [pI_eq, pI_eq]; exact ⟨rfl, rfl⟩
      · rw [pI_nj e, pI_nj e, pI_nk (by decide)]; exact f2 y (by omega)
    · left
      rw [if_pos (nI_le (by omega) (by omega))]
      exact ⟨_, rfl, f1, fun l hl => f2 l (by omega)⟩)
  rw [a1, Option.bind_some]
  unfold lX6_sea_106
  obtain ⟨g2, b1, b2, b3, b4⟩ := it_from (b := fun (s : Int32 × Hp) => bX6_sea_106 n RM 0 s.1 s.2) (fun i s => ∃ h', s = (nI i, h') ∧ FrM (fun a => (7 ≤ a ∧ a ≤ 12) ∨ a = 20) (fun j => j = 24 ∨ j = 28 ∨ j = 32) hm h' ∧ (h'.1 7 = g1.1 7 ∧ h'.1 10 = g1.1 10) ∧ ∀ y, y < i → h'.1 8 y = hm.1 3 y ∧ h'.1 9 y = hm.1 4 y) (fun h' => FrM (fun a => (7 ≤ a ∧ a ≤ 12) ∨ a = 20) (fun j => j = 24 ∨ j = 28 ∨ j = 32) hm h' ∧ (h'.1 7 = g1.1 7 ∧ h'.1 10 = g1.1 10) ∧ ∀ y, y < K 0 1 → h'.1 8 y = hm.1 3 y ∧ h'.1 9 y = hm.1 4 y) (K 0 1) (n := n) (x := (0, g1)) (by omega) ⟨g1, rfl, a2, ⟨rfl, rfl⟩, fun l hl => by omega⟩ (by
    rintro i s hi ⟨h1, rfl, f1, f3, f2⟩
    show (∃ z, bX6_sea_106 n RM 0 (nI i) h1 = _ ∧ _) ∨ (_ ∧ ∃ y, bX6_sea_106 n RM 0 (nI i) h1 = _ ∧ _)
    unfold bX6_sea_106
    rw [f1.2.2 15 (by decide), h15]
    by_cases ce : i < K 0 1
    · right
      have hck : ∀ {q : Type} (x : Option q), ck (nI i) 10 x = x := fun x => z_ck (by omega) (by omega)
      rw [if_neg (nI_ge ce (by omega)), rm18, rm19, rm10, rm11]
      simp only [hck, lE, nI_1, nI_clamp (show i < 2 ^ 31 by omega)]
      refine ⟨ce, _, rfl, _, rfl, (f1.tr (fa _ 8 _ _ (by omega))).tr (fa _ 9 _ _ (by omega)), ⟨?_, ?_⟩, fun y hy => ?_⟩
      · funext y; rw [pI_nk (by decide), pI_nk (by decide), f3.1]
      · funext y; rw [pI_nk (by decide), pI_nk (by decide), f3.2]
      · rw [pI_nk (show 8 ≠ 9 by decide), pI_nk (show 4 ≠ 8 by decide), f1.2.1 3 (by decide) (by decide), f1.2.1 4 (by decide) (by decide)]
        by_cases e : y = i
        · subst e; rw [pI_eq, pI_eq]; exact ⟨rfl, rfl⟩
        · rw [pI_nj e, pI_nj e, pI_nk (by decide)]; exact f2 y (by omega)
    · left
      rw [if_pos (nI_le (by omega) (by omega))]
      exact ⟨_, rfl, f1, f3, fun l hl => f2 l (by omega)⟩)
  rw [b1, Option.bind_some]
  unfold lX6_sea_146
  obtain ⟨g3, c1, c2, c3, c4⟩ := it_from (b := fun (s : Int32 × Hp) => bX6_sea_146 n RM 0 s.1 s.2) (fun i s => ∃ h', s = (nI i, h') ∧ FrM (fun a => (7 ≤ a ∧ a ≤ 12) ∨ a = 20) (fun j => j = 24 ∨ j = 28 ∨ j = 32) hm h' ∧ (h'.1 7 = g2.1 7 ∧ h'.1 10 = g2.1 10 ∧ h'.1 8 = g2.1 8 ∧ h'.1 9 = g2.1 9) ∧ ∀ y, y < i → h'.1 11 y = hm.1 6 y) (fun h' => FrM (fun a => (7 ≤ a ∧ a ≤ 12) ∨ a = 20) (fun j => j = 24 ∨ j = 28 ∨ j = 32) hm h' ∧ (h'.1 7 = g2.1 7 ∧ h'.1 10 = g2.1 10 ∧ h'.1 8 = g2.1 8 ∧ h'.1 9 = g2.1 9) ∧ ∀ y, y < K 0 2 → h'.1 11 y = hm.1 6 y) (K 0 2) (n := n) (x := (0, g2)) (by omega) ⟨g2, rfl, b2, ⟨rfl, rfl, rfl, rfl⟩, fun l hl => by omega⟩ (by
    rintro i s hi ⟨h1, rfl, f1, f3, f2⟩
    show (∃ z, bX6_sea_146 n RM 0 (nI i) h1 = _ ∧ _) ∨ (_ ∧ ∃ y, bX6_sea_146 n RM 0 (nI i) h1 = _ ∧ _)
    unfold bX6_sea_146
    rw [f1.2.2 16 (by decide), h16]
    by_cases ce : i < K 0 2
    · right
      have hck : ∀ {q : Type} (x : Option q), ck (nI i) 12 x = x := fun x => z_ck (by omega) (by omega)
      rw [if_neg (nI_ge ce (by omega)), rm21, rm13]
      simp only [hck, lE, nI_1, nI_clamp (show i < 2 ^ 31 by omega)]
      refine ⟨ce, _, rfl, _, rfl, f1.tr (fa _ 11 _ _ (by omega)), ⟨?_, ?_, ?_, ?_⟩, fun y hy => ?_⟩
      · funext y; rw [pI_nk (by decide), f3.1]
      · funext y; rw [pI_nk (by decide), f3.2.1]
      · funext y; rw [pI_nk (by decide), f3.2.2.1]
      · funext y; rw [pI_nk (by decide), f3.2.2.2]
      · rw [f1.2.1 6 (by decide) (by decide)]
        by_cases e : y = i
        · subst e; rw [pI_eq]
        · rw [pI_nj e]; exact f2 y (by omega)
    · left
      rw [if_pos (nI_le (by omega) (by omega))]
      exact ⟨_, rfl, f1, f3, fun l hl => f2 l (by omega)⟩)
  rw [c1, Option.bind_some]
  unfold lX6_sea_174
  obtain ⟨g4, d1, d2, d3, d4⟩ := it_from (b := fun (s : Int32 × Hp) => bX6_sea_174 n RM 0 s.1 s.2) (fun i s => ∃ h', s = (nI i, h') ∧ FrM (fun a => (7 ≤ a ∧ a ≤ 12) ∨ a = 20) (fun j => j = 24 ∨ j = 28 ∨ j = 32) hm h' ∧ (∀ a, a ≠ 12 → h'.1 a = g3.1 a) ∧ ∀ y, y < i → h'.1 12 y = nI 0) (fun h' => FrM (fun a => (7 ≤ a ∧ a ≤ 12) ∨ a = 20) (fun j => j = 24 ∨ j = 28 ∨ j = 32) hm h' ∧ (∀ a, a ≠ 12 → h'.1 a = g3.1 a) ∧ ∀ y, y < 16 → h'.1 12 y = nI 0) 16 (n := n) (x := (0, g3)) (by omega) ⟨g3, rfl, c2, fun _ _ => rfl, fun l hl => by omega⟩ (by
    rintro i s hi ⟨h1, rfl, f1, f3, f2⟩
    show (∃ z, bX6_sea_174 n RM 0 (nI i) h1 = _ ∧ _) ∨ (_ ∧ ∃ y, bX6_sea_174 n RM 0 (nI i) h1 = _ ∧ _)
    unfold bX6_sea_174
    by_cases ce : i < 16
    · right
      rw [if_neg (show ¬ (16 : Int32) ≤ nI i from nI_ge (b := 16) ce (by omega)), rm22, z_ck ce (by omega), nI_clamp (by omega)]
      simp only [lE, nI_1]
      refine ⟨ce, _, rfl, _, rfl, f1.tr (fa _ 12 _ _ (by omega)), fun a ha => ?_, fun y hy => ?_⟩
      · funext y; rw [pI_nk ha, f3 a ha]
      · by_cases e : y = i
        · subst e; rw [pI_eq]; rfl
        · rw [pI_nj e]; exact f2 y (by omega)
    · left
      rw [if_pos (show (16 : Int32) ≤ nI i from nI_le (a := 16) (by omega) (by omega))]
      exact ⟨_, rfl, f1, f3, fun l hl => f2 l (by omega)⟩)
  rw [d1, Option.bind_some, ck_0, cl_0, rm22, d2.2.2 15 (by decide), h15, z_pow1 hM10]
  simp only [lE]
  rw [pI_nk (show 0 ≠ 12 by decide), d2.2.2 14 (by decide), h14]
  have f0 : ∀ (q : Hp) (j : Nat) (v : Int32), (j = 24 ∨ j = 28 ∨ j = 32) → FrM (fun a => (7 ≤ a ∧ a ≤ 12) ∨ a = 20) (fun j => j = 24 ∨ j = 28 ∨ j = 32) q (pI q 0 j v) := fun q j v hj => FrM.p0 hj
  have fin : ∀ v : Nat, v = (if K 0 0 = 0 then 0 else 3) → ∃ h', jX6_sea_224 n RM 0 (nI v) 4 (pI g4 12 0 (nI (2 ^ K 0 1 - 1))) = some (nI (K 0 1), h') ∧ Cm RM h' K ∧ Bm h' 12 (bg K) ∧ h'.1 0 24 = 0 ∧ h'.1 0 28 = 0 ∧ h'.1 0 32 = 0 ∧ (∀ i, i < 2 → h'.1 20 i = 0) ∧ FrM (fun a => (7 ≤ a ∧ a ≤ 12) ∨ a = 20) (fun j => j = 24 ∨ j = 28 ∨ j = 32) hm h' := by
    intro v hv
    unfold jX6_sea_224
    have k0 : ∀ {q : Type} (x : Option q), ck 0 2 x = x := fun x => z_ck (j := 0) (by omega) (by omega)
    have k1 : ∀ {q : Type} (x : Option q), ck 1 2 x = x := fun x => z_ck (j := 1) (by omega) (by omega)
    rw [ck_4, cl_4, rm22, rm35]
    simp only [lE, k0, k1, cl_0, cl_1, vn0]
    have e15 : (pI (pI (pI (pI (pI (pI (pI g4 12 0 (nI (2 ^ K 0 1 - 1))) 12 4 (nI v)) 0 24 0) 0 28 0) 0 32 0) 20 0 0) 20 1 0).1 0 15 = nI (K 0 1) := by
      rw [pI_nk (by decide), pI_nk (by decide), pI_nj (by decide), pI_nj (by decide), pI_nj (by decide), pI_nk (by decide), pI_nk (by decide), d2.2.2 15 (by decide)]; exact h15
    rw [e15]
    refine ⟨_, rfl, ?_, fun j hj => ?_, ?_, ?_, ?_, fun i hi => ?_, ((((((d2.tr (fa _ 12 _ _ (by omega))).tr (fa _ 12 _ _ (by omega))).tr (f0 _ 24 _ (by omega))).tr (f0 _ 28 _ (by omega))).tr (f0 _ 32 _ (by omega))).tr (fa _ 20 _ _ (by omega))).tr (fa _ 20 _ _ (by omega))⟩
    · have cell : ∀ a y, a ≠ 0 → a ≠ 12 → a ≠ 20 → (pI (pI (pI (pI (pI (pI (pI g4 12 0 (nI (2 ^ K 0 1 - 1))) 12 4 (nI v)) 0 24 0) 0 28 0) 0 32 0) 20 0 0) 20 1 0).1 a y = g3.1 a y := by
        intro a y h1 h2 h3
        rw [pI_nk h3, pI_nk h3, pI_nk h1, pI_nk h1, pI_nk h1, pI_nk h2, pI_nk h2, d3 a h2]
      have fld : ∀ y, y ≠ 24 → y ≠ 28 → y ≠ 32 → (pI (pI (pI (pI (pI (pI (pI g4 12 0 (nI (2 ^ K 0 1 - 1))) 12 4 (nI v)) 0 24 0) 0 28 0) 0 32 0) 20 0 0) 20 1 0).1 0 y = hm.1 0 y := by
        intro y h1 h2 h3
        rw [pI_nk (by decide), pI_nk (by decide), pI_nj h3, pI_nj h2, pI_nj h1, pI_nk (by decide), pI_nk (by decide), d2.2.2 y (by omega)]
      obtain ⟨r1, r2, r3, r4, r5⟩ := hR
      refine ⟨by rw [fld 14 (by decide) (by decide) (by decide)]; exact h14, by rw [fld 15 (by decide) (by decide) (by decide)]; exact h15, by rw [fld 16 (by decide) (by decide) (by decide)]; exact h16, fun l hl => ?_, fun l hl => ?_⟩
      · rw [rm17, rm18, rm19, rm20, cell 7 _ (by decide) (by decide) (by decide), cell 7 _ (by decide) (by decide) (by decide), cell 8 _ (by decide) (by decide) (by decide), cell 9 _ (by decide) (by decide) (by decide), cell 10 _ (by decide) (by decide) (by decide), cell 10 _ (by decide) (by decide) (by decide), c3.1, c3.2.1, c3.2.2.1, c3.2.2.2, b3.1, b3.2, (a3 (2 * l) (by omega)).1, (a3 (2 * l + 1) (by omega)).1, (a3 (2 * l) (by omega)).2, (a3 (2 * l + 1) (by omega)).2, (b4 l hl).1, (b4 l hl).2]
        exact r4 l hl
      · rw [rm21, cell 11 _ (by decide) (by decide) (by decide), c4 l hl]
        exact r5 l hl
    · rw [pI_nk (by decide), pI_nk (by decide), pI_nk (by decide), pI_nk (by decide), pI_nk (by decide)]
      unfold bg
      by_cases e4 : j = 4
      · subst e4; rw [pI_eq, hv, if_neg (show ¬ 4 = 0 by decide), if_pos (show 4 = 4 from rfl)]
      · rw [pI_nj e4]
        by_cases e0 : j = 0
        · subst e0; rw [pI_eq, if_pos rfl]
        · rw [pI_nj e0, if_neg e0, if_neg e4]; exact d4 j hj
    · rw [pI_nk (by decide), pI_nk (by decide), pI_nj (by decide), pI_nj (by decide), pI_eq]
    · rw [pI_nk (by decide), pI_nk (by decide), pI_nj (by decide), pI_eq]
    · rw [pI_nk (by decide), pI_nk (by decide), pI_eq]
    · rcases (by omega : i = 0 ∨ i = 1) with e | e
      · subst e; rw [pI_nj (by decide), pI_eq]
      · subst e; rw [pI_eq]
  by_cases e : K 0 0 = 0
  · rw [if_pos (show nI (K 0 0) = 0 by rw [e]; rfl)]
    exact fin 0 (by rw [if_pos e])
  · rw [if_neg (nI_ne0 (by omega) (by omega))]
    exact fin 3 (by rw [if_neg e])
/-- the sea: the two charts may change places -/
def SimS (r : Rf) (x : Option (Int32 × Hp × Rf)) (m : Option (Int32 × Hp)) : Prop := ∃ o hx' hm' w', x = some (o, hx', RX w') ∧ m = some (o, hm') ∧ IV w' hx' hm'
theorem sim_sea (hI : IV w hx hm) (hn : 300 ≤ n) : SimS (RX w) (fX5_sea n (RX w) 0 hx) (fX6_sea n RM 0 hm) := by
  obtain ⟨K, b, hI⟩ := hI
  have hd3 := dd_in w
  have hc3 := cc_in w
  have hcd : (cc w = 3 ∧ dd w = 13) ∨ (cc w = 13 ∧ dd w = 3) := by cases w <;> simp [cc, dd]
  obtain ⟨T, k, x1, g, m1, hT, fD, fR, e1, e2, e3⟩ := z_tell (n := n) hI hn
  obtain ⟨i1, i2, i3, i4, i5, i6, i7, i8, i9, i10, i11⟩ := hI
  unfold fX5_sea fX6_sea
  rw [rx00, rx02, rx01, e1, e2]
  simp only [bd2_some]
  rw [pI_nj (show 3 ≠ 1 by decide)]
  rcases e3 with ⟨rfl, K', q, hC, hH, hM, hR, hK⟩ | ⟨rfl, kd, s, q, k1, k2, hC, h4, hM⟩
  · -- told well
    rw [hC.2.2.1, if_pos (show nI 0 = 0 from rfl)]
    simp only [lE, n10, if_false]
    rw [rx_swap]
    have hD1 : (pI x1 1 1 0).1 (dd w) = x1.1 (dd w) := by funext y; exact pI_nk (by omega)
    obtain ⟨x2, a1, a2, a3⟩ := z_bg (n := n) (h' := hx) (h := pI x1 1 1 0) (r := RX (!w)) (c := dd w) (rx230 _) (by omega) hK (by rw [hD1]; exact hH.1) (by rw [hD1]; exact hH.2.1) (by omega)
    rw [show RX (!w) 0 3 = 23 from rx03 _, show RX (!w) 0 1 = dd w by rw [rx01, cc_n], show RX (!w) 0 5 = 27 from rx05 _, show RX (!w) 0 6 = 29 from rx06 _, a1, Option.bind_some, z_forget2, Option.bind_some, z_forget3, Option.bind_some]
    unfold jX6_sea_23
    simp only [lE, n10, if_false]
    have R1 : Cr (pI (pI (pI (pI (pI m1 0 0 0) 0 5 (-1)) 0 14 (nI (K' 0 0))) 0 15 (nI (K' 0 1))) 0 16 (nI (K' 0 2))) K' := hR.fr (((((FrM.p0 (P := fun _ => False) (Q := fun j => j = 0 ∨ j = 5 ∨ j = 14 ∨ j = 15 ∨ j = 16) (Or.inl rfl)).tr (FrM.p0 (Or.inr (Or.inl rfl)))).tr (FrM.p0 (Or.inr (Or.inr (Or.inl rfl))))).tr (FrM.p0 (Or.inr (Or.inr (Or.inr (Or.inl rfl)))))).tr (FrM.p0 (Or.inr (Or.inr (Or.inr (Or.inr rfl)))))) (fun _ _ _ q => q) (fun j j1 j2 q => by omega)
    have e6 : (pI (pI m1 0 0 0) 0 5 (-1)).1 0 6 = nI (K' 0 0) := by rw [pI_nj (by decide), pI_nj (by decide)]; exact hR.1
    have e7 : ∀ v, (pI (pI (pI m1 0 0 0) 0 5 (-1)) 0 14 v).1 0 7 = nI (K' 0 1) := fun v => by rw [pI_nj (by decide), pI_nj (by decide), pI_nj (by decide)]; exact hR.2.1
    have e8 : ∀ v u, (pI (pI (pI (pI m1 0 0 0) 0 5 (-1)) 0 14 v) 0 15 u).1 0 8 = nI (K' 0 2) := fun v u => by rw [pI_nj (by decide), pI_nj (by decide), pI_nj (by decide), pI_nj (by decide)]; exact hR.2.2.1
    rw [e6, e7, e8]
    obtain ⟨m2, b1, b2, b3, b4, b5, b6, b7, b8⟩ := z_copy (n := n) R1 hK (by rw [pI_nj (by decide), pI_eq]) (by rw [pI_nj (by decide), pI_nj (by decide), pI_eq]) (by rw [pI_eq]) hn
    rw [b1]
    have cD : ∀ a, dd w ≤ a → a ≤ dd w + 9 → (pI (pI (pI (pI (pI (pI (pI x2 27 1 0) 27 2 0) 29 3 0) 29 4 0) 29 5 0) 29 6 0) 0 9 0).1 a = x1.1 a := by
      intro a h1 h2
      funext y
      rw [pI_nk (by omega), pI_nk (by omega), pI_nk (by omega), pI_nk (by omega), pI_nk (by omega), pI_nk (by omega), pI_nk (by omega), a3.2 a (by omega), pI_nk (by omega)]
    have ch : Ch (RX (!w)) (pI (pI (pI (pI (pI (pI (pI x2 27 1 0) 27 2 0) 29 3 0) 29 4 0) 29 5 0) 29 6 0) 0 9 0) (cc (!w)) K' := by
      have hrr : ∀ j, RX (!w) (dd w) j = RX w (dd w) j := fun j => by rw [rx_d, ← cc_n, rx_c]
      rw [cc_n]
      unfold Ch
      simp only [hrr, rx_d]
      rw [cD (dd w) (by omega) (by omega), cD (dd w + 1 + 0) (by omega) (by omega), cD (dd w + 1 + 1) (by omega) (by omega), cD (dd w + 1 + 2) (by omega) (by omega), cD (dd w + 1 + 3) (by omega) (by omega), cD (dd w + 1 + 4) (by omega) (by omega), cD (dd w + 1 + 5) (by omega) (by omega), cD (dd w + 1 + 6) (by omega) (by omega), cD (dd w + 1 + 7) (by omega) (by omega)]
      have := hH
      unfold Ch at this
      simp only [rx_d] at this
      exact this
    have o10 : (pI (pI (pI (pI (pI (pI (pI x2 27 1 0) 27 2 0) 29 3 0) 29 4 0) 29 5 0) 29 6 0) 0 9 0).1 (dd w) 10 = nI (K' 0 1) := by rw [cD (dd w) (by omega) (by omega)]; exact hH.2.1
    rw [o10]
    refine ⟨_, _, m2, !w, rfl, rfl, K', bg K', hK, ch, b2, ?_, b3, bg_BB hK, Nat.zero_le _, ⟨0, by omega, ?_, ?_, fun i hi => by omega, ?_⟩, ?_, tk0 ?_ ?_ ?_ ?_ b5 b6, ?_⟩
    · exact a2.frw (((((((Fr.pI (P := fun a => a = 27 ∨ a = 29 ∨ a = 0) (Or.inl rfl)).tr (Fr.pI (Or.inl rfl))).tr (Fr.pI (Or.inr (Or.inl rfl)))).tr (Fr.pI (Or.inr (Or.inl rfl)))).tr (Fr.pI (Or.inr (Or.inl rfl)))).tr (Fr.pI (Or.inr (Or.inl rfl)))).tr (Fr.pI (Or.inr (Or.inr rfl)))) (by decide) (by decide)
    · rw [pI_nk (by decide), pI_nk (by decide), pI_nk (by decide), pI_nk (by decide), pI_nk (by decide), pI_nk (by decide), pI_nk (by decide), a3.2 1 (by decide), pI_eq]; rfl
    · rw [b8.2.2 0 (by decide), pI_nj (by decide), pI_nj (by decide), pI_nj (by decide), pI_nj (by decide), pI_eq]; rfl
    · rw [pI_nk (by decide), pI_nk (by decide), pI_nk (by decide), pI_nk (by decide), pI_nk (by decide), pI_nk (by decide), pI_nk (by decide), a3.2 1 (by decide), pI_nj (by decide), hC.2.2.2.1, b8.2.2 5 (by decide), pI_nj (by decide), pI_nj (by decide), pI_nj (by decide), pI_eq]
    · obtain ⟨pp, qq, c, lg, l1, l2, l3⟩ := i9
      refine lg0 (p := 0) (q := qq) (lg := lg) ?_ ?_ ?_ b4 l2.2.2.1
      · rw [pI_nk (by decide), pI_nk (by decide), pI_nk (by decide), pI_nk (by decide), pI_nk (by decide), pI_nj (by decide), pI_eq]
      · rw [pI_nk (by decide), pI_nk (by decide), pI_nk (by decide), pI_nk (by decide), pI_nk (by decide), pI_eq]
      · rw [b8.2.2 25 (by decide), pI_nj (by decide), pI_nj (by decide), pI_nj (by decide), pI_nj (by decide), pI_nj (by decide), fR.2.2 25 (by decide)]; exact l2.1
    · rw [pI_nk (by decide), pI_nj (by decide), pI_nj (by decide), pI_nj (by decide), pI_eq]
    · rw [pI_nk (by decide), pI_nj (by decide), pI_nj (by decide), pI_eq]
    · rw [pI_nk (by decide), pI_nj (by decide), pI_eq]
    · rw [pI_nk (by decide), pI_eq]
    · obtain ⟨gg, ss, s1, s2, s3, s4, s5, s6, s7⟩ := i11
      refine ⟨0, ss, by omega, pI_eq, fun i hi => by rw [b7 i hi, Nat.zero_testBit]; rfl, ?_, ?_, s6, fun i hi hg => by rw [Nat.zero_testBit] at hg; cases hg⟩
      · rw [pI_nj (by decide), pI_nk (by decide), pI_nk (by decide), pI_nk (by decide), pI_nk (by decide), pI_nk (by decide), pI_nk (by decide), a3.2 0 (by decide), pI_nk (by decide), fD.2 0 (by omega)]; exact s4
      · rw [b8.1, show (pI (pI (pI (pI (pI m1 0 0 0) 0 5 (-1)) 0 14 (nI (K' 0 0))) 0 15 (nI (K' 0 1))) 0 16 (nI (K' 0 2))).2 = m1.2 from rfl, fR.1]; exact s5
  · -- a fault
    rw [hC.2.2.1, if_neg (nI_ne0 (by omega) (by omega))]
    unfold jX6_sea_23
    simp only [lE, if_true]
    have e2' : (pI m1 0 0 0).1 0 2 = nI s := by rw [pI_nj (by decide)]; exact hM.2.1
    rw [e2', pI_nj (show 4 ≠ 5 by decide), pI_nj (show 4 ≠ 0 by decide), h4]
    have fx : Fr (fun a => a = 1 ∨ (dd w ≤ a ∧ a ≤ dd w + 9)) hx (pI x1 1 1 0) := fD.tr (Fr.pI (Or.inl rfl))
    have fm : FrM (fun a => 2 ≤ a ∧ a ≤ 6) (fun j => j ≤ 8) hm (pI (pI m1 0 0 0) 0 5 (nI s)) := ((fR.mono (fun _ q => q) (fun j q => by omega)).tr (FrM.p0 (by omega))).tr (FrM.p0 (by omega))
    refine ⟨_, _, _, w, rfl, rfl, K, b, i1, ?_, i3.frm fm (fun a _ _ q => by omega) (fun j _ _ q => by omega), i4.frw fx (by omega) (by omega), i5.frm fm (by omega), i6, i7, ⟨0, by omega, pI_eq, by rw [pI_nj (by decide), pI_eq]; rfl, fun i hi => by omega, by rw [pI_nj (by decide), hC.2.2.2.1, pI_eq]⟩, i9.fr fx fm (by omega) (by omega) (by omega) (by omega) (by omega), i10.fr fx fm (fun a _ _ q => by omega) (fun a _ _ q => by omega) (by omega) (by omega), i11.fr fx fm (by omega) (by omega) (by omega) (by omega) (by omega)⟩
    exact i2.fr fx (by omega) (fun j hj => by rw [rx_c]; omega)
end SE2
