/-! ===== the fewest to be mended so that nothing parts ===== -/
/-- of the first i links, those of s mended -/
def mnd (b : Nat → Nat) (s i : Nat) : Nat → Nat := fun j => if 6 ≤ j ∧ j < 6 + i ∧ s.testBit (j - 6) = true then 0 else b j
theorem mnd_lo {b : Nat → Nat} {s i j : Nat} (h : j < 6) : mnd b s i j = b j := by unfold mnd; rw [if_neg (by omega)]
theorem mnd_st {b : Nat → Nat} {s i l : Nat} : mnd b s i (6 + l) = if l < i ∧ s.testBit l = true then 0 else b (6 + l) := by
  unfold mnd
  rw [show 6 + l - 6 = l by omega]
  by_cases c : l < i ∧ s.testBit l = true
  · rw [if_pos ⟨by omega, by omega, c.2⟩, if_pos c]
  · rw [if_neg (fun q => c ⟨by omega, q.2.2⟩), if_neg c]
theorem mnd_BB {K : Kd} {b : Nat → Nat} {s i : Nat} (hK : Bk K) (hb : BB K b) : BB K (mnd b s i) := by
  obtain ⟨c1, c2, c3, c4, c5, c6⟩ := hb
  refine ⟨by rw [mnd_lo (by omega)]; exact c1, by rw [mnd_lo (by omega)]; exact c2, by rw [mnd_lo (by omega)]; exact c3, by rw [mnd_lo (by omega)]; exact c4, by rw [mnd_lo (by omega)]; exact c5, fun l hl => ?_⟩
  rw [mnd_st, mnd_lo (show 0 < 6 by omega)]
  obtain ⟨g1, g2⟩ := c6 l hl
  split
  · exact ⟨by omega, fun hM _ => by have := (hK.2.2.2.1 l hM).2.2.2.2.1; omega⟩
  · exact ⟨g1, g2⟩
/-- alike as to link l -/
def Loc (l : Nat) (c c' : Nat → Nat) : Prop := (c 0).testBit l = (c' 0).testBit l ∧ c (6 + l) = c' (6 + l) ∧ (c 2).testBit l = (c' 2).testBit l ∧ c 3 = c' 3
theorem pas_st {K : Kd} {c : Nat → Nat} {l : Nat} (hl : l < K 0 1) : pas K c (6 + l) = if (c 0).testBit l = true then stn K c (wnd K (c 3)) l else c (6 + l) := by
  show (if 6 + l = 0 then _ else if 6 + l = 3 then _ else if 6 + l = 5 then _ else _) = _
  rw [if_neg (by omega), if_neg (by omega), if_neg (by omega), show 6 + l - 6 = l by omega]
  by_cases q : (c 0).testBit l = true
  · rw [if_pos ⟨by omega, by omega, q⟩, if_pos q]
  · rw [if_neg (fun z => q z.2.2), if_neg q]
theorem Loc.pas {K : Kd} {c c' : Nat → Nat} {l : Nat} (hl : l < K 0 1) (h : Loc l c c') : Loc l (pas K c) (pas K c') := by
  obtain ⟨h1, h2, h3, h4⟩ := h
  have es : stn K c (wnd K (c 3)) l = stn K c' (wnd K (c' 3)) l := by unfold stn; rw [h2, h3, h4]
  refine ⟨?_, ?_, h3, by show c 3 + 1 = c' 3 + 1; rw [h4]⟩
  · rw [pas_0 hl, pas_0 hl, h1]
    unfold brk
    rw [es, h1]
  · rw [pas_st hl, pas_st hl, h1, es, h2]
theorem Loc.pasN {K : Kd} {c c' : Nat → Nat} {l : Nat} (hl : l < K 0 1) (h : Loc l c c') : ∀ k, Loc l (pasN K c k) (pasN K c' k) := by
  intro k
  induction k with
  | zero => exact h
  | succ k ih => exact ih.pas hl
theorem tb1023 {l : Nat} (hl : l < 10) : (1023).testBit l = true := by
  rw [show 1023 = 2 ^ 10 - 1 from rfl, Nat.testBit_two_pow_sub_one]
  exact decide_eq_true hl
/-- done up behind k hours, if those of s are mended -/
def bhd (K : Kd) (b : Nat → Nat) (k s : Nat) : Nat := wo (pasN K b k 0) s ||| (pasN K (mnd b 1023 10) k 0 &&& s)
theorem bhd_eq {K : Kd} {b : Nat → Nat} {k s : Nat} (hK : Bk K) (hb : BB K b) (h3 : b 3 ≤ 90030) (hk : k ≤ 250) : pasN K (mnd b s (K 0 1)) k 0 = bhd K b k s := by
  have hM := hK.2.1
  have b1 := (pasN_BB hb h3 k (by omega)).1
  have b2 := (pasN_BB (mnd_BB (s := 1023) (i := 10) hK hb) (by rw [mnd_lo (by omega)]; exact h3) k (by omega)).1
  have b3 := (pasN_BB (mnd_BB (s := s) (i := K 0 1) hK hb) (by rw [mnd_lo (by omega)]; exact h3) k (by omega)).1
  apply Nat.eq_of_testBit_eq
  intro l
  unfold bhd
  rw [Nat.testBit_or, wo_tb, Nat.testBit_and]
  by_cases c : l < K 0 1
  · cases hs : s.testBit l with
    | true =>
      have h : Loc l (mnd b s (K 0 1)) (mnd b 1023 10) := ⟨by rw [mnd_lo (by omega), mnd_lo (by omega)], by rw [mnd_st, mnd_st, if_pos ⟨c, hs⟩, if_pos ⟨by omega, tb1023 (by omega)⟩], by rw [mnd_lo (by omega), mnd_lo (by omega)], by rw [mnd_lo (by omega), mnd_lo (by omega)]⟩
      rw [(h.pasN c k).1]
      simp
    | false =>
      have h : Loc l (mnd b s (K 0 1)) b := ⟨by rw [mnd_lo (by omega)], by rw [mnd_st, if_neg (fun q => by rw [hs] at q; cases q.2)], by rw [mnd_lo (by omega)], by rw [mnd_lo (by omega)]⟩
      rw [(h.pasN c k).1]
      simp
  · rw [z_tbl b1 (by omega), z_tbl b2 (by omega), z_tbl b3 (by omega)]
    rfl
theorem bhd_lt {K : Kd} {b : Nat → Nat} {k s : Nat} (hK : Bk K) (hb : BB K b) (h3 : b 3 ≤ 90030) (hk : k ≤ 250) : bhd K b k s < 2 ^ (K 0 1) := by
  rw [← bhd_eq hK hb h3 hk]
  exact (pasN_BB (mnd_BB (s := s) (i := K 0 1) hK hb) (by rw [mnd_lo (by omega)]; exact h3) k (by omega)).1
def kps (K : Kd) (b : Nat → Nat) (k s : Nat) : Bool := decide (parts K (bhd K b k s) ≤ parts K (b 0))
section KU
variable {w : Bool} {K : Kd} {b : Nat → Nat} {hx hm : Hp} {n : Nat}
theorem z_ifMended {k : Nat} (hI : Inv w K b hx hm) (hk : k ≤ 250) (hn : 300 ≤ n) : ∃ h2, fX5_doneUpBehindIfMended n (RX w) 0 (nI k) hx = some (nI (pasN K (mnd b 1023 10) k 0), h2) ∧ Fr (fun a => a = 25 ∨ a = 26) hx h2 := by
  obtain ⟨h0, b1, b2, b3⟩ := z_begin (n := n) hI
  unfold fX5_doneUpBehindIfMended
  rw [rx03, rx04, b1, Option.bind_some]
  unfold lX5_doneUpBehindIfMended_13
  obtain ⟨z, e1, e2, e3⟩ := it_from (b := fun (s : Int32 × Hp) => bX5_doneUpBehindIfMended_13 n (RX w) 0 (nI k) s.1 s.2) (fun i s => ∃ h', s = (nI i, h') ∧ Fr (fun a => a = 25 ∨ a = 26) hx h' ∧ Bc (RX w) h' 25 (mnd b 1023 i)) (fun h' => Fr (fun a => a = 25 ∨ a = 26) hx h' ∧ Bc (RX w) h' 25 (mnd b 1023 10)) 10 (n := n) (x := (0, h0)) (by omega) ⟨h0, rfl, b3, (by
      have : mnd b 1023 0 = b := by funext j; unfold mnd; rw [if_neg (by omega)]
      rw [this]; exact b2)⟩ (by
    rintro i s hi ⟨h1, rfl, f1, f2⟩
    show (∃ z, bX5_doneUpBehindIfMended_13 n (RX w) 0 (nI k) (nI i) h1 = _ ∧ _) ∨ (_ ∧ ∃ y, bX5_doneUpBehindIfMended_13 n (RX w) 0 (nI k) (nI i) h1 = _ ∧ _)
    unfold bX5_doneUpBehindIfMended_13
    by_cases ce : i < 10
    · right
      refine ⟨ce, ?_⟩
      rw [if_neg (show ¬ (10 : Int32) ≤ nI i from nI_ge (b := 10) ce (by omega)), z_ck ce (by omega), nI_clamp (by omega), rx04, rx250]
      simp only [lE, nI_1]
      refine ⟨_, rfl, _, rfl, f1.tr (Fr.pI (Or.inr rfl)), ?_⟩
      obtain ⟨g1, g2⟩ := Bc_iff.mp f2
      refine Bc_iff.mpr ⟨fun j hj => ?_, fun l hl => ?_⟩
      · rw [pI_nk (by decide), g1 j hj, mnd_lo hj, mnd_lo hj]
      · rw [rx250] at *
        rw [mnd_st]
        by_cases e : l = i
        · subst e
          rw [pI_eq, if_pos ⟨by omega, tb1023 (by omega)⟩]; rfl
        · rw [pI_nj e, g2 l hl, mnd_st]
          by_cases e2 : l < i
          · rw [if_pos ⟨e2, tb1023 (by omega)⟩, if_pos ⟨by omega, tb1023 (by omega)⟩]
          · rw [if_neg (fun q => e2 q.1), if_neg (fun q => by omega)]
    · left
      have : i = 10 := by omega
      subst this
      rw [if_pos (show (10 : Int32) ≤ nI 10 by decide)]
      exact ⟨_, rfl, f1, f2⟩)
  rw [e1, Option.bind_some]
  obtain ⟨h2, g1, g2⟩ := z_tryHours (n := n) (k := k) hI e2 e3 (mnd_BB hI.1 hI.2.2.2.2.2.1) (by rw [mnd_lo (by omega)]; exact hI.2.2.2.2.2.2.1) hk hn
  rw [g1]
  exact ⟨h2, rfl, g2⟩
theorem z_fewestToMend {k : Nat} (hI : Inv w K b hx hm) (hk : k ≤ 60) (hn : 1100 ≤ n) : ∃ h2, fX5_fewestToMend n (RX w) 0 (nI k) hx = some (oI (bsN (b 0) (kps K b k) (b 0 + 1)), h2) ∧ Inv w K b h2 hm := by
  have hM10 := hI.1.2.1
  have hd31 := p31 hI.2.2.2.2.2.1.1 (show K 0 1 ≤ 31 by omega)
  have hd10 : b 0 < 1024 := Nat.lt_of_lt_of_le hI.2.2.2.2.2.1.1 (Nat.pow_le_pow_right (by decide) hM10)
  obtain ⟨x1, e1, e2⟩ := z_doneUpBehind (n := n) (k := k) hI (by omega) (by omega)
  have hJ := hI.tri (hm' := hm) e2 FrM.rf
  obtain ⟨x2, g1, g2⟩ := z_ifMended (n := n) (k := k) hJ (by omega) (by omega)
  have hJ2 := hJ.tri (hm' := hm) g2 FrM.rf
  unfold fX5_fewestToMend
  rw [rx01, rx03, hI.2.2.2.1.1, z_partsBy hI.2.1 hI.1 hd31 (by omega), Option.bind_some, e1]
  simp only [bd2_some]
  rw [g1]
  simp only [bd2_some]
  unfold lX5_fewestToMend_31
  have key := it_size (d := b 0) (n := n) (P := kps K b k) (B := fun z s => bX5_fewestToMend_41 n (RX w) 0 (nI (parts K (b 0))) (nI (pasN K b k 0)) (nI (pasN K (mnd b 1023 10) k 0)) (nI z) s x2) (O := fun s => bX5_fewestToMend_31 n (RX w) 0 (nI (parts K (b 0))) (nI (pasN K b k 0)) (nI (pasN K (mnd b 1023 10) k 0)) s x2) hd10 hn ?_ ?_ ?_ ?_ ?_
  · rw [key, Option.bind_some]
    refine ⟨x2, ?_, hJ2⟩
    cases bsN (b 0) (kps K b k) (b 0 + 1) <;> rfl
  · intro z hz s hs
    have hp1 := parts_le (d := bhd K b k s) hI.1
    have hp2 := parts_le (d := b 0) hI.1
    show bX5_fewestToMend_41 n (RX w) 0 (nI (parts K (b 0))) (nI (pasN K b k 0)) (nI (pasN K (mnd b 1023 10) k 0)) (nI z) (nI s) x2 = _
    unfold bX5_fewestToMend_41
    rw [rx03, rx01, hJ2.2.2.2.1.1, if_neg (nI_nlt hs (by omega)), z_isChoice hJ2 hs hz, Option.bind_some, z_wo, z_and, z_or, show wo (pasN K b k 0) s ||| (pasN K (mnd b 1023 10) k 0 &&& s) = bhd K b k s from rfl, z_partsBy hJ2.2.1 hI.1 (p31 (bhd_lt hI.1 hI.2.2.2.2.2.1 hI.2.2.2.2.2.2.1 (by omega)) (by omega)) (by omega), Option.bind_some, nI_1]
    simp only [lE, bI_0]
    by_cases c1 : wo s (b 0) = 0 ∧ pc s = z
    · rw [decide_eq_true c1, if_neg (by decide)]
      by_cases c2 : parts K (bhd K b k s) ≤ parts K (b 0)
      · rw [if_neg (nI_nlt c2 (by omega)), if_pos ⟨c1.1, c1.2, decide_eq_true c2⟩]
      · rw [if_pos (nI_lt (by omega) (by omega)), if_neg (fun q => c2 (of_decide_eq_true q.2.2))]
    · rw [decide_eq_false c1, if_pos rfl, if_neg (fun q => c1 ⟨q.1, q.2.1⟩)]
  · intro z hz
    show bX5_fewestToMend_41 n (RX w) 0 _ _ _ (nI z) (nI (b 0 + 1)) x2 = _
    unfold bX5_fewestToMend_41
    rw [rx03, hJ2.2.2.2.1.1, if_pos (nI_lt (by omega) (by omega))]
  · intro z hz s h
    show bX5_fewestToMend_31 n (RX w) 0 _ _ _ (nI z) x2 = _
    unfold bX5_fewestToMend_31 lX5_fewestToMend_41
    rw [if_neg (show ¬ (10 : Int32) < nI z from nI_nlt (a := 10) (by omega) (by omega)), h]
    rfl
  · intro z hz h
    show bX5_fewestToMend_31 n (RX w) 0 _ _ _ (nI z) x2 = _
    unfold bX5_fewestToMend_31 lX5_fewestToMend_41
    rw [if_neg (show ¬ (10 : Int32) < nI z from nI_nlt (a := 10) (by omega) (by omega)), h, ← nI_1]
    rfl
  · show bX5_fewestToMend_31 n (RX w) 0 _ _ _ (nI 11) x2 = _
    unfold bX5_fewestToMend_31
    rw [if_pos (show (10 : Int32) < nI 11 by decide)]
/-- one trial of the reference -/
theorem z_trialM {k s : Nat} {y v : Int32} (hI : Inv w K b hx hm) (hs : s ≤ b 0) (hk : k ≤ 60) (hn : 1100 ≤ n) : ∃ h2, jX6_keepUp_68 n RM 0 (nI k) y v (nI s) hm = some (.inl (if kps K b k s = true then nI s else v, nI s + (-1), h2)) ∧ Inv w K b hx h2 := by
  have hM10 := hI.1.2.1
  have hd31 := p31 hI.2.2.2.2.2.1.1 (show K 0 1 ≤ 31 by omega)
  have hd10 : b 0 < 1024 := Nat.lt_of_lt_of_le hI.2.2.2.2.2.1.1 (Nat.pow_le_pow_right (by decide) hM10)
  obtain ⟨h0, b1, b2, b3⟩ := z_copyNow (n := n) hI (by omega)
  unfold jX6_keepUp_68
  rw [b1, Option.bind_some]
  unfold lX6_keepUp_75
  obtain ⟨h1, c1, c2, c3⟩ := it_from (b := fun (q : Int32 × Hp) => bX6_keepUp_75 n RM 0 (nI k) y v (nI s) q.1 q.2) (fun i q => ∃ h', q = (nI i, h') ∧ Fr (fun a => a = 13) hm h' ∧ Bm h' 13 (mnd b s i)) (fun h' => Fr (fun a => a = 13) hm h' ∧ Bm h' 13 (mnd b s (K 0 1))) (K 0 1) (n := n) (x := (0, h0)) (by omega) ⟨h0, rfl, b3, (by
      have : mnd b s 0 = b := by funext j; unfold mnd; rw [if_neg (by omega)]
      rw [this]; exact b2)⟩ (by
    rintro i q hi ⟨h', rfl, f1, f2⟩
    show (∃ z, bX6_keepUp_75 n RM 0 (nI k) y v (nI s) (nI i) h' = _ ∧ _) ∨ (_ ∧ ∃ z, bX6_keepUp_75 n RM 0 (nI k) y v (nI s) (nI i) h' = _ ∧ _)
    have hC' : Cm RM h' K := hI.2.2.1.frm (FrM.of (Q := fun _ => False) f1 (by decide)) (fun a _ _ q => by omega) (fun _ _ _ q => q)
    unfold bX6_keepUp_75
    rw [hC'.2.1]
    by_cases ce : i < K 0 1
    · right
      refine ⟨ce, ?_⟩
      have ej : ∀ u : Int32, jX6_keepUp_117 n RM 0 (nI k) y v (nI s) (nI i) u (nI (6 + i)) h' = some (.inl (nI (i + 1), pI h' 13 (6 + i) u)) := fun u => by
        unfold jX6_keepUp_117
        rw [z_ck (by omega) (by omega), nI_clamp (by omega), rm23, nI_1]
        rfl
      rw [if_neg (nI_ge ce (by omega)), z_hasM (by omega) (by omega), Option.bind_some, n6, ej, ej, z_ck (by omega) (by omega), nI_clamp (by omega), rm23, f2 (6 + i) (by omega)]
      have fin : ∀ u : Nat, u = (if s.testBit i = true then 0 else mnd b s i (6 + i)) → ∃ y, some (.inl (nI (i + 1), pI h' 13 (6 + i) (nI u))) = (some (.inl y) : Option ((Int32 × Hp) ⊕ Hp)) ∧ ∃ h2, y = (nI (i + 1), h2) ∧ Fr (fun a => a = 13) hm h2 ∧ Bm h2 13 (mnd b s (i + 1)) := by
        intro u hu
        refine ⟨_, rfl, _, rfl, f1.tr (Fr.pI rfl), fun j hj => ?_⟩
        by_cases e : j = 6 + i
        · subst e
          rw [pI_eq, hu, mnd_st, mnd_st]
          cases s.testBit i with
          | true => rw [if_pos rfl, if_pos ⟨by omega, rfl⟩]
          | false => rw [if_neg (by decide), if_neg (fun q => by cases q.2), if_neg (fun q => by cases q.2)]
        · rw [pI_nj e, f2 j hj]
          unfold mnd
          by_cases c : 6 ≤ j ∧ j < 6 + i ∧ s.testBit (j - 6) = true
          · rw [if_pos c, if_pos ⟨c.1, by omega, c.2.2⟩]
          · rw [if_neg c, if_neg (fun q => c ⟨q.1, by omega, q.2.2⟩)]
      cases hb : s.testBit i with
      | true =>
        rw [if_neg (by decide)]
        exact fin 0 (by rw [hb]; rfl)
      | false =>
        rw [if_pos (by decide)]
        exact fin _ (by rw [hb]; rfl)
    · left
      rw [if_pos (nI_le (by omega) (by omega))]
      exact ⟨_, rfl, f1, by rw [show K 0 1 = i by omega]; exact f2⟩)
  rw [c1, Option.bind_some]
  unfold lX6_keepUp_127
  have hmb := mnd_BB (s := s) (i := K 0 1) hI.1 hI.2.2.2.2.2.1
  have hm3 : mnd b s (K 0 1) 3 ≤ 90030 := by rw [mnd_lo (by omega)]; exact hI.2.2.2.2.2.2.1
  obtain ⟨h2, d1, d2, d3⟩ := it_from (b := fun (q : Int32 × Hp) => bX6_keepUp_127 n RM 0 (nI k) y v (nI s) q.1 q.2) (fun i q => ∃ h', q = (nI i, h') ∧ Fr (fun a => a = 13) hm h' ∧ Bm h' 13 (pasN K (mnd b s (K 0 1)) i)) (fun h' => Fr (fun a => a = 13) hm h' ∧ Bm h' 13 (pasN K (mnd b s (K 0 1)) k)) k (n := n) (x := (0, h1)) (by omega) ⟨h1, rfl, c2, c3⟩ (by
    rintro i q hi ⟨h1, rfl, f1, f2⟩
    show (∃ z, bX6_keepUp_127 n RM 0 (nI k) y v (nI s) (nI i) h1 = _ ∧ _) ∨ (_ ∧ ∃ z, bX6_keepUp_127 n RM 0 (nI k) y v (nI s) (nI i) h1 = _ ∧ _)
    unfold bX6_keepUp_127
    by_cases ce : i < k
    · right
      refine ⟨ce, ?_⟩
      obtain ⟨h2, g1, g2, g3⟩ := z_tpM (n := n) hI f1 f2 (pasN_BB hmb hm3 i (by omega)) (by omega)
      rw [if_neg (nI_ge ce (by omega)), rm23, g1]
      simp only [bd2_some, lE, nI_1]
      exact ⟨_, rfl, h2, rfl, g3, g2⟩
    · left
      have : i = k := by omega
      subst this
      rw [if_pos (nI_le (Nat.le_refl _) (by omega))]
      exact ⟨_, rfl, f1, f2⟩)
  have hJ := hI.tri (hx' := hx) Fr.rf (FrM.of (Q := fun _ => False) d2 (by decide))
  have hp1 := parts_le (d := bhd K b k s) hI.1
  have hp2 := parts_le (d := b 0) hI.1
  rw [d1, Option.bind_some, ck_0, cl_0, rm23, rm22, d3 0 (by omega), hJ.2.2.2.2.1 0 (by omega), bhd_eq hI.1 hI.2.2.2.2.2.1 hI.2.2.2.2.2.2.1 (by omega), z_partsOf hJ.2.2.1 hI.1 (p31 (bhd_lt hI.1 hI.2.2.2.2.2.1 hI.2.2.2.2.2.2.1 (by omega)) (by omega)) (by omega), Option.bind_some, ck_0, z_partsOf hJ.2.2.1 hI.1 hd31 (by omega), Option.bind_some]
  simp only [lE]
  unfold kps
  by_cases c2 : parts K (bhd K b k s) ≤ parts K (b 0)
  · rw [if_neg (nI_nlt c2 (by omega)), if_pos (decide_eq_true c2)]
    exact ⟨h2, rfl, hJ⟩
  · rw [if_pos (nI_lt (by omega) (by omega)), if_neg (by rw [decide_eq_false c2]; decide)]
    exact ⟨h2, rfl, hJ⟩
theorem z_keepUpM {k : Nat} {y : Int32} (hI : Inv w K b hx hm) (hk : k ≤ 60) (hn : 1100 ≤ n) : ∃ h2, it (fun (s : Int32 × Int32 × Hp) => bX6_keepUp_32 n RM 0 (nI k) y s.1 s.2.1 s.2.2) n (-1, nI (b 0), hm) = some (oI (bsN (b 0) (kps K b k) (b 0 + 1)), h2) ∧ Inv w K b hx h2 := by
  have hM10 := hI.1.2.1
  have hd10 : b 0 < 1024 := Nat.lt_of_lt_of_le hI.2.2.2.2.2.1.1 (Nat.pow_le_pow_right (by decide) hM10)
  obtain ⟨z, c1, h2, c2, c3⟩ := it_from (b := fun (s : Int32 × Int32 × Hp) => bX6_keepUp_32 n RM 0 (nI k) y s.1 s.2.1 s.2.2) (fun i q => ∃ h', q = (oI (bsN (b 0) (kps K b k) i), dn (b 0) i, h') ∧ Inv w K b hx h') (fun z => ∃ h', z = (oI (bsN (b 0) (kps K b k) (b 0 + 1)), h') ∧ Inv w K b hx h') (b 0 + 1) (n := n) (x := (-1, nI (b 0), hm)) (by omega) ⟨hm, by unfold dn; rw [if_pos (Nat.zero_le _)]; rfl, hI⟩ (by
    rintro i q hi ⟨h', rfl, hJ⟩
    show (∃ z, bX6_keepUp_32 n RM 0 (nI k) y (oI (bsN (b 0) (kps K b k) i)) (dn (b 0) i) h' = _ ∧ _) ∨ (_ ∧ ∃ z, bX6_keepUp_32 n RM 0 (nI k) y (oI (bsN (b 0) (kps K b k) i)) (dn (b 0) i) h' = _ ∧ _)
    by_cases ce : i < b 0 + 1
    · right
      refine ⟨ce, ?_⟩
      rw [show dn (b 0) i = nI (b 0 - i) by unfold dn; rw [if_pos (by omega)]]
      have es : bsN (b 0) (kps K b k) (i + 1) = if wo (b 0 - i) (b 0) = 0 ∧ nb (bsN (b 0) (kps K b k) i) (b 0 - i) = true ∧ kps K b k (b 0 - i) = true then some (b 0 - i) else bsN (b 0) (kps K b k) i := rfl
      have hw : wo (b 0 - i) (b 0) < 2 ^ 10 := wo_lt (k := 10) (by omega)
      have hp1 := pc_le (b 0 - i)
      have tri : wo (b 0 - i) (b 0) = 0 → nb (bsN (b 0) (kps K b k) i) (b 0 - i) = true → ∃ z, jX6_keepUp_68 n RM 0 (nI k) y (oI (bsN (b 0) (kps K b k) i)) (nI (b 0 - i)) h' = some (.inl z) ∧ ∃ h2, z = (oI (bsN (b 0) (kps K b k) (i + 1)), dn (b 0) (i + 1), h2) ∧ Inv w K b hx h2 := by
        intro t1 t2
        obtain ⟨h2, g1, g2⟩ := z_trialM (n := n) (k := k) (s := b 0 - i) (y := y) (v := oI (bsN (b 0) (kps K b k) i)) hJ (by omega) hk hn
        rw [g1, dn_step (by omega), es]
        refine ⟨_, rfl, h2, ?_, g2⟩
        by_cases c : kps K b k (b 0 - i) = true
        · rw [if_pos c, if_pos ⟨t1, t2, c⟩]; rfl
        · rw [if_neg c, if_neg (fun q => c q.2.2)]
      unfold bX6_keepUp_32
      rw [if_neg (nI_pos (by omega)), ck_0, cl_0, rm22, hJ.2.2.2.2.1 0 (by omega), z_wo, dn_step (by omega)]
      simp only [lE]
      by_cases c1 : wo (b 0 - i) (b 0) = 0
      · rw [if_pos (show nI (wo (b 0 - i) (b 0)) = 0 by rw [c1]; rfl)]
        cases hq : bsN (b 0) (kps K b k) i with
        | none =>
          rw [hq] at tri
          rw [if_pos (show oI none = -1 from rfl)]
          exact tri c1 rfl
        | some t =>
          rw [hq] at tri es
          have ht := ((bsN_ok i (by omega)).2 t hq).1.1
          have hp2 := pc_le t
          rw [show oI (some t) = nI t from rfl] at *
          rw [if_neg (nI_m1 (by omega)), z_bits (by omega) (by omega), z_bits (by omega) (by omega), Option.bind_some, Option.bind_some]
          by_cases c2 : pc (b 0 - i) ≤ pc t
          · rw [if_neg (nI_nlt c2 (by omega))]
            exact tri c1 (decide_eq_true c2)
          · rw [if_pos (nI_lt (by omega) (by omega))]
            refine ⟨_, rfl, h', ?_, hJ⟩
            rw [es, if_neg (fun q => c2 (of_decide_eq_true q.2.1))]
            rfl
      · rw [if_neg (nI_ne0 (by omega) (by omega))]
        refine ⟨_, rfl, h', ?_, hJ⟩
        rw [es, if_neg (fun q => c1 q.1)]
    · left
      have : i = b 0 + 1 := by omega
      subst this
      rw [show dn (b 0) (b 0 + 1) = -1 by unfold dn; rw [if_neg (by omega)]]
      unfold bX6_keepUp_32
      rw [if_pos (show (-1 : Int32) < 0 by decide)]
      exact ⟨_, rfl, h', rfl, hJ⟩)
  exact ⟨h2, by rw [c1, c2], c3⟩
theorem sim_keepUp (hI : IV w hx hm) (x y : Int32) (hn : 1100 ≤ n) : Sim w (fX5_keepUp n (RX w) 0 x y hx) (fX6_keepUp n RM 0 x y hm) := by
  have hI0 := hI
  obtain ⟨K, b, hI⟩ := hI
  have hM10 := hI.1.2.1
  have hd10 : b 0 < 1024 := Nat.lt_of_lt_of_le hI.2.2.2.2.2.1.1 (Nat.pow_le_pow_right (by decide) hM10)
  unfold fX5_keepUp fX6_keepUp
  rw [z_within, z_in, z_within, z_in, Option.bind_some, Option.bind_some, Option.bind_some, Option.bind_some, ck_0, cl_0, rm22, hI.2.2.2.2.1 0 (by omega)]
  rcases z_win x 0 60 (by omega) (by omega) with ⟨k, k1, k2, rfl, k4⟩ | k4
  · rw [show decide ((0 : Int32) ≤ nI k ∧ nI k ≤ 60) = true from k4]
    rcases z_win y 0 1 (by omega) (by omega) with ⟨j, j1, j2, rfl, j4⟩ | j4
    · rw [show decide ((0 : Int32) ≤ nI j ∧ nI j ≤ 1) = true from j4]
      simp only [bI, if_true, n10, if_false, lE]
      obtain ⟨x1, e1, hJ⟩ := z_fewestToMend (n := n) hI k2 hn
      obtain ⟨m1, f1, hJ2⟩ := z_keepUpM (n := n) (y := nI j) hJ k2 hn
      unfold lX6_keepUp_32
      rw [e1, f1, Option.bind_some]
      simp only [bd2_some]
      cases hq : bsN (b 0) (kps K b k) (b 0 + 1) with
      | none =>
        rw [if_pos (show oI none = -1 from rfl), if_pos (show oI none = -1 from rfl)]
        exact ⟨_, _, _, rfl, rfl, K, b, hJ2⟩
      | some t =>
        have ht := ((bsN_ok _ (Nat.le_refl _)).2 t hq).1.1
        rw [show oI (some t) = nI t from rfl, if_neg (nI_m1 (by omega)), if_neg (nI_m1 (by omega)), z_bc (by omega), z_bits (by omega) (by omega), Option.bind_some, Option.bind_some]
        rcases (by omega : j = 0 ∨ j = 1) with e | e
        · subst e
          rw [if_neg (show ¬ nI 0 = 1 by decide), if_pos (show nI 0 = 0 from rfl)]
          exact ⟨_, _, _, rfl, rfl, K, b, hJ2⟩
        · subst e
          rw [if_pos (show nI 1 = 1 from rfl), if_neg (show ¬ nI 1 = 0 by decide)]
          exact ⟨_, _, _, rfl, rfl, K, b, hJ2⟩
    · rw [show decide ((0 : Int32) ≤ y ∧ y ≤ 1) = false from j4]
      exact Sim.no hI0 _
  · rw [show decide ((0 : Int32) ≤ x ∧ x ≤ 60) = false from k4]
    exact Sim.no hI0 _
end KU
