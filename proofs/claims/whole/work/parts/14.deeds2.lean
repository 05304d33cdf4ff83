/-! ===== hours, by draws, undone again, images ===== -/
/-- two loops side by side -/
theorem it_pair {s q t u : Type} {b : s → Option (s ⊕ q)} {d : t → Option (t ⊕ u)} (I : Nat → s → t → Prop) (Q : q → u → Prop) (e : Nat) (hs : ∀ i x y, i ≤ e → I i x y → (∃ z v, b x = some (.inr z) ∧ d y = some (.inr v) ∧ Q z v) ∨ (i < e ∧ ∃ x' y', b x = some (.inl x') ∧ d y = some (.inl y') ∧ I (i + 1) x' y')) : ∀ (k i n m : Nat) (x : s) (y : t), e = i + k → k < n → k < m → I i x y → ∃ z v, it b n x = some z ∧ it d m y = some v ∧ Q z v := by
  intro k
  induction k with
  | zero =>
    intro i n m x y he hn hm hI
    cases n with
    | zero => omega
    | succ n =>
      cases m with
      | zero => omega
      | succ m =>
        rcases hs i x y (by omega) hI with ⟨z, v, h1, h2, h3⟩ | ⟨h1, -⟩
        · exact ⟨z, v, by unfold it; rw [h1], by unfold it; rw [h2], h3⟩
        · omega
  | succ k ih =>
    intro i n m x y he hn hm hI
    cases n with
    | zero => omega
    | succ n =>
      cases m with
      | zero => omega
      | succ m =>
        rcases hs i x y (by omega) hI with ⟨z, v, h1, h2, h3⟩ | ⟨-, x', y', h1, h2, h3⟩
        · exact ⟨z, v, by unfold it; rw [h1], by unfold it; rw [h2], h3⟩
        · obtain ⟨z, v, g1, g2, g3⟩ := ih (i + 1) n m x' y' (by omega) (by omega) (by omega) h3
          exact ⟨z, v, by unfold it; rw [h1]; exact g1, by unfold it; rw [h2]; exact g2, g3⟩
theorem it_two {s q t u : Type} {b : s → Option (s ⊕ q)} {d : t → Option (t ⊕ u)} (I : Nat → s → t → Prop) (Q : q → u → Prop) (e : Nat) {n m : Nat} {x : s} {y : t} (hn : e < n) (hm : e < m) (h0 : I 0 x y) (hs : ∀ i x y, i ≤ e → I i x y → (∃ z v, b x = some (.inr z) ∧ d y = some (.inr v) ∧ Q z v) ∨ (i < e ∧ ∃ x' y', b x = some (.inl x') ∧ d y = some (.inl y') ∧ I (i + 1) x' y')) : ∃ z v, it b n x = some z ∧ it d m y = some v ∧ Q z v :=
  it_pair I Q e hs e 0 n m x y (by omega) hn hm h0
section D2
variable {w : Bool} {K : Kd} {b : Nat → Nat} {hx hm : Hp} {n : Nat}
theorem Inv.pass (hI : Inv w K b hx hm) (h3 : b 3 < 90030) (hn : 20 ≤ n) : ∃ o u hx' hm', fX0_passHour n (RX w) 23 (cc w) hx = some (o, hx') ∧ fX6_passes n RM 0 12 16 hm = some (u, hm') ∧ Inv w K (pas K b) hx' hm' := by
  obtain ⟨x1, e1, e2, e3⟩ := z_pass (n := n) hI.2.1 hI.1 hI.2.2.2.1 hI.2.2.2.2.2.1 (ap_now w) hn
  obtain ⟨m1, f1, f2, f3⟩ := z_passes (n := n) (q := 12) hI.2.2.1 hI.1 hI.2.2.2.2.1 hI.2.2.2.2.2.1 ⟨by decide, fun j j1 j2 => by rcases (by omega : j = 17 ∨ j = 18 ∨ j = 19 ∨ j = 20 ∨ j = 21) with e | e | e | e | e <;> subst e <;> decide⟩ hn
  rw [rx230] at e3
  exact ⟨_, _, x1, m1, e1, f1, hI.bonds e3 (FrM.of f3 (by decide)) e2 f2 (pas_BB hI.2.2.2.2.2.1 (by omega)) (by show b 3 + 1 ≤ 90030; omega)⟩
theorem z_need (x : Int32) (hI : Inv w K b hx hm) : (∃ k, 1 ≤ k ∧ k ≤ 30 ∧ x = nI k ∧ K 0 0 ≠ 0 ∧ b 3 ≤ 90000 ∧ fX5_refusalOfHours n (RX w) 0 x hx = some 0 ∧ fX6_needHours n RM 0 x hm = some 0) ∨ ∃ o : Int32, ¬ o = 0 ∧ ¬ 0 ≤ o ∧ fX5_refusalOfHours n (RX w) 0 x hx = some o ∧ fX6_needHours n RM 0 x hm = some o := by
  have h8 := hI.1.1
  have h3 := hI.2.2.2.2.2.2.1
  unfold fX5_refusalOfHours fX6_needHours
  rw [z_within, z_in, Option.bind_some, Option.bind_some, rx01, rx03, rm22, z_there hI.2.1 hI.1, hI.2.2.1.1, ck_3, cl_3, hI.2.2.2.1.2.2.2.1, hI.2.2.2.2.1 3 (by omega), Option.bind_some]
  rcases z_win x 1 30 (by omega) (by omega) with ⟨j, j1, j2, j3, j4⟩ | j4
  · rw [show decide ((1 : Int32) ≤ x ∧ x ≤ 30) = true from j4]
    by_cases c : K 0 0 = 0
    · right
      refine ⟨-1000000003, by decide +kernel, by decide +kernel, ?_, ?_⟩
      · rw [decide_eq_false (by simp [c])]; rfl
      · rw [if_neg (by decide), if_pos (show nI (K 0 0) = 0 by rw [c]; rfl)]
    · have hne : ¬ nI (K 0 0) = 0 := nI_ne0 (by omega) (by omega)
      rw [decide_eq_true c]
      simp only [bI, if_true, n10, if_false, hne]
      by_cases c9 : b 3 ≤ 90000
      · left
        have : nI (b 3) ≤ 90000 := nI_le (b := 90000) c9 (by omega)
        exact ⟨j, j1, j2, j3, c, c9, by rw [if_pos this], by rw [if_pos this]⟩
      · right
        have : ¬ nI (b 3) ≤ 90000 := nI_ge (a := 90000) (by omega) (by omega)
        exact ⟨-1000000004, by decide +kernel, by decide +kernel, by rw [if_neg this], by rw [if_neg this]⟩
  · right
    rw [show decide ((1 : Int32) ≤ x ∧ x ≤ 30) = false from j4]
    exact ⟨-1000000002, by decide +kernel, by decide +kernel, rfl, rfl⟩
theorem sim_hour (hI : IV w hx hm) (v : Int32) (hn : 40 ≤ n) : Sim w (fX5_hour n (RX w) 0 v hx) (fX6_hour n RM 0 v hm) := by
  have hI0 := hI
  obtain ⟨K, b, hI⟩ := hI
  unfold fX5_hour fX6_hour
  rcases z_need (n := n) v hI with ⟨k, k1, k2, k3, k4, k5, k6, k7⟩ | ⟨o, o1, o2, o3, o4⟩
  · rw [k6, k7, Option.bind_some, Option.bind_some, if_pos rfl, if_pos (by decide), k3]
    unfold lX5_hour_14 lX6_hour_14
    obtain ⟨z, u, e1, e2, K', b', e3⟩ := it_two (b := fun (s : Int32 × Hp) => bX5_hour_14 n (RX w) 0 (nI k) s.1 s.2) (d := fun (s : Int32 × Hp) => bX6_hour_14 n RM 0 (nI k) s.1 s.2) (fun i x y => ∃ b hx hm, x = (nI i, hx) ∧ y = (nI i, hm) ∧ Inv w K b hx hm ∧ b 3 ≤ 90000 + i) (fun z u => IV w z u) k (n := n) (m := n) (x := (0, hx)) (y := (0, hm)) (by omega) (by omega) ⟨b, hx, hm, rfl, rfl, hI, by omega⟩ (by
      rintro i x y hi ⟨b, hx, hm, rfl, rfl, hJ, hb3⟩
      show (∃ z v, bX5_hour_14 n (RX w) 0 (nI k) (nI i) hx = _ ∧ bX6_hour_14 n RM 0 (nI k) (nI i) hm = _ ∧ _) ∨ (_ ∧ ∃ x' y', bX5_hour_14 n (RX w) 0 (nI k) (nI i) hx = _ ∧ bX6_hour_14 n RM 0 (nI k) (nI i) hm = _ ∧ _)
      unfold bX5_hour_14 bX6_hour_14
      by_cases ce : i < k
      · right
        refine ⟨ce, ?_⟩
        obtain ⟨x1, m1, e1, e2, hJ1⟩ := hJ.deed (n := n) (by omega)
        obtain ⟨o, u, x2, m2, f1, f2, hJ2⟩ := hJ1.pass (n := n) (by omega) (by omega)
        rw [if_neg (nI_ge ce (by omega)), if_neg (nI_ge ce (by omega)), rx05, rx03, rx01, rm22, e1, e2, Option.bind_some, Option.bind_some, f1, f2]
        simp only [bd2_some, lE, nI_1]
        exact ⟨_, _, rfl, rfl, _, _, _, rfl, rfl, hJ2, by show b 3 + 1 ≤ _; omega⟩
      · left
        rw [if_pos (nI_le (by omega) (by omega)), if_pos (nI_le (by omega) (by omega))]
        exact ⟨_, _, rfl, rfl, K, b, hJ⟩)
    rw [show ((0 : Int32), hx) = ((0 : Int32), hx) from rfl, e1, e2, Option.bind_some, Option.bind_some, ck_0, cl_0, rx03, rm22, e3.2.2.2.1.1, e3.2.2.2.2.1 0 (by omega)]
    exact ⟨_, _, _, rfl, rfl, K', b', e3⟩
  · rw [o3, o4, Option.bind_some, Option.bind_some, if_neg o1, if_neg o2]
    exact Sim.no hI0 _
/-! draws -/
theorem z_andL (a b : Nat) : lN a &&& lN b = lN (a &&& b) := by
  apply Int64.toBitVec_inj.mp
  rw [Int64.toBitVec_and]
  show BitVec.ofNat 64 a &&& BitVec.ofNat 64 b = BitVec.ofNat 64 (a &&& b)
  apply BitVec.eq_of_toNat_eq
  simp [Nat.and_mod_two_pow]
def sd (s : Nat) : Nat := (s * 1103515245 + 12345) % 2147483648
theorem sd_lt (s : Nat) : sd s < 2 ^ 31 := Nat.mod_lt _ (by decide)
theorem z_draw {s k : Nat} (h1 : hx.1 0 10 = nI s) (h2 : hm.2 0 27 = lN s) (hs : s < 2 ^ 31) (hk : 1 ≤ k) (hk2 : k < 2 ^ 31) : fX5_drawOf n (RX w) 0 (nI k) hx = some (nI (sd s / 65536 % k), pI hx 0 10 (nI (sd s))) ∧ fX6_draw n RM 0 (nI k) hm = some (nI (sd s / 65536 % k), pL hm 0 27 (lN (sd s))) := by
  have hsd := sd_lt s
  constructor
  · unfold fX5_drawOf
    simp only [lE, pI_eq]
    rw [h1, nI_l hs, show (1103515245 : Int64) = lN 1103515245 from rfl, show (12345 : Int64) = lN 12345 from rfl, show (2147483647 : Int64) = lN 2147483647 from rfl, lN_mul, lN_add, z_andL, show (2147483647 : Nat) = 2 ^ 31 - 1 from rfl, Nat.and_two_pow_sub_one_eq_mod, lN_i, show (s * 1103515245 + 12345) % 2 ^ 31 = sd s from rfl, if_pos (show (1 : Int32) ≤ nI k from nI_le hk hk2)]
    unfold cz
    rw [if_neg (nI_ne0 (by omega) hk2), show (65536 : Int32) = nI 65536 from rfl, pk_div hsd (by omega) (by omega), pk_rem (by omega) (by omega) hk2]
  · unfold fX6_draw
    simp only [lE]
    have e1 : (hm.2 0 27 * 1103515245 + 12345) - (hm.2 0 27 * 1103515245 + 12345) / 2147483648 * 2147483648 = lN (sd s) := by
      rw [h2, show (1103515245 : Int64) = lN 1103515245 from rfl, show (12345 : Int64) = lN 12345 from rfl, show (2147483648 : Int64) = lN 2147483648 from rfl, lN_mul, lN_add, pk_lRem (by omega) (by omega) (by omega)]
      rfl
    rw [e1, nI_l hk2]
    have e2 : (pL hm 0 27 (lN (sd s))).2 0 27 = lN (sd s) := by simp [pL]
    unfold czL
    rw [e2, if_neg (by rw [show (0 : Int64) = lN 0 from rfl, pk_lEQ (by omega) (by omega)]; omega), show (65536 : Int64) = lN 65536 from rfl, pk_lDiv (by omega) (by omega) (by omega), pk_lRem (by omega) (by omega) (by omega), lN_i]
theorem Inv.seed {s : Nat} (hI : Inv w K b hx hm) (hs : s < 2 ^ 31) : Inv w K b (pI hx 0 10 (nI s)) (pL hm 0 27 (lN s)) := by
  obtain ⟨i1, i2, i3, i4, i5, i6, i7, i8, i9, i10, g, s0, a1, a2, a3, a4, a5, a6, a7⟩ := hI
  have hF : Fr (fun a => a = 0) hx (pI hx 0 10 (nI s)) := Fr.pI rfl
  refine ⟨i1, i2.frw hF (fun a ha q => by omega), i3, i4.frw hF (by decide) (by decide), i5, i6, i7, ?_, ?_, ?_, g, s, a1, ?_, a3, pI_eq, by simp [pL], hs, fun i hi hg => ?_⟩
  · have := i8.fr hF (FrM.rf (P := fun _ => False) (Q := fun _ => False)) (by decide) (by decide) (fun q => q) (fun q => q) (fun q => q)
    exact this
  · have := i9.fr hF (FrM.rf (P := fun _ => False) (Q := fun _ => False)) (by decide) (by decide) (fun q => q) (fun q => q) (fun q => q)
    exact this
  · have := i10.fr hF (FrM.rf (P := fun _ => False) (Q := fun _ => False)) (fun a _ _ q => by omega) (fun a _ _ q => q) (fun q => q) (fun q => q)
    exact this
  · rw [pI_nj (by decide)]; exact a2
  · obtain ⟨b', s', c1, c2, c3, c4, c5, c6, c7⟩ := a7 i hi hg
    exact ⟨b', s', c1, c2, c3.co (fun j _ _ => by rw [pI_nk (by decide)]), c4, by rw [pI_nk (by decide)]; exact c5, by simpa [pL] using c6, c7⟩
theorem pI_same {h : Hp} {k j : Nat} {v : Int32} (e : h.1 k j = v) : pI h k j v = h := by
  unfold pI
  refine Prod.ext ?_ rfl
  funext a c
  show (if a = k then (if c = j then v else h.1 a c) else h.1 a c) = h.1 a c
  by_cases q : a = k
  · subst q
    rw [if_pos rfl]
    by_cases q2 : c = j
    · subst q2; rw [if_pos rfl, e]
    · rw [if_neg q2]
  · rw [if_neg q]
theorem z_deed3 {q l : Nat} (hJ2 : Inv w K b hx hm) (hl : l < K 0 1) (hq : q ≤ 2) : ∃ b' hx' hm', (if nI q = 0 then lE (pI hx 23 1 (hx.1 23 1 &&& (1 <<< (nI l &&& 31) ^^^ -1))) (fun h15 => some h15) else if nI q = 2 then lE (pI hx 23 2 (hx.1 23 2 ^^^ 1 <<< (nI l &&& 31))) (fun h14 => some h14) else (fX0_canBeDoneUp n (RX w) 23 (cc w) (nI l) hx).bind (fun x11 => if x11 = 0 then some hx else lE (pI hx 23 1 (hx.1 23 1 ||| 1 <<< (nI l &&& 31))) (fun h13 => some h13))) = some hx' ∧ jX6_draws_24 n RM 0 (nI q) (nI l) hm = some hm' ∧ Inv w K b' hx' hm' ∧ b' 3 = b 3 := by
  have hM10 := hJ2.1.2.1
  have c1 := hJ2.2.2.2.1
  have c2 := hJ2.2.2.2.2.1
  have hB := hJ2.2.2.2.2.2.1
  unfold jX6_draws_24
  rw [rm22, c1.1, c1.2.1]
  simp only [ck_0, cl_0, ck_1, cl_1, lE]
  rw [c2 0 (by omega), c2 1 (by omega), z_shl (by omega), z_wo, z_xor, z_or, (z_up (n := n) hJ2 hl).1, (z_up (n := n) hJ2 hl).2, Option.bind_some, Option.bind_some]
  rcases (by omega : q = 0 ∨ q = 1 ∨ q = 2) with e | e | e
  · subst e
    rw [if_pos (show nI 0 = 0 from rfl), if_pos (show nI 0 = 0 from rfl)]
    exact ⟨_, _, _, rfl, rfl, hJ2.set1 (j := 0) (by decide) (BB.up hB (by decide) (fun _ => wo_lt hB.1) (fun q => by omega) (fun q => by omega) (fun _ => hB.wo hM10)) (by rw [upb_ne (by decide)]; exact hJ2.2.2.2.2.2.2.1), upb_ne (by decide)⟩
  · subst e
    rw [if_neg (show ¬ nI 1 = 0 by decide), if_neg (show ¬ nI 1 = 0 by decide), if_neg (show ¬ nI 1 = 2 by decide), if_pos (show nI 1 = 1 from rfl)]
    have ej : ∀ s0 : Int32, jX6_draws_73 n RM 0 s0 (nI (b 0)) 0 hm = some (pI hm 12 0 (nI (b 0) ||| s0)) := fun s0 => by
      unfold jX6_draws_73
      rw [ck_0, cl_0, rm22]
      rfl
    simp only [ej]
    cases hcd : (!(b 0).testBit l && decide (b (6 + l) < K 4 l)) with
    | true =>
      rw [if_neg (by decide), if_neg (by decide), z_or]
      exact ⟨_, _, _, rfl, rfl, hJ2.set1 (j := 0) (by decide) (BB.up hB (by decide) (fun _ => or_lt hB.1 (pw_lt hl)) (fun q => by omega) (fun q => by omega) (fun _ => hB.or hM10 (by rw [Bool.and_eq_true] at hcd; exact of_decide_eq_true hcd.2))) (by rw [upb_ne (by decide)]; exact hJ2.2.2.2.2.2.2.1), upb_ne (by decide)⟩
    | false =>
      rw [if_pos (by decide), if_pos (by decide), show (0 : Int32) = nI 0 from rfl, z_or, Nat.or_zero, pI_same (c2 0 (by omega))]
      exact ⟨_, _, _, rfl, rfl, hJ2, rfl⟩
  · subst e
    rw [if_neg (show ¬ nI 2 = 0 by decide), if_neg (show ¬ nI 2 = 0 by decide), if_pos (show nI 2 = 2 from rfl), if_neg (show ¬ nI 2 = 1 by decide), if_pos (show nI 2 = 2 from rfl)]
    exact ⟨_, _, _, rfl, rfl, hJ2.set1 (j := 1) (by decide) (BB.up hB (by decide) (fun _ => xor_lt hB.2.1 (pw_lt hl)) (fun q => by omega) (fun q => by omega)) (by rw [upb_ne (by decide)]; exact hJ2.2.2.2.2.2.2.1), upb_ne (by decide)⟩
/-- a draw of k, wherever the seed stands -/
theorem Inv.dr {k : Nat} (hI : Inv w K b hx hm) (hk : 1 ≤ k) (hk2 : k < 2 ^ 31) : ∃ q hx' hm', q < k ∧ fX5_drawOf n (RX w) 0 (nI k) hx = some (nI q, hx') ∧ fX6_draw n RM 0 (nI k) hm = some (nI q, hm') ∧ Inv w K b hx' hm' := by
  obtain ⟨g, s, a1, a2, a3, a4, a5, a6, a7⟩ := hI.2.2.2.2.2.2.2.2.2.2
  obtain ⟨d1, d2⟩ := z_draw (w := w) (n := n) (k := k) a4 a5 a6 hk hk2
  exact ⟨_, _, _, Nat.mod_lt _ (by omega), d1, d2, hI.seed (sd_lt s)⟩
theorem Inv.draw (hI : Inv w K b hx hm) (hM : 1 ≤ K 0 1) : ∃ b' hx' hm', fX5_drawDeed n (RX w) 0 hx = some hx' ∧ fX6_draws n RM 0 hm = some hm' ∧ Inv w K b' hx' hm' ∧ b' 3 = b 3 := by
  have hM10 := hI.1.2.1
  obtain ⟨q, x1, m1, hq, d1, d2, hJ⟩ := hI.dr (n := n) (k := 6) (by omega) (by omega)
  obtain ⟨l, x2, m2, hl, d3, d4, hJ2⟩ := hJ.dr (n := n) (k := K 0 1) hM (by omega)
  unfold fX5_drawDeed fX6_draws
  rw [show (6 : Int32) = nI 6 from rfl, d1, d2, rx01, rx03]
  simp only [bd2_some]
  rw [hJ.2.1.2.1, hJ.2.2.1.2.1, d3, d4]
  simp only [bd2_some]
  by_cases c : q ≤ 2
  · rw [if_pos (show nI q ≤ (2 : Int32) from nI_le (b := 2) c (by omega)), if_neg (show ¬ (3 : Int32) ≤ nI q from nI_ge (b := 3) (by omega) (by omega))]
    exact z_deed3 hJ2 hl c
  · rw [if_neg (show ¬ nI q ≤ (2 : Int32) from nI_ge (a := 2) (by omega) (by omega)), if_pos (show (3 : Int32) ≤ nI q from nI_le (a := 3) (by omega) (by omega))]
    unfold jX6_draws_24
    rw [if_neg (nI_ne0 (by omega) (by omega)), if_neg (by rw [show (1 : Int32) = nI 1 from rfl, nI_eq (by omega) (by omega)]; omega), if_neg (by rw [show (2 : Int32) = nI 2 from rfl, nI_eq (by omega) (by omega)]; omega)]
    exact ⟨_, _, _, rfl, rfl, hJ, rfl⟩
theorem sim_drift (hI : IV w hx hm) (v : Int32) (hn : 40 ≤ n) : Sim w (fX5_drift n (RX w) 0 v hx) (fX6_drift n RM 0 v hm) := by
  have hI0 := hI
  obtain ⟨K, b, hI⟩ := hI
  have hM10 := hI.1.2.1
  unfold fX5_drift fX6_drift
  rcases z_need (n := n) v hI with ⟨k, k1, k2, k3, k4, k5, k6, k7⟩ | ⟨o, o1, o2, o3, o4⟩
  · rw [k6, k7, Option.bind_some, Option.bind_some, if_pos rfl, if_pos (by decide), k3]
    unfold lX5_drift_14 lX6_drift_14
    obtain ⟨z, u, e1, e2, K', b', e3⟩ := it_two (b := fun (s : Int32 × Hp) => bX5_drift_14 n (RX w) 0 (nI k) s.1 s.2) (d := fun (s : Int32 × Hp) => bX6_drift_14 n RM 0 (nI k) s.1 s.2) (fun i x y => ∃ b hx hm, x = (nI i, hx) ∧ y = (nI i, hm) ∧ Inv w K b hx hm ∧ b 3 ≤ 90000 + i) (fun z u => IV w z u) k (n := n) (m := n) (x := (0, hx)) (y := (0, hm)) (by omega) (by omega) ⟨b, hx, hm, rfl, rfl, hI, by omega⟩ (by
      rintro i x y hi ⟨b, hx, hm, rfl, rfl, hJ, hb3⟩
      show (∃ z v, bX5_drift_14 n (RX w) 0 (nI k) (nI i) hx = _ ∧ bX6_drift_14 n RM 0 (nI k) (nI i) hm = _ ∧ _) ∨ (_ ∧ ∃ x' y', bX5_drift_14 n (RX w) 0 (nI k) (nI i) hx = _ ∧ bX6_drift_14 n RM 0 (nI k) (nI i) hm = _ ∧ _)
      unfold bX5_drift_14 bX6_drift_14
      by_cases ce : i < k
      · right
        refine ⟨ce, ?_⟩
        obtain ⟨x1, m1, e1, e2, hJ1⟩ := hJ.deed (n := n) (by omega)
        have step : ∀ b' x2 m2, Inv w K b' x2 m2 → b' 3 = b 3 → ∃ x' y', jX5_drift_44 n (RX w) 0 (nI k) (nI i) x2 = some (.inl x') ∧ jX6_drift_34 n RM 0 (nI k) (nI i) m2 = some (.inl y') ∧ ∃ b hx hm, x' = (nI (i + 1), hx) ∧ y' = (nI (i + 1), hm) ∧ Inv w K b hx hm ∧ b 3 ≤ 90000 + (i + 1) := by
          intro b' x2 m2 hJ2 hb'
          obtain ⟨o, u, x3, m3, f1, f2, hJ3⟩ := hJ2.pass (n := n) (by omega) (by omega)
          unfold jX5_drift_44 jX6_drift_34
          rw [rx03, rx01, rm22, f1, f2]
          simp only [bd2_some, lE, nI_1]
          exact ⟨_, _, rfl, rfl, _, _, _, rfl, rfl, hJ3, by show b' 3 + 1 ≤ _; omega⟩
        rw [if_neg (nI_ge ce (by omega)), if_neg (nI_ge ce (by omega)), rx05, rx03, rx01, e1, e2, Option.bind_some, Option.bind_some, hJ1.2.1.2.1, hJ1.2.2.1.2.1]
        by_cases cm : K 0 1 = 0
        · rw [if_pos (show nI (K 0 1) ≤ 0 by rw [cm]; decide), if_pos (show nI (K 0 1) ≤ 0 by rw [cm]; decide)]
          exact step b x1 m1 hJ1 rfl
        · rw [if_neg (nI_nle (by omega) (by omega)), if_neg (nI_nle (by omega) (by omega))]
          obtain ⟨b2, x2, m2, f1, f2, hJ2, f3⟩ := hJ1.draw (n := n) (by omega)
          rw [f1, f2, Option.bind_some, Option.bind_some]
          exact step b2 x2 m2 hJ2 f3
      · left
        rw [if_pos (nI_le (by omega) (by omega)), if_pos (nI_le (by omega) (by omega))]
        exact ⟨_, _, rfl, rfl, K, b, hJ⟩)
    rw [show ((0 : Int32), hx) = ((0 : Int32), hx) from rfl, e1, e2, Option.bind_some, Option.bind_some, ck_0, cl_0, rx03, rm22, e3.2.2.2.1.1, e3.2.2.2.2.1 0 (by omega)]
    exact ⟨_, _, _, rfl, rfl, K', b', e3⟩
  · rw [o3, o4, Option.bind_some, Option.bind_some, if_neg o1, if_neg o2]
    exact Sim.no hI0 _
end D2
