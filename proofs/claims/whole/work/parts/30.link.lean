/-! ===== the text: a clause of a link ===== -/
section LKC
variable {w : Bool} {T : Nat → Nat} {k n p f : Nat} {h hx hm : Hp} {K : Kd} {fa : Int32}
theorem z_numI {lo hi : Nat} {x y : Int32} (ex : x = nI lo) (ey : y = nI hi) (hC : Cs T k h p 0 fa) (hT : TT T k) (hlo : lo ≤ 999) (hhi : hi ≤ 999) (hn : 300 ≤ n) : match nmr T k lo hi p with
    | .inl (kd, s) => kd ≤ 4 ∧ kd ≠ 0 ∧ s ≤ k ∧ ∃ v h' q, fX4_number n (RX w) 1 x y h = some (v, h') ∧ Cs T k h' q kd (nI s) ∧ Fr1 h h'
    | .inr (v, q) => lo ≤ v ∧ v ≤ hi ∧ p < q ∧ ∃ h', fX4_number n (RX w) 1 x y h = some (nI v, h') ∧ Cs T k h' q 0 fa ∧ Fr1 h h' := by
  subst ex; subst ey
  exact z_num hC hT hlo hhi hn
theorem z_numMI {lo hi : Nat} {x y : Int32} (ex : x = nI lo) (ey : y = nI hi) (hC : Ms T k h p) (hT : TT T k) (hlo : lo ≤ 999) (hhi : hi ≤ 999) (hn : 300 ≤ n) : match nmr T k lo hi p with
    | .inl (kd, s) => ∃ h', fX6_readsNumber n RM 0 x y h = some (-1, h') ∧ h'.1 0 4 = nI kd ∧ Ms T k h' s ∧ FrN h h'
    | .inr (v, q) => ∃ h', fX6_readsNumber n RM 0 x y h = some (nI v, h') ∧ h'.1 0 3 = nI (sk T k p) ∧ Ms T k h' q ∧ FrN h h' := by
  subst ex; subst ey
  exact z_numM hC hT hlo hhi hn
theorem z_expFI {x : Int32} (ex : x = nI 59) (hC : Cs T k h p f fa) (hf : f ≠ 0) (hT : TT T k) (hn : 300 ≤ n) : ∃ h' q, fX4_expect n (RX w) 1 x h = some h' ∧ Cs T k h' q f fa ∧ Fr1 h h' := by
  subst ex
  exact z_expF hC hf hT (by omega) hn
theorem z_semiI {q q2 : Nat} {x : Int32} (ex : x = nI 59) (hC : Cs T k hx q 0 fa) (hM : Ms T k hm q2) (hq : sk T k q = sk T k q2) (hT : TT T k) (hn : 300 ≤ n) : ∃ h' m', fX4_expect n (RX w) 1 x hx = some h' ∧ Fr1 hx h' ∧ FrN hm m' ∧ ((fX6_readsSign n RM 0 x hm = some (1, m') ∧ Cs T k h' (sk T k q + 1) 0 fa ∧ Ms T k m' (sk T k q + 1)) ∨ (fX6_readsSign n RM 0 x hm = some (0, m') ∧ Cs T k h' (sk T k q) 1 (nI (sk T k q)) ∧ m'.1 0 4 = nI 1 ∧ Ms T k m' (sk T k q))) := by
  subst ex
  exact z_semi hC hM hq hT (by omega) hn
theorem fra {h : Hp} {a j : Nat} {v : Int32} (h1 : 2 ≤ a) (h2 : a ≤ 6) : FrR h (pI h a j v) := FrM.ar (by omega) ⟨h1, h2⟩
theorem Ms.ar {a j s : Nat} {v : Int32} (hM : Ms T k h s) (h1 : 2 ≤ a) : Ms T k (pI h a j v) s := hM.fr (FrM.ar (P := fun q => q = a) (Q := fun _ => False) (by omega) rfl) (by omega) (fun q => q) (fun q => q)
theorem Ms.f7 {s : Nat} {v : Int32} (hM : Ms T k h s) : Ms T k (pI h 0 7 v) s := hM.fr (FrM.p0 (P := fun _ => False) (Q := fun j => j = 7) rfl) (fun q => q) (by decide) (by decide)
theorem z_t182 {l s kd : Nat} {x : Int32} (ex : x = nI (2 * l + 1)) (hl : l < 10) (hM : Ms T k h s) (h4 : h.1 0 4 = nI kd) : ∃ h', jX6_readsLink_182 n RM 0 (nI l) (-1) x h = some (0, h') ∧ h'.1 0 4 = nI kd ∧ Ms T k h' s ∧ FrR h h' := by
  subst ex
  unfold jX6_readsLink_182
  have hck : ∀ {q : Type} (x : Option q), ck (nI (2 * l + 1)) 20 x = x := fun x => z_ck (by omega) (by omega)
  rw [nI_21, rm12]
  simp only [lE, hck, nI_clamp (show 2 * l + 1 < 2 ^ 31 by omega)]
  rw [pI_nk (show 5 ≠ 0 by decide), pI_eq, if_pos rfl]
  refine ⟨_, rfl, ?_, (hM.ar (by omega)).f7, (fra (by omega) (by omega)).tr (FrM.p0 (by decide))⟩
  rw [pI_nj (by decide), pI_nk (by decide)]; exact h4
theorem z_t149 {l s kd : Nat} {x : Int32} (ex : x = nI (2 * l)) (hl : l < 10) (hM : Ms T k h s) (h4 : h.1 0 4 = nI kd) : ∃ h', jX6_readsLink_149 n RM 0 (nI l) (-1) x h = some (0, h') ∧ h'.1 0 4 = nI kd ∧ Ms T k h' s ∧ FrR h h' := by
  subst ex
  unfold jX6_readsLink_149
  have hck : ∀ {q : Type} (x : Option q), ck (nI (2 * l)) 20 x = x := fun x => z_ck (by omega) (by omega)
  rw [nI_21, nI_2, rm12]
  simp only [lE, hck, nI_clamp (show 2 * l < 2 ^ 31 by omega)]
  rw [pI_eq, if_pos rfl]
  obtain ⟨h', e1, e2, e3, e4⟩ := z_t182 (n := n) (h := pI h 5 (2 * l) (-1)) rfl hl (hM.ar (by omega)) (by rw [pI_nk (by decide)]; exact h4)
  exact ⟨h', e1, e2, e3, (fra (by omega) (by omega)).tr e4⟩
theorem z_t120 {l s kd : Nat} {x : Int32} (ex : x = nI l) (hl : l < 10) (hM : Ms T k h s) (h4 : h.1 0 4 = nI kd) : ∃ h', jX6_readsLink_120 n RM 0 (nI l) (-1) x h = some (0, h') ∧ h'.1 0 4 = nI kd ∧ Ms T k h' s ∧ FrR h h' := by
  subst ex
  unfold jX6_readsLink_120
  have hck : ∀ {q : Type} (x : Option q), ck (nI l) 10 x = x := fun x => z_ck (by omega) (by omega)
  rw [nI_2, rm11]
  simp only [lE, hck, nI_clamp (show l < 2 ^ 31 by omega)]
  rw [pI_eq, if_pos rfl]
  obtain ⟨h', e1, e2, e3, e4⟩ := z_t149 (n := n) (h := pI h 4 l (-1)) rfl hl (hM.ar (by omega)) (by rw [pI_nk (by decide)]; exact h4)
  exact ⟨h', e1, e2, e3, (fra (by omega) (by omega)).tr e4⟩
theorem z_restF {x y : Int32} (hC : Cs T k h p f fa) (hf : f ≠ 0) (hT : TT T k) (hn : 300 ≤ n) : ∃ h' q, jX4_readLink_46 n (RX w) 1 (dd w) x y h = some h' ∧ Cs T k h' q f fa ∧ Fr1 h h' := by
  unfold jX4_readLink_46
  obtain ⟨v1, h1, q1, a1, a2, a3⟩ := z_numF (w := w) (n := n) (lo := 0) (hi := 3) hC hf hT hn
  rw [a1]
  simp only [bd2_some]
  obtain ⟨v2, h2, q2, b1, b2, b3⟩ := z_numF (w := w) (n := n) (lo := 1) (hi := 99) a2 hf hT hn
  rw [b1]
  simp only [bd2_some]
  obtain ⟨v3, h3, q3, c1, c2, c3⟩ := z_numF (w := w) (n := n) (lo := 0) (hi := 9) b2 hf hT hn
  rw [c1]
  simp only [bd2_some]
  obtain ⟨v4, h4, q4, d1, d2, d3⟩ := z_numF (w := w) (n := n) (lo := 0) (hi := 9) c2 hf hT hn
  rw [d1]
  simp only [bd2_some]
  obtain ⟨h5, q5, e1, e2, e3⟩ := z_expFI (w := w) (n := n) (x := 59) rfl d2 hf hT hn
  rw [e1, Option.bind_some, e2.2.2.1, if_neg (nI_ne0 (by omega) (by have := e2.2.2.2.2.2.2; omega))]
  exact ⟨h5, q5, rfl, e2, (((a3.tr b3).tr c3).tr d3).tr e3⟩
/-- the chart with one link more -/
theorem Ch.lk {D l a b kd st sA sB : Nat} {g : Hp} (hD : ∀ j, RX w D j = D + 1 + j) (hC : Ch (RX w) g D K) (el : K 0 1 = l) : Ch (RX w) (pI (pI (pI (pI (pI (pI (pI (pI g (D + 1 + 0) l (nI a)) (D + 1 + 1) l (nI b)) (D + 1 + 2) l (nI (2 ^ a ||| 2 ^ b))) (D + 1 + 3) l (nI kd)) (D + 1 + 4) l (nI st)) (D + 1 + 5) l (nI sA)) (D + 1 + 6) l (nI sB)) D 10 (nI (l + 1))) D (kLk K a b kd st sA sB) := by
  obtain ⟨c1, c2, c3, c4, c5⟩ := hC
  simp only [hD, Nat.add_assoc] at c4 c5
  subst el
  unfold Ch
  simp only [hD]
  refine ⟨?_, ?_, ?_, fun j hj => ?_, fun j hj => ?_⟩
  · simp [pI, kLk, Nat.add_assoc]; exact c1
  · simp [pI, kLk, Nat.add_assoc]
  · simp [pI, kLk, Nat.add_assoc]; exact c3
  · have hj : j < K 0 1 + 1 := hj
    by_cases e : j = K 0 1
    · subst e
      simp [pI, kLk, Nat.add_assoc]
    · obtain ⟨d1, d2, d3, d4, d5, d6, d7⟩ := c4 j (by omega)
      simp [pI, kLk, e, Nat.add_assoc]
      exact ⟨d1, d2, d3, d4, d5, d6, d7⟩
  · have hj : j < K 0 2 := hj
    simp [pI, kLk, Nat.add_assoc]
    exact c5 j hj
theorem Bk.lk {a b kd st sA sB : Nat} (hK : Bk K) (h10 : K 0 1 < 10) (ha : a < K 0 0) (hb : b < K 0 0) (hab : a ≠ b) (h3 : kd ≤ 3) (h4 : 1 ≤ st) (h5 : st ≤ 99) (h6 : sA ≤ 9) (h7 : sB ≤ 9) : Bk (kLk K a b kd st sA sB) := by
  obtain ⟨c1, c2, c3, c4, c5, c6⟩ := hK
  refine ⟨c1, show K 0 1 + 1 ≤ 10 by omega, c3, fun j hj => ?_, fun j hj => c5 j hj, fun h0 => ?_⟩
  · have hj : j < K 0 1 + 1 := hj
    by_cases e : j = K 0 1
    · subst e
      simp [kLk]
      exact ⟨ha, hb, hab, h3, h4, h5, h6, h7⟩
    · have := c4 j (by omega)
      simp [kLk, e]
      exact this
  · have h0 : K 0 0 = 0 := h0
    omega
theorem z_linkC (hS : St w T k K hx hm p) (h0 : K 0 0 ≠ 0) (h10 : K 0 1 < 10) (hT : TT T k) (hn : 300 ≤ n) : Res w T k hx hm p (fX4_readLink n (RX w) 1 (dd w) hx) (fX6_readsLink n RM 0 hm) := by
  obtain ⟨hC, hH, hM, hR, hK⟩ := hS
  have hN := hK.1
  obtain ⟨l, el⟩ : ∃ l, K 0 1 = l := ⟨_, rfl⟩
  have hl10 : l < 10 := by omega
  have hl : hm.1 0 7 = nI l := by rw [← el]; exact hR.2.1
  have hck : ∀ {q : Type} (x : Option q), ck (nI l) 10 x = x := fun x => z_ck hl10 (by omega)
  have hck2 : ∀ {q : Type} (x : Option q), ck (nI (2 * l)) 20 x = x := fun x => z_ck (by omega) (by omega)
  have hck3 : ∀ {q : Type} (x : Option q), ck (nI (2 * l + 1)) 20 x = x := fun x => z_ck (by omega) (by omega)
  have eN : nI (K 0 0) - 1 = nI (K 0 0 - 1) := by rw [show (1 : Int32) = nI 1 from rfl, pk_sub (by omega)]
  unfold fX4_readLink fX6_readsLink
  simp only [lE]
  rw [hH.1, hR.1, hl]
  have xa := z_numI (w := w) (n := n) (x := 0) (lo := 0) rfl eN hC hT (by omega) (by omega) hn
  have ma := z_numMI (n := n) (x := 0) (lo := 0) rfl eN hM hT (by omega) (by omega) hn
  cases ra : nmr T k 0 (K 0 0 - 1) p with
  | inl z =>
    obtain ⟨kd, s⟩ := z
    rw [ra] at xa ma
    obtain ⟨n1, n2, n3, v, x1, q1, a1, a2, a3⟩ := xa
    obtain ⟨m1, b1, b2, b3, b4⟩ := ma
    rw [a1, b1]
    simp only [bd2_some]
    have a4 := a2.at (q := sk T k q1) (sk_ok (T := T) a2.2.2.2.2.2.1).2.1
    rw [z_skip a2 hT hn, Option.bind_some]
    obtain ⟨v2, x2, q2, c1, c2, c3⟩ := z_numF (w := w) (n := n) (lo := 0) (hi := (pI x1 1 2 (nI (sk T k q1))).1 (dd w) 9 - 1) a4 n2 hT hn
    rw [c1]
    simp only [bd2_some]
    rw [z_fail1 c2 n2, Option.bind_some]
    obtain ⟨x3, q3, d1, d2, d3⟩ := z_restF (w := w) (n := n) (x := v) (y := v2) c2 n2 hT hn
    rw [d1]
    unfold jX6_readsLink_37
    simp only [if_true]
    refine ⟨x3, 0, m1, by split <;> rfl, rfl, toD (((a3.tr fr1).tr c3).tr d3), toR b4, Or.inr ⟨rfl, kd, s, q3, n2, n1, d2, b2, b3⟩⟩
  | inr z =>
    obtain ⟨a, qa⟩ := z
    rw [ra] at xa ma
    obtain ⟨na1, na2, na3, x1, a1, a2, a3⟩ := xa
    obtain ⟨m1, b1, b2, b3, b4⟩ := ma
    rw [a1, b1]
    simp only [bd2_some]
    rw [if_neg (nI_m1 (by omega))]
    have sa := sk_ok (T := T) a2.2.2.2.2.2.1
    have a4 := a2.at (q := sk T k qa) sa.2.1
    have hH1 := (hH.d a3).d (fr1 (j := 2) (v := nI (sk T k qa)))
    rw [z_skip a2 hT hn, Option.bind_some, (hR.n b4).1, hH1.1, a4.2.1]
    have xb := z_numI (w := w) (n := n) (x := 0) (lo := 0) rfl eN a4 hT (by omega) (by omega) hn
    have mb := z_numMI (n := n) (x := 0) (lo := 0) rfl eN b3 hT (by omega) (by omega) hn
    rw [nmr_sk a2.2.2.2.2.2.1] at xb
    cases rb : nmr T k 0 (K 0 0 - 1) qa with
    | inl z =>
      obtain ⟨kd, s⟩ := z
      rw [rb] at xb mb
      obtain ⟨n1, n2, n3, v2, x2, q2, c1, c2, c3⟩ := xb
      obtain ⟨m2, d1, d2, d3, d4⟩ := mb
      rw [c1, d1]
      simp only [bd2_some]
      rw [z_fail1 c2 n2, Option.bind_some]
      obtain ⟨x3, q3, e1, e2, e3⟩ := z_restF (w := w) (n := n) (x := nI a) (y := v2) c2 n2 hT hn
      rw [e1]
      unfold jX6_readsLink_37
      simp only [if_true]
      refine ⟨x3, 0, m2, by split <;> rfl, rfl, toD (((a3.tr fr1).tr c3).tr e3), (toR b4).tr (toR d4), Or.inr ⟨rfl, kd, s, q3, n2, n1, e2, d2, d3⟩⟩
    | inr z =>
      obtain ⟨b, qb⟩ := z
      rw [rb] at xb mb
      obtain ⟨nb1, nb2, nb3, x2, c1, c2, c3⟩ := xb
      obtain ⟨m2, d1, d2, d3, d4⟩ := mb
      rw [c1, d1]
      simp only [bd2_some]
      unfold jX6_readsLink_37
      rw [if_neg (nI_m1 (by omega))]
      have hF0 : Fr1 hx x2 := (a3.tr fr1).tr c3
      have hG0 : FrR hm m2 := (toR b4).tr (toR d4)
      by_cases eab : a = b
      · subst eab
        rw [if_pos rfl, if_pos rfl, d2]
        obtain ⟨x3, e1, e2, e3⟩ := z_fail0 (w := w) (n := n) c2 (kd := 4) (s := sk T k qa) (by omega)
        rw [show (4 : Int32) = nI 4 from rfl, e1, Option.bind_some]
        obtain ⟨x4, q4, f1, f2, f3⟩ := z_restF (w := w) (n := n) (x := nI a) (y := nI a) e2 (by omega) hT hn
        rw [f1]
        unfold fX6_fails
        simp only [lE, bd2_some]
        refine ⟨x4, 0, _, rfl, rfl, toD ((hF0.tr e3).tr f3), (hG0.tr (toR fn4)).tr (toR fn2), Or.inr ⟨rfl, 4, sk T k qa, q4, by omega, by omega, f2, by rw [pI_nj (by decide), pI_eq], ⟨?_, pI_eq, fun i hi => ?_, sa.2.1⟩⟩⟩
        · rw [pI_nj (by decide), pI_nj (by decide)]; exact d3.1
        · rw [pI_nk (by decide), pI_nk (by decide)]; exact d3.2.2.1 i hi
      · rw [if_neg (show ¬ nI a = nI b by rw [nI_eq (by omega) (by omega)]; exact eab), if_neg (show ¬ nI a = nI b by rw [nI_eq (by omega) (by omega)]; exact eab)]
        unfold jX4_readLink_46
        rw [nI_21, nI_2, rm9, rm10]
        simp only [hck, hck2, hck3, lE, nI_clamp (show l < 2 ^ 31 by omega), nI_clamp (show 2 * l < 2 ^ 31 by omega), nI_clamp (show 2 * l + 1 < 2 ^ 31 by omega)]
        have M1 : Ms T k (pI (pI m2 2 (2 * l) (nI a)) 2 (2 * l + 1) (nI b)) qb := (d3.ar (by omega)).ar (by omega)
        have G1 : FrR hm (pI (pI m2 2 (2 * l) (nI a)) 2 (2 * l + 1) (nI b)) := (hG0.tr (fra (by omega) (by omega))).tr (fra (by omega) (by omega))
        have xk := z_numI (w := w) (n := n) (x := 0) (y := 3) (lo := 0) (hi := 3) rfl rfl c2 hT (by omega) (by omega) hn
        have mk := z_numMI (n := n) (x := 0) (y := 3) (lo := 0) (hi := 3) rfl rfl M1 hT (by omega) (by omega) hn
        cases rk : nmr T k 0 3 qb with
        | inl z =>
          obtain ⟨kd, s⟩ := z
          rw [rk] at xk mk
          obtain ⟨n1, n2, n3, v, xx, qq, t1, t2, t3⟩ := xk
          obtain ⟨mm, s1, s2, s3, s4⟩ := mk
          rw [t1, s1]
          simp only [bd2_some]
          obtain ⟨w2, y2, r2, u21, u22, u23⟩ := z_numF (w := w) (n := n) (lo := 1) (hi := 99) t2 n2 hT hn
          rw [u21]
          simp only [bd2_some]
          obtain ⟨w3, y3, r3, u31, u32, u33⟩ := z_numF (w := w) (n := n) (lo := 0) (hi := 9) u22 n2 hT hn
          rw [u31]
          simp only [bd2_some]
          obtain ⟨w4, y4, r4, u41, u42, u43⟩ := z_numF (w := w) (n := n) (lo := 0) (hi := 9) u32 n2 hT hn
          rw [u41]
          simp only [bd2_some]
          obtain ⟨y5, r5, u51, u52, u53⟩ := z_expFI (w := w) (n := n) (x := 59) rfl u42 n2 hT hn
          rw [u51, Option.bind_some, u52.2.2.1, if_neg (nI_ne0 (by omega) (by omega))]
          rw [pI_eq, if_pos rfl]
          obtain ⟨hz, o1, o2, o3, o4⟩ := z_t120 (n := n) (h := pI mm 3 l (-1)) (x := nI l) rfl hl10 (s3.ar (by omega)) (by rw [pI_nk (by decide)]; exact s2)
          rw [o1]
          exact ⟨_, _, _, rfl, rfl, toD ((((((hF0).tr t3).tr u23).tr u33).tr u43).tr u53), ((G1.tr (toR s4)).tr (fra (by omega) (by omega))).tr o4, Or.inr ⟨rfl, kd, s, r5, n2, n1, u52, o2, o3⟩⟩
        | inr z =>
          obtain ⟨ki, qk⟩ := z
          rw [rk] at xk mk
          obtain ⟨nk1, nk2, nk3, x3, e1, e2, e3⟩ := xk
          obtain ⟨m3, f1, -, f3, f4⟩ := mk
          rw [e1, f1]
          simp only [bd2_some]
          rw [pI_eq, if_neg (nI_m1 (by omega))]
          have M2 : Ms T k (pI m3 3 l (nI ki)) qk := f3.ar (by omega)
          have G2 : FrR hm (pI m3 3 l (nI ki)) := (G1.tr (toR f4)).tr (fra (by omega) (by omega))
          have hF1 := hF0.tr e3
          have xs := z_numI (w := w) (n := n) (x := 1) (y := 99) (lo := 1) (hi := 99) rfl rfl e2 hT (by omega) (by omega) hn
          have ms := z_numMI (n := n) (x := 1) (y := 99) (lo := 1) (hi := 99) rfl rfl M2 hT (by omega) (by omega) hn
          cases rs : nmr T k 1 99 qk with
          | inl z =>
            obtain ⟨kd, s⟩ := z
            rw [rs] at xs ms
            obtain ⟨n1, n2, n3, v, xx, qq, t1, t2, t3⟩ := xs
            obtain ⟨mm, s1, s2, s3, s4⟩ := ms
            rw [t1, s1]
            simp only [bd2_some]
            obtain ⟨w3, y3, r3, u31, u32, u33⟩ := z_numF (w := w) (n := n) (lo := 0) (hi := 9) t2 n2 hT hn
            rw [u31]
            simp only [bd2_some]
            obtain ⟨w4, y4, r4, u41, u42, u43⟩ := z_numF (w := w) (n := n) (lo := 0) (hi := 9) u32 n2 hT hn
            rw [u41]
            simp only [bd2_some]
            obtain ⟨y5, r5, u51, u52, u53⟩ := z_expFI (w := w) (n := n) (x := 59) rfl u42 n2 hT hn
            rw [u51, Option.bind_some, u52.2.2.1, if_neg (nI_ne0 (by omega) (by omega))]
            obtain ⟨hz, o1, o2, o3, o4⟩ := z_t120 (n := n) (h := mm) (x := nI l) rfl hl10 s3 s2
            rw [o1]
            exact ⟨_, _, _, rfl, rfl, toD (((((hF1).tr t3).tr u33).tr u43).tr u53), (G2.tr (toR s4)).tr o4, Or.inr ⟨rfl, kd, s, r5, n2, n1, u52, o2, o3⟩⟩
          | inr z =>
            obtain ⟨st, qs⟩ := z
            rw [rs] at xs ms
            obtain ⟨ns1, ns2, ns3, x4, g1, g2, g3⟩ := xs
            obtain ⟨m4, i1, -, i3, i4⟩ := ms
            rw [g1, i1]
            simp only [bd2_some]
            unfold jX6_readsLink_120
            rw [nI_2, rm11]
            simp only [hck, lE, nI_clamp (show l < 2 ^ 31 by omega)]
            rw [pI_eq, if_neg (nI_m1 (by omega))]
            have M3 : Ms T k (pI m4 4 l (nI st)) qs := i3.ar (by omega)
            have G3 : FrR hm (pI m4 4 l (nI st)) := (G2.tr (toR i4)).tr (fra (by omega) (by omega))
            have hF2 := hF1.tr g3
            have xA := z_numI (w := w) (n := n) (x := 0) (y := 9) (lo := 0) (hi := 9) rfl rfl g2 hT (by omega) (by omega) hn
            have mA := z_numMI (n := n) (x := 0) (y := 9) (lo := 0) (hi := 9) rfl rfl M3 hT (by omega) (by omega) hn
            cases rA : nmr T k 0 9 qs with
            | inl z =>
              obtain ⟨kd, s⟩ := z
              rw [rA] at xA mA
              obtain ⟨n1, n2, n3, v, xx, qq, t1, t2, t3⟩ := xA
              obtain ⟨mm, s1, s2, s3, s4⟩ := mA
              rw [t1, s1]
              simp only [bd2_some]
              obtain ⟨w4, y4, r4, u41, u42, u43⟩ := z_numF (w := w) (n := n) (lo := 0) (hi := 9) t2 n2 hT hn
              rw [u41]
              simp only [bd2_some]
              obtain ⟨y5, r5, u51, u52, u53⟩ := z_expFI (w := w) (n := n) (x := 59) rfl u42 n2 hT hn
              rw [u51, Option.bind_some, u52.2.2.1, if_neg (nI_ne0 (by omega) (by omega))]
              obtain ⟨hz, o1, o2, o3, o4⟩ := z_t149 (n := n) (h := mm) (x := nI (2 * l)) rfl hl10 s3 s2
              rw [o1]
              exact ⟨_, _, _, rfl, rfl, toD ((((hF2).tr t3).tr u43).tr u53), (G3.tr (toR s4)).tr o4, Or.inr ⟨rfl, kd, s, r5, n2, n1, u52, o2, o3⟩⟩
            | inr z =>
              obtain ⟨sA, qA⟩ := z
              rw [rA] at xA mA
              obtain ⟨nA1, nA2, nA3, x5, j1, j2, j3⟩ := xA
              obtain ⟨m5, k1, -, k3, k4⟩ := mA
              rw [j1, k1]
              simp only [bd2_some]
              unfold jX6_readsLink_149
              rw [nI_21, nI_2, rm12]
              simp only [hck2, lE, nI_clamp (show 2 * l < 2 ^ 31 by omega)]
              rw [pI_eq, if_neg (nI_m1 (by omega))]
              have M4 : Ms T k (pI m5 5 (2 * l) (nI sA)) qA := k3.ar (by omega)
              have G4 : FrR hm (pI m5 5 (2 * l) (nI sA)) := (G3.tr (toR k4)).tr (fra (by omega) (by omega))
              have hF3 := hF2.tr j3
              have xB := z_numI (w := w) (n := n) (x := 0) (y := 9) (lo := 0) (hi := 9) rfl rfl j2 hT (by omega) (by omega) hn
              have mB := z_numMI (n := n) (x := 0) (y := 9) (lo := 0) (hi := 9) rfl rfl M4 hT (by omega) (by omega) hn
              cases rB : nmr T k 0 9 qA with
              | inl z =>
                obtain ⟨kd, s⟩ := z
                rw [rB] at xB mB
                obtain ⟨n1, n2, n3, v, xx, qq, t1, t2, t3⟩ := xB
                obtain ⟨mm, s1, s2, s3, s4⟩ := mB
                rw [t1, s1]
                simp only [bd2_some]
                obtain ⟨y5, r5, u51, u52, u53⟩ := z_expFI (w := w) (n := n) (x := 59) rfl t2 n2 hT hn
                rw [u51, Option.bind_some, u52.2.2.1, if_neg (nI_ne0 (by omega) (by omega))]
                obtain ⟨hz, o1, o2, o3, o4⟩ := z_t182 (n := n) (h := mm) (x := nI (2 * l + 1)) rfl hl10 s3 s2
                rw [o1]
                exact ⟨_, _, _, rfl, rfl, toD (((hF3).tr t3).tr u53), (G4.tr (toR s4)).tr o4, Or.inr ⟨rfl, kd, s, r5, n2, n1, u52, o2, o3⟩⟩
              | inr z =>
                obtain ⟨sB, qB⟩ := z
                rw [rB] at xB mB
                obtain ⟨nB1, nB2, nB3, x6, l1, l2, l3⟩ := xB
                obtain ⟨m6, p1, -, p3, p4⟩ := mB
                rw [l1, p1]
                simp only [bd2_some]
                unfold jX6_readsLink_182
                rw [nI_21, rm12]
                simp only [hck3, lE, nI_clamp (show 2 * l + 1 < 2 ^ 31 by omega)]
                rw [pI_nk (show 5 ≠ 0 by decide), pI_eq, if_neg (nI_m1 (by omega))]
                have e7 : (pI m6 5 (2 * l + 1) (nI sB)).1 0 7 = nI l := by
                  rw [pI_nk (by decide), p4.2.2 7 (by decide), pI_nk (by decide), k4.2.2 7 (by decide), pI_nk (by decide), i4.2.2 7 (by decide), pI_nk (by decide), f4.2.2 7 (by decide), pI_nk (by decide), pI_nk (by decide), d4.2.2 7 (by decide), b4.2.2 7 (by decide)]
                  exact hl
                rw [e7, nI_1]
                have M5 : Ms T k (pI (pI m6 5 (2 * l + 1) (nI sB)) 0 7 (nI (l + 1))) qB := (p3.ar (by omega)).f7
                have G5 : FrR hm (pI (pI m6 5 (2 * l + 1) (nI sB)) 0 7 (nI (l + 1))) := ((G4.tr (toR p4)).tr (fra (by omega) (by omega))).tr (FrM.p0 (by decide))
                have hF4 := hF3.tr l3
                obtain ⟨x7, m7, t1, t2, t3, t4⟩ := z_semiI (w := w) (n := n) (x := 59) rfl l2 M5 rfl hT hn
                rw [t1, Option.bind_some]
                rcases t4 with ⟨t4, t5, t6⟩ | ⟨t4, t5, t6, t7⟩
                · rw [t4, t5.2.2.1, if_pos (show nI 0 = 0 from rfl)]
                  simp only [bd2_some, n10, if_false]
                  have hH2 : Ch (RX w) x7 (dd w) K := hH.d (hF4.tr t2)
                  rw [hH2.2.1, el, z_shl (by omega), z_shl (by omega), z_or]
                  simp only [hck, nI_clamp (show l < 2 ^ 31 by omega), rx_d]
                  have hL := Ch.lk (a := a) (b := b) (kd := ki) (st := st) (sA := sA) (sB := sB) (rx_d w) hH2 el
                  have e10 : ∀ q : Hp, q.1 (dd w) 10 = nI l → (pI (pI (pI (pI (pI (pI (pI q (dd w + 1 + 0) l (nI a)) (dd w + 1 + 1) l (nI b)) (dd w + 1 + 2) l (nI (2 ^ a ||| 2 ^ b))) (dd w + 1 + 3) l (nI ki)) (dd w + 1 + 4) l (nI st)) (dd w + 1 + 5) l (nI sA)) (dd w + 1 + 6) l (nI sB)).1 (dd w) 10 = nI l := by
                    intro q hq
                    rw [pI_nk (by omega), pI_nk (by omega), pI_nk (by omega), pI_nk (by omega), pI_nk (by omega), pI_nk (by omega), pI_nk (by omega)]
                    exact hq
                  rw [e10 x7 (by rw [hH2.2.1, el]), nI_1]
                  have fD : ∀ (q : Hp) (i : Nat) (v : Int32), i < 9 → FrD w q (pI q (dd w + 1 + i) l v) := fun q i v hi => Fr.pI (Or.inr ⟨by omega, by omega⟩)
                  have fD0 : ∀ (q : Hp) (v : Int32), FrD w q (pI q (dd w) 10 v) := fun q v => Fr.pI (Or.inr ⟨by omega, by omega⟩)
                  have hFD := ((((((((fD x7 0 (nI a) (by omega)).tr (fD _ 1 (nI b) (by omega))).tr (fD _ 2 (nI (2 ^ a ||| 2 ^ b)) (by omega))).tr (fD _ 3 (nI ki) (by omega))).tr (fD _ 4 (nI st) (by omega))).tr (fD _ 5 (nI sA) (by omega))).tr (fD _ 6 (nI sB) (by omega))).tr (fD0 _ (nI (l + 1))))
                  have gD : ∀ (q : Hp) (c i : Nat) (v : Int32), dd w ≤ c ∧ c ≤ dd w + 9 → Fr (fun a => dd w ≤ a ∧ a ≤ dd w + 9) q (pI q c i v) := fun q c i v hc => Fr.pI hc
                  have hGD := ((((((((gD x7 (dd w + 1 + 0) l (nI a) (by omega)).tr (gD _ (dd w + 1 + 1) l (nI b) (by omega))).tr (gD _ (dd w + 1 + 2) l (nI (2 ^ a ||| 2 ^ b)) (by omega))).tr (gD _ (dd w + 1 + 3) l (nI ki) (by omega))).tr (gD _ (dd w + 1 + 4) l (nI st) (by omega))).tr (gD _ (dd w + 1 + 5) l (nI sA) (by omega))).tr (gD _ (dd w + 1 + 6) l (nI sB) (by omega))).tr (gD _ (dd w) 10 (nI (l + 1)) (by omega)))
                  have hd3 := dd_in w
                  refine ⟨_, _, _, rfl, rfl, (toD (hF4.tr t2)).tr hFD, G5.tr (toR t3), Or.inl ⟨rfl, kLk K a b ki st sA sB, sk T k qB + 1, ?_, t5.fr hGD (by omega) (by omega), hL, t6, ?_, ?_⟩⟩
                  · have := (sk_ok (T := T) l2.2.2.2.2.2.1).1; omega
                  · obtain ⟨r1, r2, r3, r4, r5⟩ := hR
                    have q2 : m7.1 2 = (pI (pI m2 2 (2 * l) (nI a)) 2 (2 * l + 1) (nI b)).1 2 := by
                      funext y
                      rw [t3.2.1 2 (by decide) (fun q => q), pI_nk (by decide), pI_nk (by decide), p4.2.1 2 (by decide) (fun q => q), pI_nk (by decide), k4.2.1 2 (by decide) (fun q => q), pI_nk (by decide), i4.2.1 2 (by decide) (fun q => q), pI_nk (by decide), f4.2.1 2 (by decide) (fun q => q)]
                    have q3 : m7.1 3 = (pI m3 3 l (nI ki)).1 3 := by
                      funext y
                      rw [t3.2.1 3 (by decide) (fun q => q), pI_nk (by decide), pI_nk (by decide), p4.2.1 3 (by decide) (fun q => q), pI_nk (by decide), k4.2.1 3 (by decide) (fun q => q), pI_nk (by decide), i4.2.1 3 (by decide) (fun q => q)]
                    have q4 : m7.1 4 = (pI m4 4 l (nI st)).1 4 := by
                      funext y
                      rw [t3.2.1 4 (by decide) (fun q => q), pI_nk (by decide), pI_nk (by decide), p4.2.1 4 (by decide) (fun q => q), pI_nk (by decide), k4.2.1 4 (by decide) (fun q => q)]
                    have q5 : m7.1 5 = (pI (pI m5 5 (2 * l) (nI sA)) 5 (2 * l + 1) (nI sB)).1 5 := by
                      funext y
                      rw [t3.2.1 5 (by decide) (fun q => q), pI_nk (by decide)]
                      by_cases e : y = 2 * l + 1
                      · subst e; rw [pI_eq, pI_eq]
                      · rw [pI_nj e, pI_nj e, p4.2.1 5 (by decide) (fun q => q)]
                    have q6 : m7.1 6 = hm.1 6 := by
                      funext y
                      rw [t3.2.1 6 (by decide) (fun q => q), pI_nk (by decide), pI_nk (by decide), p4.2.1 6 (by decide) (fun q => q), pI_nk (by decide), k4.2.1 6 (by decide) (fun q => q), pI_nk (by decide), i4.2.1 6 (by decide) (fun q => q), pI_nk (by decide), f4.2.1 6 (by decide) (fun q => q), pI_nk (by decide), pI_nk (by decide), d4.2.1 6 (by decide) (fun q => q), b4.2.1 6 (by decide) (fun q => q)]
                    have z6 : m7.1 0 6 = nI (K 0 0) := by
                      rw [t3.2.2 6 (by decide), pI_nj (by decide), pI_nk (by decide), p4.2.2 6 (by decide), pI_nk (by decide), k4.2.2 6 (by decide), pI_nk (by decide), i4.2.2 6 (by decide), pI_nk (by decide), f4.2.2 6 (by decide), pI_nk (by decide), pI_nk (by decide), d4.2.2 6 (by decide), b4.2.2 6 (by decide)]
                      exact r1
                    have z8 : m7.1 0 8 = nI (K 0 2) := by
                      rw [t3.2.2 8 (by decide), pI_nj (by decide), pI_nk (by decide), p4.2.2 8 (by decide), pI_nk (by decide), k4.2.2 8 (by decide), pI_nk (by decide), i4.2.2 8 (by decide), pI_nk (by decide), f4.2.2 8 (by decide), pI_nk (by decide), pI_nk (by decide), d4.2.2 8 (by decide), b4.2.2 8 (by decide)]
                      exact r3
                    refine ⟨z6, ?_, z8, fun j hj => ?_, fun j hj => ?_⟩
                    · rw [t3.2.2 7 (by decide), pI_eq, ← el]; rfl
                    · have hj : j < K 0 1 + 1 := hj
                      rw [q2, q3, q4, q5]
                      by_cases e : j = l
                      · subst e
                        rw [pI_nj (show 2 * j ≠ 2 * j + 1 by omega), pI_eq, pI_eq, pI_eq, pI_eq, pI_nj (show 2 * j ≠ 2 * j + 1 by omega), pI_eq, pI_eq]
                        simp [kLk, el]
                      · obtain ⟨v1, v2, v3, v4, v5, v6⟩ := r4 j (by omega)
                        rw [pI_nj (show 2 * j ≠ 2 * l + 1 by omega), pI_nj (show 2 * j ≠ 2 * l by omega), pI_nj (show 2 * j + 1 ≠ 2 * l + 1 by omega), pI_nj (show 2 * j + 1 ≠ 2 * l by omega), pI_nj e, pI_nj e, pI_nj (show 2 * j ≠ 2 * l + 1 by omega), pI_nj (show 2 * j ≠ 2 * l by omega), pI_nj (show 2 * j + 1 ≠ 2 * l + 1 by omega), pI_nj (show 2 * j + 1 ≠ 2 * l by omega)]
                        have o2 : m2.1 2 = hm.1 2 := by rw [d4.2.1 2 (by decide) (fun q => q), b4.2.1 2 (by decide) (fun q => q)]
                        have o3 : m3.1 3 = hm.1 3 := by
                          funext y
                          rw [f4.2.1 3 (by decide) (fun q => q), pI_nk (by decide), pI_nk (by decide), d4.2.1 3 (by decide) (fun q => q), b4.2.1 3 (by decide) (fun q => q)]
                        have o4 : m4.1 4 = hm.1 4 := by
                          funext y
                          rw [i4.2.1 4 (by decide) (fun q => q), pI_nk (by decide), f4.2.1 4 (by decide) (fun q => q), pI_nk (by decide), pI_nk (by decide), d4.2.1 4 (by decide) (fun q => q), b4.2.1 4 (by decide) (fun q => q)]
                        have o5 : m5.1 5 = hm.1 5 := by
                          funext y
                          rw [k4.2.1 5 (by decide) (fun q => q), pI_nk (by decide), i4.2.1 5 (by decide) (fun q => q), pI_nk (by decide), f4.2.1 5 (by decide) (fun q => q), pI_nk (by decide), pI_nk (by decide), d4.2.1 5 (by decide) (fun q => q), b4.2.1 5 (by decide) (fun q => q)]
                        rw [o2, o3, o4, o5]
                        simp [kLk, show j ≠ K 0 1 by omega]
                        exact ⟨v1, v2, v3, v4, v5, v6⟩
                    · have hj : j < K 0 2 := hj
                      rw [q6]
                      exact r5 j hj
                  · exact hK.lk (by omega) (by omega) (by omega) eab nk2 ns1 ns2 nA2 nB2
                · rw [t4, t5.2.2.1, if_neg (show ¬ nI 1 = 0 by decide)]
                  simp only [bd2_some, if_true]
                  exact ⟨_, _, _, rfl, rfl, toD (hF4.tr t2), G5.tr (toR t3), Or.inr ⟨rfl, 1, _, _, by omega, by omega, t5, t6, t7⟩⟩
end LKC
