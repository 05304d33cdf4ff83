/-! ===== the text: winds, and all clauses ===== -/
section WDC
variable {w : Bool} {T : Nat → Nat} {k n p f : Nat} {h hx hm : Hp} {K : Kd} {fa : Int32}
/-- the class, once there is a fault, reads on to the end of its winds -/
theorem z_windF {j : Nat} {g : Bool} (hC : Cs T k h p f fa) (hf : f ≠ 0) (hT : TT T k) (hj : j ≤ 12) (hn : 300 ≤ n) {m : Nat} (hm : 14 ≤ m + j) : ∃ h' q, it (fun (s : Int32 × Int32 × Hp) => bX4_readWinds_4 n (RX w) 1 (dd w) s.1 s.2.1 s.2.2) m (bI g, nI j, h) = some h' ∧ Cs T k h' q f fa ∧ FrD w h h' := by
  have hd3 := dd_in w
  obtain ⟨z, e1, q, e2, e3⟩ := it_run (b := fun (s : Int32 × Int32 × Hp) => bX4_readWinds_4 n (RX w) 1 (dd w) s.1 s.2.1 s.2.2) (fun i x => ∃ g h' q, x = (bI g, nI i, h') ∧ Cs T k h' q f fa ∧ FrD w h h') (fun z => ∃ q, Cs T k z q f fa ∧ FrD w h z) 12 (by
    rintro i x hi ⟨g, h1, q, rfl, f1, f2⟩
    show (∃ z, bX4_readWinds_4 n (RX w) 1 (dd w) (bI g) (nI i) h1 = _ ∧ _) ∨ (_ ∧ ∃ y, bX4_readWinds_4 n (RX w) 1 (dd w) (bI g) (nI i) h1 = _ ∧ _)
    unfold bX4_readWinds_4
    by_cases c : i < 12
    · rw [if_neg (show ¬ (12 : Int32) ≤ nI i from nI_ge (b := 12) c (by omega))]
      cases g with
      | false =>
        left
        rw [if_pos (show bI false = 0 from rfl)]
        exact ⟨_, rfl, q, f1, f2⟩
      | true =>
        right
        obtain ⟨v, h2, q2, a1, a2, a3⟩ := z_numF (w := w) (n := n) (lo := 0) (hi := 9) f1 hf hT hn
        rw [if_neg (show ¬ bI true = 0 by decide), a1]
        simp only [bd2_some]
        rw [z_ck (by omega) (by omega), nI_clamp (by omega), nI_1, rx_d]
        simp only [lE]
        have fx : FrD w h1 (pI (pI h2 (dd w + 1 + 7) i v) (dd w) 11 (nI (i + 1))) := ((toD a3).tr (Fr.pI (Or.inr ⟨by omega, by omega⟩))).tr (Fr.pI (Or.inr ⟨by omega, by omega⟩))
        have a4 : Cs T k (pI (pI h2 (dd w + 1 + 7) i v) (dd w) 11 (nI (i + 1))) q2 f fa := (a2.fr (Fr.pI (P := fun a => a = dd w + 1 + 7) rfl) (by omega) (by omega)).fr (Fr.pI (P := fun a => a = dd w) rfl) (by omega) (by omega)
        by_cases c2 : i + 1 < 12
        · obtain ⟨h3, b1, b2, b3⟩ := z_take (w := w) (n := n) a4 hT (x := 44) (by omega) hn
          rw [if_neg (show ¬ (12 : Int32) ≤ nI (i + 1) from nI_ge (b := 12) c2 (by omega)), show (44 : Int32) = nI 44 from rfl, b1]
          simp only [bd2_some]
          refine ⟨c, ?_⟩
          by_cases ct : sk T k q2 < k ∧ T (sk T k q2) = 44
          · rw [decide_eq_true ct, if_neg (by decide)]
            exact ⟨_, rfl, true, h3, _, rfl, b2, (f2.tr fx).tr (toD b3)⟩
          · rw [decide_eq_false ct, if_pos (by decide)]
            exact ⟨_, rfl, false, h3, _, rfl, b2, (f2.tr fx).tr (toD b3)⟩
        · rw [if_pos (show (12 : Int32) ≤ nI (i + 1) from nI_le (a := 12) (by omega) (by omega))]
          exact ⟨c, _, rfl, false, _, q2, rfl, a4, f2.tr fx⟩
    · left
      rw [if_pos (show (12 : Int32) ≤ nI i from nI_le (a := 12) (by omega) (by omega))]
      exact ⟨_, rfl, q, f1, f2⟩) (12 - j) j m (bI g, nI j, h) (by omega) (by omega) ⟨g, h, p, rfl, hC, Fr.rf⟩
  exact ⟨z, q, e1, e2, e3⟩
theorem Ch.wd {D j v : Nat} {g : Hp} (hD : ∀ j, RX w D j = D + 1 + j) (hC : Ch (RX w) g D K) (el : K 0 2 = j) : Ch (RX w) (pI (pI g (D + 1 + 7) j (nI v)) D 11 (nI (j + 1))) D (kWd K v) := by
  obtain ⟨c1, c2, c3, c4, c5⟩ := hC
  simp only [hD, Nat.add_assoc] at c4 c5
  subst el
  unfold Ch
  simp only [hD]
  refine ⟨?_, ?_, ?_, fun i hi => ?_, fun i hi => ?_⟩
  · simp [pI, kWd, Nat.add_assoc]; exact c1
  · simp [pI, kWd, Nat.add_assoc]; exact c2
  · simp [pI, kWd, Nat.add_assoc]
  · have hi : i < K 0 1 := hi
    simp [pI, kWd, Nat.add_assoc]
    exact c4 i hi
  · have hi : i < K 0 2 + 1 := hi
    by_cases e : i = K 0 2
    · subst e
      simp [pI, kWd, Nat.add_assoc]
    · simp [pI, kWd, Nat.add_assoc, e]
      exact c5 i (by omega)
theorem Bk.wd {v : Nat} (hK : Bk K) (h0 : K 0 0 ≠ 0) (h12 : K 0 2 < 12) (hv : v ≤ 9) : Bk (kWd K v) := by
  obtain ⟨c1, c2, c3, c4, c5, c6⟩ := hK
  refine ⟨c1, c2, show K 0 2 + 1 ≤ 12 by omega, fun j hj => c4 j hj, fun j hj => ?_, fun z => absurd z h0⟩
  have hj : j < K 0 2 + 1 := hj
  by_cases e : j = K 0 2
  · subst e
    simp [kWd]; exact hv
  · simp [kWd, e]
    exact c5 j (by omega)
theorem z_windL (hT : TT T k) (hn : 300 ≤ n) : ∀ (m j p : Nat) (K : Kd) (hx hm : Hp) (n1 n2 : Nat), 12 = j + m → 0 < m → m + 3 ≤ n1 → m + 3 ≤ n2 → St w T k K hx hm p → K 0 0 ≠ 0 → K 0 2 = j → ∃ hx' z hm', it (fun (s : Int32 × Int32 × Hp) => bX4_readWinds_4 n (RX w) 1 (dd w) s.1 s.2.1 s.2.2) n1 (1, nI j, hx) = some hx' ∧ it (fun (s : Int32 × Hp) => bX6_readsWinds_2 n RM 0 s.1 s.2) n2 (1, hm) = some z ∧ FrD w hx hx' ∧ FrR hm hm' ∧ ((z = .inr hm' ∧ ∃ K' q q2, p ≤ q ∧ Cs T k hx' q 0 (-1) ∧ Ms T k hm' q2 ∧ sk T k q = sk T k q2 ∧ Ch (RX w) hx' (dd w) K' ∧ Cr hm' K' ∧ Bk K') ∨ (z = .inl hm' ∧ Bad T k hx' hm')) := by
  have hd3 := dd_in w
  intro m
  induction m with
  | zero => intro j p K hx hm n1 n2 _ h; omega
  | succ m ih =>
    intro j p K hx hm n1 n2 hj _ hn1 hn2 hS h0 el
    obtain ⟨n1, rfl⟩ : ∃ q, n1 = q + 1 := ⟨n1 - 1, by omega⟩
    obtain ⟨n2, rfl⟩ : ∃ q, n2 = q + 1 := ⟨n2 - 1, by omega⟩
    obtain ⟨hC, hH, hM, hR, hK⟩ := hS
    have e8 : hm.1 0 8 = nI j := by rw [← el]; exact hR.2.2.1
    have hck : ∀ {q : Type} (x : Option q), ck (nI j) 12 x = x := fun x => z_ck (by omega) (by omega)
    have xk := z_numI (w := w) (n := n) (x := 0) (y := 9) (lo := 0) (hi := 9) rfl rfl hC hT (by omega) (by omega) hn
    have mk := z_numMI (n := n) (x := 0) (y := 9) (lo := 0) (hi := 9) rfl rfl hM hT (by omega) (by omega) hn
    cases rk : nmr T k 0 9 p with
    | inl z =>
      obtain ⟨kd, s⟩ := z
      rw [rk] at xk mk
      obtain ⟨n1', n2', n3', v, x1, q1, a1, a2, a3⟩ := xk
      obtain ⟨m1, b1, b2, b3, b4⟩ := mk
      have fx : FrD w hx (pI (pI x1 (dd w + 1 + 7) j v) (dd w) 11 (nI (j + 1))) := ((toD a3).tr (Fr.pI (Or.inr ⟨by omega, by omega⟩))).tr (Fr.pI (Or.inr ⟨by omega, by omega⟩))
      have a4 : Cs T k (pI (pI x1 (dd w + 1 + 7) j v) (dd w) 11 (nI (j + 1))) q1 kd (nI s) := (a2.fr (Fr.pI (P := fun a => a = dd w + 1 + 7) rfl) (by omega) (by omega)).fr (Fr.pI (P := fun a => a = dd w) rfl) (by omega) (by omega)
      have eB : ∃ g h' q, bX4_readWinds_4 n (RX w) 1 (dd w) 1 (nI j) hx = some (.inl (bI g, nI (j + 1), h')) ∧ Cs T k h' q kd (nI s) ∧ FrD w hx h' := by
        unfold bX4_readWinds_4
        rw [if_neg (show ¬ (12 : Int32) ≤ nI j from nI_ge (b := 12) (by omega) (by omega)), if_neg n10, a1]
        simp only [bd2_some, hck]
        rw [nI_clamp (by omega), nI_1, rx_d]
        simp only [lE]
        by_cases c2 : j + 1 < 12
        · obtain ⟨h3, t1, t2, t3⟩ := z_take (w := w) (n := n) a4 hT (x := 44) (by omega) hn
          rw [if_neg (show ¬ (12 : Int32) ≤ nI (j + 1) from nI_ge (b := 12) c2 (by omega)), show (44 : Int32) = nI 44 from rfl, t1]
          simp only [bd2_some]
          by_cases ct : sk T k q1 < k ∧ T (sk T k q1) = 44
          · rw [decide_eq_true ct, if_neg (by decide)]
            exact ⟨true, h3, _, rfl, t2, fx.tr (toD t3)⟩
          · rw [decide_eq_false ct, if_pos (by decide)]
            exact ⟨false, h3, _, rfl, t2, fx.tr (toD t3)⟩
        · rw [if_pos (show (12 : Int32) ≤ nI (j + 1) from nI_le (a := 12) (by omega) (by omega))]
          exact ⟨false, _, q1, rfl, a4, fx⟩
      obtain ⟨g, h', q, c1, c2, c3⟩ := eB
      obtain ⟨h2, q2, d1, d2, d3⟩ := z_windF (w := w) (n := n) (g := g) (j := j + 1) c2 n2' hT (by omega) hn (m := n1) (by omega)
      have eD : bX6_readsWinds_2 n RM 0 1 hm = some (.inr (.inl (pI m1 6 j (-1)))) := by
        unfold bX6_readsWinds_2
        rw [if_neg n10, b1]
        simp only [bd2_some]
        rw [e8, rm13]
        simp only [hck, lE, nI_clamp (show j < 2 ^ 31 by omega)]
        have e8' : (pI m1 6 j (-1)).1 0 8 = nI j := by rw [pI_nk (by decide), b4.2.2 8 (by decide)]; exact e8
        rw [e8', hck, nI_clamp (by omega), pI_eq, if_pos rfl]
      exact ⟨h2, _, pI m1 6 j (-1), by rw [it_go c1]; exact d1, it_st eD, c3.tr d3, (toR b4).tr (fra (by omega) (by omega)), Or.inr ⟨rfl, kd, s, q2, n2', n1', d2, by rw [pI_nk (by decide)]; exact b2, b3.ar (by omega)⟩⟩
    | inr z =>
      obtain ⟨v, q⟩ := z
      rw [rk] at xk mk
      obtain ⟨nk1, nk2, nk3, x1, a1, a2, a3⟩ := xk
      obtain ⟨m1, b1, -, b3, b4⟩ := mk
      have fx : FrD w hx (pI (pI x1 (dd w + 1 + 7) j (nI v)) (dd w) 11 (nI (j + 1))) := ((toD a3).tr (Fr.pI (Or.inr ⟨by omega, by omega⟩))).tr (Fr.pI (Or.inr ⟨by omega, by omega⟩))
      have a4 : Cs T k (pI (pI x1 (dd w + 1 + 7) j (nI v)) (dd w) 11 (nI (j + 1))) q 0 (-1) := (a2.fr (Fr.pI (P := fun a => a = dd w + 1 + 7) rfl) (by omega) (by omega)).fr (Fr.pI (P := fun a => a = dd w) rfl) (by omega) (by omega)
      have a5 : Ch (RX w) (pI (pI x1 (dd w + 1 + 7) j (nI v)) (dd w) 11 (nI (j + 1))) (dd w) (kWd K v) := Ch.wd (rx_d w) (hH.d a3) el
      have hK' := hK.wd h0 (show K 0 2 < 12 by omega) nk2
      have sq := sk_ok (T := T) a2.2.2.2.2.2.1
      -- the reference's heap behind the number
      have M1 : Ms T k (pI (pI m1 6 j (nI v)) 0 8 (nI (j + 1))) q := (b3.ar (by omega)).fr (FrM.p0 (P := fun _ => False) (Q := fun j => j = 8) rfl) (fun q => q) (by decide) (by decide)
      have R1 : Cr (pI (pI m1 6 j (nI v)) 0 8 (nI (j + 1))) (kWd K v) := by
        obtain ⟨r1, r2, r3, r4, r5⟩ := hR.n b4
        subst el
        refine ⟨?_, ?_, ?_, fun i hi => ?_, fun i hi => ?_⟩
        · rw [pI_nj (by decide), pI_nk (by decide)]; exact r1
        · rw [pI_nj (by decide), pI_nk (by decide)]; exact r2
        · rw [pI_eq]; rfl
        · have hi : i < K 0 1 := hi
          rw [pI_nk (by decide), pI_nk (by decide), pI_nk (by decide), pI_nk (by decide), pI_nk (by decide), pI_nk (by decide), pI_nk (by decide), pI_nk (by decide), pI_nk (by decide), pI_nk (by decide), pI_nk (by decide), pI_nk (by decide)]
          simp [kWd]
          exact r4 i hi
        · have hi : i < K 0 2 + 1 := hi
          rw [pI_nk (by decide)]
          by_cases e : i = K 0 2
          · subst e
            rw [pI_eq]; simp [kWd]
          · rw [pI_nj e]
            simp [kWd, e]
            exact r5 i (by omega)
      have fm : FrR hm (pI (pI m1 6 j (nI v)) 0 8 (nI (j + 1))) := ((toR b4).tr (fra (by omega) (by omega))).tr (FrM.p0 (by decide))
      have eM : bX6_readsWinds_2 n RM 0 1 hm = (if ltr T k (sk T k q) = 44 then (if (12 : Int32) ≤ nI (j + 1) then jX6_readsWinds_70 n RM 0 0 (pI (pI (pI m1 6 j (nI v)) 0 8 (nI (j + 1))) 0 2 (nI (sk T k q))) else jX6_readsWinds_70 n RM 0 1 (pI (pI (pI m1 6 j (nI v)) 0 8 (nI (j + 1))) 0 2 (nI (sk T k q)))) else jX6_readsWinds_70 n RM 0 0 (pI (pI (pI m1 6 j (nI v)) 0 8 (nI (j + 1))) 0 2 (nI (sk T k q)))) := by
        unfold bX6_readsWinds_2
        rw [if_neg n10, b1]
        simp only [bd2_some]
        rw [e8, rm13]
        simp only [hck, lE, nI_clamp (show j < 2 ^ 31 by omega)]
        have e8' : (pI m1 6 j (nI v)).1 0 8 = nI j := by rw [pI_nk (by decide), b4.2.2 8 (by decide)]; exact e8
        rw [e8', hck, nI_clamp (by omega), pI_eq, if_neg (nI_m1 (by omega)), nI_1, z_next M1 hT hn]
        simp only [bd2_some]
        have e8'' : (pI (pI (pI m1 6 j (nI v)) 0 8 (nI (j + 1))) 0 2 (nI (sk T k q))).1 0 8 = nI (j + 1) := by rw [pI_nj (by decide), pI_eq]
        rw [e8'']
      have M2 := M1.at (q := sk T k q) sq.2.1
      have R2 : Cr (pI (pI (pI m1 6 j (nI v)) 0 8 (nI (j + 1))) 0 2 (nI (sk T k q))) (kWd K v) := R1.n fn2
      have e70 : jX6_readsWinds_70 n RM 0 0 (pI (pI (pI m1 6 j (nI v)) 0 8 (nI (j + 1))) 0 2 (nI (sk T k q))) = some (.inl (0, pI (pI (pI m1 6 j (nI v)) 0 8 (nI (j + 1))) 0 2 (nI (sk T k q)))) := by
        unfold jX6_readsWinds_70 jX6_readsWinds_85
        rw [if_pos rfl, M2.2.1]
        simp only [lE, Int32.add_zero]
        rw [pI_pI]
      have e71 : jX6_readsWinds_70 n RM 0 1 (pI (pI (pI m1 6 j (nI v)) 0 8 (nI (j + 1))) 0 2 (nI (sk T k q))) = some (.inl (1, pI (pI (pI m1 6 j (nI v)) 0 8 (nI (j + 1))) 0 2 (nI (sk T k q + 1)))) := by
        unfold jX6_readsWinds_70 jX6_readsWinds_85
        rw [if_neg n10, M2.2.1, nI_1]
        simp only [lE]
        rw [pI_pI]
      have eDend : ∀ g : Hp, bX6_readsWinds_2 n RM 0 0 g = some (.inr (.inr g)) := fun g => by
        unfold bX6_readsWinds_2; rw [if_pos rfl]
      have eX : bX4_readWinds_4 n (RX w) 1 (dd w) 1 (nI j) hx = (if (12 : Int32) ≤ nI (j + 1) then some (.inl (0, nI (j + 1), pI (pI x1 (dd w + 1 + 7) j (nI v)) (dd w) 11 (nI (j + 1)))) else (bd2 (fX4_take n (RX w) 1 44 (pI (pI x1 (dd w + 1 + 7) j (nI v)) (dd w) 11 (nI (j + 1)))) (fun (x12 : Int32) (h13 : Hp) => if x12 = 0 then some (.inl (0, nI (j + 1), h13)) else some (.inl (1, nI (j + 1), h13))))) := by
        unfold bX4_readWinds_4
        rw [if_neg (show ¬ (12 : Int32) ≤ nI j from nI_ge (b := 12) (by omega) (by omega)), if_neg n10, a1]
        simp only [bd2_some, hck]
        rw [nI_clamp (by omega), nI_1, rx_d]
        simp only [lE]
      by_cases c2 : j + 1 < 12
      · obtain ⟨h3, t1, t2, t3⟩ := z_take (w := w) (n := n) a4 hT (x := 44) (by omega) hn
        rw [if_neg (show ¬ (12 : Int32) ≤ nI (j + 1) from nI_ge (b := 12) c2 (by omega)), show (44 : Int32) = nI 44 from rfl, t1] at eX
        simp only [bd2_some] at eX
        rw [if_neg (show ¬ (12 : Int32) ≤ nI (j + 1) from nI_ge (b := 12) c2 (by omega)), e70, e71] at eM
        by_cases ct : sk T k q < k ∧ T (sk T k q) = 44
        · rw [decide_eq_true ct, if_neg (by decide)] at eX
          rw [if_pos (show ltr T k (sk T k q) = 44 from (ltr_eq hT (x := 44) (by omega)).mpr ct)] at eM
          rw [if_pos ct] at t2
          have M3 := M1.at (q := sk T k q + 1) (by omega)
          have R3 : Cr (pI (pI (pI m1 6 j (nI v)) 0 8 (nI (j + 1))) 0 2 (nI (sk T k q + 1))) (kWd K v) := R1.n fn2
          obtain ⟨hx', z, hm', g1, g2, g3, g4, g5⟩ := ih (j + 1) (sk T k q + 1) (kWd K v) h3 (pI (pI (pI m1 6 j (nI v)) 0 8 (nI (j + 1))) 0 2 (nI (sk T k q + 1))) n1 n2 (by omega) (by omega) (by omega) (by omega) ⟨t2, a5.d t3, M3, R3, hK'⟩ h0 (show K 0 2 + 1 = j + 1 by omega)
          refine ⟨hx', z, hm', by rw [it_go eX]; exact g1, by rw [it_go eM]; exact g2, (fx.tr (toD t3)).tr g3, (fm.tr (toR fn2)).tr g4, ?_⟩
          rcases g5 with ⟨g5, K', q1, q2, g6, g7⟩ | g5
          · exact Or.inl ⟨g5, K', q1, q2, by omega, g7⟩
          · exact Or.inr g5
        · rw [decide_eq_false ct, if_pos (by decide)] at eX
          rw [if_neg (show ¬ ltr T k (sk T k q) = 44 from fun z => ct ((ltr_eq hT (x := 44) (by omega)).mp z))] at eM
          rw [if_neg ct] at t2
          obtain ⟨n1, rfl⟩ : ∃ q, n1 = q + 1 := ⟨n1 - 1, by omega⟩
          obtain ⟨n2, rfl⟩ : ∃ q, n2 = q + 1 := ⟨n2 - 1, by omega⟩
          have eXe : bX4_readWinds_4 n (RX w) 1 (dd w) 0 (nI (j + 1)) h3 = some (.inr h3) := by
            unfold bX4_readWinds_4
            rw [if_pos (rfl : (0 : Int32) = 0)]
            split <;> rfl
          exact ⟨h3, _, _, by rw [it_go eX, it_st eXe], by rw [it_go eM, it_st (eDend _)], fx.tr (toD t3), fm.tr (toR fn2), Or.inl ⟨rfl, kWd K v, sk T k q, sk T k q, by omega, t2, M2, rfl, a5.d t3, R2, hK'⟩⟩
      · have e12 : (12 : Int32) ≤ nI (j + 1) := nI_le (a := 12) (by omega) (by omega)
        rw [if_pos e12] at eX
        rw [if_pos e12, e70] at eM
        have eM : bX6_readsWinds_2 n RM 0 1 hm = some (.inl (0, pI (pI (pI m1 6 j (nI v)) 0 8 (nI (j + 1))) 0 2 (nI (sk T k q)))) := by
          rw [eM]; split <;> rfl
        obtain ⟨n1, rfl⟩ : ∃ q, n1 = q + 1 := ⟨n1 - 1, by omega⟩
        obtain ⟨n2, rfl⟩ : ∃ q, n2 = q + 1 := ⟨n2 - 1, by omega⟩
        have eXe : ∀ g : Hp, bX4_readWinds_4 n (RX w) 1 (dd w) 0 (nI (j + 1)) g = some (.inr g) := fun g => by
          unfold bX4_readWinds_4
          rw [if_pos (rfl : (0 : Int32) = 0)]
          split <;> rfl
        exact ⟨_, _, _, by rw [it_go eX, it_st (eXe _)], by rw [it_go eM, it_st (eDend _)], fx, fm.tr (toR fn2), Or.inl ⟨rfl, kWd K v, q, sk T k q, by omega, a4, M2, (sk_sk a2.2.2.2.2.2.1).symm, a5, R2, hK'⟩⟩
theorem z_winds (hS : St w T k K hx hm p) (h0 : K 0 0 ≠ 0) (h2 : K 0 2 = 0) (hT : TT T k) (hn : 300 ≤ n) : Res w T k hx hm p (fX4_readWinds n (RX w) 1 (dd w) hx) (fX6_readsWinds n RM 0 hm) := by
  obtain ⟨hx', z, hm', g1, g2, g3, g4, g5⟩ := z_windL (w := w) (n := n) hT hn 12 0 p K hx hm n n rfl (by omega) (by omega) (by omega) hS h0 h2
  unfold fX4_readWinds lX4_readWinds_4 fX6_readsWinds lX6_readsWinds_2
  rw [show ((1 : Int32), (0 : Int32), hx) = ((1 : Int32), nI 0, hx) from rfl, g1, g2, Option.bind_some, Option.bind_some]
  unfold jX4_readWinds_63
  rcases g5 with ⟨rfl, K', q, q2, g6, g7, g8, g9, g10, g11, g12⟩ | ⟨rfl, kd, s, q, b1, b2, b3, b4, b5⟩
  · obtain ⟨x7, m7, t1, t2, t3, t4⟩ := z_semiI (w := w) (n := n) (x := 59) rfl g7 g8 g9 hT hn
    rw [t1, Option.bind_some]
    rcases t4 with ⟨t4, t5, t6⟩ | ⟨t4, t5, t6, t7⟩
    · refine ⟨x7, 1, m7, rfl, ?_, g3.tr (toD t2), g4.tr (toR t3), Or.inl ⟨rfl, K', _, ?_, t5, g10.d t2, t6, g11.n t3, g12⟩⟩
      · show bd2 (fX6_readsSign n RM 0 59 hm') _ = _
        rw [t4]; rfl
      · have := (sk_ok (T := T) g7.2.2.2.2.2.1).1; omega
    · refine ⟨x7, 0, m7, rfl, ?_, g3.tr (toD t2), g4.tr (toR t3), Or.inr ⟨rfl, 1, _, _, by omega, by omega, t5, t6, t7⟩⟩
      show bd2 (fX6_readsSign n RM 0 59 hm') _ = _
      rw [t4]; rfl
  · obtain ⟨x7, q7, t1, t2, t3⟩ := z_expFI (w := w) (n := n) (x := 59) rfl b3 b1 hT hn
    rw [t1, Option.bind_some]
    exact ⟨x7, 0, hm', rfl, rfl, g3.tr (toD t3), g4, Or.inr ⟨rfl, kd, s, q7, b1, b2, t2, b4, b5⟩⟩
end WDC
