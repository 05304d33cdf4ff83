/-! ===== undone again, images, what was heard, the book ===== -/
section D3
variable {w : Bool} {K : Kd} {b : Nat → Nat} {hx hm : Hp} {n : Nat}
theorem z_undoLoop {p : Nat} {c : Nat → Nat} (hR : rowM hm 14 p c) (h25 : hm.1 0 25 = nI p) (hp : p < 30) (hn : 20 ≤ n) :
    ∃ h', it (fun (s : Int32 × Hp) => bX6_undo_52 n RM 0 s.1 s.2) n (0, hm) = some h' ∧ Bm h' 12 c ∧ Fr (fun q => q = 12) hm h' := by
  obtain ⟨z, e1, e2, e3⟩ := it_from (b := fun (s : Int32 × Hp) => bX6_undo_52 n RM 0 s.1 s.2) (fun i s => ∃ h', s = (nI i, h') ∧ Fr (fun q => q = 12) hm h' ∧ ∀ j, j < i → h'.1 12 j = nI (c j)) (fun h' => Bm h' 12 c ∧ Fr (fun q => q = 12) hm h') 16 (n := n) (x := (0, hm)) (by omega) ⟨hm, rfl, Fr.rf, fun j hj => by omega⟩ (by
    intro i s hi ⟨h', hs, f1, f2⟩
    subst hs
    show (∃ z, bX6_undo_52 n RM 0 (nI i) h' = _ ∧ _) ∨ (_ ∧ ∃ y, bX6_undo_52 n RM 0 (nI i) h' = _ ∧ _)
    unfold bX6_undo_52
    by_cases ce : i < 16
    · right
      refine ⟨ce, ?_⟩
      rw [if_neg (by rw [show (16 : Int32) = nI 16 from rfl]; exact nI_ge ce (by omega)), rm22, rm26, f1.2 0 (by decide), h25, show (16 : Int32) = nI 16 from rfl, pk_mul, nI_add, z_ck (by omega) (by omega), z_ck ce (by omega), nI_clamp (by omega), nI_clamp (by omega), f1.2 14 (by decide), hR i ce]
      simp only [lE, nI_1]
      refine ⟨_, rfl, pI h' 12 i (nI (c i)), rfl, f1.tr (Fr.pI rfl), fun j hj => ?_⟩
      by_cases e : j = i
      · subst e; rw [pI_eq]
      · rw [pI_nj (by omega)]; exact f2 j (by omega)
    · left
      have : i = 16 := by omega
      subst this
      rw [if_pos (by decide +kernel)]
      exact ⟨_, rfl, f2, f1⟩)
  exact ⟨z, e1, e2, e3⟩
theorem sim_undo (hI : IV w hx hm) (v : Int32) (hn : 20 ≤ n) : Sim w (fX5_undo n (RX w) 0 v hx) (fX6_undo n RM 0 v hm) := by
  have hI0 := hI
  obtain ⟨K, b, i1, i2, i3, i4, i5, i6, i7, i8, ⟨p, q, c, lg, g1, g2, g3⟩, i10, i11⟩ := hI
  unfold fX5_undo fX6_undo
  rw [z_within, z_in, Option.bind_some, Option.bind_some, rx03, rx05, g1.2.1, g2.2.1]
  have hc30 := g1.2.2.2.1
  have hq30 := g2.2.2.1
  rcases z_win v 1 30 (by omega) (by omega) with ⟨k, k1, k2, k3, k4⟩ | k4
  · rw [show decide ((1 : Int32) ≤ v ∧ v ≤ 30) = true from k4]
    simp only [bI, if_true, n10, if_false]
    by_cases cc1 : k ≤ c
    · have hle : v ≤ nI c := by rw [k3]; exact nI_le cc1 (by omega)
      obtain ⟨x1, e1, e2, e3, e4⟩ := z_takeBack (n := n) (w := w) g1 k1 cc1
      rw [if_pos hle, if_pos hle, k3, e1, Option.bind_some]
      simp only [lE]
      rw [g2.1, pI_nj (show 24 ≠ 25 by decide), g2.2.1, show (30 : Int32) = nI 30 from rfl, nI_add, pk_sub (show k ≤ q + 30 by omega), pk_rem (by omega) (by omega) (by omega), pk_sub cc1]
      have hM0 : FrM (fun a => a = 12) (fun j => j = 24 ∨ j = 25) hm (pI (pI hm 0 25 (nI ((q + 30 - k) % 30))) 0 24 (nI (c - k))) := (FrM.p0 (P := fun a => a = 12) (Q := fun j => j = 24 ∨ j = 25) (Or.inr rfl)).tr (FrM.p0 (Or.inl rfl))
      have hR : rowM (pI (pI hm 0 25 (nI ((q + 30 - k) % 30))) 0 24 (nI (c - k))) 14 ((q + 30 - k) % 30) (lg k) := (g2.2.2.2.2 k k1 cc1).co (fun j _ _ => by rw [pI_nk (by decide), pI_nk (by decide)])
      obtain ⟨m1, f1, f2, f3⟩ := z_undoLoop (n := n) hR (by rw [pI_nj (by decide), pI_eq]) (Nat.mod_lt _ (by omega)) hn
      unfold lX6_undo_52
      rw [f1, Option.bind_some, ck_3, cl_3, rm22, f2 3 (by omega), e3.2.2.2.1]
      have hM : FrM (fun a => a = 12) (fun j => j = 24 ∨ j = 25) hm m1 := hM0.tr (FrM.of f3 (by decide))
      refine ⟨_, _, _, rfl, rfl, K, lg k, i1, i2.frw e4 (fun a ha z => by omega), i3.frm hM (fun a _ _ z => by omega) (fun j _ _ z => by omega), e3, f2, (g3 k k1 cc1).1, (g3 k k1 cc1).2, i8.fr e4 hM (by decide) (by decide) (by decide) (by decide) (by decide), ⟨_, (q + 30 - k) % 30, c - k, _, e2, ⟨?_, ?_, Nat.mod_lt _ (by omega), by omega, fun i j1 j2 => ?_⟩, fun i j1 j2 => g3 (i + k) (by omega) (by omega)⟩, i10.fr e4 hM (fun a _ _ z => by omega) (fun a _ _ z => by omega) (by decide) (by decide), i11.fr e4 hM (by decide) (by decide) (by decide) (by decide) (by decide)⟩
      · rw [f3.2 0 (by decide), pI_nj (by decide), pI_eq]
      · rw [f3.2 0 (by decide), pI_eq]
      · rw [show ((q + 30 - k) % 30 + 30 - i) % 30 = (q + 30 - (i + k)) % 30 by omega]
        exact (g2.2.2.2.2 (i + k) (by omega) (by omega)).co (fun j _ _ => by rw [f3.2 14 (by decide), pI_nk (by decide), pI_nk (by decide)])
    · have hle : ¬ v ≤ nI c := by rw [k3]; exact nI_ge (by omega) (by omega)
      rw [if_neg hle, if_neg hle]
      exact Sim.no hI0 _
  · rw [show decide ((1 : Int32) ≤ v ∧ v ≤ 30) = false from k4]
    exact Sim.no hI0 _
theorem z_keepLoop {p : Nat} (hB : Bm hm 12 b) (hp : p < 2) (hn : 20 ≤ n) :
    ∃ h', it (fun (s : Int32 × Hp) => bX6_keep_36 n RM 0 (nI p) s.1 s.2) n (0, hm) = some h' ∧ rowM h' 21 p b ∧ Fr (fun q => q = 21) hm h' ∧ ∀ j, (j < 16 * p ∨ 16 * p + 16 ≤ j) → h'.1 21 j = hm.1 21 j := by
  obtain ⟨z, e1, e2, e3, e4⟩ := it_from (b := fun (s : Int32 × Hp) => bX6_keep_36 n RM 0 (nI p) s.1 s.2) (fun i s => ∃ h', s = (nI i, h') ∧ Fr (fun q => q = 21) hm h' ∧ (∀ j, j < i → h'.1 21 (16 * p + j) = nI (b j)) ∧ ∀ j, (j < 16 * p ∨ 16 * p + 16 ≤ j) → h'.1 21 j = hm.1 21 j) (fun h' => rowM h' 21 p b ∧ Fr (fun q => q = 21) hm h' ∧ ∀ j, (j < 16 * p ∨ 16 * p + 16 ≤ j) → h'.1 21 j = hm.1 21 j) 16 (n := n) (x := (0, hm)) (by omega) ⟨hm, rfl, Fr.rf, fun j hj => by omega, fun _ _ => rfl⟩ (by
    intro i s hi ⟨h', hs, f1, f2, f3⟩
    subst hs
    show (∃ z, bX6_keep_36 n RM 0 (nI p) (nI i) h' = _ ∧ _) ∨ (_ ∧ ∃ y, bX6_keep_36 n RM 0 (nI p) (nI i) h' = _ ∧ _)
    unfold bX6_keep_36
    by_cases ce : i < 16
    · right
      refine ⟨ce, ?_⟩
      rw [if_neg (by rw [show (16 : Int32) = nI 16 from rfl]; exact nI_ge ce (by omega)), rm22, rm36, show (16 : Int32) = nI 16 from rfl, pk_mul, nI_add, z_ck ce (by omega), z_ck (by omega) (by omega), nI_clamp (by omega), nI_clamp (by omega), f1.2 12 (by decide), hB i ce]
      simp only [lE, nI_1]
      refine ⟨_, rfl, pI h' 21 (16 * p + i) (nI (b i)), rfl, f1.tr (Fr.pI rfl), fun j hj => ?_, fun j hj => ?_⟩
      · by_cases e : j = i
        · subst e; rw [pI_eq]
        · rw [pI_nj (by omega)]; exact f2 j (by omega)
      · rw [pI_nj (by omega)]; exact f3 j hj
    · left
      have : i = 16 := by omega
      subst this
      rw [if_pos (by decide +kernel)]
      exact ⟨_, rfl, f2, f1, f3⟩)
  exact ⟨z, e1, e2, e3, e4⟩
theorem z_backLoop {p : Nat} {c : Nat → Nat} (hR : rowM hm 21 p c) (hp : p < 2) (hn : 20 ≤ n) :
    ∃ h', it (fun (s : Int32 × Hp) => bX6_goBack_41 n RM 0 (nI p) s.1 s.2) n (0, hm) = some h' ∧ Bm h' 12 c ∧ Fr (fun q => q = 12) hm h' := by
  obtain ⟨z, e1, e2, e3⟩ := it_from (b := fun (s : Int32 × Hp) => bX6_goBack_41 n RM 0 (nI p) s.1 s.2) (fun i s => ∃ h', s = (nI i, h') ∧ Fr (fun q => q = 12) hm h' ∧ ∀ j, j < i → h'.1 12 j = nI (c j)) (fun h' => Bm h' 12 c ∧ Fr (fun q => q = 12) hm h') 16 (n := n) (x := (0, hm)) (by omega) ⟨hm, rfl, Fr.rf, fun j hj => by omega⟩ (by
    intro i s hi ⟨h', hs, f1, f2⟩
    subst hs
    show (∃ z, bX6_goBack_41 n RM 0 (nI p) (nI i) h' = _ ∧ _) ∨ (_ ∧ ∃ y, bX6_goBack_41 n RM 0 (nI p) (nI i) h' = _ ∧ _)
    unfold bX6_goBack_41
    by_cases ce : i < 16
    · right
      refine ⟨ce, ?_⟩
      rw [if_neg (by rw [show (16 : Int32) = nI 16 from rfl]; exact nI_ge ce (by omega)), rm22, rm36, show (16 : Int32) = nI 16 from rfl, pk_mul, nI_add, z_ck (by omega) (by omega), z_ck ce (by omega), nI_clamp (by omega), nI_clamp (by omega), f1.2 21 (by decide), hR i ce]
      simp only [lE, nI_1]
      refine ⟨_, rfl, pI h' 12 i (nI (c i)), rfl, f1.tr (Fr.pI rfl), fun j hj => ?_⟩
      by_cases e : j = i
      · subst e; rw [pI_eq]
      · rw [pI_nj (by omega)]; exact f2 j (by omega)
    · left
      have : i = 16 := by omega
      subst this
      rw [if_pos (by decide +kernel)]
      exact ⟨_, rfl, f2, f1⟩)
  exact ⟨z, e1, e2, e3⟩
/-- nothing can be undone -/
theorem lg0 {p q : Nat} {lg : Nat → Nat → Nat} (h1 : hx.1 27 1 = 0) (h2 : hx.1 27 2 = 0) (h3 : hm.1 0 25 = nI q) (h4 : hm.1 0 24 = 0) (hq : q < 30) : Lg K hx hm :=
  ⟨0, q, 0, lg, ⟨h1, h2, by omega, by omega, fun i a b => by omega⟩, ⟨h3, h4, hq, by omega, fun i a b => by omega⟩, fun i a b => by omega⟩
theorem vn1 : vp_nar .boolean 1 = 1 := by decide +kernel
theorem vn0 : vp_nar .boolean 0 = 0 := by decide +kernel
theorem z_forget2 (h : Hp) : fX2_forget n (RX w) 27 h = some (pI (pI h 27 1 0) 27 2 0) := rfl
theorem sim_keep (hI : IV w hx hm) (v : Int32) (hn : 20 ≤ n) : Sim w (fX5_keep n (RX w) 0 v hx) (fX6_keep n RM 0 v hm) := by
  have hI0 := hI
  obtain ⟨K, b, i1, i2, i3, i4, i5, i6, i7, i8, ⟨p, q, c, lg, g1, g2, g3⟩, i10, g, s, a1, a2, a3, a4, a5, a6, a7⟩ := hI
  unfold fX5_keep fX6_keep
  rw [z_within, z_in, Option.bind_some, Option.bind_some, rx03, rx05, rx07, rx08, rm35, rm37]
  rcases z_win v 0 1 (by omega) (by omega) with ⟨k, k1, k2, k3, k4⟩ | k4
  · rw [show decide ((0 : Int32) ≤ v ∧ v ≤ 1) = true from k4]
    simp only [bI, if_true, n10, if_false]
    obtain ⟨x1, e1, e2, e3, e4⟩ := z_store (n := n) (r := RX w) (k := 23) (a := 33) (len := 32) (i := k) i4 (by omega) (by omega) (by decide) (by rw [rx230]; decide)
    have hck : ∀ {q : Type} (x : Option q), ck (nI k) 2 x = x := fun x => z_ck (by omega) (by omega)
    rw [k3, e1]
    simp only [Option.bind_some, hck, nI_clamp (show k < 2 ^ 31 by omega), vn1, lE, z_forget2]
    rw [e3.2 0 (by decide), a4, pI_nk (show 0 ≠ 34 by decide), e3.2 0 (by decide), a2, z_shl (by omega), z_or, show (pI hm 20 k 1).2 0 27 = lN s from a5]
    obtain ⟨m1, f1, f2, f3, f4⟩ := z_keepLoop (n := n) (b := b) (hm := pI (pL (pI hm 20 k 1) 22 k (lN s)) 0 24 0) (p := k) (fun j hj => by rw [pI_nk (by decide)]; show (pI hm 20 k 1).1 12 j = _; rw [pI_nk (by decide)]; exact i5 j hj) (by omega) hn
    unfold lX6_keep_36
    rw [f1, Option.bind_some]
    have hF : Fr (fun a => a = 0 ∨ a = 27 ∨ a = 33 ∨ a = 34) hx (pI (pI (pI (pI x1 34 k (nI s)) 0 9 (nI (g ||| 2 ^ k))) 27 1 0) 27 2 0) := ((((e3.mono (Q := fun a => a = 0 ∨ a = 27 ∨ a = 33 ∨ a = 34) (fun q hq => Or.inr (Or.inr (Or.inl hq)))).tr (Fr.pI (Or.inr (Or.inr (Or.inr rfl))))).tr (Fr.pI (Or.inl rfl))).tr (Fr.pI (Or.inr (Or.inl rfl)))).tr (Fr.pI (Or.inr (Or.inl rfl)))
    have m2 : m1.2 = (pL hm 22 k (lN s)).2 := by rw [f3.1]; rfl
    have mc : ∀ a, a ≠ 0 → a ≠ 20 → a ≠ 21 → m1.1 a = hm.1 a := fun a h0 h1 h2 => by
      rw [f3.2 a h2]; funext j; rw [pI_nk h0]; show (pI hm 20 k 1).1 a j = _; rw [pI_nk h1]
    have m0 : ∀ j, j ≠ 24 → m1.1 0 j = hm.1 0 j := fun j h0 => by
      rw [f3.2 0 (by decide), pI_nj h0]; show (pI hm 20 k 1).1 0 j = _; rw [pI_nk (by decide)]
    have hM : FrM (fun a => a = 20 ∨ a = 21) (fun j => j = 24) (hm.1, m1.2) m1 := ⟨rfl, fun a h0 h1 => mc a h0 (fun e => h1 (Or.inl e)) (fun e => h1 (Or.inr e)), fun j hj => m0 j hj⟩
    refine ⟨_, _, _, rfl, rfl, K, b, i1, i2.frw hF (fun a ha z => by omega), Cm.frm (hm := (hm.1, m1.2)) i3 hM (fun a _ _ z => by omega) (fun j _ _ z => by omega), i4.frw hF (by decide) (by decide), fun j hj => by rw [mc 12 (by decide) (by decide) (by decide)]; exact i5 j hj, i6, i7, Tx.fr (hm := (hm.1, m1.2)) i8 hF hM (by decide) (by decide) (by decide) (by decide) (by decide), lg0 (p := 0) (q := q) (lg := lg) (by rw [pI_nj (by decide), pI_eq]) pI_eq (by rw [m0 25 (by decide)]; exact g2.1) (by rw [f3.2 0 (by decide), pI_eq]) g2.2.2.1, Tk.fr (hm := (hm.1, m1.2)) i10 hF hM (fun a _ _ z => by omega) (fun a _ _ z => by omega) (by decide) (by decide), g ||| 2 ^ k, s, ?_, ?_, ?_, ?_, ?_, a6, ?_⟩
    · have : g ||| 2 ^ k < 2 ^ 2 := or_lt (k := 2) a1 (pw_lt (by omega)); exact this
    · rw [pI_nk (by decide), pI_nk (by decide), pI_eq]
    · intro i hi
      rw [f3.2 20 (by decide), pI_nk (by decide)]
      show (pI hm 20 k 1).1 20 i = _
      rw [Nat.testBit_or, Nat.testBit_two_pow]
      by_cases e : i = k
      · subst e; rw [pI_eq]; simp [bI]
      · rw [pI_nj e, a3 i hi]; simp [show ¬ k = i from fun q => e q.symm]
    · rw [pI_nk (by decide), pI_nk (by decide), pI_nj (by decide), pI_nk (by decide), e3.2 0 (by decide)]; exact a4
    · rw [m2]; simpa [pL] using a5
    · intro i hi hg
      by_cases e : i = k
      · subst e
        refine ⟨b, s, i6, i7, e2.co (fun j _ _ => by rw [pI_nk (by decide), pI_nk (by decide), pI_nk (by decide), pI_nk (by decide)]), f2, ?_, ?_, a6⟩
        · rw [pI_nk (by decide), pI_nk (by decide), pI_nk (by decide), pI_eq]
        · rw [m2]; simp [pL]
      · rw [Nat.testBit_or, Nat.testBit_two_pow_of_ne (fun q => e q.symm), Bool.or_false] at hg
        obtain ⟨b', s', c1, c2, c3, c4, c5, c6, c7⟩ := a7 i hi hg
        refine ⟨b', s', c1, c2, c3.co (fun j j1 j2 => ?_), c4.co (fun j j1 j2 => ?_), ?_, ?_, c7⟩
        · rw [pI_nk (by decide), pI_nk (by decide), pI_nk (by decide), pI_nk (by decide)]; exact e4 j (by omega)
        · rw [f4 j (by omega), pI_nk (by decide)]; show (pI hm 20 k 1).1 21 j = _; rw [pI_nk (by decide)]
        · rw [pI_nk (by decide), pI_nk (by decide), pI_nk (by decide), pI_nj e, e3.2 34 (by decide)]; exact c5
        · rw [m2]; simpa [pL, e] using c6
  · rw [show decide ((0 : Int32) ≤ v ∧ v ≤ 1) = false from k4]
    exact Sim.no hI0 _
theorem sim_goBack (hI : IV w hx hm) (v : Int32) (hn : 20 ≤ n) : Sim w (fX5_goBack n (RX w) 0 v hx) (fX6_goBack n RM 0 v hm) := by
  have hI0 := hI
  obtain ⟨K, b, i1, i2, i3, i4, i5, i6, i7, i8, ⟨p, q, c, lg, g1, g2, g3⟩, i10, g, s, a1, a2, a3, a4, a5, a6, a7⟩ := hI
  unfold fX5_goBack fX6_goBack
  rw [z_within, z_in, Option.bind_some, Option.bind_some, rx03, rx05, rx07, rx08, rm35, rm37, a2]
  rcases z_win v 0 1 (by omega) (by omega) with ⟨k, k1, k2, k3, k4⟩ | k4
  · rw [show decide ((0 : Int32) ≤ v ∧ v ≤ 1) = true from k4]
    simp only [bI, if_true, n10, if_false]
    have hck : ∀ {q : Type} (x : Option q), ck (nI k) 2 x = x := fun x => z_ck (by omega) (by omega)
    rw [k3, z_has (by omega) (by omega)]
    simp only [Option.bind_some, hck, nI_clamp (show k < 2 ^ 31 by omega)]
    rw [a3 k (by omega)]
    by_cases cg : g.testBit k = true
    · obtain ⟨b', s', c1, c2, c3, c4, c5, c6, c7⟩ := a7 k (by omega) cg
      obtain ⟨x1, e1, e2, e3⟩ := z_restore (n := n) (r := RX w) (k := 23) (a := 33) (len := 32) (i := k) c3 (by omega) (by omega) (by decide) (by rw [rx230]; decide) (by rw [rx230]; decide)
      rw [rx230] at e3
      rw [cg, e1, Option.bind_some]
      simp only [bI, if_true, n10, if_false, lE]
      rw [e3.2 34 (by decide), c5, c6]
      simp only [z_forget2, Option.bind_some]
      obtain ⟨m1, f1, f2, f3⟩ := z_backLoop (n := n) (c := b') (hm := pI (pL hm 0 27 (lN s')) 0 24 0) (p := k) (c4.co (fun j _ _ => by rw [pI_nk (by decide)]; rfl)) (by omega) hn
      unfold lX6_goBack_41
      rw [f1, Option.bind_some]
      have hF : Fr (fun a => a = 0 ∨ a = 23 ∨ a = 24 ∨ a = 27) hx (pI (pI (pI x1 0 10 (nI s')) 27 1 0) 27 2 0) := (((e3.mono (Q := fun a => a = 0 ∨ a = 23 ∨ a = 24 ∨ a = 27) (fun q hq => by omega)).tr (Fr.pI (Or.inl rfl))).tr (Fr.pI (by omega))).tr (Fr.pI (by omega))
      have hF2 : Fr (fun a => a = 0 ∨ a = 27) x1 (pI (pI (pI x1 0 10 (nI s')) 27 1 0) 27 2 0) := ((Fr.pI (P := fun a => a = 0 ∨ a = 27) (Or.inl rfl)).tr (Fr.pI (Or.inr rfl))).tr (Fr.pI (Or.inr rfl))
      have m2 : m1.2 = (pL hm 0 27 (lN s')).2 := by rw [f3.1]; rfl
      have mc : ∀ a, a ≠ 0 → a ≠ 12 → m1.1 a = hm.1 a := fun a h0 h1 => by
        rw [f3.2 a h1]; funext j; rw [pI_nk h0]; rfl
      have m0 : ∀ j, j ≠ 24 → m1.1 0 j = hm.1 0 j := fun j h0 => by
        rw [f3.2 0 (by decide), pI_nj h0]; rfl
      have hM : FrM (fun a => a = 12) (fun j => j = 24) (hm.1, m1.2) m1 := ⟨rfl, fun a h0 h1 => mc a h0 h1, fun j hj => m0 j hj⟩
      refine ⟨_, _, _, rfl, rfl, K, b', i1, i2.frw hF (fun a ha z => by omega), Cm.frm (hm := (hm.1, m1.2)) i3 hM (fun a _ _ z => by omega) (fun j _ _ z => by omega), e2.frw hF2 (by decide) (by decide), f2, c1, c2, Tx.fr (hm := (hm.1, m1.2)) i8 hF hM (by decide) (by decide) (by decide) (by decide) (by decide), lg0 (p := 0) (q := q) (lg := lg) (by rw [pI_nj (by decide), pI_eq]) pI_eq (by rw [m0 25 (by decide)]; exact g2.1) (by rw [f3.2 0 (by decide), pI_eq]) g2.2.2.1, Tk.fr (hm := (hm.1, m1.2)) i10 hF hM (fun a _ _ z => by omega) (fun a _ _ z => by omega) (by decide) (by decide), g, s', a1, ?_, ?_, ?_, ?_, c7, ?_⟩
      · rw [pI_nk (by decide), pI_nk (by decide), pI_nj (by decide), e3.2 0 (by decide)]; exact a2
      · intro i hi; rw [mc 20 (by decide) (by decide)]; exact a3 i hi
      · rw [pI_nk (by decide), pI_nk (by decide), pI_eq]
      · rw [m2]; simp [pL]
      · intro i hi hg
        obtain ⟨b2, s2, d1, d2, d3, d4, d5, d6, d7⟩ := a7 i hi hg
        refine ⟨b2, s2, d1, d2, d3.co (fun j j1 j2 => ?_), d4.co (fun j j1 j2 => by rw [mc 21 (by decide) (by decide)]), ?_, ?_, d7⟩
        · rw [pI_nk (by decide), pI_nk (by decide), pI_nk (by decide), e3.2 33 (by decide)]
        · rw [pI_nk (by decide), pI_nk (by decide), pI_nk (by decide), e3.2 34 (by decide)]; exact d5
        · rw [m2]; simpa [pL] using d6
    · rw [show g.testBit k = false by simpa using cg]
      exact Sim.no hI0 _
  · rw [show decide ((0 : Int32) ≤ v ∧ v ≤ 1) = false from k4]
    exact Sim.no hI0 _
end D3
