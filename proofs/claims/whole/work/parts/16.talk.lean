/-! ===== heard, the book; what is told of links, islands, winds ===== -/
/-- both answer alike; nothing changes -/
def Sim0 (x m : Option Int32) : Prop := ∃ o, x = some o ∧ m = some o
theorem bI_inj {p q : Bool} : bI p = bI q ↔ p = q := by cases p <;> cases q <;> decide
theorem bI_if {q : Bool} : (if bI q = 0 then some (0 : Int32) else some 1) = some (bI q) := by cases q <;> rfl
section TK
variable {w : Bool} {K : Kd} {b : Nat → Nat} {hx hm : Hp} {n : Nat}
theorem sim_hear (hI : IV w hx hm) (x y : Int32) (c : Bool) : Sim w (fX5_hear n (RX w) 0 x y (bI c) hx) (fX6_hear n RM 0 x y (bI c) hm) := by
  have hI0 := hI
  obtain ⟨K, b, i1, i2, i3, i4, i5, i6, i7, i8, i9, ⟨u, v, g, t, A, B, E, a1, a2, a3, a4, a5, a6, a7, a8, a9, a10, a11, a12⟩, i11⟩ := hI
  unfold fX5_hear fX6_hear
  rw [rx06, a3, a4, rm29, rm30, rm31]
  rcases z_two (n := n) x y i2 i3 i1 with ⟨p, q, p1, q1, pq, rfl, rfl, e1, e2⟩ | ⟨e1, e2⟩
  · rw [e1, e2]
    simp only [Option.bind_some, n10, if_false]
    by_cases c6 : u < 6
    · rw [if_pos (show nI u < (6 : Int32) from nI_lt (b := 6) c6 (by omega)), if_neg (show ¬ nI u = (6 : Int32) from by rw [show (6 : Int32) = nI 6 from rfl, nI_eq (by omega) (by omega)]; omega)]
      have hck : ∀ {q : Type} (x : Option q), ck (nI u) 6 x = x := fun x => z_ck (by omega) (by omega)
      unfold fX3_addHeard jX3_addHeard_48
      rw [a3, if_neg (show ¬ (6 : Int32) ≤ nI u from nI_ge (b := 6) c6 (by omega)), rx290, rx291]
      simp only [lE, pI_nk (show 29 ≠ 30 by decide), pI_nk (show 29 ≠ 31 by decide), pI_nk (show 0 ≠ 15 by decide), pI_nk (show 0 ≠ 16 by decide), pI_nk (show 0 ≠ 17 by decide), a3, a4, a7, hck, nI_clamp (show u < 2 ^ 31 by omega), pI_nj (show 3 ≠ 5 by decide), pI_eq, nI_1]
      have ev : vp_nar .boolean (bI c) = bI c := by cases c <;> decide +kernel
      have eg : (if bI c = 0 then bd2 (some (nI (u + 1), pI (pI (pI (pI hx 30 u (nI p)) 31 u (nI q)) 29 5 (nI g ||| 0)) 29 3 (nI (u + 1)))) (fun x6 h7 => some (x6, h7)) else bd2 (some (nI (u + 1), pI (pI (pI (pI hx 30 u (nI p)) 31 u (nI q)) 29 5 (nI g ||| 1 <<< (nI u &&& 31))) 29 3 (nI (u + 1)))) (fun x6 h7 => some (x6, h7))) = some (nI (u + 1), pI (pI (pI (pI hx 30 u (nI p)) 31 u (nI q)) 29 5 (nI (g ||| (if c then 2 ^ u else 0)))) 29 3 (nI (u + 1))) := by
        rw [z_shl (by omega), z_or, show (0 : Int32) = nI 0 from rfl, z_or]
        cases c <;> rfl
      have eg2 : bd2 (if bI c = 0 then some (nI (u + 1), pI (pI (pI (pI hx 30 u (nI p)) 31 u (nI q)) 29 5 (nI g ||| 0)) 29 3 (nI (u + 1))) else some (nI (u + 1), pI (pI (pI (pI hx 30 u (nI p)) 31 u (nI q)) 29 5 (nI g ||| 1 <<< (nI u &&& 31))) 29 3 (nI (u + 1)))) (fun x6 h7 => some (x6, h7)) = some (nI (u + 1), pI (pI (pI (pI hx 30 u (nI p)) 31 u (nI q)) 29 5 (nI (g ||| (if c then 2 ^ u else 0)))) 29 3 (nI (u + 1))) := by
        rw [← eg]; by_cases z : bI c = 0
        · rw [if_pos z, if_pos z]
        · rw [if_neg z, if_neg z]
      rw [eg2, ev]
      have hF : Fr (fun a => a = 29 ∨ a = 30 ∨ a = 31) hx (pI (pI (pI (pI hx 30 u (nI p)) 31 u (nI q)) 29 5 (nI (g ||| (if c then 2 ^ u else 0)))) 29 3 (nI (u + 1))) := (((Fr.pI (P := fun a => a = 29 ∨ a = 30 ∨ a = 31) (by omega)).tr (Fr.pI (by omega))).tr (Fr.pI (by omega))).tr (Fr.pI (by omega))
      have hM : FrM (fun a => a = 15 ∨ a = 16 ∨ a = 17) (fun j => j = 28) hm (pI (pI (pI (pI hm 15 u (nI p)) 16 u (nI q)) 17 u (bI c)) 0 28 (nI (u + 1))) := (((FrM.ar (P := fun a => a = 15 ∨ a = 16 ∨ a = 17) (Q := fun j => j = 28) (by decide) (by omega)).tr (FrM.ar (by decide) (by omega))).tr (FrM.ar (by decide) (by omega))).tr (FrM.p0 rfl)
      refine ⟨_, _, _, rfl, rfl, K, b, i1, i2.frw hF (fun a ha z => by omega), i3.frm hM (fun a _ _ z => by omega) (fun j _ _ z => by omega), i4.frw hF (by decide) (by decide), i5.frm hM (by decide), i6, i7, i8.fr hF hM (by decide) (by decide) (by decide) (by decide) (by decide), i9.fr hF hM (by decide) (by decide) (by decide) (by decide) (by decide), ⟨u + 1, v, g ||| (if c then 2 ^ u else 0), t, (upb A u p), (upb B u q), E, by omega, a2, pI_eq, pI_eq, ?_, ?_, ?_, ?_, ?_, a10, fun i hi => ?_, fun i hi => ?_⟩, i11.fr hF hM (by decide) (by decide) (by decide) (by decide) (by decide)⟩
      · rw [pI_nj (by decide), pI_nj (by decide), pI_nk (by decide), pI_nk (by decide)]; exact a5
      · rw [pI_nj (by decide), pI_nk (by decide), pI_nk (by decide), pI_nk (by decide)]; exact a6
      · rw [pI_nj (by decide), pI_eq]
      · exact or_lt (Nat.lt_trans a8 (pw_lt (by omega))) (by cases c <;> simp [Nat.two_pow_pos, pw_lt (show u < u + 1 by omega)])
      · rw [pI_nj (by decide), pI_nj (by decide), pI_nk (by decide), pI_nk (by decide)]; exact a9
      · by_cases e : i = u
        · subst e
          refine ⟨?_, ?_, ?_, ?_, ?_, ?_, ?_⟩
          · rw [pI_nk (by decide), pI_nk (by decide), pI_nk (by decide), pI_eq, upb_eq]
          · rw [pI_nk (by decide), pI_nk (by decide), pI_nk (by decide), pI_eq, upb_eq]
          · rw [pI_nk (by decide), pI_nk (by decide), pI_eq, upb_eq]
          · rw [pI_nk (by decide), pI_nk (by decide), pI_eq, upb_eq]
          · rw [upb_eq]; exact p1
          · rw [upb_eq]; exact q1
          · rw [pI_nk (by decide), pI_eq, Nat.testBit_or, z_tbl a8 (Nat.le_refl _)]
            cases c <;> simp [Nat.testBit_two_pow_self]
        · obtain ⟨d1, d2, d3, d4, d5, d6, d7⟩ := a11 i (by omega)
          refine ⟨?_, ?_, ?_, ?_, ?_, ?_, ?_⟩
          · rw [pI_nk (by decide), pI_nk (by decide), pI_nk (by decide), pI_nj e, upb_ne e]; exact d1
          · rw [pI_nk (by decide), pI_nk (by decide), pI_nk (by decide), pI_nj e, upb_ne e]; exact d2
          · rw [pI_nk (by decide), pI_nk (by decide), pI_nj e, pI_nk (by decide), upb_ne e]; exact d3
          · rw [pI_nk (by decide), pI_nk (by decide), pI_nj e, pI_nk (by decide), upb_ne e]; exact d4
          · rw [upb_ne e]; exact d5
          · rw [upb_ne e]; exact d6
          · rw [pI_nk (by decide), pI_nj e, pI_nk (by decide), pI_nk (by decide), d7, Nat.testBit_or]
            cases c <;> simp [Nat.testBit_two_pow_of_ne (fun z => e z.symm)]
      · obtain ⟨d1, d2, d3, d4⟩ := a12 i hi
        refine ⟨?_, ?_, d3, ?_⟩
        · rw [pI_nk (by decide), pI_nk (by decide), pI_nk (by decide), pI_nk (by decide)]; exact d1
        · rw [pI_nk (by decide), pI_nk (by decide), pI_nk (by decide), pI_nk (by decide)]; exact d2
        · rw [pI_nk (by decide), pI_nk (by decide), pI_nk (by decide), pI_nk (by decide)]; exact d4
    · rw [if_neg (show ¬ nI u < (6 : Int32) from nI_nlt (b := 6) (by omega) (by omega)), if_pos (show nI u = (6 : Int32) from by rw [show u = 6 by omega]; rfl)]
      exact Sim.no hI0 _
  · rw [e1, e2]
    exact Sim.no hI0 _
theorem z_sh01 {e v : Nat} (he : e ≤ 1) (hv : v < 31) : nI e <<< (nI v &&& 31) = nI (if e = 1 then 2 ^ v else 0) := by
  rcases (by omega : e = 0 ∨ e = 1) with h | h
  · subst h
    have := pk_shlN (n := 0) (nI v &&& 31) v (z_s31 v (by omega)) (by rw [Nat.zero_mul]; decide)
    rw [this, Nat.zero_mul]; rfl
  · subst h
    rw [show nI 1 = (1 : Int32) from rfl, z_shl hv]; rfl
theorem sim_write (hI : IV w hx hm) (x y : Int32) : Sim w (fX5_write n (RX w) 0 x y hx) (fX6_write n RM 0 x y hm) := by
  have hI0 := hI
  obtain ⟨K, b, i1, i2, i3, i4, i5, i6, i7, i8, i9, ⟨u, v, g, t, A, B, E, a1, a2, a3, a4, a5, a6, a7, a8, a9, a10, a11, a12⟩, i11⟩ := hI
  unfold fX5_write fX6_write
  rw [rx01, rx06, a5, a6, rm33, rm34, z_within, z_in]
  rcases z_lk (n := n) x i2 i3 i1 with ⟨l, l1, rfl, l3, l4⟩ | ⟨l3, l4⟩
  · rw [l3, l4]
    simp only [Option.bind_some, n10, if_false]
    rcases z_win y 0 1 (by omega) (by omega) with ⟨e, e1, e2, rfl, e4⟩ | e4
    · rw [show decide ((0 : Int32) ≤ nI e ∧ nI e ≤ 1) = true from e4]
      simp only [bI, if_true, n10, if_false]
      by_cases c6 : v < 20
      · rw [if_pos (show nI v < (20 : Int32) from nI_lt (b := 20) c6 (by omega)), if_neg (show ¬ nI v = (20 : Int32) from by rw [show (20 : Int32) = nI 20 from rfl, nI_eq (by omega) (by omega)]; omega)]
        have hck : ∀ {q : Type} (x : Option q), ck (nI v) 20 x = x := fun x => z_ck (by omega) (by omega)
        unfold fX3_addEntry
        rw [a5, if_neg (show ¬ (20 : Int32) ≤ nI v from nI_ge (b := 20) c6 (by omega)), rx292]
        simp only [lE, bd2_some, pI_nk (show 29 ≠ 32 by decide), pI_nk (show 0 ≠ 18 by decide), pI_nk (show 0 ≠ 19 by decide), a5, a6, a9, hck, nI_clamp (show v < 2 ^ 31 by omega), pI_nj (show 4 ≠ 6 by decide), pI_eq, nI_1]
        rw [z_sh01 e2 (by omega), z_or]
        have hF : Fr (fun a => a = 29 ∨ a = 32) hx (pI (pI (pI hx 32 v (nI l)) 29 6 (nI (t ||| (if e = 1 then 2 ^ v else 0)))) 29 4 (nI (v + 1))) := ((Fr.pI (P := fun a => a = 29 ∨ a = 32) (by omega)).tr (Fr.pI (by omega))).tr (Fr.pI (by omega))
        have hM : FrM (fun a => a = 18 ∨ a = 19) (fun j => j = 32) hm (pI (pI (pI hm 18 v (nI l)) 19 v (nI e)) 0 32 (nI (v + 1))) := ((FrM.ar (P := fun a => a = 18 ∨ a = 19) (Q := fun j => j = 32) (by decide) (by omega)).tr (FrM.ar (by decide) (by omega))).tr (FrM.p0 rfl)
        refine ⟨_, _, _, rfl, rfl, K, b, i1, i2.frw hF (fun a ha z => by omega), i3.frm hM (fun a _ _ z => by omega) (fun j _ _ z => by omega), i4.frw hF (by decide) (by decide), i5.frm hM (by decide), i6, i7, i8.fr hF hM (by decide) (by decide) (by decide) (by decide) (by decide), i9.fr hF hM (by decide) (by decide) (by decide) (by decide) (by decide), ⟨u, v + 1, g, t ||| (if e = 1 then 2 ^ v else 0), A, B, (upb E v l), a1, by omega, ?_, ?_, pI_eq, pI_eq, ?_, a8, ?_, ?_, fun i hi => ?_, fun i hi => ?_⟩, i11.fr hF hM (by decide) (by decide) (by decide) (by decide) (by decide)⟩
        · rw [pI_nj (by decide), pI_nj (by decide), pI_nk (by decide)]; exact a3
        · rw [pI_nj (by decide), pI_nk (by decide), pI_nk (by decide)]; exact a4
        · rw [pI_nj (by decide), pI_nj (by decide), pI_nk (by decide)]; exact a7
        · rw [pI_nj (by decide), pI_eq]
        · exact or_lt (Nat.lt_trans a10 (pw_lt (by omega))) (by split <;> simp [Nat.two_pow_pos, pw_lt (show v < v + 1 by omega)])
        · obtain ⟨d1, d2, d3, d4, d5, d6, d7⟩ := a11 i hi
          refine ⟨?_, ?_, ?_, ?_, d5, d6, ?_⟩
          · rw [pI_nk (by decide), pI_nk (by decide), pI_nk (by decide)]; exact d1
          · rw [pI_nk (by decide), pI_nk (by decide), pI_nk (by decide)]; exact d2
          · rw [pI_nk (by decide), pI_nk (by decide), pI_nk (by decide)]; exact d3
          · rw [pI_nk (by decide), pI_nk (by decide), pI_nk (by decide)]; exact d4
          · rw [pI_nk (by decide), pI_nk (by decide), pI_nk (by decide)]; exact d7
        · by_cases ev : i = v
          · subst ev
            refine ⟨?_, ?_, ?_, ?_⟩
            · rw [pI_nk (by decide), pI_nk (by decide), pI_eq, upb_eq]
            · rw [pI_nk (by decide), pI_nk (by decide), pI_eq, upb_eq]
            · rw [upb_eq]; exact l1
            · rw [pI_nk (by decide), pI_eq, Nat.testBit_or, z_tbl a10 (Nat.le_refl _)]
              rcases (by omega : e = 0 ∨ e = 1) with h | h <;> subst h
              · simp [bI]; rfl
              · simp [bI, Nat.testBit_two_pow_self]; rfl
          · obtain ⟨d1, d2, d3, d4⟩ := a12 i (by omega)
            refine ⟨?_, ?_, ?_, ?_⟩
            · rw [pI_nk (by decide), pI_nk (by decide), pI_nj ev, upb_ne ev]; exact d1
            · rw [pI_nk (by decide), pI_nk (by decide), pI_nj ev, upb_ne ev]; exact d2
            · rw [upb_ne ev]; exact d3
            · rw [pI_nk (by decide), pI_nj ev, pI_nk (by decide), d4, Nat.testBit_or]
              congr 1
              split <;> simp [Nat.testBit_two_pow_of_ne (fun z => ev z.symm)]
      · rw [if_neg (show ¬ nI v < (20 : Int32) from nI_nlt (b := 20) (by omega) (by omega)), if_pos (show nI v = (20 : Int32) from by rw [show v = 20 by omega]; rfl)]
        exact Sim.no hI0 _
    · rw [show decide ((0 : Int32) ≤ y ∧ y ≤ 1) = false from e4]
      exact Sim.no hI0 _
  · rw [l3, l4]
    exact Sim.no hI0 _
theorem tk0 (h1 : hx.1 29 3 = 0) (h2 : hx.1 29 4 = 0) (h3 : hx.1 29 5 = 0) (h4 : hx.1 29 6 = 0) (h5 : hm.1 0 28 = 0) (h6 : hm.1 0 32 = 0) : Tk K hx hm :=
  ⟨0, 0, 0, 0, fun _ => 0, fun _ => 0, fun _ => 0, by omega, by omega, h1, h5, h2, h6, h3, by decide, h4, by decide, fun i hi => by omega, fun i hi => by omega⟩
theorem z_forget3 (h : Hp) : fX3_forget n (RX w) 29 h = some (pI (pI (pI (pI h 29 3 0) 29 4 0) 29 5 0) 29 6 0) := rfl
theorem sim_tear (hI : IV w hx hm) : Sim w (fX5_tear n (RX w) 0 hx) (fX6_tear n RM 0 hm) := by
  obtain ⟨K, b, i1, i2, i3, i4, i5, i6, i7, i8, i9, ⟨u, v, g, t, A, B, E, a1, a2, a3, a4, a5, a6, a7, a8, a9, a10, a11, a12⟩, i11⟩ := hI
  unfold fX5_tear fX6_tear
  simp only [lE]
  rw [rx06, z_forget3, Option.bind_some, a3, a4, a5, a6]
  have hF : Fr (fun a => a = 29) hx (pI (pI (pI (pI hx 29 3 0) 29 4 0) 29 5 0) 29 6 0) := (((Fr.pI (P := fun a => a = 29) rfl).tr (Fr.pI rfl)).tr (Fr.pI rfl)).tr (Fr.pI rfl)
  have hM : FrM (fun _ => False) (fun j => j = 28 ∨ j = 32) hm (pI (pI hm 0 28 0) 0 32 0) := (FrM.p0 (P := fun _ => False) (Q := fun j => j = 28 ∨ j = 32) (Or.inl rfl)).tr (FrM.p0 (Or.inr rfl))
  refine ⟨_, _, _, rfl, rfl, K, b, i1, i2.frw hF (fun a ha z => by omega), i3.frm hM (fun a _ _ z => z) (fun j _ _ z => by omega), i4.frw hF (by decide) (by decide), i5.frm hM (fun z => z), i6, i7, i8.fr hF hM (by decide) (by decide) (fun z => z) (by decide) (by decide), i9.fr hF hM (by decide) (by decide) (fun z => z) (by decide) (by decide), tk0 ?_ ?_ ?_ ?_ ?_ ?_, i11.fr hF hM (by decide) (by decide) (by decide) (fun z => z) (fun z => z)⟩
  · rw [pI_nj (by decide), pI_nj (by decide), pI_nj (by decide), pI_eq]
  · rw [pI_nj (by decide), pI_nj (by decide), pI_eq]
  · rw [pI_nj (by decide), pI_eq]
  · rw [pI_eq]
  · rw [pI_nj (by decide), pI_eq]
  · rw [pI_eq]
theorem sim_fault (hI : IV w hx hm) : Sim0 (fX5_fault n (RX w) 0 hx) (fX6_fault n RM 0 hm) := by
  obtain ⟨K, b, -, -, -, -, -, -, -, ⟨k, -, -, -, -, k5⟩, -⟩ := hI
  exact ⟨_, rfl, by unfold fX6_fault; rw [← k5]; rfl⟩
theorem sim_judge (hI : IV w hx hm) (hn : 40 ≤ n) : Sim0 (fX5_judge n (RX w) 0 hx) (fX6_judge n RM 0 hm) := by
  obtain ⟨K, b, i1, i2, i3, i4, i5, i6, i7, i8, i9, ⟨u, v, g, t, A, B, E, a1, a2, a3, a4, a5, a6, a7, a8, a9, a10, a11, a12⟩, i11⟩ := hI
  have hM10 := i1.2.1
  have hd31 := p31 i6.1 (show K 0 1 ≤ 31 by omega)
  have ht31 := p31 a10 (show v ≤ 31 by omega)
  unfold fX5_judge fX6_judge fX3_firstWrong lX3_firstWrong_2 lX6_judge_2
  rw [rx06, rx03, i4.1]
  have k1 := it_find (b := fun (s : Int32) => bX3_firstWrong_2 n (RX w) 29 (nI (b 0)) s hx) (fun i => nI i) (fun i => (b 0).testBit (E i) != t.testBit i) (fun i => .inl (nI i)) (.inr ()) v (n := n) (by omega) ?_ ?_ ?_
  have k2 := it_find (b := fun (s : Int32) => bX6_judge_2 n RM 0 s hm) (fun i => nI i) (fun i => (b 0).testBit (E i) != t.testBit i) (fun i => .inl (nI i)) (.inr ()) v (n := n) (by omega) ?_ ?_ ?_
  · rw [show (0 : Int32) = nI 0 from rfl, k1, k2]
    cases ff (fun i => (b 0).testBit (E i) != t.testBit i) v 0 with
    | none => exact ⟨_, rfl, rfl⟩
    | some j => exact ⟨_, rfl, rfl⟩
  · intro i hi hp
    obtain ⟨d1, d2, d3, d4⟩ := a12 i hi
    show bX6_judge_2 n RM 0 (nI i) hm = _
    unfold bX6_judge_2
    rw [a6, if_neg (nI_ge hi (by omega)), ck_0, cl_0, z_ck (by omega) (by omega), z_ck (by omega) (by omega), nI_clamp (by omega), rm22, rm33, rm34, i5 0 (by omega), d2, d4, z_bit hd31 (by omega), if_pos (by rw [bI_inj]; simpa using hp)]
    simp only [lE, nI_1]
  · intro i hi hp
    obtain ⟨d1, d2, d3, d4⟩ := a12 i hi
    show bX6_judge_2 n RM 0 (nI i) hm = _
    unfold bX6_judge_2
    rw [a6, if_neg (nI_ge hi (by omega)), ck_0, cl_0, z_ck (by omega) (by omega), z_ck (by omega) (by omega), nI_clamp (by omega), rm22, rm33, rm34, i5 0 (by omega), d2, d4, z_bit hd31 (by omega), if_neg (by rw [bI_inj]; simpa using hp)]
  · show bX6_judge_2 n RM 0 (nI v) hm = _
    unfold bX6_judge_2
    rw [a6, if_pos (nI_le (Nat.le_refl _) (by omega))]
  · intro i hi hp
    obtain ⟨d1, d2, d3, d4⟩ := a12 i hi
    show bX3_firstWrong_2 n (RX w) 29 (nI (b 0)) (nI i) hx = _
    unfold bX3_firstWrong_2
    rw [a5, if_neg (nI_ge hi (by omega)), z_ck (by omega) (by omega), nI_clamp (by omega), rx292, d1, z_has hd31 (by omega), Option.bind_some, a9, z_has ht31 (by omega), Option.bind_some, if_pos (by rw [bI_inj]; simpa using hp)]
    simp only [lE, nI_1]
  · intro i hi hp
    obtain ⟨d1, d2, d3, d4⟩ := a12 i hi
    show bX3_firstWrong_2 n (RX w) 29 (nI (b 0)) (nI i) hx = _
    unfold bX3_firstWrong_2
    rw [a5, if_neg (nI_ge hi (by omega)), z_ck (by omega) (by omega), nI_clamp (by omega), rx292, d1, z_has hd31 (by omega), Option.bind_some, a9, z_has ht31 (by omega), Option.bind_some, if_neg (by rw [bI_inj]; simpa using hp)]
  · show bX3_firstWrong_2 n (RX w) 29 (nI (b 0)) (nI v) hx = _
    unfold bX3_firstWrong_2
    rw [a5, if_pos (nI_le (Nat.le_refl _) (by omega))]
end TK
