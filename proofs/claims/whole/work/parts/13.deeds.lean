/-! ===== the calls, class against reference ===== -/
def IV (w : Bool) (hx hm : Hp) : Prop := ∃ K b, Inv w K b hx hm
/-- both answer alike, and go on alike -/
def Sim (w : Bool) (x m : Option (Int32 × Hp)) : Prop := ∃ o hx' hm', x = some (o, hx') ∧ m = some (o, hm') ∧ IV w hx' hm'
theorem Sim.no {w : Bool} {hx hm : Hp} (hI : IV w hx hm) (o : Int32) : Sim w (some (o, hx)) (some (o, hm)) := ⟨o, hx, hm, rfl, rfl, hI⟩
theorem bd2_some {a b q : Type} {x : a} {y : b} {f : a → b → Option q} : bd2 (some (x, y)) f = f x y := rfl
theorem n01 : ¬ (0 : Int32) = 1 := by decide +kernel
section DD
variable {w : Bool} {hx hm : Hp} {n : Nat}
theorem sim_feed (hI : IV w hx hm) (v : Int32) : Sim w (fX5_feed n (RX w) 0 v hx) (fX6_feed n RM 0 v hm) := by
  have hI0 := hI
  obtain ⟨K, b, i1, i2, i3, i4, i5, i6, i7, ⟨k, k1, k2, k3, k4, k5⟩, i9, i10, i11⟩ := hI
  unfold fX5_feed fX6_feed
  rw [z_within, z_in, Option.bind_some, Option.bind_some, rx00, rm1, k2, k3]
  rcases z_win v 0 255 (by omega) (by omega) with ⟨j, j1, j2, j3, j4⟩ | j4
  · rw [show decide ((0 : Int32) ≤ v ∧ v ≤ 255) = true from j4]
    simp only [bI, if_true, n10, if_false]
    by_cases c : k < 240
    · rw [if_pos (by rw [show (240 : Int32) = nI 240 from rfl]; exact nI_lt c (by omega)), if_neg (by rw [show (240 : Int32) = nI 240 from rfl, nI_eq (by omega) (by omega)]; omega), z_ck c (by omega), nI_clamp (by omega)]
      unfold fX4_add
      rw [k2, rx10, if_neg (by rw [show (240 : Int32) = nI 240 from rfl]; exact nI_ge c (by omega)), z_ck c (by omega), nI_clamp (by omega)]
      simp only [lE, bd2_some, pI_eq]
      rw [pI_nk (show 1 ≠ 2 by decide), pI_nk (show 0 ≠ 1 by decide), k2, k3, nI_1]
      refine ⟨_, _, _, rfl, rfl, K, b, ?_⟩
      have hF : Fr (fun a => a = 1 ∨ a = 2) hx (pI (pI hx 2 k v) 1 1 (nI (k + 1))) := (Fr.pI (P := fun a => a = 1 ∨ a = 2) (Or.inr rfl)).tr (Fr.pI (Or.inl rfl))
      have hM : FrM (fun a => a = 1) (fun j => j = 0) hm (pI (pI hm 1 k v) 0 0 (nI (k + 1))) := (FrM.ar (P := fun a => a = 1) (Q := fun j => j = 0) (by decide) rfl).tr (FrM.p0 rfl)
      refine ⟨i1, i2.frw hF (fun a ha q => by omega), i3.frm hM (fun a _ _ q => by omega) (fun j _ _ q => by omega), i4.frw hF (by decide) (by decide), i5.frm hM (by decide), i6, i7, ⟨k + 1, by omega, pI_eq, pI_eq, fun i hi => ?_, ?_⟩, i9.fr hF hM (by decide) (by decide) (by decide) (by decide) (by decide), i10.fr hF hM (fun a _ _ q => by omega) (fun a _ _ q => by omega) (by decide) (by decide), i11.fr hF hM (by decide) (by decide) (by decide) (by decide) (by decide)⟩
      · rw [pI_nk (show 2 ≠ 1 by decide), pI_nk (show 1 ≠ 0 by decide)]
        by_cases e : i = k
        · subst e; rw [pI_eq, pI_eq]; exact ⟨rfl, j, j2, j3⟩
        · rw [pI_nj e, pI_nj e]; exact k4 i (by omega)
      · rw [pI_nj (show 4 ≠ 1 by decide), pI_nk (show 1 ≠ 2 by decide), pI_nj (show 5 ≠ 0 by decide), pI_nk (show 0 ≠ 1 by decide)]
        exact k5
    · rw [if_neg (by rw [show (240 : Int32) = nI 240 from rfl]; exact nI_nlt (by omega) (by omega)), if_pos (by rw [show k = 240 by omega]; rfl)]
      exact Sim.no hI0 _
  · rw [show decide ((0 : Int32) ≤ v ∧ v ≤ 255) = false from j4]
    exact Sim.no hI0 _
theorem sim_seed (hI : IV w hx hm) (v : Int32) : Sim w (fX5_seed n (RX w) 0 v hx) (fX6_seed n RM 0 v hm) := by
  have hI0 := hI
  obtain ⟨K, b, i1, i2, i3, i4, i5, i6, i7, i8, i9, i10, g, s, a1, a2, a3, a4, a5, a6, a7⟩ := hI
  unfold fX5_seed fX6_seed
  by_cases c : 0 ≤ v
  · obtain ⟨j, j1, j2⟩ := nI_of (x := v) (by rw [Int32.not_lt]; exact c)
    rw [if_pos c, if_pos c]
    simp only [lE]
    rw [a4, a5, lN_i, j2, nI_l j1]
    refine ⟨_, _, _, rfl, rfl, K, b, ?_⟩
    have hF : Fr (fun a => a = 0) hx (pI hx 0 10 (nI j)) := Fr.pI rfl
    have hM : ∀ a, (pL hm 0 27 (lN j)).1 a = hm.1 a := fun a => rfl
    have hM2 : FrM (fun _ => False) (fun _ => False) (hm.1, (pL hm 0 27 (lN j)).2) (pL hm 0 27 (lN j)) := ⟨rfl, fun _ _ _ => rfl, fun _ _ => rfl⟩
    refine ⟨i1, i2.frw hF (fun a ha q => by omega), i3, i4.frw hF (by decide) (by decide), i5, i6, i7, ?_, ?_, ?_, g, j, a1, ?_, a3, pI_eq, by simp [pL], j1, fun i hi hg => ?_⟩
    · have := i8.fr hF (FrM.rf (P := fun _ => False) (Q := fun _ => False)) (by decide) (by decide) (fun q => q) (fun q => q) (fun q => q)
      exact this
    · have := i9.fr hF (FrM.rf (P := fun _ => False) (Q := fun _ => False)) (by decide) (by decide) (fun q => q) (fun q => q) (fun q => q)
      exact this
    · have := i10.fr hF (FrM.rf (P := fun _ => False) (Q := fun _ => False)) (fun a _ _ q => by omega) (fun a _ _ q => q) (fun q => q) (fun q => q)
      exact this
    · rw [pI_nj (by decide)]; exact a2
    · obtain ⟨b', s', c1, c2, c3, c4, c5, c6, c7⟩ := a7 i hi hg
      exact ⟨b', s', c1, c2, c3.co (fun j _ _ => by rw [pI_nk (by decide)]), c4, by rw [pI_nk (by decide)]; exact c5, by simpa [pL] using c6, c7⟩
  · rw [if_neg c, if_neg c]
    exact Sim.no hI0 _
theorem sim_undoLink (hI : IV w hx hm) (v : Int32) (hn : 20 ≤ n) : Sim w (fX5_undoLink n (RX w) 0 v hx) (fX6_undoLink n RM 0 v hm) := by
  have hI0 := hI
  obtain ⟨K, b, hI⟩ := hI
  have hK := hI.1
  have hM10 := hK.2.1
  have hd31 := p31 hI.2.2.2.2.2.1.1 (show K 0 1 ≤ 31 by omega)
  unfold fX5_undoLink fX6_undoLink
  rw [rx01, rx03, rx05, rm22]
  rcases z_lk (n := n) v hI.2.1 hI.2.2.1 hK with ⟨l, l1, rfl, l3, l4⟩ | ⟨l3, l4⟩
  · rw [l3, l4]
    simp only [Option.bind_some, n10, if_false, ck_0, cl_0]
    rw [hI.2.2.2.1.1, hI.2.2.2.2.1 0 (by omega), z_has hd31 (by omega), z_hasM hd31 (by omega)]
    simp only [Option.bind_some]
    by_cases cb : (b 0).testBit l = true
    · obtain ⟨x1, m1, e1, e2, hJ⟩ := hI.deed (n := n) hn
      rw [cb, e1, e2]
      simp only [bI, if_true, n10, if_false, Option.bind_some, lE, pI_eq]
      rw [hJ.2.2.2.1.1, hJ.2.2.2.2.1 0 (by omega), z_shl (by omega), z_wo]
      have hlt : wo (b 0) (2 ^ l) < 2 ^ (K 0 1) := wo_lt hI.2.2.2.2.2.1.1
      have h2048 : wo (b 0) (2 ^ l) < 2048 := Nat.lt_of_lt_of_le hlt (Nat.pow_le_pow_right (by decide) (show K 0 1 ≤ 11 by omega))
      rw [z_bc h2048, z_bits h2048 hn]
      simp only [Option.bind_some]
      exact ⟨_, _, _, rfl, rfl, K, _, hJ.set1 (j := 0) (by decide) (BB.up hI.2.2.2.2.2.1 (by decide) (fun _ => hlt) (fun q => by omega) (fun q => by omega) (fun _ => hI.2.2.2.2.2.1.wo hM10)) (by rw [upb_ne (by decide)]; exact hI.2.2.2.2.2.2.1)⟩
    · rw [show (b 0).testBit l = false by simpa using cb]
      exact Sim.no hI0 _
  · rw [l3, l4]
    exact Sim.no hI0 _
theorem z_up {K : Kd} {b : Nat → Nat} {l : Nat} (hI : Inv w K b hx hm) (hl : l < K 0 1) : fX0_canBeDoneUp n (RX w) 23 (cc w) (nI l) hx = some (bI (!(b 0).testBit l && decide (b (6 + l) < K 4 l))) ∧ fX6_isUpable n RM 0 (nI l) hm = some (bI (!(b 0).testBit l && decide (b (6 + l) < K 4 l))) := by
  have hK := hI.1
  have hM10 := hK.2.1
  have hd31 := p31 hI.2.2.2.2.2.1.1 (show K 0 1 ≤ 31 by omega)
  obtain ⟨-, -, -, -, es, -⟩ := hI.2.1.2.2.2.1 l hl
  obtain ⟨-, -, -, em, -⟩ := hI.2.2.1.2.2.2.1 l hl
  obtain ⟨-, -, -, -, hs1, hs2, -⟩ := hK.2.2.2.1 l hl
  have hst := (hI.2.2.2.2.2.1.2.2.2.2.2 l (by omega)).1
  unfold fX0_canBeDoneUp fX6_isUpable
  rw [hI.2.2.2.1.1, z_has hd31 (by omega), Option.bind_some, z_spare (by omega) es (hI.2.2.2.1.2.2.2.2.2.2 l (by omega)), Option.bind_some, ck_0, cl_0, rm22, hI.2.2.2.2.1 0 (by omega), z_hasM hd31 (by omega), Option.bind_some, n6, z_ck (by omega) (by omega), z_ck (by omega) (by omega), nI_clamp (by omega), nI_clamp (by omega), em, hI.2.2.2.2.1 (6 + l) (by omega)]
  cases (b 0).testBit l with
  | true => exact ⟨rfl, rfl⟩
  | false =>
    simp only [bI_0, if_true, Bool.not_false, Bool.true_and]
    by_cases c : b (6 + l) < K 4 l
    · rw [if_neg (by rw [z_sub1 hs2 hst]; omega), if_neg (nI_ge c (by omega)), decide_eq_true c]
      exact ⟨rfl, rfl⟩
    · rw [if_pos ((z_sub1 hs2 hst).mpr (by omega)), if_pos (nI_le (by omega) (by omega)), decide_eq_false c]
      exact ⟨rfl, rfl⟩
theorem sim_doUp (hI : IV w hx hm) (v : Int32) (hn : 20 ≤ n) : Sim w (fX5_doUp n (RX w) 0 v hx) (fX6_doUp n RM 0 v hm) := by
  have hI0 := hI
  obtain ⟨K, b, hI⟩ := hI
  have hK := hI.1
  have hM10 := hK.2.1
  unfold fX5_doUp fX6_doUp
  rw [rx01, rx03, rx05, rm22]
  rcases z_lk (n := n) v hI.2.1 hI.2.2.1 hK with ⟨l, l1, rfl, l3, l4⟩ | ⟨l3, l4⟩
  · rw [l3, l4, (z_up (n := n) hI l1).1, (z_up (n := n) hI l1).2]
    simp only [Option.bind_some, n10, if_false, ck_0, cl_0]
    cases hcd : (!(b 0).testBit l && decide (b (6 + l) < K 4 l)) with
    | true =>
      obtain ⟨x1, m1, e1, e2, hJ⟩ := hI.deed (n := n) hn
      rw [e1, e2]
      simp only [bI, if_true, n10, if_false, Option.bind_some, lE, pI_eq]
      rw [hJ.2.2.2.1.1, hJ.2.2.2.2.1 0 (by omega), z_shl (by omega), z_or]
      have hlt : b 0 ||| 2 ^ l < 2 ^ (K 0 1) := or_lt hI.2.2.2.2.2.1.1 (pw_lt l1)
      have h2048 : b 0 ||| 2 ^ l < 2048 := Nat.lt_of_lt_of_le hlt (Nat.pow_le_pow_right (by decide) (show K 0 1 ≤ 11 by omega))
      rw [z_bc h2048, z_bits h2048 hn]
      simp only [Option.bind_some]
      exact ⟨_, _, _, rfl, rfl, K, _, hJ.set1 (j := 0) (by decide) (BB.up hI.2.2.2.2.2.1 (by decide) (fun _ => hlt) (fun q => by omega) (fun q => by omega) (fun _ => hI.2.2.2.2.2.1.or hM10 (by rw [Bool.and_eq_true] at hcd; exact of_decide_eq_true hcd.2))) (by rw [upb_ne (by decide)]; exact hI.2.2.2.2.2.2.1)⟩
    | false => exact Sim.no hI0 _
  · rw [l3, l4]
    exact Sim.no hI0 _
theorem sim_turn (hI : IV w hx hm) (v : Int32) (hn : 20 ≤ n) : Sim w (fX5_turn n (RX w) 0 v hx) (fX6_turn n RM 0 v hm) := by
  have hI0 := hI
  obtain ⟨K, b, hI⟩ := hI
  have hK := hI.1
  have hM10 := hK.2.1
  unfold fX5_turn fX6_turn
  rw [rx01, rx03, rx05, rm22]
  rcases z_lk (n := n) v hI.2.1 hI.2.2.1 hK with ⟨l, l1, rfl, l3, l4⟩ | ⟨l3, l4⟩
  · obtain ⟨x1, m1, e1, e2, hJ⟩ := hI.deed (n := n) hn
    rw [l3, l4, e1, e2]
    simp only [Option.bind_some, n10, if_false, ck_1, cl_1, lE, pI_eq]
    have hlt : b 1 ^^^ 2 ^ l < 2 ^ (K 0 1) := xor_lt hI.2.2.2.2.2.1.2.1 (pw_lt l1)
    have h31 := p31 hlt (show K 0 1 ≤ 31 by omega)
    rw [hJ.2.2.2.1.2.1, hJ.2.2.2.2.1 1 (by omega), z_shl (by omega), z_xor, z_has h31 (by omega), z_bit h31 (by omega), Option.bind_some]
    have e : ∀ q : Bool, (if bI q = 0 then some ((0 : Int32), pI x1 23 2 (nI (b 1 ^^^ 2 ^ l))) else some (1, pI x1 23 2 (nI (b 1 ^^^ 2 ^ l)))) = some (bI q, pI x1 23 2 (nI (b 1 ^^^ 2 ^ l))) := fun q => by cases q <;> rfl
    rw [e]
    exact ⟨_, _, _, rfl, rfl, K, _, hJ.set1 (j := 1) (by decide) (BB.up hI.2.2.2.2.2.1 (by decide) (fun _ => hlt) (fun q => by omega) (fun q => by omega)) (by rw [upb_ne (by decide)]; exact hI.2.2.2.2.2.2.1)⟩
  · rw [l3, l4]
    exact Sim.no hI0 _
theorem sim_mend (hI : IV w hx hm) (v : Int32) (hn : 20 ≤ n) : Sim w (fX5_mend n (RX w) 0 v hx) (fX6_mend n RM 0 v hm) := by
  have hI0 := hI
  obtain ⟨K, b, hI⟩ := hI
  have hK := hI.1
  have hM10 := hK.2.1
  have h4 := hI.2.2.2.2.2.1.2.2.2.2.1
  unfold fX5_mend fX6_mend
  rw [rx01, rx03, rx05, rm22, rx230]
  rcases z_lk (n := n) v hI.2.1 hI.2.2.1 hK with ⟨l, l1, rfl, l3, l4⟩ | ⟨l3, l4⟩
  · rw [l3, l4]
    simp only [Option.bind_some, n10, if_false, ck_4, cl_4]
    rw [hI.2.2.2.1.2.2.2.2.1, hI.2.2.2.2.1 4 (by omega)]
    by_cases c : 1 ≤ b 4
    · obtain ⟨x1, m1, e1, e2, hJ⟩ := hI.deed (n := n) hn
      rw [if_pos (by rw [show (1 : Int32) = nI 1 from rfl]; exact nI_le c (by omega)), if_neg (nI_ne0 (by omega) (by omega)), e1, e2]
      simp only [Option.bind_some, lE]
      rw [n6, z_ck (by omega) (by omega), z_ck (by omega) (by omega), nI_clamp (by omega), nI_clamp (by omega), pI_nk (show 23 ≠ 24 by decide), pI_nj (show 4 ≠ 6 + l by omega), hJ.2.2.2.1.2.2.2.2.1, hJ.2.2.2.2.1 4 (by omega), show (1 : Int32) = nI 1 from rfl, pk_sub c, pI_eq, pI_eq]
      have hS := hJ.setS (l := l) (v := 0) (by omega) (by omega) (fun q => (hK.2.2.2.1 l q).2.2.2.2.1)
      exact ⟨_, _, _, rfl, rfl, K, _, hS.set1 (j := 4) (v := b 4 - 1) (by decide) (BB.up hS.2.2.2.2.2.1 (by decide) (fun q => by omega) (fun q => by omega) (fun _ => by omega)) (by rw [upb_ne (by decide)]; exact hS.2.2.2.2.2.2.1)⟩
    · rw [if_neg (by rw [show (1 : Int32) = nI 1 from rfl]; exact nI_ge (by omega) (by omega)), if_pos (by rw [show b 4 = 0 by omega]; rfl)]
      exact Sim.no hI0 _
  · rw [l3, l4]
    exact Sim.no hI0 _
theorem sim_hold (hI : IV w hx hm) (v u : Int32) (hn : 20 ≤ n) : Sim w (fX5_hold n (RX w) 0 v u hx) (fX6_hold n RM 0 v u hm) := by
  have hI0 := hI
  obtain ⟨K, b, hI⟩ := hI
  have hK := hI.1
  have hM10 := hK.2.1
  have h2 := hI.2.2.2.2.2.1.2.2.1
  have h31 := p31 h2 (show K 0 1 ≤ 31 by omega)
  unfold fX5_hold fX6_hold
  rw [rx01, rx03, rm18, rm22]
  rcases z_lk (n := n) v hI.2.1 hI.2.2.1 hK with ⟨l, l1, rfl, l3, l4⟩ | ⟨l3, l4⟩
  · obtain ⟨-, -, -, ek, -⟩ := hI.2.1.2.2.2.1 l l1
    obtain ⟨-, -, em, -⟩ := hI.2.2.1.2.2.2.1 l l1
    rw [rm18] at em
    rw [l3, l4]
    simp only [Option.bind_some, n10, if_false]
    rw [z_ck (by omega) (by omega), z_ck (by omega) (by omega), nI_clamp (by omega), ek, em]
    by_cases c : nI (K 3 l) = 3
    · obtain ⟨x1, m1, e1, e2, hJ⟩ := hI.deed (n := n) hn
      rw [if_pos c, if_pos c, hI.2.2.2.1.2.2.1, z_has h31 (by omega), e2]
      simp only [Option.bind_some, lE, ck_2, cl_2]
      rw [hJ.2.2.2.2.1 2 (by omega), z_bit h31 (by omega), z_shl (by omega), z_wo, z_or]
      have ex : ∀ q : Int32, jX5_hold_49 n (RX w) 0 (nI l) u q hx = if u = 0 then some (q, pI x1 23 3 (nI (wo (b 2) (2 ^ l)))) else some (q, pI x1 23 3 (nI (b 2 ||| 2 ^ l))) := fun q => by
        unfold jX5_hold_49 jX5_hold_96
        rw [rx05, rx03, e1, Option.bind_some]
        simp only [lE]
        rw [hJ.2.2.2.1.2.2.1, z_shl (by omega), z_wo, z_or]
      have em2 : ∀ q s : Int32, jX6_hold_73 n RM 0 q s 2 m1 = some (q, pI m1 12 2 s) := fun q s => by
        unfold jX6_hold_73
        rw [ck_2, cl_2, rm22]
        rfl
      simp only [ex, em2]
      have e3 : (if bI ((b 2).testBit l) = 0 then (if u = 0 then some ((0 : Int32), pI x1 23 3 (nI (wo (b 2) (2 ^ l)))) else some (0, pI x1 23 3 (nI (b 2 ||| 2 ^ l)))) else (if u = 0 then some (1, pI x1 23 3 (nI (wo (b 2) (2 ^ l)))) else some (1, pI x1 23 3 (nI (b 2 ||| 2 ^ l))))) = (if u = 0 then some (bI ((b 2).testBit l), pI x1 23 3 (nI (wo (b 2) (2 ^ l)))) else some (bI ((b 2).testBit l), pI x1 23 3 (nI (b 2 ||| 2 ^ l)))) := by
        cases (b 2).testBit l <;> rfl
      rw [e3]
      by_cases cu : u = 0
      · rw [if_pos cu, if_pos cu]
        exact ⟨_, _, _, rfl, rfl, K, _, hJ.set1 (j := 2) (by decide) (BB.up hI.2.2.2.2.2.1 (by decide) (fun _ => wo_lt h2) (fun q => by omega) (fun q => by omega)) (by rw [upb_ne (by decide)]; exact hI.2.2.2.2.2.2.1)⟩
      · rw [if_neg cu, if_neg cu]
        exact ⟨_, _, _, rfl, rfl, K, _, hJ.set1 (j := 2) (by decide) (BB.up hI.2.2.2.2.2.1 (by decide) (fun _ => or_lt h2 (pw_lt l1)) (fun q => by omega) (fun q => by omega)) (by rw [upb_ne (by decide)]; exact hI.2.2.2.2.2.2.1)⟩
    · rw [if_neg c, if_neg c]
      exact Sim.no hI0 _
  · rw [l3, l4]
    exact Sim.no hI0 _
theorem sim_earn (hI : IV w hx hm) (v : Int32) (hn : 20 ≤ n) : Sim w (fX5_earn n (RX w) 0 v hx) (fX6_earn n RM 0 v hm) := by
  have hI0 := hI
  obtain ⟨K, b, hI⟩ := hI
  have hK := hI.1
  have h8 := hK.1
  have h4 := hI.2.2.2.2.2.1.2.2.2.2.1
  unfold fX5_earn fX6_earn
  rw [z_within, z_in, Option.bind_some, Option.bind_some, rx01, rx03, rx05, rm22, z_there hI.2.1 hK, hI.2.2.1.1]
  rcases z_win v 1 99 (by omega) (by omega) with ⟨j, j1, j2, j3, j4⟩ | j4
  · rw [show decide ((1 : Int32) ≤ v ∧ v ≤ 99) = true from j4]
    simp only [bI, if_true, n10, if_false, Option.bind_some]
    by_cases c : K 0 0 = 0
    · rw [decide_eq_false (by simp [c]), if_pos (show nI (K 0 0) = 0 by rw [c]; rfl)]
      exact Sim.no hI0 _
    · obtain ⟨x1, m1, e1, e2, hJ⟩ := hI.deed (n := n) hn
      rw [decide_eq_true c, if_neg (nI_ne0 (by omega) (by omega)), e1, e2]
      simp only [if_true, n10, if_false, Option.bind_some, lE, ck_4, cl_4, pI_eq]
      rw [hJ.2.2.2.1.2.2.2.2.1, hJ.2.2.2.2.1 4 (by omega), j3, nI_add, show (99 : Int32) = nI 99 from rfl]
      have em : ∀ s : Int32, jX6_earn_53 n RM 0 s 4 m1 = some (s, pI m1 12 4 s) := fun s => by
        unfold jX6_earn_53
        simp only [ck_4, cl_4, rm22, lE, pI_eq]
      simp only [em]
      have q1 : (if nI 99 < nI (b 4 + j) then nI 99 else nI (b 4 + j)) = nI (min (b 4 + j) 99) := by
        by_cases c1 : 99 < b 4 + j
        · rw [if_pos (nI_lt c1 (by omega)), Nat.min_eq_right (by omega)]
        · rw [if_neg (nI_nlt (by omega) (by omega)), Nat.min_eq_left (by omega)]
      have q2 : (if nI (b 4 + j) ≤ nI 99 then some (nI (b 4 + j), pI m1 12 4 (nI (b 4 + j))) else some (nI 99, pI m1 12 4 (nI 99))) = some (nI (min (b 4 + j) 99), pI m1 12 4 (nI (min (b 4 + j) 99))) := by
        by_cases c1 : b 4 + j ≤ 99
        · rw [if_pos (nI_le c1 (by omega)), Nat.min_eq_left c1]
        · rw [if_neg (nI_ge (by omega) (by omega)), Nat.min_eq_right (by omega)]
      rw [q1, q2]
      exact ⟨_, _, _, rfl, rfl, K, _, hJ.set1 (j := 4) (by decide) (BB.up hI.2.2.2.2.2.1 (by decide) (fun q => by omega) (fun q => by omega) (fun _ => Nat.min_le_right _ _)) (by rw [upb_ne (by decide)]; exact hI.2.2.2.2.2.2.1)⟩
  · rw [show decide ((1 : Int32) ≤ v ∧ v ≤ 99) = false from j4]
    exact Sim.no hI0 _
end DD
