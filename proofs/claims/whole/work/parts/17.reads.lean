/-! ===== link, reads, wind, calm, together, way, farthest ===== -/
theorem Sim0.ite {c : Prop} [Decidable c] {a a' b b' : Option Int32} (h1 : Sim0 a a') (h2 : Sim0 b b') : Sim0 (if c then a else b) (if c then a' else b') := by
  by_cases q : c
  · rw [if_pos q, if_pos q]; exact h1
  · rw [if_neg q, if_neg q]; exact h2
theorem Sim0.rf (o : Int32) : Sim0 (some o) (some o) := ⟨o, rfl, rfl⟩
theorem Sim.ite {w : Bool} {c : Prop} [Decidable c] {a a' b b' : Option (Int32 × Hp)} (h1 : Sim w a a') (h2 : Sim w b b') : Sim w (if c then a else b) (if c then a' else b') := by
  by_cases q : c
  · rw [if_pos q, if_pos q]; exact h1
  · rw [if_neg q, if_neg q]; exact h2
/-- what island a reads of link l, with the links d done up, those of t turned -/
def rdo (K : Kd) (d t a l : Nat) : Option Nat := if d.testBit l then (if K 1 l = a then some (if t.testBit l then K 6 l else K 5 l) else if K 2 l = a then some (if t.testBit l then K 5 l else K 6 l) else none) else none
section RD
variable {w : Bool} {K : Kd} {b : Nat → Nat} {hx hm : Hp} {n : Nat}
theorem sim_link (hI : IV w hx hm) (x y : Int32) : Sim0 (fX5_link n (RX w) 0 x y hx) (fX6_link n RM 0 x y hm) := by
  obtain ⟨K, b, i1, i2, i3, i4, i5, i6, -⟩ := hI
  have hM10 := i1.2.1
  unfold fX5_link fX6_link
  rw [rx01, rx03, rm17, rm18, rm19, rm20, rm22, rx230]
  rcases z_lk (n := n) x i2 i3 i1 with ⟨l, l1, rfl, l3, l4⟩ | ⟨l3, l4⟩
  · have hk10 : ∀ {q : Type} (x : Option q), ck (nI l) 10 x = x := fun x => z_ck (by omega) (by omega)
    have hk6 : ∀ {q : Type} (x : Option q), ck (nI (6 + l)) 16 x = x := fun x => z_ck (by omega) (by omega)
    have hk2 : ∀ {q : Type} (x : Option q), ck (nI (2 * l)) 20 x = x := fun x => z_ck (by omega) (by omega)
    have hk21 : ∀ {q : Type} (x : Option q), ck (nI (2 * l + 1)) 20 x = x := fun x => z_ck (by omega) (by omega)
    obtain ⟨e1, e2, e3, e4, e5, e6, e7⟩ := i2.2.2.2.1 l l1
    obtain ⟨f1, f2, f3, f4, f5, f6⟩ := i3.2.2.2.1 l l1
    rw [rm17] at f1 f2
    rw [rm18] at f3
    rw [rm19] at f4
    rw [rm20] at f5 f6
    rw [l3, l4]
    simp only [Option.bind_some, n10, if_false, lE, nI_2, nI_1, n6, hk10, hk6, hk2, hk21, ck_0, ck_1, ck_2, cl_0, cl_1, cl_2, nI_clamp (show l < 2 ^ 31 by omega), nI_clamp (show 2 * l < 2 ^ 31 by omega), nI_clamp (show 2 * l + 1 < 2 ^ 31 by omega), nI_clamp (show 6 + l < 2 ^ 31 by omega)]
    rw [e1, e2, e4, e5, e6, e7, f1, f2, f3, f4, f5, f6, i4.1, i4.2.1, i4.2.2.1, i5 0 (by omega), i5 1 (by omega), i5 2 (by omega), i5 (6 + l) (by omega), ← rx230 w, i4.2.2.2.2.2.2 l (by omega), z_has (p31 i6.1 (by omega)) (by omega), z_has (p31 i6.2.1 (by omega)) (by omega), z_has (p31 i6.2.2.1 (by omega)) (by omega), z_bit (p31 i6.1 (by omega)) (by omega), z_bit (p31 i6.2.1 (by omega)) (by omega), z_bit (p31 i6.2.2.1 (by omega)) (by omega)]
    simp only [Option.bind_some, bI_if]
    exact Sim0.ite (Sim0.rf _) (Sim0.ite (Sim0.rf _) (Sim0.ite (Sim0.rf _) (Sim0.ite (Sim0.rf _) (Sim0.ite (Sim0.rf _) (Sim0.ite (Sim0.rf _) (Sim0.ite (Sim0.rf _) (Sim0.ite (Sim0.rf _) (Sim0.ite (Sim0.rf _) (Sim0.ite (Sim0.rf _) (Sim0.rf _))))))))))
  · rw [l3, l4]
    exact Sim0.rf _
theorem z_sideRead {r : Rf} {c l : Nat} {p q : Bool} (hC : Ch r hx c K) (hK : Bk K) (hl : l < K 0 1) : fX1_sideRead n r c (nI l) (bI p) (bI q) hx = some (nI (if p = q then K 6 l else K 5 l)) := by
  have hM10 := hK.2.1
  obtain ⟨e1, e2, e3, e4, e5, e6, e7⟩ := hC.2.2.2.1 l hl
  unfold fX1_sideRead
  rw [z_ck (by omega) (by omega), z_ck (by omega) (by omega), nI_clamp (by omega), e6, e7]
  by_cases c : p = q
  · rw [if_pos (by rw [c]), if_pos c]
  · rw [if_neg (by rw [bI_inj]; exact c), if_neg c]
theorem z_readBy {a l d t : Nat} (hM : Cm RM hm K) (hK : Bk K) (hl : l < K 0 1) (ha : a < K 0 0) (hd : d < 2 ^ 31) (ht : t < 2 ^ 31) : fX6_readBy n RM 0 (nI a) (nI l) (nI d) (nI t) hm = some (oI (rdo K d t a l)) := by
  have hM10 := hK.2.1
  have hN := hK.1
  obtain ⟨f1, f2, f3, f4, f5, f6⟩ := hM.2.2.2.1 l hl
  obtain ⟨g1, g2, -⟩ := hK.2.2.2.1 l hl
  have hk2 : ∀ {q : Type} (x : Option q), ck (nI (2 * l)) 20 x = x := fun x => z_ck (by omega) (by omega)
  have hk21 : ∀ {q : Type} (x : Option q), ck (nI (2 * l + 1)) 20 x = x := fun x => z_ck (by omega) (by omega)
  have e48 : ∀ v : Bool, jX6_readBy_48 n RM 0 (nI l) (nI t) (bI v) hm = some (nI (if v = t.testBit l then K 6 l else K 5 l)) := fun v => by
    unfold jX6_readBy_48
    rw [z_hasM ht (by omega)]
    simp only [Option.bind_some, nI_2, nI_1, hk2, hk21, nI_clamp (show 2 * l < 2 ^ 31 by omega), nI_clamp (show 2 * l + 1 < 2 ^ 31 by omega)]
    rw [f5, f6]
    by_cases c : v = t.testBit l
    · rw [if_pos (by rw [c]), if_pos c]
    · rw [if_neg (by rw [bI_inj]; exact c), if_neg c]
  unfold fX6_readBy jX6_readBy_17
  rw [z_hasM hd (by omega)]
  simp only [Option.bind_some, nI_2, nI_1, hk2, hk21, nI_clamp (show 2 * l < 2 ^ 31 by omega), nI_clamp (show 2 * l + 1 < 2 ^ 31 by omega)]
  have e480 : jX6_readBy_48 n RM 0 (nI l) (nI t) 0 hm = some (nI (if false = t.testBit l then K 6 l else K 5 l)) := e48 false
  have e481 : jX6_readBy_48 n RM 0 (nI l) (nI t) 1 hm = some (nI (if true = t.testBit l then K 6 l else K 5 l)) := e48 true
  rw [f1, f2, e480, e481]
  simp only [bI_0, n10, nI_eq (show K 1 l < 2 ^ 31 by omega) (show a < 2 ^ 31 by omega), nI_eq (show K 2 l < 2 ^ 31 by omega) (show a < 2 ^ 31 by omega)]
  unfold rdo
  cases d.testBit l with
  | false => by_cases c : K 1 l = a <;> simp [c, oI]
  | true =>
    by_cases c : K 1 l = a
    · simp [c]
      cases t.testBit l <;> simp [oI]
    · by_cases c2 : K 2 l = a
      · simp [c, c2]
        cases t.testBit l <;> simp [oI]
      · simp [c, c2, oI]
theorem sim_reads (hI : IV w hx hm) (x y : Int32) : Sim0 (fX5_reads n (RX w) 0 x y hx) (fX6_reads n RM 0 x y hm) := by
  obtain ⟨K, b, i1, i2, i3, i4, i5, i6, -⟩ := hI
  have hM10 := i1.2.1
  have hN := i1.1
  unfold fX5_reads fX6_reads
  rw [rx01, rx03, rm22]
  rcases z_is (n := n) x i2 i3 i1 with ⟨a, a1, rfl, a3, a4⟩ | ⟨a3, a4⟩
  · rcases z_lk (n := n) y i2 i3 i1 with ⟨l, l1, rfl, l3, l4⟩ | ⟨l3, l4⟩
    · obtain ⟨e1, e2, e3, e4, e5, e6, e7⟩ := i2.2.2.2.1 l l1
      obtain ⟨g1, g2, g3, -⟩ := i1.2.2.2.1 l l1
      have hd31 := p31 i6.1 (show K 0 1 ≤ 31 by omega)
      have ht31 := p31 i6.2.1 (show K 0 1 ≤ 31 by omega)
      have hck : ∀ {q : Type} (x : Option q), ck (nI l) 10 x = x := fun x => z_ck (by omega) (by omega)
      have hor : 2 ^ K 1 l ||| 2 ^ K 2 l < 2 ^ 31 := p31 (or_lt (pw_lt g1) (pw_lt g2)) (by omega)
      have ej : ∀ v : Bool, jX5_reads_80 n (RX w) 0 (nI l) (bI v) (nI l) hx = some (nI (if v = (b 1).testBit l then K 6 l else K 5 l)) := fun v => by
        unfold jX5_reads_80
        rw [rx03, rx01, i4.2.1, z_has ht31 (by omega), Option.bind_some, z_sideRead i2 i1 l1, Option.bind_some]
      rw [a3, a4, l3, l4]
      simp only [Option.bind_some, n10, if_false, hck, ck_0, ck_1, cl_0, cl_1, nI_clamp (show l < 2 ^ 31 by omega)]
      rw [i4.1, i5 0 (by omega), i5 1 (by omega), z_has hd31 (by omega), e1, e3, z_has hor (by omega), z_readBy i3 i1 l1 a1 hd31 ht31, show jX5_reads_80 n (RX w) 0 (nI l) 1 (nI l) hx = some (nI (if true = (b 1).testBit l then K 6 l else K 5 l)) from ej true, show jX5_reads_80 n (RX w) 0 (nI l) 0 (nI l) hx = some (nI (if false = (b 1).testBit l then K 6 l else K 5 l)) from ej false]
      simp only [Option.bind_some, bI_0, Nat.testBit_or, Nat.testBit_two_pow, nI_eq (show a < 2 ^ 31 by omega) (show K 1 l < 2 ^ 31 by omega)]
      refine ⟨oI (rdo K (b 0) (b 1) a l), ?_, rfl⟩
      unfold rdo
      cases (b 0).testBit l with
      | false => simp [oI]
      | true =>
        by_cases c : K 1 l = a
        · simp [c]
          cases (b 1).testBit l <;> simp [oI]
        · by_cases c2 : K 2 l = a
          · have c' : ¬ a = K 1 l := fun q => c q.symm
            simp [c, c2, c']
            cases (b 1).testBit l <;> simp [oI]
          · simp [c, c2, oI]
    · rw [a3, a4, l3, l4]
      exact Sim0.rf _
  · rw [a3, a4]
    exact Sim0.rf _
theorem sim_wind (hI : IV w hx hm) (x : Int32) : Sim0 (fX5_wind n (RX w) 0 x hx) (fX6_wind n RM 0 x hm) := by
  obtain ⟨K, b, i1, i2, i3, i4, i5, i6, i7, -⟩ := hI
  have hN := i1.1
  unfold fX5_wind fX6_wind
  rw [z_within, z_in, Option.bind_some, Option.bind_some, rx01, rx03, rm22, z_there i2 i1, i3.1, ck_3, cl_3, i4.2.2.2.1, i5 3 (by omega), Option.bind_some]
  rcases z_win x 0 60 (by omega) (by omega) with ⟨j, j1, j2, rfl, j4⟩ | j4
  · rw [show decide ((0 : Int32) ≤ nI j ∧ nI j ≤ 60) = true from j4, nI_add, z_windOf i2 i1 (by omega), z_windOfM i3 i1 (by omega)]
    by_cases c : K 0 0 = 0
    · rw [decide_eq_false (by simp [c]), if_pos (show nI (K 0 0) = 0 by rw [c]; rfl)]
      exact Sim0.rf _
    · rw [decide_eq_true c, if_neg (show ¬ nI (K 0 0) = 0 from nI_ne0 (by omega) (by omega))]
      exact Sim0.rf _
  · rw [show decide ((0 : Int32) ≤ x ∧ x ≤ 60) = false from j4]
    exact Sim0.rf _
theorem sim_calm (x y : Int32) (hn : 100 ≤ n) : Sim0 (fX5_calm n (RX w) 0 x y hx) (fX6_calm n RM 0 x y hm) := by
  unfold fX5_calm fX6_calm
  rw [z_within, z_in, z_within, z_in, Option.bind_some, Option.bind_some, Option.bind_some, Option.bind_some]
  rcases z_win x 0 60 (by omega) (by omega) with ⟨j, j1, j2, rfl, j4⟩ | j4
  · rw [show decide ((0 : Int32) ≤ nI j ∧ nI j ≤ 60) = true from j4]
    rcases z_win y 0 100 (by omega) (by omega) with ⟨k, k1, k2, rfl, k4⟩ | k4
    · rw [show decide ((0 : Int32) ≤ nI k ∧ nI k ≤ 100) = true from k4]
      simp only [bI, if_true, n10, if_false]
      unfold lX5_calm_30 lX6_calm_30
      obtain ⟨z, h1, -⟩ := it_from (b := fun (s : Int64 × Int32) => bX5_calm_30 n (RX w) 0 (nI j) (nI k) s.1 s.2 hx) (fun i s => ∃ v, s = (v, nI i)) (fun _ => True) j (n := n) (x := (1000000000, 0)) (by omega) ⟨_, rfl⟩ (by
        rintro i s hi ⟨v, rfl⟩
        show (∃ z, bX5_calm_30 n (RX w) 0 (nI j) (nI k) v (nI i) hx = _ ∧ _) ∨ (_ ∧ ∃ y, bX5_calm_30 n (RX w) 0 (nI j) (nI k) v (nI i) hx = _ ∧ _)
        unfold bX5_calm_30
        by_cases c : i < j
        · right
          rw [if_neg (nI_ge c (by omega))]
          simp only [lE, nI_1]
          exact ⟨c, _, rfl, _, rfl⟩
        · left
          rw [if_pos (nI_le (by omega) (by omega))]
          exact ⟨_, rfl, trivial⟩)
      have h2 : it (fun (s : Int64 × Int32) => bX6_calm_30 n RM 0 (nI j) (nI k) s.1 s.2 hm) n (1000000000, 0) = some z := h1
      rw [h1, h2]
      exact Sim0.rf _
    · rw [show decide ((0 : Int32) ≤ y ∧ y ≤ 100) = false from k4]
      exact Sim0.rf _
  · rw [show decide ((0 : Int32) ≤ x ∧ x ≤ 60) = false from j4]
    exact Sim0.rf _
theorem sim_together (hI : IV w hx hm) (x : Int32) (hn : 20 ≤ n) : Sim0 (fX5_together n (RX w) 0 x hx) (fX6_together n RM 0 x hm) := by
  obtain ⟨K, b, i1, i2, i3, i4, i5, i6, i7, -⟩ := hI
  have hM10 := i1.2.1
  unfold fX5_together fX6_together
  rw [rx01, rx03, rm22, ck_0, cl_0, i4.1, i5 0 (by omega)]
  rcases z_is (n := n) x i2 i3 i1 with ⟨a, a1, rfl, a3, a4⟩ | ⟨a3, a4⟩
  · rw [a3, a4, z_reach i2 i1 (p31 i6.1 (by omega)) a1 hn, z_reached i3 i1 (p31 i6.1 (by omega)) a1 hn]
    exact Sim0.rf _
  · rw [a3, a4]
    exact Sim0.rf _
/-- the link l leads from a on towards b, one step nearer -/
def nxt1 (K : Kd) (d a b : Nat) (far : Int32) (l : Nat) : Bool := d.testBit l && (if K 1 l = a then decide (oI (stp K d (K 2 l) b) = far - 1) else if K 2 l = a then decide (oI (stp K d (K 1 l) b) = far - 1) else false)
theorem nI_m1 {a : Nat} (h : a < 2 ^ 31) : ¬ nI a = -1 := fun q => by
  have h2 := congrArg Int32.toInt q
  rw [nI_toInt h] at h2
  have : (-1 : Int32).toInt = -1 := by decide +kernel
  omega
theorem z_firstOfWay {a c : Nat} {far : Int32} (hI : Inv w K b hx hm) (ha : a < K 0 0) (hc : c < K 0 0) (hn : 20 ≤ n) : fX5_firstOfWay n (RX w) 0 (nI a) (nI c) far hx = some (oI (ff (nxt1 K (b 0) a c far) (K 0 1) 0)) ∧ lX6_way_48 n RM 0 (nI a) (nI c) far 0 hm = some (oI (ff (nxt1 K (b 0) a c far) (K 0 1) 0)) := by
  obtain ⟨i1, i2, i3, i4, i5, i6, -⟩ := hI
  have hM10 := i1.2.1
  have hN := i1.1
  have hd31 := p31 i6.1 (show K 0 1 ≤ 31 by omega)
  have h22 : hm.1 (RM 0 22) 0 = nI (b 0) := i5 0 (by omega)
  constructor
  · unfold fX5_firstOfWay lX5_firstOfWay_3
    have e0 : ∀ i, i < K 0 1 → bX5_firstOfWay_3 n (RX w) 0 (nI a) (nI c) far (nI i) hx = if nxt1 K (b 0) a c far i = true then some (.inr (.inl (nI i))) else some (.inl (nI (i + 1))) := by
      intro i hi
      obtain ⟨e1, e2, e3, -⟩ := i2.2.2.2.1 i hi
      obtain ⟨g1, g2, g3, -⟩ := i1.2.2.2.1 i hi
      have hck : ∀ {q : Type} (x : Option q), ck (nI i) 10 x = x := fun x => z_ck (by omega) (by omega)
      have hor : 2 ^ K 1 i ||| 2 ^ K 2 i < 2 ^ 31 := p31 (or_lt (pw_lt g1) (pw_lt g2)) (by omega)
      have ej : ∀ o, o < K 0 0 → jX5_firstOfWay_84 n (RX w) 0 (nI a) (nI c) far (nI i) (nI o) hx = if oI (stp K (b 0) o c) = far - 1 then some (.inr (.inl (nI i))) else some (.inl (nI (i + 1))) := fun o ho => by
        unfold jX5_firstOfWay_84
        rw [rx01, rx03, i4.1, z_steps i2 i1 hd31 ho hc hn, Option.bind_some]
        simp only [lE, nI_1]
      unfold bX5_firstOfWay_3
      rw [rx01, rx03, i2.2.1, if_neg (nI_ge hi (by omega)), i4.1, z_has hd31 (by omega)]
      simp only [Option.bind_some, hck, nI_clamp (show i < 2 ^ 31 by omega), lE, nI_1]
      rw [e1, e2, e3, z_has hor (by omega), Option.bind_some, ej _ g1, ej _ g2]
      simp only [bI_0, Nat.testBit_or, Nat.testBit_two_pow, nI_eq (show a < 2 ^ 31 by omega) (show K 1 i < 2 ^ 31 by omega)]
      unfold nxt1
      cases (b 0).testBit i with
      | false => simp
      | true =>
        by_cases c1 : K 1 i = a
        · simp [c1]
        · have c1' : ¬ a = K 1 i := fun q => c1 q.symm
          by_cases c2 : K 2 i = a
          · simp [c1, c1', c2]
          · simp [c1, c1', c2]
    have k1 := it_find (b := fun (s : Int32) => bX5_firstOfWay_3 n (RX w) 0 (nI a) (nI c) far s hx) (fun i => nI i) (nxt1 K (b 0) a c far) (fun i => .inl (nI i)) (.inr ()) (K 0 1) (n := n) (by omega) (fun i hi hp => by rw [e0 i hi, if_neg (by rw [hp]; decide)]) (fun i hi hp => by rw [e0 i hi, if_pos hp]) (by
      show bX5_firstOfWay_3 n (RX w) 0 (nI a) (nI c) far (nI (K 0 1)) hx = _
      unfold bX5_firstOfWay_3
      rw [rx01, i2.2.1, if_pos (nI_le (Nat.le_refl _) (by omega))])
    rw [show (0 : Int32) = nI 0 from rfl, k1]
    cases ff (nxt1 K (b 0) a c far) (K 0 1) 0 <;> rfl
  · unfold lX6_way_48
    have e0 : ∀ i, i < K 0 1 → bX6_way_48 n RM 0 (nI a) (nI c) far (nI i) hm = if nxt1 K (b 0) a c far i = true then some (.inr (.inl (nI i))) else some (.inl (nI (i + 1))) := by
      intro i hi
      obtain ⟨f1, f2, -⟩ := i3.2.2.2.1 i hi
      obtain ⟨g1, g2, g3, -⟩ := i1.2.2.2.1 i hi
      have hk2 : ∀ {q : Type} (x : Option q), ck (nI (2 * i)) 20 x = x := fun x => z_ck (by omega) (by omega)
      have hk21 : ∀ {q : Type} (x : Option q), ck (nI (2 * i + 1)) 20 x = x := fun x => z_ck (by omega) (by omega)
      have ej : ∀ o, o < K 0 0 → jX6_way_112 n RM 0 (nI a) (nI c) far (nI i) (nI o) hm = if (b 0).testBit i = false then some (.inl (nI (i + 1))) else if oI (stp K (b 0) o c) = far - 1 then some (.inr (.inl (nI i))) else some (.inl (nI (i + 1))) := fun o ho => by
        unfold jX6_way_112
        rw [ck_0, cl_0, h22, z_hasM hd31 (by omega), Option.bind_some, z_wayOf i3 i1 h22 hd31 ho hc hn, Option.bind_some, if_neg (nI_m1 (by omega))]
        simp only [lE, nI_1, bI_0]
      have ej2 : jX6_way_112 n RM 0 (nI a) (nI c) far (nI i) (-1) hm = some (.inl (nI (i + 1))) := by
        unfold jX6_way_112
        rw [ck_0, cl_0, h22, z_hasM hd31 (by omega), Option.bind_some, if_pos (show (-1 : Int32) = -1 from rfl)]
        simp only [lE, nI_1]
        split <;> rfl
      unfold bX6_way_48
      rw [i3.2.1, if_neg (nI_ge hi (by omega))]
      simp only [nI_2, nI_1, hk2, hk21, nI_clamp (show 2 * i < 2 ^ 31 by omega), nI_clamp (show 2 * i + 1 < 2 ^ 31 by omega)]
      rw [f1, f2, ej _ g1, ej _ g2, ej2]
      simp only [nI_eq (show K 1 i < 2 ^ 31 by omega) (show a < 2 ^ 31 by omega), nI_eq (show K 2 i < 2 ^ 31 by omega) (show a < 2 ^ 31 by omega)]
      unfold nxt1
      cases (b 0).testBit i with
      | false => simp
      | true =>
        by_cases c1 : K 1 i = a
        · simp [c1]
        · by_cases c2 : K 2 i = a
          · simp [c1, c2]
          · simp [c1, c2]
    have k1 := it_find (b := fun (s : Int32) => bX6_way_48 n RM 0 (nI a) (nI c) far s hm) (fun i => nI i) (nxt1 K (b 0) a c far) (fun i => .inl (nI i)) (.inr ()) (K 0 1) (n := n) (by omega) (fun i hi hp => by rw [e0 i hi, if_neg (by rw [hp]; decide)]) (fun i hi hp => by rw [e0 i hi, if_pos hp]) (by
      show bX6_way_48 n RM 0 (nI a) (nI c) far (nI (K 0 1)) hm = _
      unfold bX6_way_48
      rw [i3.2.1, if_pos (nI_le (Nat.le_refl _) (by omega))])
    rw [show (0 : Int32) = nI 0 from rfl, k1]
    cases ff (nxt1 K (b 0) a c far) (K 0 1) 0 <;> rfl
theorem sim_way (hI : IV w hx hm) (x y z : Int32) (hn : 20 ≤ n) : Sim0 (fX5_way n (RX w) 0 x y z hx) (fX6_way n RM 0 x y z hm) := by
  obtain ⟨K, b, hI⟩ := hI
  have hI1 := hI
  obtain ⟨i1, i2, i3, i4, i5, i6, -⟩ := hI
  have hM10 := i1.2.1
  have hd31 := p31 i6.1 (show K 0 1 ≤ 31 by omega)
  unfold fX5_way fX6_way
  rw [z_within, z_in, rx01, rx03]
  rcases z_two (n := n) x y i2 i3 i1 with ⟨p, q, p1, q1, pq, rfl, rfl, e1, e2⟩ | ⟨e1, e2⟩
  · rw [e1, e2, i4.1, z_steps i2 i1 hd31 p1 q1 hn, z_wayOf i3 i1 (i5 0 (by omega)) hd31 p1 q1 hn]
    simp only [Option.bind_some, n10, if_false]
    rw [(z_firstOfWay (n := n) hI1 p1 q1 hn).1, (z_firstOfWay (n := n) hI1 p1 q1 hn).2]
    simp only [Option.bind_some]
    refine Sim0.ite (Sim0.rf _) ?_
    by_cases c1 : oI (stp K (b 0) p q) = -1
    · rw [if_pos c1, if_pos c1]
      by_cases c2 : z = 0
      · rw [if_pos c2]; exact Sim0.rf _
      · rw [if_neg c2]; exact Sim0.rf _
    · rw [if_neg c1, if_neg c1]
      exact Sim0.ite (Sim0.rf _) (Sim0.rf _)
  · rw [e1, e2]
    exact Sim0.rf _
theorem sim_farthest (hI : IV w hx hm) (x y : Int32) (hn : 20 ≤ n) : Sim0 (fX5_farthest n (RX w) 0 x y hx) (fX6_farthest n RM 0 x y hm) := by
  obtain ⟨K, b, i1, i2, i3, i4, i5, i6, -⟩ := hI
  have hM10 := i1.2.1
  have hN := i1.1
  have hd31 := p31 i6.1 (show K 0 1 ≤ 31 by omega)
  unfold fX5_farthest fX6_farthest
  rw [z_within, z_in, rx01]
  rcases z_is (n := n) x i2 i3 i1 with ⟨a, a1, rfl, a3, a4⟩ | ⟨a3, a4⟩
  · rw [a3, a4]
    simp only [Option.bind_some, n10, if_false]
    refine Sim0.ite (Sim0.rf _) ?_
    unfold lX5_farthest_34 lX6_farthest_31
    obtain ⟨z, u, e1, e2, rfl⟩ := it_two (b := fun (s : Int32 × Int32 × Int32) => bX5_farthest_34 n (RX w) 0 (nI a) y s.1 s.2.1 s.2.2 hx) (d := fun (s : Int32 × Int32 × Int32) => bX6_farthest_31 n RM 0 (nI a) y s.1 s.2.1 s.2.2 hm) (fun i p q => p = q ∧ ∃ u v, p = (u, v, nI i)) (fun z u => z = u) (K 0 0) (n := n) (m := n) (x := (nI a, 0, 0)) (y := (nI a, 0, 0)) (by omega) (by omega) ⟨rfl, _, _, rfl⟩ (by
      rintro i p q hi ⟨rfl, u, v, rfl⟩
      show (∃ z v', bX5_farthest_34 n (RX w) 0 (nI a) y u v (nI i) hx = _ ∧ bX6_farthest_31 n RM 0 (nI a) y u v (nI i) hm = _ ∧ _) ∨ (_ ∧ ∃ x' y', bX5_farthest_34 n (RX w) 0 (nI a) y u v (nI i) hx = _ ∧ bX6_farthest_31 n RM 0 (nI a) y u v (nI i) hm = _ ∧ _)
      unfold bX5_farthest_34 bX6_farthest_31 jX6_farthest_62
      rw [rx01, rx03, i2.1, i3.1, i4.1]
      by_cases c : i < K 0 0
      · right
        rw [if_neg (nI_ge c (by omega)), if_neg (nI_ge c (by omega)), z_steps i2 i1 hd31 a1 c hn, z_wayOf i3 i1 (i5 0 (by omega)) hd31 a1 c hn, Option.bind_some, Option.bind_some]
        simp only [lE, nI_1]
        by_cases c2 : oI (stp K (b 0) a i) ≤ v
        · rw [if_pos c2, if_pos c2, if_pos c2]
          exact ⟨c, _, _, rfl, rfl, rfl, _, _, rfl⟩
        · rw [if_neg c2, if_neg c2, if_neg c2]
          exact ⟨c, _, _, rfl, rfl, rfl, _, _, rfl⟩
      · left
        rw [if_pos (nI_le (by omega) (by omega)), if_pos (nI_le (by omega) (by omega))]
        exact ⟨_, _, rfl, rfl, rfl⟩)
    rw [e1, e2, Option.bind_some]
    exact Sim0.ite (Sim0.rf _) (Sim0.rf _)
  · rw [a3, a4]
    exact Sim0.rf _
end RD
