/-! ===== tried: lasts, first, still, parts ===== -/
def pasN (K : Kd) (b : Nat → Nat) : Nat → Nat → Nat
  | 0 => b
  | i + 1 => pas K (pasN K b i)
theorem pasN_3 {K : Kd} {b : Nat → Nat} : ∀ i, pasN K b i 3 = b 3 + i := by
  intro i
  induction i with
  | zero => rfl
  | succ i ih => show pasN K b i 3 + 1 = _; rw [ih]; omega
theorem pasN_BB {K : Kd} {b : Nat → Nat} (hb : BB K b) (h3 : b 3 ≤ 90030) : ∀ i, i ≤ 300 → BB K (pasN K b i) := by
  intro i
  induction i with
  | zero => intro _; exact hb
  | succ i ih => intro hi; exact pas_BB (ih (by omega)) (by rw [pasN_3]; omega)
theorem it_findH {s q : Type} {b : s → Option (s ⊕ q)} (I : Nat → s → Prop) (P : Nat → Bool) (F : Nat → q → Prop) (N : q → Prop) (e : Nat) (hs : ∀ i x, i < e → I i x → P i = false → ∃ y, b x = some (.inl y) ∧ I (i + 1) y) (hp : ∀ i x, i < e → I i x → P i = true → ∃ z, b x = some (.inr z) ∧ F i z) (hx : ∀ x, I e x → ∃ z, b x = some (.inr z) ∧ N z) {n : Nat} {x : s} (hn : e < n) (h0 : I 0 x) : (∃ i, i < e ∧ ff P e 0 = some i ∧ ∃ z, it b n x = some z ∧ F i z) ∨ (ff P e 0 = none ∧ ∃ z, it b n x = some z ∧ N z) := by
  cases h : ff P e 0 with
  | none =>
    right
    refine ⟨rfl, ?_⟩
    refine it_from (b := b) I N e hn h0 (fun i x hi hI => ?_)
    by_cases c : i < e
    · right
      exact ⟨c, hs i x c hI (ff_none e 0 h i (by omega) (by omega))⟩
    · left
      have : i = e := by omega
      subst this
      exact hx x hI
  | some j =>
    obtain ⟨-, h2, h3, h4⟩ := ff_some e 0 j h
    left
    refine ⟨j, by omega, rfl, ?_⟩
    refine it_from (b := b) I (F j) j (by omega) h0 (fun i x hi hI => ?_)
    by_cases c : i < j
    · right
      exact ⟨c, hs i x (by omega) hI (h4 i (by omega) c)⟩
    · left
      have : i = j := by omega
      subst this
      exact hp i x (by omega) hI h3
section TR
variable {w : Bool} {K : Kd} {b : Nat → Nat} {hx hm : Hp} {n : Nat}
/-- the tried bonds alone have changed -/
theorem Inv.tri {hx' hm' : Hp} (hI : Inv w K b hx hm) (hF : Fr (fun a => a = 25 ∨ a = 26) hx hx') (hM : FrM (fun a => a = 13) (fun _ => False) hm hm') : Inv w K b hx' hm' := by
  obtain ⟨i1, i2, i3, i4, i5, i6, i7, i8, i9, i10, i11⟩ := hI
  exact ⟨i1, i2.frw hF (fun a ha q => by omega), i3.frm hM (fun a _ _ q => by omega) (fun _ _ _ q => q), i4.frw hF (by decide) (by decide), i5.frm hM (by decide), i6, i7, i8.fr hF hM (by decide) (by decide) (by decide) (fun q => q) (fun q => q), i9.fr hF hM (by decide) (by decide) (by decide) (fun q => q) (fun q => q), i10.fr hF hM (fun a _ _ q => by omega) (fun a _ _ q => by omega) (fun q => q) (fun q => q), i11.fr hF hM (by decide) (by decide) (by decide) (by decide) (by decide)⟩
theorem z_begin (hI : Inv w K b hx hm) : ∃ h', fX0_become n (RX w) 25 23 hx = some h' ∧ Bc (RX w) h' 25 b ∧ Fr (fun a => a = 25 ∨ a = 26) hx h' := by
  obtain ⟨h', e1, e2, e3⟩ := z_become (n := n) (k := 25) hI.2.2.2.1 (by decide) (by rw [rx230, rx250]; decide) (by rw [rx250]; decide) (by rw [rx250]; decide)
  rw [rx250] at e3
  exact ⟨h', e1, e2, e3⟩
theorem z_tp {h' : Hp} {c : Nat → Nat} (hI : Inv w K b hx hm) (hF : Fr (fun a => a = 25 ∨ a = 26) hx h') (hB : Bc (RX w) h' 25 c) (hb : BB K c) (hn : 20 ≤ n) : ∃ h2, fX0_passHour n (RX w) 25 (cc w) h' = some (nI (brs K c (wnd K (c 3)) (K 0 1)), h2) ∧ Bc (RX w) h2 25 (pas K c) ∧ Fr (fun a => a = 25 ∨ a = 26) hx h2 := by
  obtain ⟨h2, e1, e2, e3⟩ := z_pass (n := n) (hI.2.1.frw hF (fun a ha q => by omega)) hI.1 hB hb (ap_try w) hn
  rw [rx250] at e3
  exact ⟨h2, e1, e2, hF.tr e3⟩
theorem z_tpM {h' : Hp} {c : Nat → Nat} (hI : Inv w K b hx hm) (hF : Fr (fun a => a = 13) hm h') (hB : Bm h' 13 c) (hb : BB K c) (hn : 20 ≤ n) : ∃ h2, fX6_passes n RM 0 13 16 h' = some (oI (ff (brk K c (wnd K (c 3))) (K 0 1) 0), h2) ∧ Bm h2 13 (pas K c) ∧ Fr (fun a => a = 13) hm h2 := by
  obtain ⟨h2, e1, e2, e3⟩ := z_passes (n := n) (q := 13) (hI.2.2.1.frm (FrM.of (Q := fun _ => False) hF (by decide)) (fun a _ _ q => by omega) (fun _ _ _ q => q)) hI.1 hB hb ⟨by decide, fun j j1 j2 => by rcases (by omega : j = 17 ∨ j = 18 ∨ j = 19 ∨ j = 20 ∨ j = 21) with e | e | e | e | e <;> subst e <;> decide⟩ hn
  exact ⟨h2, e1, e2, hF.tr e3⟩
theorem z_copyNow (hI : Inv w K b hx hm) (hn : 20 ≤ n) : ∃ h', fX6_copyNow n RM 0 hm = some h' ∧ Bm h' 13 b ∧ Fr (fun a => a = 13) hm h' := by
  unfold fX6_copyNow lX6_copyNow_2
  obtain ⟨z, e1, e2, e3⟩ := it_from (b := fun (s : Int32 × Hp) => bX6_copyNow_2 n RM 0 s.1 s.2) (fun i s => ∃ h', s = (nI i, h') ∧ Fr (fun q => q = 13) hm h' ∧ ∀ j, j < i → h'.1 13 j = nI (b j)) (fun h' => Bm h' 13 b ∧ Fr (fun q => q = 13) hm h') 16 (n := n) (x := (0, hm)) (by omega) ⟨hm, rfl, Fr.rf, fun j hj => by omega⟩ (by
    intro i s hi ⟨h', hs, f1, f2⟩
    subst hs
    show (∃ z, bX6_copyNow_2 n RM 0 (nI i) h' = _ ∧ _) ∨ (_ ∧ ∃ y, bX6_copyNow_2 n RM 0 (nI i) h' = _ ∧ _)
    unfold bX6_copyNow_2
    by_cases ce : i < 16
    · right
      refine ⟨ce, ?_⟩
      rw [if_neg (by rw [show (16 : Int32) = nI 16 from rfl]; exact nI_ge ce (by omega)), rm22, rm23, z_ck ce (by omega), z_ck ce (by omega), nI_clamp (by omega), f1.2 12 (by decide), hI.2.2.2.2.1 i ce]
      simp only [lE, nI_1]
      refine ⟨_, rfl, pI h' 13 i (nI (b i)), rfl, f1.tr (Fr.pI rfl), fun j hj => ?_⟩
      by_cases e : j = i
      · subst e; rw [pI_eq]
      · rw [pI_nj (by omega)]; exact f2 j (by omega)
    · left
      have : i = 16 := by omega
      subst this
      rw [if_pos (by decide +kernel)]
      exact ⟨_, rfl, f2, f1⟩)
  exact ⟨z, by rw [e1]; rfl, e2, e3⟩
theorem z_tryHours {k : Nat} {h' : Hp} {c : Nat → Nat} (hI : Inv w K b hx hm) (hF : Fr (fun a => a = 25 ∨ a = 26) hx h') (hB : Bc (RX w) h' 25 c) (hb : BB K c) (h3 : c 3 ≤ 90030) (hk : k ≤ 250) (hn : 300 ≤ n) : ∃ h2, fX5_tryHours n (RX w) 0 (nI k) h' = some (nI (pasN K c k 0), h2) ∧ Fr (fun a => a = 25 ∨ a = 26) hx h2 := by
  unfold fX5_tryHours lX5_tryHours_2
  obtain ⟨z, e1, e2, e3⟩ := it_from (b := fun (s : Int32 × Hp) => bX5_tryHours_2 n (RX w) 0 (nI k) s.1 s.2) (fun i s => ∃ h', s = (nI i, h') ∧ Fr (fun a => a = 25 ∨ a = 26) hx h' ∧ Bc (RX w) h' 25 (pasN K c i)) (fun h' => Fr (fun a => a = 25 ∨ a = 26) hx h' ∧ Bc (RX w) h' 25 (pasN K c k)) k (n := n) (x := (0, h')) (by omega) ⟨h', rfl, hF, hB⟩ (by
    rintro i s hi ⟨h1, rfl, f1, f2⟩
    show (∃ z, bX5_tryHours_2 n (RX w) 0 (nI k) (nI i) h1 = _ ∧ _) ∨ (_ ∧ ∃ y, bX5_tryHours_2 n (RX w) 0 (nI k) (nI i) h1 = _ ∧ _)
    unfold bX5_tryHours_2
    by_cases ce : i < k
    · right
      refine ⟨ce, ?_⟩
      obtain ⟨h2, g1, g2, g3⟩ := z_tp (n := n) hI f1 f2 (pasN_BB hb h3 i (by omega)) (by omega)
      rw [if_neg (nI_ge ce (by omega)), rx04, rx01, g1]
      simp only [bd2_some, lE, nI_1]
      exact ⟨_, rfl, h2, rfl, g3, g2⟩
    · left
      have : i = k := by omega
      subst this
      rw [if_pos (nI_le (Nat.le_refl _) (by omega))]
      exact ⟨_, rfl, f1, f2⟩)
  rw [e1, Option.bind_some, rx04, e3.1]
  exact ⟨z, rfl, e2⟩
theorem z_doneUpBehind {k : Nat} (hI : Inv w K b hx hm) (hk : k ≤ 250) (hn : 300 ≤ n) : ∃ h', fX5_doneUpBehind n (RX w) 0 (nI k) hx = some (nI (pasN K b k 0), h') ∧ Fr (fun a => a = 25 ∨ a = 26) hx h' := by
  obtain ⟨h0, b1, b2, b3⟩ := z_begin (n := n) hI
  obtain ⟨h2, g1, g2⟩ := z_tryHours (n := n) (k := k) hI b3 b2 hI.2.2.2.2.2.1 hI.2.2.2.2.2.2.1 hk hn
  unfold fX5_doneUpBehind
  rw [rx03, rx04, b1, Option.bind_some, g1]
  exact ⟨h2, rfl, g2⟩
theorem z_doneBehind {k : Nat} (hI : Inv w K b hx hm) (hk : k ≤ 250) (hn : 300 ≤ n) : ∃ h', fX6_doneBehind n RM 0 (nI k) hm = some (nI (pasN K b k 0), h') ∧ Fr (fun a => a = 13) hm h' := by
  obtain ⟨h0, b1, b2, b3⟩ := z_copyNow (n := n) hI (by omega)
  unfold fX6_doneBehind lX6_doneBehind_6
  rw [b1, Option.bind_some]
  obtain ⟨z, e1, e2, e3⟩ := it_from (b := fun (s : Int32 × Hp) => bX6_doneBehind_6 n RM 0 (nI k) s.1 s.2) (fun i s => ∃ h', s = (nI i, h') ∧ Fr (fun a => a = 13) hm h' ∧ Bm h' 13 (pasN K b i)) (fun h' => Fr (fun a => a = 13) hm h' ∧ Bm h' 13 (pasN K b k)) k (n := n) (x := (0, h0)) (by omega) ⟨h0, rfl, b3, b2⟩ (by
    rintro i s hi ⟨h1, rfl, f1, f2⟩
    show (∃ z, bX6_doneBehind_6 n RM 0 (nI k) (nI i) h1 = _ ∧ _) ∨ (_ ∧ ∃ y, bX6_doneBehind_6 n RM 0 (nI k) (nI i) h1 = _ ∧ _)
    unfold bX6_doneBehind_6
    by_cases ce : i < k
    · right
      refine ⟨ce, ?_⟩
      obtain ⟨h2, g1, g2, g3⟩ := z_tpM (n := n) hI f1 f2 (pasN_BB hI.2.2.2.2.2.1 hI.2.2.2.2.2.2.1 i (by omega)) (by omega)
      rw [if_neg (nI_ge ce (by omega)), rm23, g1]
      simp only [bd2_some, lE, nI_1]
      exact ⟨_, rfl, h2, rfl, g3, g2⟩
    · left
      have : i = k := by omega
      subst this
      rw [if_pos (nI_le (Nat.le_refl _) (by omega))]
      exact ⟨_, rfl, f1, f2⟩)
  rw [e1, Option.bind_some, ck_0, cl_0, rm23, e3 0 (by omega)]
  exact ⟨z, rfl, e2⟩
theorem sim_still (hI : IV w hx hm) (x : Int32) (hn : 300 ≤ n) : Sim w (fX5_still n (RX w) 0 x hx) (fX6_still n RM 0 x hm) := by
  have hI0 := hI
  obtain ⟨K, b, hI⟩ := hI
  unfold fX5_still fX6_still
  rw [z_within, z_in, Option.bind_some, Option.bind_some]
  rcases z_win x 0 60 (by omega) (by omega) with ⟨j, j1, j2, rfl, j4⟩ | j4
  · obtain ⟨x1, e1, e2⟩ := z_doneUpBehind (n := n) (k := j) hI (by omega) hn
    obtain ⟨m1, f1, f2⟩ := z_doneBehind (n := n) (k := j) hI (by omega) hn
    rw [show decide ((0 : Int32) ≤ nI j ∧ nI j ≤ 60) = true from j4, e1, f1]
    simp only [bI, if_true, n10, if_false, bd2_some]
    exact ⟨_, _, _, rfl, rfl, K, b, hI.tri e2 (FrM.of f2 (by decide))⟩
  · rw [show decide ((0 : Int32) ≤ x ∧ x ≤ 60) = false from j4]
    exact Sim.no hI0 _
theorem sim_parts (hI : IV w hx hm) (x : Int32) (hn : 300 ≤ n) : Sim w (fX5_parts n (RX w) 0 x hx) (fX6_parts n RM 0 x hm) := by
  have hI0 := hI
  obtain ⟨K, b, hI⟩ := hI
  unfold fX5_parts fX6_parts
  rw [z_within, z_in, Option.bind_some, Option.bind_some]
  rcases z_win x 0 60 (by omega) (by omega) with ⟨j, j1, j2, rfl, j4⟩ | j4
  · obtain ⟨x1, e1, e2⟩ := z_doneUpBehind (n := n) (k := j) hI (by omega) hn
    obtain ⟨m1, f1, f2⟩ := z_doneBehind (n := n) (k := j) hI (by omega) hn
    have hJ := hI.tri e2 (FrM.of (Q := fun _ => False) f2 (by decide))
    have hlt := p31 (pasN_BB hI.2.2.2.2.2.1 hI.2.2.2.2.2.2.1 j (by omega)).1 (show K 0 1 ≤ 31 by have := hI.1.2.1; omega)
    rw [show decide ((0 : Int32) ≤ nI j ∧ nI j ≤ 60) = true from j4, e1, f1]
    simp only [bI, if_true, n10, if_false, bd2_some]
    rw [rx01, z_partsBy hJ.2.1 hJ.1 hlt (by omega), z_partsOf hJ.2.2.1 hJ.1 hlt (by omega)]
    exact ⟨_, _, _, rfl, rfl, K, b, hJ⟩
  · rw [show decide ((0 : Int32) ≤ x ∧ x ≤ 60) = false from j4]
    exact Sim.no hI0 _
/-- the links that break in the hour behind i more -/
def bkN (K : Kd) (b : Nat → Nat) (i l : Nat) : Bool := brk K (pasN K b i) (wnd K (pasN K b i 3)) l
theorem pas_0 {K : Kd} {c : Nat → Nat} {l : Nat} (hl : l < K 0 1) : (pas K c 0).testBit l = ((c 0).testBit l && !brk K c (wnd K (c 3)) l) := by
  show (wo (c 0) _).testBit l = _
  rw [wo_tb, brs_tb]
  simp [hl]
theorem and_pow {m l : Nat} : m &&& 2 ^ l = 0 ↔ m.testBit l = false := by
  constructor
  · intro h
    have : (m &&& 2 ^ l).testBit l = false := by rw [h]; exact Nat.zero_testBit l
    rw [Nat.testBit_and, Nat.testBit_two_pow_self, Bool.and_true] at this
    exact this
  · intro h
    apply Nat.eq_of_testBit_eq
    intro i
    rw [Nat.testBit_and, Nat.testBit_two_pow, Nat.zero_testBit]
    by_cases c : l = i
    · subst c; simp [h]
    · simp [c]
theorem z_until {set : Nat} (P : Nat → Bool) (hI : Inv w K b hx hm) (hs : set < 2 ^ (K 0 1)) (hP : ∀ i, i < 200 → (brs K (pasN K b i) (wnd K (pasN K b i 3)) (K 0 1) &&& set = 0 ↔ P i = false)) (hn : 300 ≤ n) : ∃ h', fX5_hoursUntilBreak n (RX w) 0 (nI set) hx = some (oI ((ff P 200 0).map (· + 1)), h') ∧ Fr (fun a => a = 25 ∨ a = 26) hx h' := by
  have hM10 := hI.1.2.1
  obtain ⟨h0, b1, b2, b3⟩ := z_begin (n := n) hI
  unfold fX5_hoursUntilBreak lX5_hoursUntilBreak_13
  rw [rx03, rx04, b1, Option.bind_some]
  have step : ∀ i h1, i < 200 → Fr (fun a => a = 25 ∨ a = 26) hx h1 → Bc (RX w) h1 25 (pasN K b i) → ∃ h2, bX5_hoursUntilBreak_13 n (RX w) 0 (nI set) (nI (i + 1)) h1 = (if P i = false then some (.inl (nI (i + 2), h2)) else some (.inr (.inl (nI (i + 1), h2)))) ∧ Fr (fun a => a = 25 ∨ a = 26) hx h2 ∧ Bc (RX w) h2 25 (pasN K b (i + 1)) := by
    intro i h1 hi f1 f2
    obtain ⟨h2, g1, g2, g3⟩ := z_tp (n := n) hI f1 f2 (pasN_BB hI.2.2.2.2.2.1 hI.2.2.2.2.2.2.1 i (by omega)) (by omega)
    refine ⟨h2, ?_, g3, g2⟩
    unfold bX5_hoursUntilBreak_13
    rw [if_neg (show ¬ (200 : Int32) < nI (i + 1) from nI_nlt (a := 200) (by omega) (by omega)), rx04, rx01, g1]
    simp only [bd2_some, lE, nI_1, z_and]
    have hlt : brs K (pasN K b i) (wnd K (pasN K b i 3)) (K 0 1) &&& set < 2 ^ 31 := Nat.lt_of_le_of_lt Nat.and_le_right (p31 hs (by omega))
    by_cases c : P i = false
    · rw [if_pos c, if_pos (by rw [(hP i hi).mpr c]; rfl)]
    · rw [if_neg c, if_neg (by rw [show (0 : Int32) = nI 0 from rfl, nI_eq hlt (by omega), hP i hi]; exact c)]
  rcases it_findH (b := fun (s : Int32 × Hp) => bX5_hoursUntilBreak_13 n (RX w) 0 (nI set) s.1 s.2) (fun i s => ∃ h', s = (nI (i + 1), h') ∧ Fr (fun a => a = 25 ∨ a = 26) hx h' ∧ Bc (RX w) h' 25 (pasN K b i)) P (fun i z => ∃ h', z = .inl (nI (i + 1), h') ∧ Fr (fun a => a = 25 ∨ a = 26) hx h') (fun z => ∃ h', z = .inr h' ∧ Fr (fun a => a = 25 ∨ a = 26) hx h') 200 (by
      rintro i x hi ⟨h1, rfl, f1, f2⟩ hp
      obtain ⟨h2, g1, g2, g3⟩ := step i h1 hi f1 f2
      rw [if_pos hp] at g1
      exact ⟨_, g1, h2, rfl, g2, g3⟩) (by
      rintro i x hi ⟨h1, rfl, f1, f2⟩ hp
      obtain ⟨h2, g1, g2, g3⟩ := step i h1 hi f1 f2
      rw [if_neg (by rw [hp]; decide)] at g1
      exact ⟨_, g1, h2, rfl, g2⟩) (by
      rintro x ⟨h1, rfl, f1, f2⟩
      refine ⟨_, ?_, h1, rfl, f1⟩
      show bX5_hoursUntilBreak_13 n (RX w) 0 (nI set) (nI (200 + 1)) h1 = _
      unfold bX5_hoursUntilBreak_13
      rw [if_pos (by decide +kernel)]) (n := n) (x := (1, h0)) (by omega) ⟨h0, rfl, b3, b2⟩ with ⟨i, i1, i2, z, e1, h', rfl, e3⟩ | ⟨i2, z, e1, h', rfl, e3⟩
  · rw [e1, i2]
    exact ⟨h', rfl, e3⟩
  · rw [e1, i2]
    exact ⟨h', rfl, e3⟩
theorem sim_lasts (hI : IV w hx hm) (x : Int32) (hn : 300 ≤ n) : Sim w (fX5_lasts n (RX w) 0 x hx) (fX6_lasts n RM 0 x hm) := by
  have hI0 := hI
  obtain ⟨K, b, hI⟩ := hI
  have hM10 := hI.1.2.1
  have hd31 := p31 hI.2.2.2.2.2.1.1 (show K 0 1 ≤ 31 by omega)
  unfold fX5_lasts fX6_lasts
  rw [rx01]
  rcases z_lk (n := n) x hI.2.1 hI.2.2.1 hI.1 with ⟨l, l1, rfl, l3, l4⟩ | ⟨l3, l4⟩
  · obtain ⟨x1, e1, e2⟩ := z_until (n := n) (set := 2 ^ l) (fun i => bkN K b i l) hI (pw_lt l1) (fun i hi => by rw [and_pow, brs_tb]; simp [l1, bkN]) hn
    obtain ⟨h0, b1, b2, b3⟩ := z_copyNow (n := n) hI (by omega)
    rw [l3, l4, z_shl (by omega), e1, b1]
    simp only [Option.bind_some, n10, if_false, bd2_some]
    unfold lX6_lasts_17
    by_cases cd : (b 0).testBit l = true
    · have step : ∀ i h1, i < 200 → Fr (fun a => a = 13) hm h1 → Bm h1 13 (pasN K b i) → (pasN K b i 0).testBit l = true → ∃ h2, bX6_lasts_17 n RM 0 (nI l) (nI (i + 1)) h1 = (if bkN K b i l = false then some (.inl (nI (i + 2), h2)) else some (.inr (.inl (nI (i + 1), h2)))) ∧ Fr (fun a => a = 13) hm h2 ∧ Bm h2 13 (pasN K b (i + 1)) ∧ (bkN K b i l = false → (pasN K b (i + 1) 0).testBit l = true) := by
        intro i h1 hi f1 f2 f3
        have hbb := pasN_BB hI.2.2.2.2.2.1 hI.2.2.2.2.2.2.1 i (by omega)
        have hb2 := pasN_BB hI.2.2.2.2.2.1 hI.2.2.2.2.2.2.1 (i + 1) (by omega)
        obtain ⟨h2, g1, g2, g3⟩ := z_tpM (n := n) hI f1 f2 hbb (by omega)
        have hbit : (pasN K b (i + 1) 0).testBit l = !bkN K b i l := by
          show (pas K (pasN K b i) 0).testBit l = _
          rw [pas_0 l1, f3]; rfl
        refine ⟨h2, ?_, g3, g2, fun hq => by rw [hbit, hq]; rfl⟩
        unfold bX6_lasts_17
        rw [if_neg (show ¬ (200 : Int32) < nI (i + 1) from nI_nlt (a := 200) (by omega) (by omega)), ck_0, cl_0, rm22, rm23, f1.2 12 (by decide), hI.2.2.2.2.1 0 (by omega), z_hasM hd31 (by omega), Option.bind_some, cd, if_neg (by decide), g1]
        simp only [bd2_some, ck_0, cl_0]
        have : h2.1 13 0 = nI (pasN K b (i + 1) 0) := g2 0 (by omega)
        rw [this, z_hasM (p31 hb2.1 (by omega)) (by omega), Option.bind_some, hbit]
        simp only [lE, nI_1]
        cases bkN K b i l <;> rfl
      rcases it_findH (b := fun (s : Int32 × Hp) => bX6_lasts_17 n RM 0 (nI l) s.1 s.2) (fun i s => ∃ h', s = (nI (i + 1), h') ∧ Fr (fun a => a = 13) hm h' ∧ Bm h' 13 (pasN K b i) ∧ (pasN K b i 0).testBit l = true) (fun i => bkN K b i l) (fun i z => ∃ h', z = .inl (nI (i + 1), h') ∧ Fr (fun a => a = 13) hm h') (fun z => ∃ h', z = .inr h' ∧ Fr (fun a => a = 13) hm h') 200 (by
          rintro i x hi ⟨h1, rfl, f1, f2, f3⟩ hp
          obtain ⟨h2, g1, g2, g3, g4⟩ := step i h1 hi f1 f2 f3
          rw [if_pos hp] at g1
          exact ⟨_, g1, h2, rfl, g2, g3, g4 hp⟩) (by
          rintro i x hi ⟨h1, rfl, f1, f2, f3⟩ hp
          obtain ⟨h2, g1, g2, g3, g4⟩ := step i h1 hi f1 f2 f3
          rw [if_neg (by rw [hp]; decide)] at g1
          exact ⟨_, g1, h2, rfl, g2⟩) (by
          rintro x ⟨h1, rfl, f1, f2, f3⟩
          refine ⟨_, ?_, h1, rfl, f1⟩
          show bX6_lasts_17 n RM 0 (nI l) (nI (200 + 1)) h1 = _
          unfold bX6_lasts_17
          rw [if_pos (by decide +kernel)]) (n := n) (x := (1, h0)) (by omega) ⟨h0, rfl, b3, b2, cd⟩ with ⟨i, i1, i2, z, f1, h', rfl, f3⟩ | ⟨i2, z, f1, h', rfl, f3⟩
      · rw [f1, i2]
        exact ⟨_, _, _, rfl, rfl, K, b, hI.tri e2 (FrM.of f3 (by decide))⟩
      · rw [f1, i2]
        exact ⟨_, _, _, rfl, rfl, K, b, hI.tri e2 (FrM.of f3 (by decide))⟩
    · have cd : (b 0).testBit l = false := by simpa using cd
      have hz : ∀ i, (pasN K b i 0).testBit l = false := by
        intro i
        induction i with
        | zero => exact cd
        | succ i ih => show (pas K (pasN K b i) 0).testBit l = _; rw [pas_0 l1, ih]; rfl
      have hff : ff (fun i => bkN K b i l) 200 0 = none := ff_no (fun i hi => by unfold bkN brk; rw [hz i]; rfl)
      have f1 : it (fun (s : Int32 × Hp) => bX6_lasts_17 n RM 0 (nI l) s.1 s.2) n (1, h0) = some (.inr h0) := by
        refine it_val (b := fun (s : Int32 × Hp) => bX6_lasts_17 n RM 0 (nI l) s.1 s.2) (fun _ => (1, h0)) (.inr h0) 0 (n := n) (by omega) (fun i hi => by omega) ?_
        show bX6_lasts_17 n RM 0 (nI l) 1 h0 = _
        unfold bX6_lasts_17
        rw [if_neg (by decide +kernel), ck_0, cl_0, rm22, b3.2 12 (by decide), hI.2.2.2.2.1 0 (by omega), z_hasM hd31 (by omega), Option.bind_some, cd, if_pos (by decide)]
      rw [f1, hff]
      exact ⟨_, _, _, rfl, rfl, K, b, hI.tri e2 (FrM.of b3 (by decide))⟩
  · rw [l3, l4]
    exact Sim.no hI0 _
end TR
