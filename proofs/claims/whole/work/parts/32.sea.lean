/-! ===== the text: every clause; then the sea ===== -/
section SEA
variable {w : Bool} {T : Nat → Nat} {k n p f : Nat} {h hx hm : Hp} {K : Kd} {b : Nat → Nat} {fa : Int32}
theorem z_clause (hS : St w T k K hx hm p) (hp : p < k) (hsk : sk T k p = p) (hT : TT T k) (hn : 300 ≤ n) : Res w T k hx hm (p + 1) (fX4_readClause n (RX w) 1 (dd w) hx) (fX6_readsClause n RM 0 hm) := by
  obtain ⟨hC, hH, hM, hR, hK⟩ := hS
  have hk := hT.1
  have hN := hK.1
  have hM10 := hK.2.1
  have hW := hK.2.2.1
  have ht := hT.2 p hp
  have C1 := hC.at (q := p + 1) (by omega)
  have M1 := hM.at (q := p + 1) (by omega)
  have H1 : Ch (RX w) (pI hx 1 2 (nI (p + 1))) (dd w) K := hH.d fr1
  have R1 : Cr (pI hm 0 2 (nI (p + 1))) K := hR.n fn2
  have S1 : St w T k K (pI hx 1 2 (nI (p + 1))) (pI hm 0 2 (nI (p + 1))) (p + 1) := ⟨C1, H1, M1, R1, hK⟩
  have lift : ∀ X Y, Res w T k (pI hx 1 2 (nI (p + 1))) (pI hm 0 2 (nI (p + 1))) (p + 1) X Y → Res w T k hx hm (p + 1) X Y := by
    rintro X Y ⟨hx', g, hm', e1, e2, e3, e4, e5⟩
    exact ⟨hx', g, hm', e1, e2, (toD fr1).tr e3, (toR fn2).tr e4, e5⟩
  have bad : ∀ kd, kd ≠ 0 → kd ≤ 4 → Res w T k hx hm (p + 1) ((fX4_fail n (RX w) 1 (nI kd) (nI p) (pI hx 1 2 (nI (p + 1)))).bind (fun h12 => some h12)) (bd2 (fX6_fails n RM 0 (nI kd) (nI p) (pI hm 0 2 (nI (p + 1)))) (fun (x10 : Int32) (h11 : Hp) => some (0, h11))) := by
    intro kd k1 k2
    obtain ⟨h', e1, e2, e3⟩ := z_fail0 (w := w) (n := n) C1 (kd := kd) (s := p) k2
    rw [e1, Option.bind_some]
    unfold fX6_fails
    simp only [lE, bd2_some]
    refine ⟨h', 0, _, rfl, rfl, (toD fr1).tr (toD e3), ((toR fn2).tr (toR fn4)).tr (toR fn2), Or.inr ⟨rfl, kd, p, _, k1, k2, e2, by rw [pI_nj (by decide), pI_eq], ⟨?_, pI_eq, fun i hi => ?_, by omega⟩⟩⟩
    · rw [pI_nj (by decide), pI_nj (by decide)]; exact M1.1
    · rw [pI_nk (by decide), pI_nk (by decide)]; exact M1.2.2.1 i hi
  have cb2 : ∀ X Y, Res w T k (pI hx 1 2 (nI (p + 1))) (pI hm 0 2 (nI (p + 1))) (p + 1) X Y → Res w T k hx hm (p + 1) (X.bind (fun h => some h)) (bd2 Y (fun (x : Int32) (h : Hp) => cb x (some (x, h)))) := by
    rintro X Y ⟨hx', g, hm', rfl, rfl, e3, e4, e5⟩
    refine ⟨hx', g, hm', rfl, ?_, (toD fr1).tr e3, (toR fn2).tr e4, e5⟩
    rcases e5 with ⟨rfl, -⟩ | ⟨rfl, -⟩ <;> rfl
  unfold fX4_readClause fX6_readsClause
  rw [z_next hM hT hn, hsk, hC.2.1]
  simp only [lE, bd2_some]
  have e2m : (pI hm 0 2 (nI p)).1 0 2 = nI p := pI_eq
  have e6m : (pI (pI hm 0 2 (nI p)) 0 2 (nI (p + 1))) = pI hm 0 2 (nI (p + 1)) := pI_pI
  rw [e2m, z_ck (by omega) (by omega), nI_clamp (by omega), rx10, hC.2.2.2.2.1 p hp, show ltr T k p = nI (T p) from if_pos hp, nI_1, e6m, z_there H1 hK, Option.bind_some, R1.1]
  have cq : ∀ x : Nat, x ≤ 255 → (nI (T p) = nI x ↔ T p = x) := fun x hx => nI_eq (by omega) (by omega)
  have c115 : (nI (T p) = 115) = (T p = 115) := propext (cq 115 (by omega))
  have c108 : (nI (T p) = 108) = (T p = 108) := propext (cq 108 (by omega))
  have c119 : (nI (T p) = 119) = (T p = 119) := propext (cq 119 (by omega))
  have e110 : jX6_readsClause_110 n RM 0 (nI p) (pI hm 0 2 (nI (p + 1))) = bd2 (fX6_fails n RM 0 (nI 1) (nI p) (pI hm 0 2 (nI (p + 1)))) (fun (x10 : Int32) (h11 : Hp) => some (0, h11)) := rfl
  have e155 : jX6_readsClause_155 n RM 0 (nI (T p)) (nI p) 1 (pI hm 0 2 (nI (p + 1))) = bd2 (fX6_fails n RM 0 (nI 3) (nI p) (pI hm 0 2 (nI (p + 1)))) (fun (x10 : Int32) (h11 : Hp) => some (0, h11)) := by
    unfold jX6_readsClause_155
    rw [if_neg n10]
    rfl
  have e123 : ∀ kd : Nat, jX4_readClause_123 n (RX w) 1 (dd w) (nI p) (nI kd) (pI hx 1 2 (nI (p + 1))) = (fX4_fail n (RX w) 1 (nI kd) (nI p) (pI hx 1 2 (nI (p + 1)))).bind (fun h12 => some h12) := fun kd => rfl
  have e1231 := e123 1
  have e1233 := e123 3
  rw [show nI 1 = (1 : Int32) from rfl] at e1231
  rw [show nI 3 = (3 : Int32) from rfl] at e1233
  by_cases c0 : K 0 0 = 0
  · rw [decide_eq_false (by simp [c0]), if_pos (show bI false = 0 from rfl)]
    simp only [c115]
    by_cases cs : T p = 115
    · rw [if_pos cs, if_pos cs, if_pos (show nI (K 0 0) = 0 by rw [c0]; rfl)]
      have := lift _ _ (z_islands (n := n) S1 c0 hT hn)
      obtain ⟨hx', g, hm', e1, e2, e3, e4, e5⟩ := this
      rw [e1, Option.bind_some]
      exact ⟨hx', g, hm', rfl, e2, e3, e4, e5⟩
    · rw [if_neg cs, if_neg cs]
      unfold jX6_readsClause_75 jX6_readsClause_98
      rw [R1.1, if_pos (show nI (K 0 0) = 0 by rw [c0]; rfl), if_pos rfl, if_neg n10, e110]
      have := bad 1 (by omega) (by omega)
      simp only [c108, c119, c115, if_neg cs]
      rw [show (if T p = 108 then bd2 (fX6_fails n RM 0 (nI 1) (nI p) (pI hm 0 2 (nI (p + 1)))) (fun (x10 : Int32) (h11 : Hp) => some ((0 : Int32), h11)) else if T p = 119 then bd2 (fX6_fails n RM 0 (nI 1) (nI p) (pI hm 0 2 (nI (p + 1)))) (fun (x10 : Int32) (h11 : Hp) => some ((0 : Int32), h11)) else bd2 (fX6_fails n RM 0 (nI 1) (nI p) (pI hm 0 2 (nI (p + 1)))) (fun (x10 : Int32) (h11 : Hp) => some ((0 : Int32), h11))) = bd2 (fX6_fails n RM 0 (nI 1) (nI p) (pI hm 0 2 (nI (p + 1)))) (fun (x10 : Int32) (h11 : Hp) => some ((0 : Int32), h11)) by split <;> (try split) <;> rfl]
      exact this
  · have ne0 : ¬ nI (K 0 0) = 0 := nI_ne0 (by omega) (by omega)
    rw [decide_eq_true c0, if_neg (show ¬ bI true = 0 by decide)]
    unfold jX6_readsClause_75 jX6_readsClause_98
    rw [R1.1, if_neg ne0, if_neg ne0, R1.2.1, R1.2.2.1, H1.2.1, e155, e110, if_neg n10, if_pos (show (0 : Int32) = 0 from rfl)]
    unfold jX4_readClause_78 jX4_readClause_99
    rw [H1.2.2.1, e1231, e1233]
    simp only [c115, c108, c119]
    by_cases cl : T p = 108
    · rw [if_pos cl, if_neg (show ¬ T p = 115 by omega), if_neg (show ¬ T p = 115 by omega), if_pos cl, if_neg (show ¬ T p = 115 by omega), if_neg (show ¬ T p = 119 by omega), if_neg (show ¬ T p = 119 by omega), if_pos cl]
      by_cases c10 : K 0 1 < 10
      · rw [if_neg (show ¬ (10 : Int32) ≤ nI (K 0 1) from nI_ge (b := 10) c10 (by omega)), if_neg (show ¬ nI (K 0 1) = 10 by rw [show (10 : Int32) = nI 10 from rfl, nI_eq (by omega) (by omega)]; omega)]
        unfold jX6_readsClause_155
        rw [if_pos rfl, if_pos (show nI (T p) = 108 by rw [cl]; rfl)]
        rw [if_neg (show ¬ T p = 115 by omega)]
        exact cb2 _ _ (z_linkC (n := n) S1 c0 c10 hT hn)
      · rw [if_pos (show (10 : Int32) ≤ nI (K 0 1) from nI_le (a := 10) (by omega) (by omega)), if_pos (show nI (K 0 1) = 10 by rw [show K 0 1 = 10 by omega]; rfl), if_neg (show ¬ T p = 115 by omega)]
        exact bad 3 (by omega) (by omega)
    · rw [if_neg cl]
      by_cases cw : T p = 119
      · rw [if_pos cw, if_neg (show ¬ T p = 115 by omega), if_neg (show ¬ T p = 115 by omega), if_neg cl, if_pos cw, if_neg (show ¬ T p = 115 by omega), if_pos cw, if_neg cl, if_pos cw]
        by_cases c2 : K 0 2 = 0
        · rw [if_pos (show nI (K 0 2) = 0 by rw [c2]; rfl), if_pos (show nI (K 0 2) ≤ 0 by rw [c2]; decide)]
          unfold jX6_readsClause_155
          rw [if_pos rfl, if_neg (show ¬ nI (T p) = 108 by rw [c108]; exact cl)]
          rw [if_neg (show ¬ T p = 115 by omega)]
          exact cb2 _ _ (z_winds (n := n) S1 c0 c2 hT hn)
        · rw [if_neg (nI_ne0 (by omega) (by omega)), if_neg (nI_nle (by omega) (by omega)), if_neg (show ¬ T p = 115 by omega)]
          exact bad 3 (by omega) (by omega)
      · rw [if_neg cw]
        by_cases cs : T p = 115
        · rw [if_pos cs, if_pos cs, if_pos cs, if_pos cs]
          exact bad 3 (by omega) (by omega)
        · rw [if_neg cs, if_neg cl, if_neg cw, if_neg cs, if_neg cs, if_neg cl, if_neg cw]
          exact bad 1 (by omega) (by omega)
end SEA
