/-! ===== the law: its cases ===== -/
section LAWC20
variable {p : Program} {l : Launch} {e : Env} {s : State} {m : MethodId} {below : List Frame} {meth : Method} {c : Code} {b L : Nat} {xs : Nat → Int32} {Q : State → Prop} {X Y : Cx} {D : va_G} {H : Heap} {locs : List Jvm.Loc} {ls : Array Slot} {i n : Nat} {w : Bool} {hx hm : Hp}
theorem lc_together (B : LB p s m c b L xs) (hi : i + 4 ≤ L ∧ L ≤ 256) (hn : 1100 ≤ n) (st : LSt s D X Y H locs w hx hm) (hl : lv_has ls 4 (LL b X Y i)) (kk : ∀ (w : Bool) (hx hm : Hp) (H : Heap) (locs : List Jvm.Loc), LSt s D X Y H locs w hx hm → W p l e room_1 s m #[Value.ref b] below meth c H locs 58 2078 Q (F0 m 1223 ls [])) : W p l e room_1 s m #[Value.ref b] below meth c H locs 58 2078 Q (F0 m 690 ls []) := by
  obtain ⟨w1, w2, dj, iv⟩ := st
  obtain ⟨o, e1, e2⟩ := sim_together (n := n) iv (xs (i + 1)) (Nat.le_trans (by decide) hn)
  refine lv_aload_n B.1 B.2.1 dL_law_690 rfl (lv_at hl 1 rfl) ?_
  refine la_arg 1 B w1.2.2.2.1 hl hi (by decide) dL_law_691 dL_law_692 dL_law_693 dL_law_694 dL_law_695 ?_
  refine la_call (As := [.int (xs (i + 1))]) (n := 1) (st := []) (v := o) (h' := hx) (r' := RX w) B w1 w2 dj (kX5_together (wfx w) rfl e1) gL_law_X5_together rfl ⟨rfl, rfl⟩ ⟨rfl, hdX5_together⟩ ⟨Nat.le_of_ble_eq_true rfl, Nat.le_of_ble_eq_true rfl⟩ cf5 rfl rfl rfl hl.1 rfl (Nat.le_of_ble_eq_true rfl) dL_law_696 (fun H1 locs1 w1 w2 => ?_)
  refine lv_aload_n B.1 B.2.1 dL_law_699 rfl (lv_at hl 2 rfl) ?_
  refine la_arg 1 B w1.2.2.2.1 hl hi (by decide) dL_law_700 dL_law_701 dL_law_702 dL_law_703 dL_law_704 ?_
  refine la_call (As := [.int (xs (i + 1))]) (n := 1) (st := [.int o]) (v := o) (h' := hm) (r' := RM) B w2 w1 dj.sy (kX6_together wfm rfl e2) gL_law_X6_together rfl ⟨rfl, rfl⟩ ⟨rfl, hdX6_together⟩ ⟨Nat.le_of_ble_eq_true rfl, Nat.le_of_ble_eq_true rfl⟩ cf6 rfl rfl rfl hl.1 rfl (Nat.le_of_ble_eq_true rfl) dL_law_705 (fun H2 locs2 w2 w1 => ?_)
  refine la_eq B dL_law_708 (by decide) ?_
  exact kk w hx hm H2 locs2 ⟨w1, w2, dj, iv⟩
theorem lc_between (B : LB p s m c b L xs) (hi : i + 4 ≤ L ∧ L ≤ 256) (hn : 1100 ≤ n) (st : LSt s D X Y H locs w hx hm) (hl : lv_has ls 4 (LL b X Y i)) (kk : ∀ (w : Bool) (hx hm : Hp) (H : Heap) (locs : List Jvm.Loc), LSt s D X Y H locs w hx hm → W p l e room_1 s m #[Value.ref b] below meth c H locs 58 2078 Q (F0 m 1223 ls [])) : W p l e room_1 s m #[Value.ref b] below meth c H locs 58 2078 Q (F0 m 713 ls []) := by
  obtain ⟨w1, w2, dj, iv⟩ := st
  obtain ⟨o, e1, e2⟩ := sim_between (n := n) iv (xs (i + 1)) (xs (i + 2)) (xs (i + 3)) (Nat.le_trans (by decide) hn)
  refine lv_aload_n B.1 B.2.1 dL_law_713 rfl (lv_at hl 1 rfl) ?_
  refine la_arg 1 B w1.2.2.2.1 hl hi (by decide) dL_law_714 dL_law_715 dL_law_716 dL_law_717 dL_law_718 ?_
  refine la_arg 2 B w1.2.2.2.1 hl hi (by decide) dL_law_719 dL_law_720 dL_law_721 dL_law_722 dL_law_723 ?_
  refine la_arg 3 B w1.2.2.2.1 hl hi (by decide) dL_law_724 dL_law_725 dL_law_726 dL_law_727 dL_law_728 ?_
  refine la_call (As := [.int (xs (i + 1)), .int (xs (i + 2)), .int (xs (i + 3))]) (n := 3) (st := []) (v := o) (h' := hx) (r' := RX w) B w1 w2 dj (kX5_between (wfx w) rfl e1) gL_law_X5_between rfl ⟨rfl, rfl⟩ ⟨rfl, hdX5_between⟩ ⟨Nat.le_of_ble_eq_true rfl, Nat.le_of_ble_eq_true rfl⟩ cf5 rfl rfl rfl hl.1 rfl (Nat.le_of_ble_eq_true rfl) dL_law_729 (fun H1 locs1 w1 w2 => ?_)
  refine lv_aload_n B.1 B.2.1 dL_law_732 rfl (lv_at hl 2 rfl) ?_
  refine la_arg 1 B w1.2.2.2.1 hl hi (by decide) dL_law_733 dL_law_734 dL_law_735 dL_law_736 dL_law_737 ?_
  refine la_arg 2 B w1.2.2.2.1 hl hi (by decide) dL_law_738 dL_law_739 dL_law_740 dL_law_741 dL_law_742 ?_
  refine la_arg 3 B w1.2.2.2.1 hl hi (by decide) dL_law_743 dL_law_744 dL_law_745 dL_law_746 dL_law_747 ?_
  refine la_call (As := [.int (xs (i + 1)), .int (xs (i + 2)), .int (xs (i + 3))]) (n := 3) (st := [.int o]) (v := o) (h' := hm) (r' := RM) B w2 w1 dj.sy (kX6_between wfm rfl e2) gL_law_X6_between rfl ⟨rfl, rfl⟩ ⟨rfl, hdX6_between⟩ ⟨Nat.le_of_ble_eq_true rfl, Nat.le_of_ble_eq_true rfl⟩ cf6 rfl rfl rfl hl.1 rfl (Nat.le_of_ble_eq_true rfl) dL_law_748 (fun H2 locs2 w2 w1 => ?_)
  refine la_eq B dL_law_751 (by decide) ?_
  exact kk w hx hm H2 locs2 ⟨w1, w2, dj, iv⟩
theorem lc_way (B : LB p s m c b L xs) (hi : i + 4 ≤ L ∧ L ≤ 256) (hn : 1100 ≤ n) (st : LSt s D X Y H locs w hx hm) (hl : lv_has ls 4 (LL b X Y i)) (kk : ∀ (w : Bool) (hx hm : Hp) (H : Heap) (locs : List Jvm.Loc), LSt s D X Y H locs w hx hm → W p l e room_1 s m #[Value.ref b] below meth c H locs 58 2078 Q (F0 m 1223 ls [])) : W p l e room_1 s m #[Value.ref b] below meth c H locs 58 2078 Q (F0 m 756 ls []) := by
  obtain ⟨w1, w2, dj, iv⟩ := st
  obtain ⟨o, e1, e2⟩ := sim_way (n := n) iv (xs (i + 1)) (xs (i + 2)) (xs (i + 3)) (Nat.le_trans (by decide) hn)
  refine lv_aload_n B.1 B.2.1 dL_law_756 rfl (lv_at hl 1 rfl) ?_
  refine la_arg 1 B w1.2.2.2.1 hl hi (by decide) dL_law_757 dL_law_758 dL_law_759 dL_law_760 dL_law_761 ?_
  refine la_arg 2 B w1.2.2.2.1 hl hi (by decide) dL_law_762 dL_law_763 dL_law_764 dL_law_765 dL_law_766 ?_
  refine la_arg 3 B w1.2.2.2.1 hl hi (by decide) dL_law_767 dL_law_768 dL_law_769 dL_law_770 dL_law_771 ?_
  refine la_call (As := [.int (xs (i + 1)), .int (xs (i + 2)), .int (xs (i + 3))]) (n := 3) (st := []) (v := o) (h' := hx) (r' := RX w) B w1 w2 dj (kX5_way (wfx w) rfl e1) gL_law_X5_way rfl ⟨rfl, rfl⟩ ⟨rfl, hdX5_way⟩ ⟨Nat.le_of_ble_eq_true rfl, Nat.le_of_ble_eq_true rfl⟩ cf5 rfl rfl rfl hl.1 rfl (Nat.le_of_ble_eq_true rfl) dL_law_772 (fun H1 locs1 w1 w2 => ?_)
  refine lv_aload_n B.1 B.2.1 dL_law_775 rfl (lv_at hl 2 rfl) ?_
  refine la_arg 1 B w1.2.2.2.1 hl hi (by decide) dL_law_776 dL_law_777 dL_law_778 dL_law_779 dL_law_780 ?_
  refine la_arg 2 B w1.2.2.2.1 hl hi (by decide) dL_law_781 dL_law_782 dL_law_783 dL_law_784 dL_law_785 ?_
  refine la_arg 3 B w1.2.2.2.1 hl hi (by decide) dL_law_786 dL_law_787 dL_law_788 dL_law_789 dL_law_790 ?_
  refine la_call (As := [.int (xs (i + 1)), .int (xs (i + 2)), .int (xs (i + 3))]) (n := 3) (st := [.int o]) (v := o) (h' := hm) (r' := RM) B w2 w1 dj.sy (kX6_way wfm rfl e2) gL_law_X6_way rfl ⟨rfl, rfl⟩ ⟨rfl, hdX6_way⟩ ⟨Nat.le_of_ble_eq_true rfl, Nat.le_of_ble_eq_true rfl⟩ cf6 rfl rfl rfl hl.1 rfl (Nat.le_of_ble_eq_true rfl) dL_law_791 (fun H2 locs2 w2 w1 => ?_)
  refine la_eq B dL_law_794 (by decide) ?_
  exact kk w hx hm H2 locs2 ⟨w1, w2, dj, iv⟩
theorem lc_widest (B : LB p s m c b L xs) (hi : i + 4 ≤ L ∧ L ≤ 256) (hn : 1100 ≤ n) (st : LSt s D X Y H locs w hx hm) (hl : lv_has ls 4 (LL b X Y i)) (kk : ∀ (w : Bool) (hx hm : Hp) (H : Heap) (locs : List Jvm.Loc), LSt s D X Y H locs w hx hm → W p l e room_1 s m #[Value.ref b] below meth c H locs 58 2078 Q (F0 m 1223 ls [])) : W p l e room_1 s m #[Value.ref b] below meth c H locs 58 2078 Q (F0 m 799 ls []) := by
  obtain ⟨w1, w2, dj, iv⟩ := st
  obtain ⟨o, e1, e2⟩ := sim_widest (n := n) iv (xs (i + 1)) (xs (i + 2)) (Nat.le_trans (by decide) hn)
  refine lv_aload_n B.1 B.2.1 dL_law_799 rfl (lv_at hl 1 rfl) ?_
  refine la_arg 1 B w1.2.2.2.1 hl hi (by decide) dL_law_800 dL_law_801 dL_law_802 dL_law_803 dL_law_804 ?_
  refine la_arg 2 B w1.2.2.2.1 hl hi (by decide) dL_law_805 dL_law_806 dL_law_807 dL_law_808 dL_law_809 ?_
  refine la_call (As := [.int (xs (i + 1)), .int (xs (i + 2))]) (n := 2) (st := []) (v := o) (h' := hx) (r' := RX w) B w1 w2 dj (kX5_widest (wfx w) rfl e1) gL_law_X5_widest rfl ⟨rfl, rfl⟩ ⟨rfl, hdX5_widest⟩ ⟨Nat.le_of_ble_eq_true rfl, Nat.le_of_ble_eq_true rfl⟩ cf5 rfl rfl rfl hl.1 rfl (Nat.le_of_ble_eq_true rfl) dL_law_810 (fun H1 locs1 w1 w2 => ?_)
  refine lv_aload_n B.1 B.2.1 dL_law_813 rfl (lv_at hl 2 rfl) ?_
  refine la_arg 1 B w1.2.2.2.1 hl hi (by decide) dL_law_814 dL_law_815 dL_law_816 dL_law_817 dL_law_818 ?_
  refine la_arg 2 B w1.2.2.2.1 hl hi (by decide) dL_law_819 dL_law_820 dL_law_821 dL_law_822 dL_law_823 ?_
  refine la_call (As := [.int (xs (i + 1)), .int (xs (i + 2))]) (n := 2) (st := [.int o]) (v := o) (h' := hm) (r' := RM) B w2 w1 dj.sy (kX6_widest wfm rfl e2) gL_law_X6_widest rfl ⟨rfl, rfl⟩ ⟨rfl, hdX6_widest⟩ ⟨Nat.le_of_ble_eq_true rfl, Nat.le_of_ble_eq_true rfl⟩ cf6 rfl rfl rfl hl.1 rfl (Nat.le_of_ble_eq_true rfl) dL_law_824 (fun H2 locs2 w2 w1 => ?_)
  refine la_eq B dL_law_827 (by decide) ?_
  exact kk w hx hm H2 locs2 ⟨w1, w2, dj, iv⟩
theorem lc_farthest (B : LB p s m c b L xs) (hi : i + 4 ≤ L ∧ L ≤ 256) (hn : 1100 ≤ n) (st : LSt s D X Y H locs w hx hm) (hl : lv_has ls 4 (LL b X Y i)) (kk : ∀ (w : Bool) (hx hm : Hp) (H : Heap) (locs : List Jvm.Loc), LSt s D X Y H locs w hx hm → W p l e room_1 s m #[Value.ref b] below meth c H locs 58 2078 Q (F0 m 1223 ls [])) : W p l e room_1 s m #[Value.ref b] below meth c H locs 58 2078 Q (F0 m 832 ls []) := by
  obtain ⟨w1, w2, dj, iv⟩ := st
  obtain ⟨o, e1, e2⟩ := sim_farthest (n := n) iv (xs (i + 1)) (xs (i + 2)) (Nat.le_trans (by decide) hn)
  refine lv_aload_n B.1 B.2.1 dL_law_832 rfl (lv_at hl 1 rfl) ?_
  refine la_arg 1 B w1.2.2.2.1 hl hi (by decide) dL_law_833 dL_law_834 dL_law_835 dL_law_836 dL_law_837 ?_
  refine la_arg 2 B w1.2.2.2.1 hl hi (by decide) dL_law_838 dL_law_839 dL_law_840 dL_law_841 dL_law_842 ?_
  refine la_call (As := [.int (xs (i + 1)), .int (xs (i + 2))]) (n := 2) (st := []) (v := o) (h' := hx) (r' := RX w) B w1 w2 dj (kX5_farthest (wfx w) rfl e1) gL_law_X5_farthest rfl ⟨rfl, rfl⟩ ⟨rfl, hdX5_farthest⟩ ⟨Nat.le_of_ble_eq_true rfl, Nat.le_of_ble_eq_true rfl⟩ cf5 rfl rfl rfl hl.1 rfl (Nat.le_of_ble_eq_true rfl) dL_law_843 (fun H1 locs1 w1 w2 => ?_)
  refine lv_aload_n B.1 B.2.1 dL_law_846 rfl (lv_at hl 2 rfl) ?_
  refine la_arg 1 B w1.2.2.2.1 hl hi (by decide) dL_law_847 dL_law_848 dL_law_849 dL_law_850 dL_law_851 ?_
  refine la_arg 2 B w1.2.2.2.1 hl hi (by decide) dL_law_852 dL_law_853 dL_law_854 dL_law_855 dL_law_856 ?_
  refine la_call (As := [.int (xs (i + 1)), .int (xs (i + 2))]) (n := 2) (st := [.int o]) (v := o) (h' := hm) (r' := RM) B w2 w1 dj.sy (kX6_farthest wfm rfl e2) gL_law_X6_farthest rfl ⟨rfl, rfl⟩ ⟨rfl, hdX6_farthest⟩ ⟨Nat.le_of_ble_eq_true rfl, Nat.le_of_ble_eq_true rfl⟩ cf6 rfl rfl rfl hl.1 rfl (Nat.le_of_ble_eq_true rfl) dL_law_857 (fun H2 locs2 w2 w1 => ?_)
  refine la_eq B dL_law_860 (by decide) ?_
  exact kk w hx hm H2 locs2 ⟨w1, w2, dj, iv⟩
theorem lc_keepUp (B : LB p s m c b L xs) (hi : i + 4 ≤ L ∧ L ≤ 256) (hn : 1100 ≤ n) (st : LSt s D X Y H locs w hx hm) (hl : lv_has ls 4 (LL b X Y i)) (kk : ∀ (w : Bool) (hx hm : Hp) (H : Heap) (locs : List Jvm.Loc), LSt s D X Y H locs w hx hm → W p l e room_1 s m #[Value.ref b] below meth c H locs 58 2078 Q (F0 m 1223 ls [])) : W p l e room_1 s m #[Value.ref b] below meth c H locs 58 2078 Q (F0 m 865 ls []) := by
  obtain ⟨w1, w2, dj, iv⟩ := st
  obtain ⟨o, hx2, hm2, e1, e2, iv2⟩ := sim_keepUp (n := n) iv (xs (i + 1)) (xs (i + 2)) (Nat.le_trans (by decide) hn)
  refine lv_aload_n B.1 B.2.1 dL_law_865 rfl (lv_at hl 1 rfl) ?_
  refine la_arg 1 B w1.2.2.2.1 hl hi (by decide) dL_law_866 dL_law_867 dL_law_868 dL_law_869 dL_law_870 ?_
  refine la_arg 2 B w1.2.2.2.1 hl hi (by decide) dL_law_871 dL_law_872 dL_law_873 dL_law_874 dL_law_875 ?_
  refine la_call (As := [.int (xs (i + 1)), .int (xs (i + 2))]) (n := 2) (st := []) (v := o) (h' := hx2) (r' := RX w) B w1 w2 dj (kX5_keepUp (wfx w) rfl e1) gL_law_X5_keepUp rfl ⟨rfl, rfl⟩ ⟨rfl, hdX5_keepUp⟩ ⟨Nat.le_of_ble_eq_true rfl, Nat.le_of_ble_eq_true rfl⟩ cf5 rfl rfl rfl hl.1 rfl (Nat.le_of_ble_eq_true rfl) dL_law_876 (fun H1 locs1 w1 w2 => ?_)
  refine lv_aload_n B.1 B.2.1 dL_law_879 rfl (lv_at hl 2 rfl) ?_
  refine la_arg 1 B w1.2.2.2.1 hl hi (by decide) dL_law_880 dL_law_881 dL_law_882 dL_law_883 dL_law_884 ?_
  refine la_arg 2 B w1.2.2.2.1 hl hi (by decide) dL_law_885 dL_law_886 dL_law_887 dL_law_888 dL_law_889 ?_
  refine la_call (As := [.int (xs (i + 1)), .int (xs (i + 2))]) (n := 2) (st := [.int o]) (v := o) (h' := hm2) (r' := RM) B w2 w1 dj.sy (kX6_keepUp wfm rfl e2) gL_law_X6_keepUp rfl ⟨rfl, rfl⟩ ⟨rfl, hdX6_keepUp⟩ ⟨Nat.le_of_ble_eq_true rfl, Nat.le_of_ble_eq_true rfl⟩ cf6 rfl rfl rfl hl.1 rfl (Nat.le_of_ble_eq_true rfl) dL_law_890 (fun H2 locs2 w2 w1 => ?_)
  refine la_eq B dL_law_893 (by decide) ?_
  exact kk w hx2 hm2 H2 locs2 ⟨w1, w2, dj, iv2⟩
theorem lc_agree (B : LB p s m c b L xs) (hi : i + 4 ≤ L ∧ L ≤ 256) (hn : 1100 ≤ n) (st : LSt s D X Y H locs w hx hm) (hl : lv_has ls 4 (LL b X Y i)) (kk : ∀ (w : Bool) (hx hm : Hp) (H : Heap) (locs : List Jvm.Loc), LSt s D X Y H locs w hx hm → W p l e room_1 s m #[Value.ref b] below meth c H locs 58 2078 Q (F0 m 1223 ls [])) : W p l e room_1 s m #[Value.ref b] below meth c H locs 58 2078 Q (F0 m 898 ls []) := by
  obtain ⟨w1, w2, dj, iv⟩ := st
  obtain ⟨o, hx2, e1, e2, iv2⟩ := sim_agree (n := n) iv (xs (i + 1)) (Nat.le_trans (by decide) hn)
  refine lv_aload_n B.1 B.2.1 dL_law_898 rfl (lv_at hl 1 rfl) ?_
  refine la_arg 1 B w1.2.2.2.1 hl hi (by decide) dL_law_899 dL_law_900 dL_law_901 dL_law_902 dL_law_903 ?_
  refine la_call (As := [.int (xs (i + 1))]) (n := 1) (st := []) (v := o) (h' := hx2) (r' := RX w) B w1 w2 dj (kX5_agree (wfx w) rfl e1) gL_law_X5_agree rfl ⟨rfl, rfl⟩ ⟨rfl, hdX5_agree⟩ ⟨Nat.le_of_ble_eq_true rfl, Nat.le_of_ble_eq_true rfl⟩ cf5 rfl rfl rfl hl.1 rfl (Nat.le_of_ble_eq_true rfl) dL_law_904 (fun H1 locs1 w1 w2 => ?_)
  refine lv_aload_n B.1 B.2.1 dL_law_907 rfl (lv_at hl 2 rfl) ?_
  refine la_arg 1 B w1.2.2.2.1 hl hi (by decide) dL_law_908 dL_law_909 dL_law_910 dL_law_911 dL_law_912 ?_
  refine la_call (As := [.int (xs (i + 1))]) (n := 1) (st := [.int o]) (v := o) (h' := hm) (r' := RM) B w2 w1 dj.sy (kX6_agree wfm rfl e2) gL_law_X6_agree rfl ⟨rfl, rfl⟩ ⟨rfl, hdX6_agree⟩ ⟨Nat.le_of_ble_eq_true rfl, Nat.le_of_ble_eq_true rfl⟩ cf6 rfl rfl rfl hl.1 rfl (Nat.le_of_ble_eq_true rfl) dL_law_913 (fun H2 locs2 w2 w1 => ?_)
  refine la_eq B dL_law_916 (by decide) ?_
  exact kk w hx2 hm H2 locs2 ⟨w1, w2, dj, iv2⟩
theorem lc_fold (B : LB p s m c b L xs) (hi : i + 4 ≤ L ∧ L ≤ 256) (hn : 1100 ≤ n) (st : LSt s D X Y H locs w hx hm) (hl : lv_has ls 4 (LL b X Y i)) (kk : ∀ (w : Bool) (hx hm : Hp) (H : Heap) (locs : List Jvm.Loc), LSt s D X Y H locs w hx hm → W p l e room_1 s m #[Value.ref b] below meth c H locs 58 2078 Q (F0 m 1223 ls [])) : W p l e room_1 s m #[Value.ref b] below meth c H locs 58 2078 Q (F0 m 921 ls []) := by
  obtain ⟨w1, w2, dj, iv⟩ := st
  obtain ⟨o, e1, e2⟩ := sim_fold (n := n) iv (xs (i + 1)) (Nat.le_trans (by decide) hn)
  refine lv_aload_n B.1 B.2.1 dL_law_921 rfl (lv_at hl 1 rfl) ?_
  refine la_arg 1 B w1.2.2.2.1 hl hi (by decide) dL_law_922 dL_law_923 dL_law_924 dL_law_925 dL_law_926 ?_
  refine la_call (As := [.int (xs (i + 1))]) (n := 1) (st := []) (v := o) (h' := hx) (r' := RX w) B w1 w2 dj (kX5_fold (wfx w) rfl e1) gL_law_X5_fold rfl ⟨rfl, rfl⟩ ⟨rfl, hdX5_fold⟩ ⟨Nat.le_of_ble_eq_true rfl, Nat.le_of_ble_eq_true rfl⟩ cf5 rfl rfl rfl hl.1 rfl (Nat.le_of_ble_eq_true rfl) dL_law_927 (fun H1 locs1 w1 w2 => ?_)
  refine lv_aload_n B.1 B.2.1 dL_law_930 rfl (lv_at hl 2 rfl) ?_
  refine la_arg 1 B w1.2.2.2.1 hl hi (by decide) dL_law_931 dL_law_932 dL_law_933 dL_law_934 dL_law_935 ?_
  refine la_call (As := [.int (xs (i + 1))]) (n := 1) (st := [.int o]) (v := o) (h' := hm) (r' := RM) B w2 w1 dj.sy (kX6_fold wfm rfl e2) gL_law_X6_fold rfl ⟨rfl, rfl⟩ ⟨rfl, hdX6_fold⟩ ⟨Nat.le_of_ble_eq_true rfl, Nat.le_of_ble_eq_true rfl⟩ cf6 rfl rfl rfl hl.1 rfl (Nat.le_of_ble_eq_true rfl) dL_law_936 (fun H2 locs2 w2 w1 => ?_)
  refine la_eq B dL_law_939 (by decide) ?_
  exact kk w hx hm H2 locs2 ⟨w1, w2, dj, iv⟩
theorem lc_share (B : LB p s m c b L xs) (hi : i + 4 ≤ L ∧ L ≤ 256) (hn : 1100 ≤ n) (st : LSt s D X Y H locs w hx hm) (hl : lv_has ls 4 (LL b X Y i)) (kk : ∀ (w : Bool) (hx hm : Hp) (H : Heap) (locs : List Jvm.Loc), LSt s D X Y H locs w hx hm → W p l e room_1 s m #[Value.ref b] below meth c H locs 58 2078 Q (F0 m 1223 ls [])) : W p l e room_1 s m #[Value.ref b] below meth c H locs 58 2078 Q (F0 m 944 ls []) := by
  obtain ⟨w1, w2, dj, iv⟩ := st
  obtain ⟨o, e1, e2⟩ := sim_share (n := n) iv (xs (i + 1)) (xs (i + 2)) (Nat.le_trans (by decide) hn)
  refine lv_aload_n B.1 B.2.1 dL_law_944 rfl (lv_at hl 1 rfl) ?_
  refine la_arg 1 B w1.2.2.2.1 hl hi (by decide) dL_law_945 dL_law_946 dL_law_947 dL_law_948 dL_law_949 ?_
  refine la_arg 2 B w1.2.2.2.1 hl hi (by decide) dL_law_950 dL_law_951 dL_law_952 dL_law_953 dL_law_954 ?_
  refine la_call (As := [.int (xs (i + 1)), .int (xs (i + 2))]) (n := 2) (st := []) (v := o) (h' := hx) (r' := RX w) B w1 w2 dj (kX5_share (wfx w) rfl e1) gL_law_X5_share rfl ⟨rfl, rfl⟩ ⟨rfl, hdX5_share⟩ ⟨Nat.le_of_ble_eq_true rfl, Nat.le_of_ble_eq_true rfl⟩ cf5 rfl rfl rfl hl.1 rfl (Nat.le_of_ble_eq_true rfl) dL_law_955 (fun H1 locs1 w1 w2 => ?_)
  refine lv_aload_n B.1 B.2.1 dL_law_958 rfl (lv_at hl 2 rfl) ?_
  refine la_arg 1 B w1.2.2.2.1 hl hi (by decide) dL_law_959 dL_law_960 dL_law_961 dL_law_962 dL_law_963 ?_
  refine la_arg 2 B w1.2.2.2.1 hl hi (by decide) dL_law_964 dL_law_965 dL_law_966 dL_law_967 dL_law_968 ?_
  refine la_call (As := [.int (xs (i + 1)), .int (xs (i + 2))]) (n := 2) (st := [.int o]) (v := o) (h' := hm) (r' := RM) B w2 w1 dj.sy (kX6_share wfm rfl e2) gL_law_X6_share rfl ⟨rfl, rfl⟩ ⟨rfl, hdX6_share⟩ ⟨Nat.le_of_ble_eq_true rfl, Nat.le_of_ble_eq_true rfl⟩ cf6 rfl rfl rfl hl.1 rfl (Nat.le_of_ble_eq_true rfl) dL_law_969 (fun H2 locs2 w2 w1 => ?_)
  refine la_eq B dL_law_972 (by decide) ?_
  exact kk w hx hm H2 locs2 ⟨w1, w2, dj, iv⟩
theorem lc_calm (B : LB p s m c b L xs) (hi : i + 4 ≤ L ∧ L ≤ 256) (hn : 1100 ≤ n) (st : LSt s D X Y H locs w hx hm) (hl : lv_has ls 4 (LL b X Y i)) (kk : ∀ (w : Bool) (hx hm : Hp) (H : Heap) (locs : List Jvm.Loc), LSt s D X Y H locs w hx hm → W p l e room_1 s m #[Value.ref b] below meth c H locs 58 2078 Q (F0 m 1223 ls [])) : W p l e room_1 s m #[Value.ref b] below meth c H locs 58 2078 Q (F0 m 977 ls []) := by
  obtain ⟨w1, w2, dj, iv⟩ := st
  obtain ⟨o, e1, e2⟩ := sim_calm (n := n) (w := w) (hx := hx) (hm := hm) (xs (i + 1)) (xs (i + 2)) (Nat.le_trans (by decide) hn)
  refine lv_aload_n B.1 B.2.1 dL_law_977 rfl (lv_at hl 1 rfl) ?_
  refine la_arg 1 B w1.2.2.2.1 hl hi (by decide) dL_law_978 dL_law_979 dL_law_980 dL_law_981 dL_law_982 ?_
  refine la_arg 2 B w1.2.2.2.1 hl hi (by decide) dL_law_983 dL_law_984 dL_law_985 dL_law_986 dL_law_987 ?_
  refine la_call (As := [.int (xs (i + 1)), .int (xs (i + 2))]) (n := 2) (st := []) (v := o) (h' := hx) (r' := RX w) B w1 w2 dj (kX5_calm (wfx w) rfl e1) gL_law_X5_calm rfl ⟨rfl, rfl⟩ ⟨rfl, hdX5_calm⟩ ⟨Nat.le_of_ble_eq_true rfl, Nat.le_of_ble_eq_true rfl⟩ cf5 rfl rfl rfl hl.1 rfl (Nat.le_of_ble_eq_true rfl) dL_law_988 (fun H1 locs1 w1 w2 => ?_)
  refine lv_aload_n B.1 B.2.1 dL_law_991 rfl (lv_at hl 2 rfl) ?_
  refine la_arg 1 B w1.2.2.2.1 hl hi (by decide) dL_law_992 dL_law_993 dL_law_994 dL_law_995 dL_law_996 ?_
  refine la_arg 2 B w1.2.2.2.1 hl hi (by decide) dL_law_997 dL_law_998 dL_law_999 dL_law_1000 dL_law_1001 ?_
  refine la_call (As := [.int (xs (i + 1)), .int (xs (i + 2))]) (n := 2) (st := [.int o]) (v := o) (h' := hm) (r' := RM) B w2 w1 dj.sy (kX6_calm wfm rfl e2) gL_law_X6_calm rfl ⟨rfl, rfl⟩ ⟨rfl, hdX6_calm⟩ ⟨Nat.le_of_ble_eq_true rfl, Nat.le_of_ble_eq_true rfl⟩ cf6 rfl rfl rfl hl.1 rfl (Nat.le_of_ble_eq_true rfl) dL_law_1002 (fun H2 locs2 w2 w1 => ?_)
  refine la_eq B dL_law_1005 (by decide) ?_
  exact kk w hx hm H2 locs2 ⟨w1, w2, dj, iv⟩
theorem lc_hear (B : LB p s m c b L xs) (hi : i + 4 ≤ L ∧ L ≤ 256) (hn : 1100 ≤ n) (st : LSt s D X Y H locs w hx hm) (hl : lv_has ls 4 (LL b X Y i)) (kk : ∀ (w : Bool) (hx hm : Hp) (H : Heap) (locs : List Jvm.Loc), LSt s D X Y H locs w hx hm → W p l e room_1 s m #[Value.ref b] below meth c H locs 58 2078 Q (F0 m 1223 ls [])) : W p l e room_1 s m #[Value.ref b] below meth c H locs 58 2078 Q (F0 m 1010 ls []) := by
  obtain ⟨w1, w2, dj, iv⟩ := st
  obtain ⟨o, hx2, hm2, e1, e2, iv2⟩ := sim_hear (n := n) iv (xs (i + 1)) (xs (i + 2)) (decide (xs (i + 3) ≠ 0))
  refine lv_aload_n B.1 B.2.1 dL_law_1010 rfl (lv_at hl 1 rfl) ?_
  refine la_arg 1 B w1.2.2.2.1 hl hi (by decide) dL_law_1011 dL_law_1012 dL_law_1013 dL_law_1014 dL_law_1015 ?_
  refine la_arg 2 B w1.2.2.2.1 hl hi (by decide) dL_law_1016 dL_law_1017 dL_law_1018 dL_law_1019 dL_law_1020 ?_
  refine la_arg 3 B w1.2.2.2.1 hl hi (by decide) dL_law_1021 dL_law_1022 dL_law_1023 dL_law_1024 dL_law_1025 ?_
  refine la_flag B dL_law_1026 dL_law_1029 dL_law_1030 dL_law_1033 ?_
  refine la_call (As := [.int (xs (i + 1)), .int (xs (i + 2)), .int (bI (decide (xs (i + 3) ≠ 0)))]) (n := 3) (st := []) (v := o) (h' := hx2) (r' := RX w) B w1 w2 dj (kX5_hear (wfx w) rfl e1) gL_law_X5_hear rfl ⟨rfl, rfl⟩ ⟨rfl, hdX5_hear⟩ ⟨Nat.le_of_ble_eq_true rfl, Nat.le_of_ble_eq_true rfl⟩ cf5 rfl rfl rfl hl.1 rfl (Nat.le_of_ble_eq_true rfl) dL_law_1034 (fun H1 locs1 w1 w2 => ?_)
  refine lv_aload_n B.1 B.2.1 dL_law_1037 rfl (lv_at hl 2 rfl) ?_
  refine la_arg 1 B w1.2.2.2.1 hl hi (by decide) dL_law_1038 dL_law_1039 dL_law_1040 dL_law_1041 dL_law_1042 ?_
  refine la_arg 2 B w1.2.2.2.1 hl hi (by decide) dL_law_1043 dL_law_1044 dL_law_1045 dL_law_1046 dL_law_1047 ?_
  refine la_arg 3 B w1.2.2.2.1 hl hi (by decide) dL_law_1048 dL_law_1049 dL_law_1050 dL_law_1051 dL_law_1052 ?_
  refine la_flag B dL_law_1053 dL_law_1056 dL_law_1057 dL_law_1060 ?_
  refine la_call (As := [.int (xs (i + 1)), .int (xs (i + 2)), .int (bI (decide (xs (i + 3) ≠ 0)))]) (n := 3) (st := [.int o]) (v := o) (h' := hm2) (r' := RM) B w2 w1 dj.sy (kX6_hear wfm rfl e2) gL_law_X6_hear rfl ⟨rfl, rfl⟩ ⟨rfl, hdX6_hear⟩ ⟨Nat.le_of_ble_eq_true rfl, Nat.le_of_ble_eq_true rfl⟩ cf6 rfl rfl rfl hl.1 rfl (Nat.le_of_ble_eq_true rfl) dL_law_1061 (fun H2 locs2 w2 w1 => ?_)
  refine la_eq B dL_law_1064 (by decide) ?_
  exact kk w hx2 hm2 H2 locs2 ⟨w1, w2, dj, iv2⟩
theorem lc_traitor (B : LB p s m c b L xs) (hi : i + 4 ≤ L ∧ L ≤ 256) (hn : 1100 ≤ n) (st : LSt s D X Y H locs w hx hm) (hl : lv_has ls 4 (LL b X Y i)) (kk : ∀ (w : Bool) (hx hm : Hp) (H : Heap) (locs : List Jvm.Loc), LSt s D X Y H locs w hx hm → W p l e room_1 s m #[Value.ref b] below meth c H locs 58 2078 Q (F0 m 1223 ls [])) : W p l e room_1 s m #[Value.ref b] below meth c H locs 58 2078 Q (F0 m 1069 ls []) := by
  obtain ⟨w1, w2, dj, iv⟩ := st
  obtain ⟨o, e1, e2⟩ := sim_traitor (n := n) iv (Nat.le_trans (by decide) hn)
  refine lv_aload_n B.1 B.2.1 dL_law_1069 rfl (lv_at hl 1 rfl) ?_
  refine la_call (As := []) (n := 0) (st := []) (v := o) (h' := hx) (r' := RX w) B w1 w2 dj (kX5_traitor (wfx w) rfl e1) gL_law_X5_traitor rfl ⟨rfl, rfl⟩ ⟨rfl, hdX5_traitor⟩ ⟨Nat.le_of_ble_eq_true rfl, Nat.le_of_ble_eq_true rfl⟩ cf5 rfl rfl rfl hl.1 rfl (Nat.le_of_ble_eq_true rfl) dL_law_1070 (fun H1 locs1 w1 w2 => ?_)
  refine lv_aload_n B.1 B.2.1 dL_law_1073 rfl (lv_at hl 2 rfl) ?_
  refine la_call (As := []) (n := 0) (st := [.int o]) (v := o) (h' := hm) (r' := RM) B w2 w1 dj.sy (kX6_traitor wfm rfl e2) gL_law_X6_traitor rfl ⟨rfl, rfl⟩ ⟨rfl, hdX6_traitor⟩ ⟨Nat.le_of_ble_eq_true rfl, Nat.le_of_ble_eq_true rfl⟩ cf6 rfl rfl rfl hl.1 rfl (Nat.le_of_ble_eq_true rfl) dL_law_1074 (fun H2 locs2 w2 w1 => ?_)
  refine la_eq B dL_law_1077 (by decide) ?_
  exact kk w hx hm H2 locs2 ⟨w1, w2, dj, iv⟩
theorem lc_ask (B : LB p s m c b L xs) (hi : i + 4 ≤ L ∧ L ≤ 256) (hn : 1100 ≤ n) (st : LSt s D X Y H locs w hx hm) (hl : lv_has ls 4 (LL b X Y i)) (kk : ∀ (w : Bool) (hx hm : Hp) (H : Heap) (locs : List Jvm.Loc), LSt s D X Y H locs w hx hm → W p l e room_1 s m #[Value.ref b] below meth c H locs 58 2078 Q (F0 m 1223 ls [])) : W p l e room_1 s m #[Value.ref b] below meth c H locs 58 2078 Q (F0 m 1082 ls []) := by
  obtain ⟨w1, w2, dj, iv⟩ := st
  obtain ⟨o, e1, e2⟩ := sim_ask (n := n) iv (Nat.le_trans (by decide) hn)
  refine lv_aload_n B.1 B.2.1 dL_law_1082 rfl (lv_at hl 1 rfl) ?_
  refine la_call (As := []) (n := 0) (st := []) (v := o) (h' := hx) (r' := RX w) B w1 w2 dj (kX5_ask (wfx w) rfl e1) gL_law_X5_ask rfl ⟨rfl, rfl⟩ ⟨rfl, hdX5_ask⟩ ⟨Nat.le_of_ble_eq_true rfl, Nat.le_of_ble_eq_true rfl⟩ cf5 rfl rfl rfl hl.1 rfl (Nat.le_of_ble_eq_true rfl) dL_law_1083 (fun H1 locs1 w1 w2 => ?_)
  refine lv_aload_n B.1 B.2.1 dL_law_1086 rfl (lv_at hl 2 rfl) ?_
  refine la_call (As := []) (n := 0) (st := [.int o]) (v := o) (h' := hm) (r' := RM) B w2 w1 dj.sy (kX6_ask wfm rfl e2) gL_law_X6_ask rfl ⟨rfl, rfl⟩ ⟨rfl, hdX6_ask⟩ ⟨Nat.le_of_ble_eq_true rfl, Nat.le_of_ble_eq_true rfl⟩ cf6 rfl rfl rfl hl.1 rfl (Nat.le_of_ble_eq_true rfl) dL_law_1087 (fun H2 locs2 w2 w1 => ?_)
  refine la_eq B dL_law_1090 (by decide) ?_
  exact kk w hx hm H2 locs2 ⟨w1, w2, dj, iv⟩
theorem lc_write (B : LB p s m c b L xs) (hi : i + 4 ≤ L ∧ L ≤ 256) (hn : 1100 ≤ n) (st : LSt s D X Y H locs w hx hm) (hl : lv_has ls 4 (LL b X Y i)) (kk : ∀ (w : Bool) (hx hm : Hp) (H : Heap) (locs : List Jvm.Loc), LSt s D X Y H locs w hx hm → W p l e room_1 s m #[Value.ref b] below meth c H locs 58 2078 Q (F0 m 1223 ls [])) : W p l e room_1 s m #[Value.ref b] below meth c H locs 58 2078 Q (F0 m 1095 ls []) := by
  obtain ⟨w1, w2, dj, iv⟩ := st
  obtain ⟨o, hx2, hm2, e1, e2, iv2⟩ := sim_write (n := n) iv (xs (i + 1)) (xs (i + 2))
  refine lv_aload_n B.1 B.2.1 dL_law_1095 rfl (lv_at hl 1 rfl) ?_
  refine la_arg 1 B w1.2.2.2.1 hl hi (by decide) dL_law_1096 dL_law_1097 dL_law_1098 dL_law_1099 dL_law_1100 ?_
  refine la_arg 2 B w1.2.2.2.1 hl hi (by decide) dL_law_1101 dL_law_1102 dL_law_1103 dL_law_1104 dL_law_1105 ?_
  refine la_call (As := [.int (xs (i + 1)), .int (xs (i + 2))]) (n := 2) (st := []) (v := o) (h' := hx2) (r' := RX w) B w1 w2 dj (kX5_write (wfx w) rfl e1) gL_law_X5_write rfl ⟨rfl, rfl⟩ ⟨rfl, hdX5_write⟩ ⟨Nat.le_of_ble_eq_true rfl, Nat.le_of_ble_eq_true rfl⟩ cf5 rfl rfl rfl hl.1 rfl (Nat.le_of_ble_eq_true rfl) dL_law_1106 (fun H1 locs1 w1 w2 => ?_)
  refine lv_aload_n B.1 B.2.1 dL_law_1109 rfl (lv_at hl 2 rfl) ?_
  refine la_arg 1 B w1.2.2.2.1 hl hi (by decide) dL_law_1110 dL_law_1111 dL_law_1112 dL_law_1113 dL_law_1114 ?_
  refine la_arg 2 B w1.2.2.2.1 hl hi (by decide) dL_law_1115 dL_law_1116 dL_law_1117 dL_law_1118 dL_law_1119 ?_
  refine la_call (As := [.int (xs (i + 1)), .int (xs (i + 2))]) (n := 2) (st := [.int o]) (v := o) (h' := hm2) (r' := RM) B w2 w1 dj.sy (kX6_write wfm rfl e2) gL_law_X6_write rfl ⟨rfl, rfl⟩ ⟨rfl, hdX6_write⟩ ⟨Nat.le_of_ble_eq_true rfl, Nat.le_of_ble_eq_true rfl⟩ cf6 rfl rfl rfl hl.1 rfl (Nat.le_of_ble_eq_true rfl) dL_law_1120 (fun H2 locs2 w2 w1 => ?_)
  refine la_eq B dL_law_1123 (by decide) ?_
  exact kk w hx2 hm2 H2 locs2 ⟨w1, w2, dj, iv2⟩
theorem lc_judge (B : LB p s m c b L xs) (hi : i + 4 ≤ L ∧ L ≤ 256) (hn : 1100 ≤ n) (st : LSt s D X Y H locs w hx hm) (hl : lv_has ls 4 (LL b X Y i)) (kk : ∀ (w : Bool) (hx hm : Hp) (H : Heap) (locs : List Jvm.Loc), LSt s D X Y H locs w hx hm → W p l e room_1 s m #[Value.ref b] below meth c H locs 58 2078 Q (F0 m 1223 ls [])) : W p l e room_1 s m #[Value.ref b] below meth c H locs 58 2078 Q (F0 m 1128 ls []) := by
  obtain ⟨w1, w2, dj, iv⟩ := st
  obtain ⟨o, e1, e2⟩ := sim_judge (n := n) iv (Nat.le_trans (by decide) hn)
  refine lv_aload_n B.1 B.2.1 dL_law_1128 rfl (lv_at hl 1 rfl) ?_
  refine la_call (As := []) (n := 0) (st := []) (v := o) (h' := hx) (r' := RX w) B w1 w2 dj (kX5_judge (wfx w) rfl e1) gL_law_X5_judge rfl ⟨rfl, rfl⟩ ⟨rfl, hdX5_judge⟩ ⟨Nat.le_of_ble_eq_true rfl, Nat.le_of_ble_eq_true rfl⟩ cf5 rfl rfl rfl hl.1 rfl (Nat.le_of_ble_eq_true rfl) dL_law_1129 (fun H1 locs1 w1 w2 => ?_)
  refine lv_aload_n B.1 B.2.1 dL_law_1132 rfl (lv_at hl 2 rfl) ?_
  refine la_call (As := []) (n := 0) (st := [.int o]) (v := o) (h' := hm) (r' := RM) B w2 w1 dj.sy (kX6_judge wfm rfl e2) gL_law_X6_judge rfl ⟨rfl, rfl⟩ ⟨rfl, hdX6_judge⟩ ⟨Nat.le_of_ble_eq_true rfl, Nat.le_of_ble_eq_true rfl⟩ cf6 rfl rfl rfl hl.1 rfl (Nat.le_of_ble_eq_true rfl) dL_law_1133 (fun H2 locs2 w2 w1 => ?_)
  refine la_eq B dL_law_1136 (by decide) ?_
  exact kk w hx hm H2 locs2 ⟨w1, w2, dj, iv⟩
theorem lc_tear (B : LB p s m c b L xs) (hi : i + 4 ≤ L ∧ L ≤ 256) (hn : 1100 ≤ n) (st : LSt s D X Y H locs w hx hm) (hl : lv_has ls 4 (LL b X Y i)) (kk : ∀ (w : Bool) (hx hm : Hp) (H : Heap) (locs : List Jvm.Loc), LSt s D X Y H locs w hx hm → W p l e room_1 s m #[Value.ref b] below meth c H locs 58 2078 Q (F0 m 1223 ls [])) : W p l e room_1 s m #[Value.ref b] below meth c H locs 58 2078 Q (F0 m 1141 ls []) := by
  obtain ⟨w1, w2, dj, iv⟩ := st
  obtain ⟨o, hx2, hm2, e1, e2, iv2⟩ := sim_tear (n := n) iv
  refine lv_aload_n B.1 B.2.1 dL_law_1141 rfl (lv_at hl 1 rfl) ?_
  refine la_call (As := []) (n := 0) (st := []) (v := o) (h' := hx2) (r' := RX w) B w1 w2 dj (kX5_tear (wfx w) rfl e1) gL_law_X5_tear rfl ⟨rfl, rfl⟩ ⟨rfl, hdX5_tear⟩ ⟨Nat.le_of_ble_eq_true rfl, Nat.le_of_ble_eq_true rfl⟩ cf5 rfl rfl rfl hl.1 rfl (Nat.le_of_ble_eq_true rfl) dL_law_1142 (fun H1 locs1 w1 w2 => ?_)
  refine lv_aload_n B.1 B.2.1 dL_law_1145 rfl (lv_at hl 2 rfl) ?_
  refine la_call (As := []) (n := 0) (st := [.int o]) (v := o) (h' := hm2) (r' := RM) B w2 w1 dj.sy (kX6_tear wfm rfl e2) gL_law_X6_tear rfl ⟨rfl, rfl⟩ ⟨rfl, hdX6_tear⟩ ⟨Nat.le_of_ble_eq_true rfl, Nat.le_of_ble_eq_true rfl⟩ cf6 rfl rfl rfl hl.1 rfl (Nat.le_of_ble_eq_true rfl) dL_law_1146 (fun H2 locs2 w2 w1 => ?_)
  refine la_eq B dL_law_1149 (by decide) ?_
  exact kk w hx2 hm2 H2 locs2 ⟨w1, w2, dj, iv2⟩
theorem lc_seed (B : LB p s m c b L xs) (hi : i + 4 ≤ L ∧ L ≤ 256) (hn : 1100 ≤ n) (st : LSt s D X Y H locs w hx hm) (hl : lv_has ls 4 (LL b X Y i)) (kk : ∀ (w : Bool) (hx hm : Hp) (H : Heap) (locs : List Jvm.Loc), LSt s D X Y H locs w hx hm → W p l e room_1 s m #[Value.ref b] below meth c H locs 58 2078 Q (F0 m 1223 ls [])) : W p l e room_1 s m #[Value.ref b] below meth c H locs 58 2078 Q (F0 m 1154 ls []) := by
  obtain ⟨w1, w2, dj, iv⟩ := st
  obtain ⟨o, hx2, hm2, e1, e2, iv2⟩ := sim_seed (n := n) iv (xs (i + 1))
  refine lv_aload_n B.1 B.2.1 dL_law_1154 rfl (lv_at hl 1 rfl) ?_
  refine la_arg 1 B w1.2.2.2.1 hl hi (by decide) dL_law_1155 dL_law_1156 dL_law_1157 dL_law_1158 dL_law_1159 ?_
  refine la_call (As := [.int (xs (i + 1))]) (n := 1) (st := []) (v := o) (h' := hx2) (r' := RX w) B w1 w2 dj (kX5_seed (wfx w) rfl e1) gL_law_X5_seed rfl ⟨rfl, rfl⟩ ⟨rfl, hdX5_seed⟩ ⟨Nat.le_of_ble_eq_true rfl, Nat.le_of_ble_eq_true rfl⟩ cf5 rfl rfl rfl hl.1 rfl (Nat.le_of_ble_eq_true rfl) dL_law_1160 (fun H1 locs1 w1 w2 => ?_)
  refine lv_aload_n B.1 B.2.1 dL_law_1163 rfl (lv_at hl 2 rfl) ?_
  refine la_arg 1 B w1.2.2.2.1 hl hi (by decide) dL_law_1164 dL_law_1165 dL_law_1166 dL_law_1167 dL_law_1168 ?_
  refine la_call (As := [.int (xs (i + 1))]) (n := 1) (st := [.int o]) (v := o) (h' := hm2) (r' := RM) B w2 w1 dj.sy (kX6_seed wfm rfl e2) gL_law_X6_seed rfl ⟨rfl, rfl⟩ ⟨rfl, hdX6_seed⟩ ⟨Nat.le_of_ble_eq_true rfl, Nat.le_of_ble_eq_true rfl⟩ cf6 rfl rfl rfl hl.1 rfl (Nat.le_of_ble_eq_true rfl) dL_law_1169 (fun H2 locs2 w2 w1 => ?_)
  refine la_eq B dL_law_1172 (by decide) ?_
  exact kk w hx2 hm2 H2 locs2 ⟨w1, w2, dj, iv2⟩
theorem lc_keep (B : LB p s m c b L xs) (hi : i + 4 ≤ L ∧ L ≤ 256) (hn : 1100 ≤ n) (st : LSt s D X Y H locs w hx hm) (hl : lv_has ls 4 (LL b X Y i)) (kk : ∀ (w : Bool) (hx hm : Hp) (H : Heap) (locs : List Jvm.Loc), LSt s D X Y H locs w hx hm → W p l e room_1 s m #[Value.ref b] below meth c H locs 58 2078 Q (F0 m 1223 ls [])) : W p l e room_1 s m #[Value.ref b] below meth c H locs 58 2078 Q (F0 m 1177 ls []) := by
  obtain ⟨w1, w2, dj, iv⟩ := st
  obtain ⟨o, hx2, hm2, e1, e2, iv2⟩ := sim_keep (n := n) iv (xs (i + 1)) (Nat.le_trans (by decide) hn)
  refine lv_aload_n B.1 B.2.1 dL_law_1177 rfl (lv_at hl 1 rfl) ?_
  refine la_arg 1 B w1.2.2.2.1 hl hi (by decide) dL_law_1178 dL_law_1179 dL_law_1180 dL_law_1181 dL_law_1182 ?_
  refine la_call (As := [.int (xs (i + 1))]) (n := 1) (st := []) (v := o) (h' := hx2) (r' := RX w) B w1 w2 dj (kX5_keep (wfx w) rfl e1) gL_law_X5_keep rfl ⟨rfl, rfl⟩ ⟨rfl, hdX5_keep⟩ ⟨Nat.le_of_ble_eq_true rfl, Nat.le_of_ble_eq_true rfl⟩ cf5 rfl rfl rfl hl.1 rfl (Nat.le_of_ble_eq_true rfl) dL_law_1183 (fun H1 locs1 w1 w2 => ?_)
  refine lv_aload_n B.1 B.2.1 dL_law_1186 rfl (lv_at hl 2 rfl) ?_
  refine la_arg 1 B w1.2.2.2.1 hl hi (by decide) dL_law_1187 dL_law_1188 dL_law_1189 dL_law_1190 dL_law_1191 ?_
  refine la_call (As := [.int (xs (i + 1))]) (n := 1) (st := [.int o]) (v := o) (h' := hm2) (r' := RM) B w2 w1 dj.sy (kX6_keep wfm rfl e2) gL_law_X6_keep rfl ⟨rfl, rfl⟩ ⟨rfl, hdX6_keep⟩ ⟨Nat.le_of_ble_eq_true rfl, Nat.le_of_ble_eq_true rfl⟩ cf6 rfl rfl rfl hl.1 rfl (Nat.le_of_ble_eq_true rfl) dL_law_1192 (fun H2 locs2 w2 w1 => ?_)
  refine la_eq B dL_law_1195 (by decide) ?_
  exact kk w hx2 hm2 H2 locs2 ⟨w1, w2, dj, iv2⟩
theorem lc_goBack (B : LB p s m c b L xs) (hi : i + 4 ≤ L ∧ L ≤ 256) (hn : 1100 ≤ n) (st : LSt s D X Y H locs w hx hm) (hl : lv_has ls 4 (LL b X Y i)) (kk : ∀ (w : Bool) (hx hm : Hp) (H : Heap) (locs : List Jvm.Loc), LSt s D X Y H locs w hx hm → W p l e room_1 s m #[Value.ref b] below meth c H locs 58 2078 Q (F0 m 1223 ls [])) : W p l e room_1 s m #[Value.ref b] below meth c H locs 58 2078 Q (F0 m 1200 ls []) := by
  obtain ⟨w1, w2, dj, iv⟩ := st
  obtain ⟨o, hx2, hm2, e1, e2, iv2⟩ := sim_goBack (n := n) iv (xs (i + 1)) (Nat.le_trans (by decide) hn)
  refine lv_aload_n B.1 B.2.1 dL_law_1200 rfl (lv_at hl 1 rfl) ?_
  refine la_arg 1 B w1.2.2.2.1 hl hi (by decide) dL_law_1201 dL_law_1202 dL_law_1203 dL_law_1204 dL_law_1205 ?_
  refine la_call (As := [.int (xs (i + 1))]) (n := 1) (st := []) (v := o) (h' := hx2) (r' := RX w) B w1 w2 dj (kX5_goBack (wfx w) rfl e1) gL_law_X5_goBack rfl ⟨rfl, rfl⟩ ⟨rfl, hdX5_goBack⟩ ⟨Nat.le_of_ble_eq_true rfl, Nat.le_of_ble_eq_true rfl⟩ cf5 rfl rfl rfl hl.1 rfl (Nat.le_of_ble_eq_true rfl) dL_law_1206 (fun H1 locs1 w1 w2 => ?_)
  refine lv_aload_n B.1 B.2.1 dL_law_1209 rfl (lv_at hl 2 rfl) ?_
  refine la_arg 1 B w1.2.2.2.1 hl hi (by decide) dL_law_1210 dL_law_1211 dL_law_1212 dL_law_1213 dL_law_1214 ?_
  refine la_call (As := [.int (xs (i + 1))]) (n := 1) (st := [.int o]) (v := o) (h' := hm2) (r' := RM) B w2 w1 dj.sy (kX6_goBack wfm rfl e2) gL_law_X6_goBack rfl ⟨rfl, rfl⟩ ⟨rfl, hdX6_goBack⟩ ⟨Nat.le_of_ble_eq_true rfl, Nat.le_of_ble_eq_true rfl⟩ cf6 rfl rfl rfl hl.1 rfl (Nat.le_of_ble_eq_true rfl) dL_law_1215 (fun H2 locs2 w2 w1 => ?_)
  refine la_eq B dL_law_1218 (by decide) ?_
  exact kk w hx2 hm2 H2 locs2 ⟨w1, w2, dj, iv2⟩
end LAWC20
