/-! ===== the law: its switch ===== -/
section LAWS
variable {p : Program} {l : Launch} {e : Env} {s : State} {m : MethodId} {below : List Frame} {meth : Method} {c : Code} {b L : Nat} {xs : Nat → Int32} {Q : State → Prop} {X Y : Cx} {D : va_G} {H : Heap} {locs : List Jvm.Loc} {ls : Array Slot} {i n : Nat} {w : Bool} {hx hm : Hp}
theorem la_sw (B : LB p s m c b L xs) (hi : i + 4 ≤ L ∧ L ≤ 256) (hn : 1100 ≤ n) (st : LSt s D X Y H locs w hx hm) (hl : lv_has ls 4 (LL b X Y i)) (kk : ∀ (w : Bool) (hx hm : Hp) (H : Heap) (locs : List Jvm.Loc), LSt s D X Y H locs w hx hm → W p l e room_1 s m #[Value.ref b] below meth c H locs 58 2078 Q (F0 m 1223 ls [])) (v : Int32) : W p l e room_1 s m #[Value.ref b] below meth c H locs 58 2078 Q (F0 m 32 ls [.int (v &&& 63)]) := by
  obtain ⟨k, hk, ek⟩ := la_mask v
  rw [ek]
  by_cases h38 : 38 < k
  · exact lv_tableOut (tgt := 1223) B.1 B.2.1 dL_law_32 (Or.inr (by rw [nI_toInt (by omega)]; omega)) (by decide) (kk w hx hm H locs st)
  · rcases (show k = 0 ∨ k = 1 ∨ k = 2 ∨ k = 3 ∨ k = 4 ∨ k = 5 ∨ k = 6 ∨ k = 7 ∨ k = 8 ∨ k = 9 ∨ k = 10 ∨ k = 11 ∨ k = 12 ∨ k = 13 ∨ k = 14 ∨ k = 15 ∨ k = 16 ∨ k = 17 ∨ k = 18 ∨ k = 19 ∨ k = 20 ∨ k = 21 ∨ k = 22 ∨ k = 23 ∨ k = 24 ∨ k = 25 ∨ k = 26 ∨ k = 27 ∨ k = 28 ∨ k = 29 ∨ k = 30 ∨ k = 31 ∨ k = 32 ∨ k = 33 ∨ k = 34 ∨ k = 35 ∨ k = 36 ∨ k = 37 ∨ k = 38 by omega) with rfl | rfl | rfl | rfl | rfl | rfl | rfl | rfl | rfl | rfl | rfl | rfl | rfl | rfl | rfl | rfl | rfl | rfl | rfl | rfl | rfl | rfl | rfl | rfl | rfl | rfl | rfl | rfl | rfl | rfl | rfl | rfl | rfl | rfl | rfl | rfl | rfl | rfl | rfl
    · exact lv_tableIn (off := 172) (tgt := 204) B.1 B.2.1 dL_law_32 (by decide) (by decide) rfl (by decide) (lc_feed B hi hn st hl kk)
    · exact lv_tableIn (off := 195) (tgt := 227) B.1 B.2.1 dL_law_32 (by decide) (by decide) rfl (by decide) (lc_sea B hi hn st hl kk)
    · exact lv_tableIn (off := 208) (tgt := 240) B.1 B.2.1 dL_law_32 (by decide) (by decide) rfl (by decide) (lc_fault B hi hn st hl kk)
    · exact lv_tableIn (off := 221) (tgt := 253) B.1 B.2.1 dL_law_32 (by decide) (by decide) rfl (by decide) (lc_told B hi hn st hl kk)
    · exact lv_tableIn (off := 244) (tgt := 276) B.1 B.2.1 dL_law_32 (by decide) (by decide) rfl (by decide) (lc_link B hi hn st hl kk)
    · exact lv_tableIn (off := 277) (tgt := 309) B.1 B.2.1 dL_law_32 (by decide) (by decide) rfl (by decide) (lc_reads B hi hn st hl kk)
    · exact lv_tableIn (off := 310) (tgt := 342) B.1 B.2.1 dL_law_32 (by decide) (by decide) rfl (by decide) (lc_wind B hi hn st hl kk)
    · exact lv_tableIn (off := 333) (tgt := 365) B.1 B.2.1 dL_law_32 (by decide) (by decide) rfl (by decide) (lc_hour B hi hn st hl kk)
    · exact lv_tableIn (off := 356) (tgt := 388) B.1 B.2.1 dL_law_32 (by decide) (by decide) rfl (by decide) (lc_undoLink B hi hn st hl kk)
    · exact lv_tableIn (off := 379) (tgt := 411) B.1 B.2.1 dL_law_32 (by decide) (by decide) rfl (by decide) (lc_doUp B hi hn st hl kk)
    · exact lv_tableIn (off := 402) (tgt := 434) B.1 B.2.1 dL_law_32 (by decide) (by decide) rfl (by decide) (lc_turn B hi hn st hl kk)
    · exact lv_tableIn (off := 425) (tgt := 457) B.1 B.2.1 dL_law_32 (by decide) (by decide) rfl (by decide) (lc_mend B hi hn st hl kk)
    · exact lv_tableIn (off := 448) (tgt := 480) B.1 B.2.1 dL_law_32 (by decide) (by decide) rfl (by decide) (lc_hold B hi hn st hl kk)
    · exact lv_tableIn (off := 497) (tgt := 529) B.1 B.2.1 dL_law_32 (by decide) (by decide) rfl (by decide) (lc_earn B hi hn st hl kk)
    · exact lv_tableIn (off := 520) (tgt := 552) B.1 B.2.1 dL_law_32 (by decide) (by decide) rfl (by decide) (lc_drift B hi hn st hl kk)
    · exact lv_tableIn (off := 543) (tgt := 575) B.1 B.2.1 dL_law_32 (by decide) (by decide) rfl (by decide) (lc_undo B hi hn st hl kk)
    · exact lv_tableIn (off := 566) (tgt := 598) B.1 B.2.1 dL_law_32 (by decide) (by decide) rfl (by decide) (lc_lasts B hi hn st hl kk)
    · exact lv_tableIn (off := 589) (tgt := 621) B.1 B.2.1 dL_law_32 (by decide) (by decide) rfl (by decide) (lc_first B hi hn st hl kk)
    · exact lv_tableIn (off := 612) (tgt := 644) B.1 B.2.1 dL_law_32 (by decide) (by decide) rfl (by decide) (lc_still B hi hn st hl kk)
    · exact lv_tableIn (off := 635) (tgt := 667) B.1 B.2.1 dL_law_32 (by decide) (by decide) rfl (by decide) (lc_parts B hi hn st hl kk)
    · exact lv_tableIn (off := 658) (tgt := 690) B.1 B.2.1 dL_law_32 (by decide) (by decide) rfl (by decide) (lc_together B hi hn st hl kk)
    · exact lv_tableIn (off := 681) (tgt := 713) B.1 B.2.1 dL_law_32 (by decide) (by decide) rfl (by decide) (lc_between B hi hn st hl kk)
    · exact lv_tableIn (off := 724) (tgt := 756) B.1 B.2.1 dL_law_32 (by decide) (by decide) rfl (by decide) (lc_way B hi hn st hl kk)
    · exact lv_tableIn (off := 767) (tgt := 799) B.1 B.2.1 dL_law_32 (by decide) (by decide) rfl (by decide) (lc_widest B hi hn st hl kk)
    · exact lv_tableIn (off := 800) (tgt := 832) B.1 B.2.1 dL_law_32 (by decide) (by decide) rfl (by decide) (lc_farthest B hi hn st hl kk)
    · exact lv_tableIn (off := 833) (tgt := 865) B.1 B.2.1 dL_law_32 (by decide) (by decide) rfl (by decide) (lc_keepUp B hi hn st hl kk)
    · exact lv_tableIn (off := 866) (tgt := 898) B.1 B.2.1 dL_law_32 (by decide) (by decide) rfl (by decide) (lc_agree B hi hn st hl kk)
    · exact lv_tableIn (off := 889) (tgt := 921) B.1 B.2.1 dL_law_32 (by decide) (by decide) rfl (by decide) (lc_fold B hi hn st hl kk)
    · exact lv_tableIn (off := 912) (tgt := 944) B.1 B.2.1 dL_law_32 (by decide) (by decide) rfl (by decide) (lc_share B hi hn st hl kk)
    · exact lv_tableIn (off := 945) (tgt := 977) B.1 B.2.1 dL_law_32 (by decide) (by decide) rfl (by decide) (lc_calm B hi hn st hl kk)
    · exact lv_tableIn (off := 978) (tgt := 1010) B.1 B.2.1 dL_law_32 (by decide) (by decide) rfl (by decide) (lc_hear B hi hn st hl kk)
    · exact lv_tableIn (off := 1037) (tgt := 1069) B.1 B.2.1 dL_law_32 (by decide) (by decide) rfl (by decide) (lc_traitor B hi hn st hl kk)
    · exact lv_tableIn (off := 1050) (tgt := 1082) B.1 B.2.1 dL_law_32 (by decide) (by decide) rfl (by decide) (lc_ask B hi hn st hl kk)
    · exact lv_tableIn (off := 1063) (tgt := 1095) B.1 B.2.1 dL_law_32 (by decide) (by decide) rfl (by decide) (lc_write B hi hn st hl kk)
    · exact lv_tableIn (off := 1096) (tgt := 1128) B.1 B.2.1 dL_law_32 (by decide) (by decide) rfl (by decide) (lc_judge B hi hn st hl kk)
    · exact lv_tableIn (off := 1109) (tgt := 1141) B.1 B.2.1 dL_law_32 (by decide) (by decide) rfl (by decide) (lc_tear B hi hn st hl kk)
    · exact lv_tableIn (off := 1122) (tgt := 1154) B.1 B.2.1 dL_law_32 (by decide) (by decide) rfl (by decide) (lc_seed B hi hn st hl kk)
    · exact lv_tableIn (off := 1145) (tgt := 1177) B.1 B.2.1 dL_law_32 (by decide) (by decide) rfl (by decide) (lc_keep B hi hn st hl kk)
    · exact lv_tableIn (off := 1168) (tgt := 1200) B.1 B.2.1 dL_law_32 (by decide) (by decide) rfl (by decide) (lc_goBack B hi hn st hl kk)
end LAWS
