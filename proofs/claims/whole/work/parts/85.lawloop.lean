set_option maxHeartbeats 1000000 in
set_option maxRecDepth 100000 in
/-- the law's loop: at its head, with I ints read, class and reference stand alike -/
theorem lw_loop {X : Cx} {b L k1 k2 : Nat} {xs0 : Nat → Int32} (K : okx X code 4 RL wsL_law room_1) (E : lwx X b L xs0) {a m : Nat → Nat} {g HB : Nat → Nat → Nat} (hk : k1 ≤ room_1.cells ∧ k2 ≤ room_1.slots) : ∀ (n I : Nat), L + 4 ≤ I + n → I ≤ 2048 → ∀ (o : Ob) (c : Sc) (Mm : List Md), mOk (XI X) m o Mm → V X k1 k2 18 [(0, .ref b), (1, .ref (a 0)), (2, .ref (m 0)), (3, .int (nI I))] [] (wl (XI X) (XB X) a g HB o c ++ Mm) := by
  have hL : L ≤ 2048 := E.2.2.2.2.2.2
  intro n
  induction n using Nat.strongRecOn with
  | _ n ih =>
    intro I hn hI9 o c Mm hm
    refine v_iload_n K dL_law_18 rfl ?_
    refine v_aload_n K dL_law_19 rfl ?_
    refine v_slen K E dL_law_20 ?_
    refine v_iconst K (4) dL_law_21 (by decide) ?_
    refine v_isub K dL_law_22 ?_
    refine v_ic_gt K 665 dL_law_23 (by decide) (fun _ => ?_) (fun c23 => ?_)
    · refine v_iconst K (1) dL_law_665 (by decide) ?_
      exact v_lawret K E hk dL_law_666
    · have hI : I + 4 ≤ L := lw_I hL (by omega) c23
      have kk : ∀ (o' : Ob) (c' : Sc) (M' : List Md), mOk (XI X) m o' M' → V X k1 k2 659 [(0, .ref b), (1, .ref (a 0)), (2, .ref (m 0)), (3, .int (nI I))] [] (wl (XI X) (XB X) a g HB o' c' ++ M') := fun o' c' M' hm' => by
        refine v_iinc K dL_law_659 rfl (by decide) iinc_law ?_
        refine v_goto K 18 dL_law_662 (by decide) ?_
        refine v_lv (lv' := [(0, .ref b), (1, .ref (a 0)), (2, .ref (m 0)), (3, .int (nI (I + 4)))]) rfl ?_
        exact ih (n - 4) (by omega) (I + 4) (by omega) (by omega) o' c' M' hm'
      refine v_aload_n K dL_law_26 rfl ?_
      refine v_iload_n K dL_law_27 rfl ?_
      refine v_sld K E (vp_in_nI (by omega) (by omega)) dL_law_28 ?_
      refine v_bipush K (31) dL_law_29 (by decide) ?_
      refine v_iand K dL_law_31 ?_
      generalize xs0 (nI I).toNatClampNeg &&& 31 = y
      by_cases hy : y.toInt < 0 ∨ 20 < y.toInt
      · exact v_tabOut K 659 dL_law_32 hy (by decide) (kk o c Mm hm)
      · rcases (show y.toInt = 0 ∨ y.toInt = 1 ∨ y.toInt = 2 ∨ y.toInt = 3 ∨ y.toInt = 4 ∨ y.toInt = 5 ∨ y.toInt = 6 ∨ y.toInt = 7 ∨ y.toInt = 8 ∨ y.toInt = 9 ∨ y.toInt = 10 ∨ y.toInt = 11 ∨ y.toInt = 12 ∨ y.toInt = 13 ∨ y.toInt = 14 ∨ y.toInt = 15 ∨ y.toInt = 16 ∨ y.toInt = 17 ∨ y.toInt = 18 ∨ y.toInt = 19 ∨ y.toInt = 20 by omega) with h | h | h | h | h | h | h | h | h | h | h | h | h | h | h | h | h | h | h | h | h
        · exact v_tabIn K 132 dL_law_32 h (by decide) (by decide) rfl (by decide) (lc_readEntries K E hm hI hk kk)
        · exact v_tabIn K 145 dL_law_32 h (by decide) (by decide) rfl (by decide) (lc_removeRule K E hm hI hk kk)
        · exact v_tabIn K 168 dL_law_32 h (by decide) (by decide) rfl (by decide) (lc_moveRule K E hm hI hk kk)
        · exact v_tabIn K 201 dL_law_32 h (by decide) (by decide) rfl (by decide) (lc_removeWord K E hm hI hk kk)
        · exact v_tabIn K 224 dL_law_32 h (by decide) (by decide) rfl (by decide) (lc_setKind K E hm hI hk kk)
        · exact v_tabIn K 257 dL_law_32 h (by decide) (by decide) rfl (by decide) (lc_markCollisions K E hm hI hk kk)
        · exact v_tabIn K 270 dL_law_32 h (by decide) (by decide) rfl (by decide) (lc_type K E hm hI hk kk)
        · exact v_tabIn K 295 dL_law_32 h (by decide) (by decide) rfl (by decide) (lc_clearText K E hm hI hk kk)
        · exact v_tabIn K 308 dL_law_32 h (by decide) (by decide) rfl (by decide) (lc_convert K E hm hI hk kk)
        · exact v_tabIn K 347 dL_law_32 h (by decide) (by decide) rfl (by decide) (lc_takeResult K E hm hI hk kk)
        · exact v_tabIn K 360 dL_law_32 h (by decide) (by decide) rfl (by decide) (lc_undo K E hm hI hk kk)
        · exact v_tabIn K 373 dL_law_32 h (by decide) (by decide) rfl (by decide) (lc_keep K E hm hI hk kk)
        · exact v_tabIn K 386 dL_law_32 h (by decide) (by decide) rfl (by decide) (lc_restore K E hm hI hk kk)
        · exact v_tabIn K 399 dL_law_32 h (by decide) (by decide) rfl (by decide) (lc_rule K E hm hI hk kk)
        · exact v_tabIn K 432 dL_law_32 h (by decide) (by decide) rfl (by decide) (lc_letterOf K E hm hI hk kk)
        · exact v_tabIn K 465 dL_law_32 h (by decide) (by decide) rfl (by decide) (lc_sign K E hm hI hk kk)
        · exact v_tabIn K 500 dL_law_32 h (by decide) (by decide) rfl (by decide) (lc_word K E hm hI hk kk)
        · exact v_tabIn K 533 dL_law_32 h (by decide) (by decide) rfl (by decide) (lc_at K E hm hI hk kk)
        · exact v_tabIn K 576 dL_law_32 h (by decide) (by decide) rfl (by decide) (lc_result K E hm hI hk kk)
        · exact v_tabIn K 599 dL_law_32 h (by decide) (by decide) rfl (by decide) (lc_collideWith K E hm hI hk kk)
        · exact v_tabIn K 636 dL_law_32 h (by decide) (by decide) rfl (by decide) (lc_count K E hm hI hk kk)
