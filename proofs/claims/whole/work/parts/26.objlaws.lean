/-- text, result, state, snapshot, whether there is one, history -/
abbrev Ob : Type := List Int32 × List Int32 × Bk × Bk × Bool × List Bk
/-- what is written over: conversion, reader, letters, speller, draft, trial -/
abbrev Sc : Type := List Int32 × List Int32 × (Int32 × Int32 × Int32 × Int32 × Int32) × T4 × Bk × Sv
def wl (cI cB : ClassId) (a : Nat → Nat) (g HB : Nat → Nat → Nat) (o : Ob) (c : Sc) : List Md := [cM (a 0) (.inr (7, [.ref (a 1), .ref (a 3), .ref (a 5), .ref (a 7), .ref (g 0 0), .ref (g 1 0), .ref (g 2 0), .ref (g 3 0), .int (bI o.2.2.2.2.1), .ref (a 10), .ref (g 4 0), .ref (g 5 0)])), rowM cI (a 1) (a 2) 60 o.1, rowM cI (a 3) (a 4) 400 o.2.1, rowM cI (a 5) (a 6) 400 c.1, rdM (a 7) (a 8) (a 1) c.2.2.1.1 c.2.2.1.2.1 c.2.2.1.2.2.1 c.2.2.1.2.2.2.1 c.2.2.1.2.2.2.2, rowM cI (a 8) (a 9) 25 c.2.1, spM cI (g 0) c.2.2.2.1, bookM cI (g 1) 30 20 o.2.2.1, bookM cI (g 2) 60 50 c.2.2.2.2.1, bookM cI (g 3) 30 20 o.2.2.2.1, hiM cI cB (a 10) (a 11) HB o.2.2.2.2.2, svM cI (g 4) (svy o.2.2.1), svM cI (g 5) c.2.2.2.2.2]
def po (cI cB : ClassId) (a : Nat → Nat) (g HB : Nat → Nat → Nat) (v : Int32) (o : Ob) : Option Value → List Md → Prop := fun ov M => ov = some (.int v) ∧ ∃ c : Sc, M = wl cI cB a g HB o c
def bfit (nr nw : Nat) (S : Bk) : Prop := (∃ C, rl nr 4 S.1 C) ∧ S.2.1.length ≤ nr ∧ S.2.2.1.length ≤ nr ∧ (∃ C, rl 26 2 S.2.2.2.1 C) ∧ (∃ C, rl nw 12 S.2.2.2.2.1 C) ∧ S.2.2.2.2.2.length ≤ nw
theorem row_le {D : va_G} {cI : ClassId} {r a cap : Nat} {xs : List Int32} {H : Heap} (h : mAt D (rowM cI r a cap xs) H) : xs.length ≤ cap := by
  obtain ⟨ws, ⟨f, hf, -⟩, -⟩ := h
  exact hf.1
theorem rows_rl {D : va_G} {cI : ClassId} {rs c ca l la most w : Nat} {L : List (List Int32)} {H : Heap} (h : mAt D (rowsM cI rs c ca l la most w L) H) : ∃ C, rl most w L C := by
  obtain ⟨C, hC, -⟩ := rows_at.mp h
  exact ⟨C, hC⟩
theorem v_bfit {X : Cx} {k1 k2 pc : Nat} {lv : List (Nat × Value)} {st : List Value} {Ms : List Md} {cI : ClassId} {A : Nat → Nat} {nr nw : Nat} {S : Bk} (i : Nat) (hi : Ms[i]? = some (bookM cI A nr nw S)) (kk : bfit nr nw S → V X k1 k2 pc lv st Ms) : V X k1 k2 pc lv st Ms := fun H locs ls w n a s h => by
  have hw := mAt_jn.mp (w _ (List.mem_of_getElem? hi))
  refine kk ⟨rows_rl (hw _ (List.mem_of_getElem? (i := 1) rfl)), row_le (hw _ (List.mem_of_getElem? (i := 2) rfl)), row_le (hw _ (List.mem_of_getElem? (i := 3) rfl)), rows_rl (hw _ (List.mem_of_getElem? (i := 4) rfl)), rows_rl (hw _ (List.mem_of_getElem? (i := 5) rfl)), row_le (hw _ (List.mem_of_getElem? (i := 6) rfl))⟩ H locs ls w n a s h
theorem bfit_r {nr nw : Nat} {S : Bk} (h : bfit nr nw S) : S.1.length < 1000000000 ∧ S.1.length ≤ nr := by
  obtain ⟨⟨C, hC⟩, -⟩ := h
  exact ⟨rl_N hC, hC.2.2.1⟩
theorem bfit_w {nr nw : Nat} {S : Bk} (h : bfit nr nw S) : S.2.2.2.2.1.length < 1000000000 ∧ S.2.2.2.2.1.length ≤ nw := by
  obtain ⟨-, -, -, -, ⟨C, hC⟩, -⟩ := h
  exact ⟨rl_N hC, hC.2.2.1⟩
theorem svS_len (S : Bk) : ∀ k, k ≤ 20 → (svS S k).1.length = k ∧ (svS S k).2.1.length = k ∧ (svS S k).2.2.1.length = k ∧ (svS S k).2.2.2.1.length = k
  | 0, _ => ⟨rfl, rfl, rfl, rfl⟩
  | k + 1, hk => by
    obtain ⟨h1, h2, h3, h4⟩ := svS_len S k (by omega)
    refine ⟨?_, ?_, ?_, ?_⟩
    · show (adLn 20 12 (svS S k).1 _).length = _
      unfold adLn; rw [if_pos (by omega), List.length_append, h1]; rfl
    · show (adLn 20 12 (svS S k).2.1 _).length = _
      unfold adLn; rw [if_pos (by omega), List.length_append, h2]; rfl
    · show (adLn 20 25 (svS S k).2.2.1 _).length = _
      unfold adLn; rw [if_pos (by omega), List.length_append, h3]; rfl
    · show (adL 20 (svS S k).2.2.2.1 _).length = _
      unfold adL; rw [if_pos (by omega), List.length_append, h4]; rfl
theorem svy_len {S : Bk} (h : S.2.2.2.2.1.length ≤ 20) : (svy S).2.2.1.length = S.2.2.2.2.1.length := (svS_len S _ h).2.2.1
def act (o : Ob) (S' : Bk) : Ob := (o.1, o.2.1, S', o.2.2.2.1, o.2.2.2.2.1, rec4 o.2.2.2.2.2 (cpB 30 20 o.2.2.1))
def vRule (S : Bk) (i w : Int32) : Int32 := if hasL S.1 i = true then (if w = 0 then gt (lens S.1) i else if w = 1 then gt S.2.1 i else if w = 2 then gt S.2.2.1 i else if w = 3 then gt (svy S).2.2.2.2 i else -2) else -1
def vLetter (S : Bk) (i j : Int32) : Int32 := if hasL S.1 i = true then (if 0 ≤ j then gg S.1 i j else -2) else -1
def vSign (S : Bk) (c j : Int32) : Int32 := if cpt c = true then (if j < 0 then -2 else if j < 2 then gg S.2.2.2.1 (c - 65) j else -2) else -1
def vWord (S : Bk) (i w : Int32) : Int32 := if hasL S.2.2.2.2.1 i = true then (if w = 0 then gt S.2.2.2.2.2 i else if w = 1 then gt (lens S.2.2.2.2.1) i else if w = 2 then gt (lens (svy S).1) i else if w = 3 then gt (lens (svy S).2.2.1) i else if w = 4 then nI (cnt (ln (svy S).2.2.1 i) (svy S).2.2.1) else if w = 5 then bI (cbk (svy S).2.2.1 i.toNatClampNeg) else if w = 6 then gt (svy S).2.2.2.1 i else -2) else -1
def vAt (S : Bk) (i w j : Int32) : Int32 := if hasL S.2.2.2.2.1 i = true then (if 0 ≤ j then (if w = 0 then gg S.2.2.2.2.1 i j else if w = 1 then gg (svy S).1 i j else if w = 2 then gg (svy S).2.2.1 i j else if w = 3 then gg (svy S).2.1 i j else -2) else -2) else -1
def vRes (cs : List Int32) (j : Int32) : Int32 := if 0 ≤ j then gt cs j else -2
def sgB (S : Bk) (c l : Int32) : Bk := (S.1, S.2.1, S.2.2.1, poL S.2.2.2.1 (c - 65) l, S.2.2.2.2.1, S.2.2.2.2.2)
def vColl (S : Bk) (c l : Int32) : Int32 := if cpt c = true then (if sm l = true then nI (cntR (col (svy (sgB (cpB 60 50 S) c l)).2.2.1) (svy (sgB (cpB 60 50 S) c l)).2.2.1.length) else -2) else -1
def vCount (o : Ob) (w : Int32) : Int32 := if w = 0 then nI o.2.2.1.1.length else if w = 1 then nI o.2.2.1.2.2.2.2.1.length else if w = 2 then nI (cntR (col (svy o.2.2.1).2.2.1) (svy o.2.2.1).2.2.1.length) else if w = 3 then nI (cntR (cbk (svy o.2.2.1).2.2.1) (svy o.2.2.1).2.2.1.length) else if w = 4 then nI (cntR (unu (svy o.2.2.1).2.2.2.2) (svy o.2.2.1).2.2.2.2.length) else if w = 5 then nI (sumL o.2.2.1.2.2.2.2.1) else if w = 6 then nI (sumL (svy o.2.2.1).2.2.1) else if w = 7 then nI o.2.1.length else if w = 8 then nI o.2.2.2.2.2.length else if w = 9 then nI o.1.length else if w = 10 then nI (longS o.2.2.1.2.2.2.1) else -2
def kindB (S : Bk) (i k : Int32) : Bk := (S.1, S.2.1, S.2.2.1, S.2.2.2.1, S.2.2.2.2.1, stL S.2.2.2.2.2 i k)
def sRmR (o : Ob) (i : Int32) : Int32 × Ob := if hasL o.2.2.1.1 i = true then (nI (dropR o.2.2.1 i.toNatClampNeg).1.length, act o (dropR o.2.2.1 i.toNatClampNeg)) else (-1, o)
def sMvR (o : Ob) (i j : Int32) : Int32 × Ob := if hasL o.2.2.1.1 i = true then (if hasL o.2.2.1.1 j = true then (if i = j then (-5, o) else (nI (cntR (dif (svy (shiftR o.2.2.1 i.toNatClampNeg j.toNatClampNeg)).2.2.1 (svy o.2.2.1).2.2.1) (svy (shiftR o.2.2.1 i.toNatClampNeg j.toNatClampNeg)).2.2.1.length), act o (shiftR o.2.2.1 i.toNatClampNeg j.toNatClampNeg))) else (-2, o)) else (-1, o)
def sRmW (o : Ob) (i : Int32) : Int32 × Ob := if hasL o.2.2.1.2.2.2.2.1 i = true then (nI (dropW o.2.2.1 i.toNatClampNeg).2.2.2.2.1.length, act o (dropW o.2.2.1 i.toNatClampNeg)) else (-1, o)
def sKind (o : Ob) (i k : Int32) : Int32 × Ob := if hasL o.2.2.1.2.2.2.2.1 i = true then (if k < 0 then (-2, o) else if k ≤ 2 then (if gt o.2.2.1.2.2.2.2.2 i = k then (-5, o) else (gt o.2.2.1.2.2.2.2.2 i, act o (kindB o.2.2.1 i k))) else (-2, o)) else (-1, o)
def sType (o : Ob) (c : Int32) : Int32 × Ob := if 60 ≤ o.1.length then (-3, o) else (nI (adL 60 o.1 c).length, (adL 60 o.1 c, o.2))
def sClear (o : Ob) : Int32 × Ob := (nI o.1.length, ([], o.2))
def sTake (o : Ob) : Int32 × Ob := if nI o.2.1.length ≤ 60 then (nI (aaL 60 [] o.2.1).length, (aaL 60 [] o.2.1, o.2)) else (-3, o)
def sUndo (o : Ob) : Int32 × Ob := if o.2.2.2.2.2.length = 0 then (-5, o) else (nI o.2.2.2.2.2.dropLast.length, (o.1, o.2.1, cpB 30 20 (o.2.2.2.2.2.getD (o.2.2.2.2.2.length - 1) bk0), o.2.2.2.1, o.2.2.2.2.1, o.2.2.2.2.2.dropLast))
def sKeep (o : Ob) : Int32 × Ob := (nI o.2.2.1.2.2.2.2.1.length, (o.1, o.2.1, o.2.2.1, cpB 30 20 o.2.2.1, true, o.2.2.2.2.2))
def sRest (o : Ob) : Int32 × Ob := if o.2.2.2.2.1 = true then (nI (cpB 30 20 o.2.2.2.1).2.2.2.2.1.length, act o (cpB 30 20 o.2.2.2.1)) else (-5, o)
theorem v_hile {X : Cx} {k1 k2 pc : Nat} {lv : List (Nat × Value)} {st : List Value} {Ms : List Md} {cI cB : ClassId} {h a : Nat} {B : Nat → Nat → Nat} {hs : List Bk} (i : Nat) (hi : Ms[i]? = some (hiM cI cB h a B hs)) (kk : hs.length ≤ 4 → V X k1 k2 pc lv st Ms) : V X k1 k2 pc lv st Ms := fun H locs ls w n a s h => by
  obtain ⟨q, hr, -⟩ := hi_at.mp (w _ (List.mem_of_getElem? hi))
  exact kk hr.1 H locs ls w n a s h
theorem cM_1 {a : Nat} {e : va_E} : (cM a e).1 = [a] := rfl
theorem rowM_1 {cI : ClassId} {r a cap : Nat} {xs : List Int32} : (rowM cI r a cap xs).1 = [r, a] := rfl
theorem rowsM_1 {cI : ClassId} {rs c ca l la most w : Nat} {L : List (List Int32)} : (rowsM cI rs c ca l la most w L).1 = [rs, c, ca, l, la] := rfl
theorem rdM_1 {rd lt tx : Nat} {p e s d k : Int32} : (rdM rd lt tx p e s d k).1 = [rd] := rfl
def spA (A : Nat → Nat) : List Nat := [A 0, A 1, A 2, A 3, A 4, A 5, A 6, A 7, A 8]
theorem spM_1 {cI : ClassId} {A : Nat → Nat} {T : T4} : (spM cI A T).1 = spA A := rfl
def bkA (A : Nat → Nat) : List Nat := [A 0, A 1, A 2, A 3, A 4, A 5, A 6, A 7, A 8, A 9, A 10, A 11, A 12, A 13, A 14, A 15, A 16, A 17, A 18, A 19, A 20, A 21]
theorem bookM_1 {cI : ClassId} {A : Nat → Nat} {nr nw : Nat} {S : Bk} : (bookM cI A nr nw S).1 = bkA A := rfl
def svA (A : Nat → Nat) : List Nat := [A 0, A 1, A 2, A 3, A 4, A 5, A 6, A 7, A 8, A 9, A 10, A 11, A 12, A 13, A 14, A 15, A 16, A 17, A 18, A 19, A (20 + 0), A (20 + 1), A (20 + 2), A (20 + 3), A (20 + 4), A (20 + 5), A (20 + 6), A (20 + 7), A (20 + 8), A 29, A 30]
theorem svM_1 {cI : ClassId} {A : Nat → Nat} {v : Sv} : (svM cI A v).1 = svA A := rfl
def hiA (h a : Nat) (B : Nat → Nat → Nat) : List Nat := h :: a :: (bkA (B 0) ++ (bkA (B 1) ++ (bkA (B 2) ++ bkA (B 3))))
theorem hiM_1 {cI cB : ClassId} {h a : Nat} {B : Nat → Nat → Nat} {hs : List Bk} : (hiM cI cB h a B hs).1 = hiA h a B := rfl
