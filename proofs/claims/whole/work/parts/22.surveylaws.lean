def incL (ru us : List Int32) : List Int32 := us.foldl (fun q r => stL q r (gt q r + 1)) ru
theorem incL_step {ru us : List Int32} {k : Nat} (hk : k < us.length) : incL ru (us.drop k) = incL (stL ru (us.getD k (-5)) (gt ru (us.getD k (-5)) + 1)) (us.drop (k + 1)) := by
  rw [List.drop_eq_getElem_cons hk, gd_in hk]; rfl
def hrW (S : Bk) (x : List Int32) : T3 := hrF S x 12 0 ([], [], [])
def spW (S : Bk) (x : List Int32) (kd : Int32) : List Int32 := wrS S.2.2.2.1 (hrW S x).1 x kd
abbrev Sv : Type := List (List Int32) × List (List Int32) × List (List Int32) × List Int32 × List Int32
def svS (S : Bk) : Nat → Sv
  | 0 => ([], [], [], [], amL 30 0 S.1.length [])
  | k + 1 => (adLn 20 12 (svS S k).1 (hrW S (S.2.2.2.2.1.getD k [])).1, adLn 20 12 (svS S k).2.1 (hrW S (S.2.2.2.2.1.getD k [])).2.1, adLn 20 25 (svS S k).2.2.1 (spW S (S.2.2.2.2.1.getD k []) (S.2.2.2.2.2.getD k (-5))), adL 20 (svS S k).2.2.2.1 (nI (hrW S (S.2.2.2.2.1.getD k [])).2.2.length), incL (svS S k).2.2.2.2 (hrW S (S.2.2.2.2.1.getD k [])).2.2)
def svy (S : Bk) : Sv := svS S S.2.2.2.2.1.length
def svL (cI : ClassId) (A : Nat → Nat) (v : Sv) (T : T4) (w : List Int32) : List Md := [cM (A 0) (.inr (6, [.ref (A 1), .ref (A 6), .ref (A 11), .ref (A 16), .ref (A 18), .ref (A 20), .ref (A 29)])), rowsM cI (A 1) (A 2) (A 3) (A 4) (A 5) 20 12 v.1, rowsM cI (A 6) (A 7) (A 8) (A 9) (A 10) 20 12 v.2.1, rowsM cI (A 11) (A 12) (A 13) (A 14) (A 15) 20 25 v.2.2.1, rowM cI (A 16) (A 17) 20 v.2.2.2.1, rowM cI (A 18) (A 19) 30 v.2.2.2.2, spM cI (fun n => A (20 + n)) T, rowM cI (A 29) (A 30) 12 w]
def svM (cI : ClassId) (A : Nat → Nat) (v : Sv) : Md := exM (adr (svL cI A v ([], [], [], []) [])) (fun _ : T4 × List Int32 => True) (fun q => jn (svL cI A v q.1 q.2))
theorem svF {cI : ClassId} {A : Nat → Nat} {v : Sv} : hasF (svM cI A v) (A 0) 6 [.ref (A 1), .ref (A 6), .ref (A 11), .ref (A 16), .ref (A 18), .ref (A 20), .ref (A 29)] := hasF_ex fun q => hasF_jn (i := 0) rfl hasF_c
theorem sv_at {D : va_G} {cI : ClassId} {A : Nat → Nat} {v : Sv} {H : Heap} : mAt D (svM cI A v) H ↔ ∃ q : T4 × List Int32, True ∧ wd D (svL cI A v q.1 q.2) H := by
  refine Iff.trans (mAt_ex (fun _ => rfl)) ?_
  exact exists_congr fun q => and_congr_right fun _ => mAt_jn
section SVL
variable {X : Cx} {k1 k2 pc : Nat} {lv : List (Nat × Value)} {st : List Value} {Ms : List Md}
theorem v_osv (i : Nat) {A : Nat → Nat} {v : Sv} (hi : Ms[i]? = some (svM (XI X) A v)) (kk : ∀ (T : T4) (w : List Int32), V X k1 k2 pc lv st (Ms.take i ++ ([cM (A 0) (.inr (6, [.ref (A 1), .ref (A 6), .ref (A 11), .ref (A 16), .ref (A 18), .ref (A 20), .ref (A 29)])), rowsM (XI X) (A 1) (A 2) (A 3) (A 4) (A 5) 20 12 v.1, rowsM (XI X) (A 6) (A 7) (A 8) (A 9) (A 10) 20 12 v.2.1, rowsM (XI X) (A 11) (A 12) (A 13) (A 14) (A 15) 20 25 v.2.2.1, rowM (XI X) (A 16) (A 17) 20 v.2.2.2.1, rowM (XI X) (A 18) (A 19) 30 v.2.2.2.2, spM (XI X) (fun n => A (20 + n)) T, rowM (XI X) (A 29) (A 30) 12 w] ++ Ms.drop (i + 1)))) : V X k1 k2 pc lv st Ms :=
  v_open (α := T4 × List Int32) (φ := fun _ => True) (F := fun q => svL (XI X) A v q.1 q.2) i hi (fun H h => sv_at.mp h) (fun _ => rfl) (fun q _ => kk q.1 q.2)
theorem v_csv (i : Nat) {A : Nat → Nat} {a b c : List (List Int32)} {d e : List Int32} {T : T4} {w : List Int32} {Z : List Md} (hs : Ms.drop i = [cM (A 0) (.inr (6, [.ref (A 1), .ref (A 6), .ref (A 11), .ref (A 16), .ref (A 18), .ref (A 20), .ref (A 29)])), rowsM (XI X) (A 1) (A 2) (A 3) (A 4) (A 5) 20 12 a, rowsM (XI X) (A 6) (A 7) (A 8) (A 9) (A 10) 20 12 b, rowsM (XI X) (A 11) (A 12) (A 13) (A 14) (A 15) 20 25 c, rowM (XI X) (A 16) (A 17) 20 d, rowM (XI X) (A 18) (A 19) 30 e, spM (XI X) (fun n => A (20 + n)) T, rowM (XI X) (A 29) (A 30) 12 w] ++ Z) (kk : V X k1 k2 pc lv st (Ms.take i ++ (svM (XI X) A (a, b, c, d, e) :: Z))) : V X k1 k2 pc lv st Ms :=
  v_close (M := svM (XI X) A (a, b, c, d, e)) i hs (fun H h => sv_at.mpr ⟨(T, w), trivial, h⟩) rfl kk
end SVL
def cntR (p : Nat → Bool) : Nat → Nat
  | 0 => 0
  | n + 1 => cntR p n + (if p n = true then 1 else 0)
theorem cntR_t {p : Nat → Bool} {n : Nat} (h : p n = true) : cntR p (n + 1) = cntR p n + 1 := by
  show cntR p n + (if p n = true then 1 else 0) = _
  rw [if_pos h]
theorem cntR_f {p : Nat → Bool} {n : Nat} (h : p n = false) : cntR p (n + 1) = cntR p n := by
  show cntR p n + (if p n = true then 1 else 0) = _
  rw [if_neg (by rw [h]; exact Bool.false_ne_true)]; rfl
def cbk (sp : List (List Int32)) (k : Nat) : Bool := decide (opI (fdo (sp.getD k []) sp 0) = nI k)
def col (sp : List (List Int32)) (k : Nat) : Bool := decide (1 < cnt (sp.getD k []) sp)
def unu (ru : List Int32) (k : Nat) : Bool := decide (ru.getD k (-5) = 0)
def dif (sp sp2 : List (List Int32)) (k : Nat) : Bool := !decide (sp.getD k [] = sp2.getD k [])
theorem cnt_le {x : List Int32} {L : List (List Int32)} : cnt x L ≤ L.length := List.length_filter_le _ _
theorem wd12 {most w : Nat} {L : List (List Int32)} {C : List Int32} (hC : rl most w L C) {k : Nat} (hk : k < 1000000000) : aaL w [] (ln L (nI k)) = L.getD k [] := by
  rw [ad_all, ln_n hk, List.nil_append, List.take_of_length_le]
  have := rl_len hC (k := k)
  simpa using this
theorem col_le {n : Nat} (h : 1 < n) (hN : n < 1000000000) : ¬ nI n ≤ 1 := by
  rw [show (1 : Int32) = nI 1 from rfl, nI_leI (by omega) (by decide)]
  omega
theorem col_gt {n : Nat} (hN : n < 1000000000) (h : ¬ nI n ≤ 1) : 1 < n := by
  rw [show (1 : Int32) = nI 1 from rfl, nI_leI (by omega) (by decide)] at h
  omega
theorem nf_rep1 {Ms Mc : List Md} {i : Nat} {is : List Nat} {M : Md} : rep Ms (i :: is) (M :: Mc) = rep (Ms.set i M) is Mc := rfl
theorem nf_rep0 {Ms : List Md} : rep Ms [] [] = Ms := rfl
theorem nf_d0 {l : List Md} : List.drop 0 l = l := rfl
theorem nf_t0 {l : List Md} : List.take 0 l = [] := rfl
theorem nf_s0 {a b : Md} {l : List Md} : List.set (a :: l) 0 b = b :: l := rfl
theorem nf_ac {a : Md} {l m : List Md} : (a :: l) ++ m = a :: (l ++ m) := rfl
theorem nf_an {m : List Md} : ([] : List Md) ++ m = m := rfl
theorem nf_d1 {a : Md} {l : List Md} : List.drop 1 (a :: l) = List.drop 0 l := rfl
theorem nf_t1 {a : Md} {l : List Md} : List.take 1 (a :: l) = a :: List.take 0 l := rfl
theorem nf_s1 {a b : Md} {l : List Md} : List.set (a :: l) 1 b = a :: List.set l 0 b := rfl
theorem nf_d2 {a : Md} {l : List Md} : List.drop 2 (a :: l) = List.drop 1 l := rfl
theorem nf_t2 {a : Md} {l : List Md} : List.take 2 (a :: l) = a :: List.take 1 l := rfl
theorem nf_s2 {a b : Md} {l : List Md} : List.set (a :: l) 2 b = a :: List.set l 1 b := rfl
theorem nf_d3 {a : Md} {l : List Md} : List.drop 3 (a :: l) = List.drop 2 l := rfl
theorem nf_t3 {a : Md} {l : List Md} : List.take 3 (a :: l) = a :: List.take 2 l := rfl
theorem nf_s3 {a b : Md} {l : List Md} : List.set (a :: l) 3 b = a :: List.set l 2 b := rfl
theorem nf_d4 {a : Md} {l : List Md} : List.drop 4 (a :: l) = List.drop 3 l := rfl
theorem nf_t4 {a : Md} {l : List Md} : List.take 4 (a :: l) = a :: List.take 3 l := rfl
theorem nf_s4 {a b : Md} {l : List Md} : List.set (a :: l) 4 b = a :: List.set l 3 b := rfl
theorem nf_d5 {a : Md} {l : List Md} : List.drop 5 (a :: l) = List.drop 4 l := rfl
theorem nf_t5 {a : Md} {l : List Md} : List.take 5 (a :: l) = a :: List.take 4 l := rfl
theorem nf_s5 {a b : Md} {l : List Md} : List.set (a :: l) 5 b = a :: List.set l 4 b := rfl
theorem nf_d6 {a : Md} {l : List Md} : List.drop 6 (a :: l) = List.drop 5 l := rfl
theorem nf_t6 {a : Md} {l : List Md} : List.take 6 (a :: l) = a :: List.take 5 l := rfl
theorem nf_s6 {a b : Md} {l : List Md} : List.set (a :: l) 6 b = a :: List.set l 5 b := rfl
theorem nf_d7 {a : Md} {l : List Md} : List.drop 7 (a :: l) = List.drop 6 l := rfl
theorem nf_t7 {a : Md} {l : List Md} : List.take 7 (a :: l) = a :: List.take 6 l := rfl
theorem nf_s7 {a b : Md} {l : List Md} : List.set (a :: l) 7 b = a :: List.set l 6 b := rfl
theorem nf_d8 {a : Md} {l : List Md} : List.drop 8 (a :: l) = List.drop 7 l := rfl
theorem nf_t8 {a : Md} {l : List Md} : List.take 8 (a :: l) = a :: List.take 7 l := rfl
theorem nf_s8 {a b : Md} {l : List Md} : List.set (a :: l) 8 b = a :: List.set l 7 b := rfl
theorem nf_d9 {a : Md} {l : List Md} : List.drop 9 (a :: l) = List.drop 8 l := rfl
theorem nf_t9 {a : Md} {l : List Md} : List.take 9 (a :: l) = a :: List.take 8 l := rfl
theorem nf_s9 {a b : Md} {l : List Md} : List.set (a :: l) 9 b = a :: List.set l 8 b := rfl
theorem nf_d10 {a : Md} {l : List Md} : List.drop 10 (a :: l) = List.drop 9 l := rfl
theorem nf_t10 {a : Md} {l : List Md} : List.take 10 (a :: l) = a :: List.take 9 l := rfl
theorem nf_s10 {a b : Md} {l : List Md} : List.set (a :: l) 10 b = a :: List.set l 9 b := rfl
theorem nf_d11 {a : Md} {l : List Md} : List.drop 11 (a :: l) = List.drop 10 l := rfl
theorem nf_t11 {a : Md} {l : List Md} : List.take 11 (a :: l) = a :: List.take 10 l := rfl
theorem nf_s11 {a b : Md} {l : List Md} : List.set (a :: l) 11 b = a :: List.set l 10 b := rfl
theorem nf_d12 {a : Md} {l : List Md} : List.drop 12 (a :: l) = List.drop 11 l := rfl
theorem nf_t12 {a : Md} {l : List Md} : List.take 12 (a :: l) = a :: List.take 11 l := rfl
theorem nf_s12 {a b : Md} {l : List Md} : List.set (a :: l) 12 b = a :: List.set l 11 b := rfl
theorem nf_d13 {a : Md} {l : List Md} : List.drop 13 (a :: l) = List.drop 12 l := rfl
theorem nf_t13 {a : Md} {l : List Md} : List.take 13 (a :: l) = a :: List.take 12 l := rfl
theorem nf_s13 {a b : Md} {l : List Md} : List.set (a :: l) 13 b = a :: List.set l 12 b := rfl
theorem nf_d14 {a : Md} {l : List Md} : List.drop 14 (a :: l) = List.drop 13 l := rfl
theorem nf_t14 {a : Md} {l : List Md} : List.take 14 (a :: l) = a :: List.take 13 l := rfl
theorem nf_s14 {a b : Md} {l : List Md} : List.set (a :: l) 14 b = a :: List.set l 13 b := rfl
theorem nf_d15 {a : Md} {l : List Md} : List.drop 15 (a :: l) = List.drop 14 l := rfl
theorem nf_t15 {a : Md} {l : List Md} : List.take 15 (a :: l) = a :: List.take 14 l := rfl
theorem nf_s15 {a b : Md} {l : List Md} : List.set (a :: l) 15 b = a :: List.set l 14 b := rfl
theorem nf_d16 {a : Md} {l : List Md} : List.drop 16 (a :: l) = List.drop 15 l := rfl
theorem nf_t16 {a : Md} {l : List Md} : List.take 16 (a :: l) = a :: List.take 15 l := rfl
theorem nf_s16 {a b : Md} {l : List Md} : List.set (a :: l) 16 b = a :: List.set l 15 b := rfl
theorem nf_d17 {a : Md} {l : List Md} : List.drop 17 (a :: l) = List.drop 16 l := rfl
theorem nf_t17 {a : Md} {l : List Md} : List.take 17 (a :: l) = a :: List.take 16 l := rfl
theorem nf_s17 {a b : Md} {l : List Md} : List.set (a :: l) 17 b = a :: List.set l 16 b := rfl
theorem nf_d18 {a : Md} {l : List Md} : List.drop 18 (a :: l) = List.drop 17 l := rfl
theorem nf_t18 {a : Md} {l : List Md} : List.take 18 (a :: l) = a :: List.take 17 l := rfl
theorem nf_s18 {a b : Md} {l : List Md} : List.set (a :: l) 18 b = a :: List.set l 17 b := rfl
theorem nf_d19 {a : Md} {l : List Md} : List.drop 19 (a :: l) = List.drop 18 l := rfl
theorem nf_t19 {a : Md} {l : List Md} : List.take 19 (a :: l) = a :: List.take 18 l := rfl
theorem nf_s19 {a b : Md} {l : List Md} : List.set (a :: l) 19 b = a :: List.set l 18 b := rfl
theorem nf_d20 {a : Md} {l : List Md} : List.drop 20 (a :: l) = List.drop 19 l := rfl
theorem nf_t20 {a : Md} {l : List Md} : List.take 20 (a :: l) = a :: List.take 19 l := rfl
theorem nf_s20 {a b : Md} {l : List Md} : List.set (a :: l) 20 b = a :: List.set l 19 b := rfl
