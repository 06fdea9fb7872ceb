def sdH (side : Int32) (xs : List Int32) (s e : Int32) : Bool := if side = 1 then decide (s = 0) else if side = 2 then decide (e = nI xs.length) else if side = 3 then vw (gt xs e) else if side = 4 then !vw (gt xs e) else if side = 5 then vw (gt xs (s - 1)) else true
def hldL (S : Bk) (xs : List Int32) (I P : Nat) : Bool := decide (∀ j, j < (S.1.getD I []).length → (S.1.getD I []).getD j (-5) = xs.getD (P + j) (-5))
def hld (S : Bk) (xs : List Int32) (I P : Nat) : Bool := hldL S xs I P && sdH (S.2.2.1.getD I (-5)) xs (nI P) (nI (P + (S.1.getD I []).length))
def rk (S : Bk) (k : Nat) : Int32 := 2 * nI (S.1.getD k []).length + (if S.2.2.1.getD k (-5) = 0 then 0 else 1)
def bst (S : Bk) (xs : List Int32) (P : Nat) : Nat → Int32 × Int32
  | 0 => (-5, 0)
  | k + 1 => if (bst S xs P k).2 < rk S k ∧ hld S xs k P = true then (nI k, rk S k) else bst S xs P k
theorem bst_no {S : Bk} {xs : List Int32} {P k : Nat} (h : ¬ ((bst S xs P k).2 < rk S k ∧ hld S xs k P = true)) : bst S xs P (k + 1) = bst S xs P k := if_neg h
theorem bst_yes {S : Bk} {xs : List Int32} {P k : Nat} (h1 : (bst S xs P k).2 < rk S k) (h2 : hld S xs k P = true) : bst S xs P (k + 1) = (nI k, rk S k) := if_pos ⟨h1, h2⟩
theorem bst_of (S : Bk) (xs : List Int32) (P : Nat) : ∀ n, (bst S xs P n).1 = -5 ∨ ∃ I, I < n ∧ (bst S xs P n).1 = nI I
  | 0 => Or.inl rfl
  | n + 1 => by
    by_cases h : (bst S xs P n).2 < rk S n ∧ hld S xs n P = true
    · exact Or.inr ⟨n, by omega, by rw [bst_yes h.1 h.2]⟩
    · rw [bst_no h]
      rcases bst_of S xs P n with h | ⟨I, h1, h2⟩
      · exact Or.inl h
      · exact Or.inr ⟨I, by omega, h2⟩
abbrev T3 : Type := List Int32 × List Int32 × List Int32
def useT (S : Bk) (I : Nat) (T : T3) : T3 := (if S.2.1.getD I (-5) = 0 then T.1 else adL 12 T.1 (S.2.1.getD I (-5)), amL 12 (nI I) (S.1.getD I []).length T.2.1, adL 12 T.2.2 (nI I))
def hrF (S : Bk) (xs : List Int32) : Nat → Nat → T3 → T3
  | 0, _, T => T
  | n + 1, p, T => if xs.length ≤ p then T else if (bst S xs p S.1.length).1 = -5 then hrF S xs n (p + 1) (adL 12 T.1 (xs.getD p (-5)), adL 12 T.2.1 (-5), T.2.2) else hrF S xs n (p + (S.1.getD (bst S xs p S.1.length).1.toNatClampNeg []).length) (useT S (bst S xs p S.1.length).1.toNatClampNeg T)
theorem hrF_end {S : Bk} {xs : List Int32} {n p : Nat} {T : T3} (h : xs.length ≤ p) : hrF S xs n p T = T := by
  cases n with
  | zero => rfl
  | succ n => exact if_pos h
theorem hrF_none {S : Bk} {xs : List Int32} {k p : Nat} {T : T3} (hk : k < 12) (h : ¬ xs.length ≤ p) (h2 : (bst S xs p S.1.length).1 = -5) : hrF S xs (12 - k) p T = hrF S xs (12 - (k + 1)) (p + 1) (adL 12 T.1 (xs.getD p (-5)), adL 12 T.2.1 (-5), T.2.2) := by
  rw [show 12 - k = (12 - (k + 1)) + 1 by omega]
  show (if xs.length ≤ p then T else _) = _
  rw [if_neg h, if_pos h2]
theorem hrF_use {S : Bk} {xs : List Int32} {k p I : Nat} {T : T3} (hk : k < 12) (h : ¬ xs.length ≤ p) (h2 : ¬ (bst S xs p S.1.length).1 = -5) (hI : (bst S xs p S.1.length).1 = nI I) (hI2 : I < 1000000000) : hrF S xs (12 - k) p T = hrF S xs (12 - (k + 1)) (p + (S.1.getD I []).length) (useT S I T) := by
  rw [show 12 - k = (12 - (k + 1)) + 1 by omega]
  show (if xs.length ≤ p then T else _) = _
  rw [if_neg h, if_neg h2, hI, nI_clamp (by omega)]
def sgn (SG : List (List Int32)) (c : Int32) : List Int32 := if cpt c = true then ln SG (c - 65) else [c]
def adS (SG : List (List Int32)) (sp snd : List Int32) : List Int32 := snd.foldl (fun q c => aaL 25 q (sgn SG c)) sp
theorem adS_step {SG : List (List Int32)} {sp snd : List Int32} {k : Nat} (hk : k < snd.length) : adS SG sp (snd.drop k) = adS SG (aaL 25 sp (sgn SG (snd.getD k (-5)))) (snd.drop (k + 1)) := by
  rw [List.drop_eq_getElem_cons hk, gd_in hk]; rfl
def wr1 (SG : List (List Int32)) (snd : List Int32) (kind : Int32) : List Int32 := if kind = 1 then [] else adS SG [] snd
def wr2 (sp xs : List Int32) : List Int32 := if sp.length = 0 then aaL 25 sp xs else sp
def wr3 (sp : List Int32) (kind : Int32) : List Int32 := if kind = 2 then adL 25 sp 39 else sp
def wrS (SG : List (List Int32)) (snd xs : List Int32) (kind : Int32) : List Int32 := wr3 (wr2 (wr1 SG snd kind) xs) kind
/-- a speller -/
abbrev T4 : Type := List Int32 × List Int32 × List Int32 × List Int32
def spM (cI : ClassId) (A : Nat → Nat) (T : T4) : Md := jn [cM (A 0) (.inr (5, [.ref (A 1), .ref (A 3), .ref (A 5), .ref (A 7)])), rowM cI (A 1) (A 2) 12 T.1, rowM cI (A 3) (A 4) 12 T.2.1, rowM cI (A 5) (A 6) 12 T.2.2.1, rowM cI (A 7) (A 8) 25 T.2.2.2]
theorem spF {cI : ClassId} {A : Nat → Nat} {T : T4} : hasF (spM cI A T) (A 0) 5 [.ref (A 1), .ref (A 3), .ref (A 5), .ref (A 7)] := hasF_jn (i := 0) rfl hasF_c
section SPL
variable {X : Cx} {k1 k2 pc : Nat} {lv : List (Nat × Value)} {st : List Value} {Ms : List Md}
theorem v_osp (i : Nat) {A : Nat → Nat} {T : T4} (hi : Ms[i]? = some (spM (XI X) A T)) (kk : V X k1 k2 pc lv st (Ms.take i ++ ([cM (A 0) (.inr (5, [.ref (A 1), .ref (A 3), .ref (A 5), .ref (A 7)])), rowM (XI X) (A 1) (A 2) 12 T.1, rowM (XI X) (A 3) (A 4) 12 T.2.1, rowM (XI X) (A 5) (A 6) 12 T.2.2.1, rowM (XI X) (A 7) (A 8) 25 T.2.2.2] ++ Ms.drop (i + 1)))) : V X k1 k2 pc lv st Ms := v_ojn i hi kk
theorem v_csp (i : Nat) {A : Nat → Nat} {a b c d : List Int32} {T : List Md} (hs : Ms.drop i = [cM (A 0) (.inr (5, [.ref (A 1), .ref (A 3), .ref (A 5), .ref (A 7)])), rowM (XI X) (A 1) (A 2) 12 a, rowM (XI X) (A 3) (A 4) 12 b, rowM (XI X) (A 5) (A 6) 12 c, rowM (XI X) (A 7) (A 8) 25 d] ++ T) (kk : V X k1 k2 pc lv st (Ms.take i ++ (spM (XI X) A (a, b, c, d) :: T))) : V X k1 k2 pc lv st Ms := v_cjn i hs kk
end SPL
theorem sgn_lt {SG : List (List Int32)} {c : Int32} (h : cpt c = true) : sgn SG c = ln SG (c - 65) := if_pos h
