section BUND
variable {X : Cx} {k1 k2 pc : Nat} {lv : List (Nat × Value)} {st : List Value} {Ms : List Md}
theorem v_ojn (i : Nat) {Ns : List Md} (hi : Ms[i]? = some (jn Ns)) (kk : V X k1 k2 pc lv st (Ms.take i ++ (Ns ++ Ms.drop (i + 1)))) : V X k1 k2 pc lv st Ms :=
  v_open (α := Unit) (φ := fun _ => True) (F := fun _ => Ns) i hi (fun H h => ⟨(), trivial, mAt_jn.mp h⟩) (fun _ => rfl) (fun _ _ => kk)
theorem v_cjn (i : Nat) {Ns T : List Md} (hs : Ms.drop i = Ns ++ T) (kk : V X k1 k2 pc lv st (Ms.take i ++ (jn Ns :: T))) : V X k1 k2 pc lv st Ms :=
  v_close (M := jn Ns) i hs (fun H h => mAt_jn.mpr h) rfl kk
variable {cc : ByteArray} {nL : Nat} {own : String} {Ts : List Cond} {R : Room}
theorem v_case (k : Int32) {x : Int32} (h1 : x = k → V X k1 k2 pc lv (.int x :: st) Ms) (h2 : ¬ x = k → V X k1 k2 pc lv (.int x :: st) Ms) : V X k1 k2 pc lv (.int x :: st) Ms := by
  by_cases h : x = k
  · exact h1 h
  · exact h2 h
theorem v_tabHit (C : okx X cc nL own Ts R) {dflt lo hi : Int} {offs : Array Int} {len : Nat} {x k : Int32} {off : Int} (tgt : Nat) (hdg : decode cc pc = .ok (.tableswitch dflt lo hi offs, len)) (hx : x = k) (h1 : ¬ k.toInt < lo) (h2 : ¬ hi < k.toInt) (ho : offs[(k.toInt - lo).toNat]? = some off) (ht : (pc : Int) + off = (tgt : Int)) (kk : V X k1 k2 tgt lv st Ms) : V X k1 k2 pc lv (.int x :: st) Ms := fun H locs ls w n a s h => by
  subst hx
  exact lv_tableIn C.1 C.2.1 hdg h1 h2 ho ht (kk H locs ls w n a s h)
theorem v_tabOut (C : okx X cc nL own Ts R) {dflt lo hi : Int} {offs : Array Int} {len : Nat} {x : Int32} (tgt : Nat) (hdg : decode cc pc = .ok (.tableswitch dflt lo hi offs, len)) (hx : x.toInt < lo ∨ hi < x.toInt) (ht : (pc : Int) + dflt = (tgt : Int)) (kk : V X k1 k2 tgt lv st Ms) : V X k1 k2 pc lv (.int x :: st) Ms := fun H locs ls w n a s h => lv_tableOut C.1 C.2.1 hdg hx ht (kk H locs ls w n a s h)
theorem v_lk (C : okx X cc nL own Ts R) {dflt : Int} {ps : Array (Int × Int)} {len : Nat} {x : Int32} {off : Int} (tgt : Nat) (hdg : decode cc pc = .ok (.lookupswitch dflt ps, len)) (hp : (ps.toList.zip (ps.toList.drop 1)).all (fun (a, next) => a.1 < next.1) = true) (ho : Op.lookupswitch.offset ps.toList dflt x.toInt = off) (ht : (pc : Int) + off = (tgt : Int)) (kk : V X k1 k2 tgt lv st Ms) : V X k1 k2 pc lv (.int x :: st) Ms := fun H locs ls w n a s h => lv_lookup C.1 C.2.1 hdg hp ho ht (kk H locs ls w n a s h)
end BUND
/-! a book -/
abbrev Bk : Type := List (List Int32) × List Int32 × List Int32 × List (List Int32) × List (List Int32) × List Int32
def bookL (cI : ClassId) (A : Nat → Nat) (nr nw : Nat) (a : List (List Int32)) (b c : List Int32) (d e : List (List Int32)) (f : List Int32) : List Md := [cM (A 0) (.inr (0, [.ref (A 1), .ref (A 6), .ref (A 8), .ref (A 10), .ref (A 15), .ref (A 20)])), rowsM cI (A 1) (A 2) (A 3) (A 4) (A 5) nr 4 a, rowM cI (A 6) (A 7) nr b, rowM cI (A 8) (A 9) nr c, rowsM cI (A 10) (A 11) (A 12) (A 13) (A 14) 26 2 d, rowsM cI (A 15) (A 16) (A 17) (A 18) (A 19) nw 12 e, rowM cI (A 20) (A 21) nw f]
def bookM (cI : ClassId) (A : Nat → Nat) (nr nw : Nat) (S : Bk) : Md := jn (bookL cI A nr nw S.1 S.2.1 S.2.2.1 S.2.2.2.1 S.2.2.2.2.1 S.2.2.2.2.2)
theorem bookF {cI : ClassId} {A : Nat → Nat} {nr nw : Nat} {S : Bk} : hasF (bookM cI A nr nw S) (A 0) 0 [.ref (A 1), .ref (A 6), .ref (A 8), .ref (A 10), .ref (A 15), .ref (A 20)] := hasF_jn (i := 0) rfl hasF_c
/-- copied into a book of nr rules and nw words -/
def cpB (nr nw : Nat) (S : Bk) : Bk := (S.1.take nr, S.2.1.take nr, S.2.2.1.take nr, S.2.2.2.1.take 26, S.2.2.2.2.1.take nw, S.2.2.2.2.2.take nw)
section BOOK
variable {X : Cx} {k1 k2 pc : Nat} {lv : List (Nat × Value)} {st : List Value} {Ms : List Md}
theorem v_obook (i : Nat) {A : Nat → Nat} {nr nw : Nat} {S : Bk} (hi : Ms[i]? = some (bookM (XI X) A nr nw S)) (kk : V X k1 k2 pc lv st (Ms.take i ++ ([cM (A 0) (.inr (0, [.ref (A 1), .ref (A 6), .ref (A 8), .ref (A 10), .ref (A 15), .ref (A 20)])), rowsM (XI X) (A 1) (A 2) (A 3) (A 4) (A 5) nr 4 S.1, rowM (XI X) (A 6) (A 7) nr S.2.1, rowM (XI X) (A 8) (A 9) nr S.2.2.1, rowsM (XI X) (A 10) (A 11) (A 12) (A 13) (A 14) 26 2 S.2.2.2.1, rowsM (XI X) (A 15) (A 16) (A 17) (A 18) (A 19) nw 12 S.2.2.2.2.1, rowM (XI X) (A 20) (A 21) nw S.2.2.2.2.2] ++ Ms.drop (i + 1)))) : V X k1 k2 pc lv st Ms := v_ojn i hi kk
theorem v_cbook (i : Nat) {A : Nat → Nat} {nr nw : Nat} {a : List (List Int32)} {b c : List Int32} {d e : List (List Int32)} {f : List Int32} {T : List Md} (hs : Ms.drop i = [cM (A 0) (.inr (0, [.ref (A 1), .ref (A 6), .ref (A 8), .ref (A 10), .ref (A 15), .ref (A 20)])), rowsM (XI X) (A 1) (A 2) (A 3) (A 4) (A 5) nr 4 a, rowM (XI X) (A 6) (A 7) nr b, rowM (XI X) (A 8) (A 9) nr c, rowsM (XI X) (A 10) (A 11) (A 12) (A 13) (A 14) 26 2 d, rowsM (XI X) (A 15) (A 16) (A 17) (A 18) (A 19) nw 12 e, rowM (XI X) (A 20) (A 21) nw f] ++ T) (kk : V X k1 k2 pc lv st (Ms.take i ++ (bookM (XI X) A nr nw (a, b, c, d, e, f) :: T))) : V X k1 k2 pc lv st Ms := v_cjn i hs kk
end BOOK
/-- the reader: its letters, the text; place, entry, sound, side, kind -/
def rdM (rd lt tx : Nat) (p e s d k : Int32) : Md := cM rd (.inr (2, [.ref lt, .ref tx, .int p, .int e, .int s, .int d, .int k]))
theorem rdF {rd lt tx : Nat} {p e s d k : Int32} : hasF (rdM rd lt tx p e s d k) rd 2 [.ref lt, .ref tx, .int p, .int e, .int s, .int d, .int k] := hasF_c
def hasRl (RL : List (List Int32)) (RD : List Int32) (xs : List Int32) (d : Int32) : Bool := (List.range RL.length).any (fun k => decide (RD.getD k (-5) = d) && decide (RL.getD k [] = xs))
theorem hasRl_t {RL : List (List Int32)} {RD xs : List Int32} {d : Int32} {k : Nat} (hk : k < RL.length) (h1 : RD.getD k (-5) = d) (h2 : RL.getD k [] = xs) : hasRl RL RD xs d = true := List.any_eq_true.mpr ⟨k, List.mem_range.mpr hk, by rw [decide_eq_true h1, decide_eq_true h2]; rfl⟩
theorem hasRl_f {RL : List (List Int32)} {RD xs : List Int32} {d : Int32} (h : ∀ k, k < RL.length → ¬ (RD.getD k (-5) = d ∧ RL.getD k [] = xs)) : hasRl RL RD xs d = false := by
  rw [hasRl, List.any_eq_false]
  intro k hk
  have := h k (List.mem_range.mp hk)
  rw [Bool.and_eq_true]
  exact fun z => this ⟨of_decide_eq_true z.1, of_decide_eq_true z.2⟩
def addRule (nr : Nat) (S : Bk) (xs : List Int32) (s d : Int32) : Bk := if hasRl S.1 S.2.2.1 xs d = true then S else (adLn nr 4 S.1 xs, adL nr S.2.1 s, adL nr S.2.2.1 d, S.2.2.2.1, S.2.2.2.2.1, S.2.2.2.2.2)
def addWord (nw : Nat) (S : Bk) (xs : List Int32) (k : Int32) : Bk := if fdo xs S.2.2.2.2.1 0 = none then (S.1, S.2.1, S.2.2.1, S.2.2.2.1, adLn nw 12 S.2.2.2.2.1 xs, adL nw S.2.2.2.2.2 k) else S
def hasWd (S : Bk) (xs : List Int32) : Bool := (fdo xs S.2.2.2.2.1 0).isSome
def addEnt (nr nw : Nat) (S : Bk) (xs : List Int32) (e s d k : Int32) : Bk := if e = 0 then addRule nr S xs s d else if e = 1 then addWord nw S xs k else (S.1, S.2.1, S.2.2.1, ptL 2 S.2.2.2.1 (s - 65) xs, S.2.2.2.2.1, S.2.2.2.2.2)
def newEnt (S : Bk) (xs : List Int32) (e d : Int32) : Bool := if e = 0 then !hasRl S.1 S.2.2.1 xs d else if e = 1 then !hasWd S xs else true
def dropR (S : Bk) (I : Nat) : Bk := (rmG [] S.1 I, rmL S.2.1 I, rmL S.2.2.1 I, S.2.2.2.1, S.2.2.2.2.1, S.2.2.2.2.2)
def shiftR (S : Bk) (I J : Nat) : Bk := (mvG [] S.1 I J, mvL S.2.1 I J, mvL S.2.2.1 I J, S.2.2.2.1, S.2.2.2.2.1, S.2.2.2.2.2)
def dropW (S : Bk) (I : Nat) : Bk := (S.1, S.2.1, S.2.2.1, S.2.2.2.1, rmG [] S.2.2.2.2.1 I, rmL S.2.2.2.2.2 I)
def longS (L : List (List Int32)) : Nat := (L.filter (fun y => decide (y.length = 2))).length
theorem longS_hit {L : List (List Int32)} {k : Nat} (hk : k < L.length) (h : (L.getD k []).length = 2) : longS (L.drop k) = longS (L.drop (k + 1)) + 1 := by
  rw [gd_in hk] at h
  rw [List.drop_eq_getElem_cons hk]
  unfold longS
  rw [List.filter_cons_of_pos (by simpa using h), List.length_cons]
theorem longS_step {L : List (List Int32)} {k : Nat} (hk : k < L.length) (h : ¬ (L.getD k []).length = 2) : longS (L.drop k) = longS (L.drop (k + 1)) := by
  rw [gd_in hk] at h
  rw [List.drop_eq_getElem_cons hk]
  unfold longS
  rw [List.filter_cons_of_neg (by simpa using h)]
theorem opI_none {o : Option Nat} (ho : ∀ k, o = some k → k < 1000000000) (h : opI o = -5) : o = none := by
  cases o with
  | none => rfl
  | some k =>
    have hk := ho k rfl
    have h : nI k = -5 := h
    rw [i_eq, i_n (by omega)] at h
    have h5 : (-5 : Int32).toInt = -5 := by decide
    rw [h5] at h
    omega
theorem fdo_lt {x : List Int32} : ∀ {L : List (List Int32)} {k m : Nat}, fdo x L k = some m → k ≤ m ∧ m < k + L.length ∧ L.getD (m - k) [] = x
  | [], k, m, h => by cases h
  | y :: L, k, m, h => by
    unfold fdo at h
    by_cases e : y = x
    · rw [if_pos e] at h
      cases h
      exact ⟨Nat.le_refl _, by simp, by rw [Nat.sub_self]; simpa using e⟩
    · rw [if_neg e] at h
      obtain ⟨h1, h2, h3⟩ := fdo_lt h
      refine ⟨by omega, by rw [List.length_cons]; omega, ?_⟩
      rw [show m - k = (m - (k + 1)) + 1 by omega]
      simpa using h3
theorem fdo_lt0 {x : List Int32} {L : List (List Int32)} (hN : L.length < 1000000000) : ∀ m, fdo x L 0 = some m → m < 1000000000 := fun m h => by
  have := (fdo_lt h).2.1
  omega
theorem wd_t {S : Bk} {xs : List Int32} (h : ¬ opI (fdo xs S.2.2.2.2.1 0) = -5) : hasWd S xs = true := by
  unfold hasWd
  cases hf : fdo xs S.2.2.2.2.1 0 with
  | none => rw [hf] at h; exact absurd rfl h
  | some k => rfl
