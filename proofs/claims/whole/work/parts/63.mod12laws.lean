abbrev Rw : Type := Int32 × Int32 × Int32 × Int32 × List Int32
theorem tTake_t {ts : List Int32} {P : Nat} {c : Int32} {v : Rw} (h : ts.getD P (-5) = c) : tTake ts c (P, v) = (true, (P + 1, v)) := by
  unfold tTake
  dsimp only
  rw [decide_eq_true h, tkP_t h]
theorem tTake_f {ts : List Int32} {P : Nat} {c : Int32} {v : Rw} (h : ¬ ts.getD P (-5) = c) : tTake ts c (P, v) = (false, (P, v)) := by
  unfold tTake
  dsimp only
  rw [decide_eq_false h, tkP_f h]
theorem tLet_t {ts : List Int32} {M P : Nat} {v : Rw} (h : ¬ (tlF M (ts.drop P)).length = 0) : tLet ts M (P, v) = (true, (P + (tlF M (ts.drop P)).length, v.1, v.2.1, v.2.2.1, v.2.2.2.1, tlF M (ts.drop P))) := by
  unfold tLet
  dsimp only
  rw [decide_eq_true (Nat.pos_of_ne_zero h)]
theorem tLet_f {ts : List Int32} {M P : Nat} {v : Rw} (h : (tlF M (ts.drop P)).length = 0) : tLet ts M (P, v) = (false, (P + (tlF M (ts.drop P)).length, v.1, v.2.1, v.2.2.1, v.2.2.2.1, tlF M (ts.drop P))) := by
  unfold tLet
  dsimp only
  rw [decide_eq_false (by omega)]
theorem tE_w {ts : List Int32} {P : Nat} {v : Rw} (h : ts.getD P (-5) = 58) : tEntry ts (P, v) = tWord ts (P, v) := if_pos h
theorem tE_s {ts : List Int32} {P : Nat} {v : Rw} (h : ¬ ts.getD P (-5) = 58) (hc : cpt (ts.getD P (-5)) = true) : tEntry ts (P, v) = tSign ts (P, v) := (if_neg h).trans (if_pos hc)
theorem tE_r {ts : List Int32} {P : Nat} {v : Rw} (h : ¬ ts.getD P (-5) = 58) (hc : cpt (ts.getD P (-5)) = false) : tEntry ts (P, v) = tRule ts (P, v) := (if_neg h).trans (if_neg (by show ¬ cpt (ts.getD P (-5)) = true; rw [hc]; exact Bool.false_ne_true))
theorem tW_0 {ts : List Int32} {P : Nat} {v : Rw} (h : ts.getD P (-5) = 58) (h0 : (tlF 12 (ts.drop (P + 1))).length = 0) : (tEntry ts (P, v)).1 = false ∧ (tEntry ts (P, v)).2.1 = P + 1 + (tlF 12 (ts.drop (P + 1))).length := by
  rw [tE_w h]
  unfold tWord
  dsimp only
  rw [tTake_t h, if_pos rfl, tLet_f h0, if_neg Bool.false_ne_true]
  exact ⟨rfl, rfl⟩
theorem tW_1 {ts : List Int32} {P : Nat} {v : Rw} (h : ts.getD P (-5) = 58) (h0 : ¬ (tlF 12 (ts.drop (P + 1))).length = 0) (h1 : ts.getD (P + 1 + (tlF 12 (ts.drop (P + 1))).length) (-5) = 33) : tEntry ts (P, v) = (true, (P + 1 + (tlF 12 (ts.drop (P + 1))).length + 1, 1, v.2.1, v.2.2.1, 1, tlF 12 (ts.drop (P + 1)))) := by
  rw [tE_w h]
  unfold tWord
  dsimp only
  rw [tTake_t h, if_pos rfl, tLet_t h0, if_pos rfl, tTake_t h1, if_pos rfl]
theorem tW_2 {ts : List Int32} {P : Nat} {v : Rw} (h : ts.getD P (-5) = 58) (h0 : ¬ (tlF 12 (ts.drop (P + 1))).length = 0) (h1 : ¬ ts.getD (P + 1 + (tlF 12 (ts.drop (P + 1))).length) (-5) = 33) (h2 : ts.getD (P + 1 + (tlF 12 (ts.drop (P + 1))).length) (-5) = 39) : tEntry ts (P, v) = (true, (P + 1 + (tlF 12 (ts.drop (P + 1))).length + 1, 1, v.2.1, v.2.2.1, 2, tlF 12 (ts.drop (P + 1)))) := by
  rw [tE_w h]
  unfold tWord
  dsimp only
  rw [tTake_t h, if_pos rfl, tLet_t h0, if_pos rfl, tTake_f h1, if_neg Bool.false_ne_true, tTake_t h2, if_pos rfl]
theorem tW_3 {ts : List Int32} {P : Nat} {v : Rw} (h : ts.getD P (-5) = 58) (h0 : ¬ (tlF 12 (ts.drop (P + 1))).length = 0) (h1 : ¬ ts.getD (P + 1 + (tlF 12 (ts.drop (P + 1))).length) (-5) = 33) (h2 : ¬ ts.getD (P + 1 + (tlF 12 (ts.drop (P + 1))).length) (-5) = 39) : tEntry ts (P, v) = (true, (P + 1 + (tlF 12 (ts.drop (P + 1))).length, 1, v.2.1, v.2.2.1, 0, tlF 12 (ts.drop (P + 1)))) := by
  rw [tE_w h]
  unfold tWord
  dsimp only
  rw [tTake_t h, if_pos rfl, tLet_t h0, if_pos rfl, tTake_f h1, if_neg Bool.false_ne_true, tTake_f h2, if_neg Bool.false_ne_true]
theorem snd_t {ts : List Int32} {P : Nat} {v : Rw} (h : sndOk (ts.getD P (-5)) = true) : tSound ts (P, v) = (true, (P + 1, v.1, (if ts.getD P (-5) = 95 then 0 else ts.getD P (-5)), v.2.2)) := by
  unfold tSound sndP sndV
  dsimp only
  rw [h, if_pos rfl, if_pos rfl]
theorem snd_f {ts : List Int32} {P : Nat} {v : Rw} (h : sndOk (ts.getD P (-5)) = false) : (tSound ts (P, v)).1 = false ∧ (tSound ts (P, v)).2.1 = P := by
  unfold tSound sndP
  dsimp only
  rw [h, if_neg Bool.false_ne_true]
  exact ⟨rfl, rfl⟩
theorem cpt_95 {c : Int32} (h : cpt c = true) : ¬ c = 95 := fun z => by rw [z] at h; exact absurd h (by decide)
theorem sok_c {c : Int32} (h : cpt c = true) : sndOk c = true := by
  unfold sndOk
  rw [h, Bool.or_true]
theorem sok_u {c : Int32} (h : c = 95) : sndOk c = true := by
  unfold sndOk
  rw [decide_eq_true h, Bool.true_or]
theorem sok_n {c : Int32} (h : cpt c = false) (h2 : ¬ c = 95) : sndOk c = false := by
  unfold sndOk
  rw [h, decide_eq_false h2]
  rfl
theorem tS_0 {ts : List Int32} {P : Nat} {v : Rw} (h : ¬ ts.getD P (-5) = 58) (hc : cpt (ts.getD P (-5)) = true) (h1 : ¬ ts.getD (P + 1) (-5) = 61) : (tEntry ts (P, v)).1 = false ∧ (tEntry ts (P, v)).2.1 = P + 1 := by
  rw [tE_s h hc]
  unfold tSign
  dsimp only
  rw [snd_t (sok_c hc), if_pos rfl, tTake_f h1, if_neg Bool.false_ne_true]
  exact ⟨rfl, rfl⟩
theorem tS_1 {ts : List Int32} {P : Nat} {v : Rw} (h : ¬ ts.getD P (-5) = 58) (hc : cpt (ts.getD P (-5)) = true) (h1 : ts.getD (P + 1) (-5) = 61) (h0 : (tlF 2 (ts.drop (P + 2))).length = 0) : (tEntry ts (P, v)).1 = false ∧ (tEntry ts (P, v)).2.1 = P + 2 + (tlF 2 (ts.drop (P + 2))).length := by
  rw [tE_s h hc]
  unfold tSign
  dsimp only
  rw [snd_t (sok_c hc), if_pos rfl, tTake_t h1, if_pos rfl]
  dsimp only
  rw [tLet_f h0]
  exact ⟨rfl, rfl⟩
theorem tS_2 {ts : List Int32} {P : Nat} {v : Rw} (h : ¬ ts.getD P (-5) = 58) (hc : cpt (ts.getD P (-5)) = true) (h1 : ts.getD (P + 1) (-5) = 61) (h0 : ¬ (tlF 2 (ts.drop (P + 2))).length = 0) : tEntry ts (P, v) = (true, (P + 2 + (tlF 2 (ts.drop (P + 2))).length, 2, ts.getD P (-5), v.2.2.1, v.2.2.2.1, tlF 2 (ts.drop (P + 2)))) := by
  rw [tE_s h hc]
  unfold tSign
  dsimp only
  rw [snd_t (sok_c hc), if_pos rfl, tTake_t h1, if_pos rfl, if_neg (cpt_95 hc)]
  dsimp only
  rw [tLet_t h0]
theorem tR_0 {ts : List Int32} {P : Nat} {v : Rw} (h : ¬ ts.getD P (-5) = 58) (hc : cpt (ts.getD P (-5)) = false) (h0 : (tlF 4 (ts.drop P)).length = 0) : (tEntry ts (P, v)).1 = false ∧ (tEntry ts (P, v)).2.1 = P + (tlF 4 (ts.drop P)).length := by
  rw [tE_r h hc]
  unfold tRule
  dsimp only
  rw [tLet_f h0, if_neg Bool.false_ne_true]
  exact ⟨rfl, rfl⟩
theorem tR_1 {ts : List Int32} {P : Nat} {v : Rw} (h : ¬ ts.getD P (-5) = 58) (hc : cpt (ts.getD P (-5)) = false) (h0 : ¬ (tlF 4 (ts.drop P)).length = 0) (h1 : ¬ ts.getD (P + (tlF 4 (ts.drop P)).length) (-5) = 61) : (tEntry ts (P, v)).1 = false ∧ (tEntry ts (P, v)).2.1 = P + (tlF 4 (ts.drop P)).length := by
  rw [tE_r h hc]
  unfold tRule
  dsimp only
  rw [tLet_t h0, if_pos rfl, tTake_f h1, if_neg Bool.false_ne_true]
  exact ⟨rfl, rfl⟩
theorem tR_2 {ts : List Int32} {P : Nat} {v : Rw} (h : ¬ ts.getD P (-5) = 58) (hc : cpt (ts.getD P (-5)) = false) (h0 : ¬ (tlF 4 (ts.drop P)).length = 0) (h1 : ts.getD (P + (tlF 4 (ts.drop P)).length) (-5) = 61) (h2 : sndOk (ts.getD (P + (tlF 4 (ts.drop P)).length + 1) (-5)) = false) : (tEntry ts (P, v)).1 = false ∧ (tEntry ts (P, v)).2.1 = P + (tlF 4 (ts.drop P)).length + 1 := by
  rw [tE_r h hc]
  unfold tRule
  dsimp only
  rw [tLet_t h0, if_pos rfl, tTake_t h1, if_pos rfl, if_neg (by rw [(snd_f h2).1]; exact Bool.false_ne_true)]
  exact ⟨rfl, (snd_f h2).2⟩
theorem tR_3 {ts : List Int32} {P : Nat} {v : Rw} (h : ¬ ts.getD P (-5) = 58) (hc : cpt (ts.getD P (-5)) = false) (h0 : ¬ (tlF 4 (ts.drop P)).length = 0) (h1 : ts.getD (P + (tlF 4 (ts.drop P)).length) (-5) = 61) (h2 : sndOk (ts.getD (P + (tlF 4 (ts.drop P)).length + 1) (-5)) = true) : tEntry ts (P, v) = (true, (sdP ts (P + (tlF 4 (ts.drop P)).length + 1 + 1), 0, (if ts.getD (P + (tlF 4 (ts.drop P)).length + 1) (-5) = 95 then 0 else ts.getD (P + (tlF 4 (ts.drop P)).length + 1) (-5)), sdOf (ts.getD (P + (tlF 4 (ts.drop P)).length + 1 + 1) (-5)), v.2.2.2.1, tlF 4 (ts.drop P))) := by
  rw [tE_r h hc]
  unfold tRule
  dsimp only
  rw [tLet_t h0, if_pos rfl, tTake_t h1, if_pos rfl, snd_t h2, if_pos rfl]
theorem sd_in (c : Int32) : 0 ≤ sdOf c ∧ sdOf c ≤ 5 := by
  unfold sdOf
  split
  · decide
  · split
    · decide
    · split
      · decide
      · split
        · decide
        · split <;> decide
theorem sdP_0 {ts : List Int32} {P : Nat} (h : sdOf (ts.getD P (-5)) ≤ 0) : sdP ts P = P := if_pos (Int32.le_antisymm h (sd_in _).1)
theorem sdP_1 {ts : List Int32} {P : Nat} (h : ¬ sdOf (ts.getD P (-5)) ≤ 0) : sdP ts P = P + 1 := if_neg (fun z => h (by rw [z]; decide))
def adE (Z : Me) (P : Nat) (r : Rs) : Me := if r.2.1 = 0 then adR Z P r.2.2.2.2.2 r.2.2.1 r.2.2.2.1 else if r.2.1 = 1 then adW Z (P + 1) r.2.2.2.2.2 r.2.2.2.2.1 else adG Z (r.2.2.1 - 65).toNatClampNeg r.2.2.2.2.2
def nxE (ad : Bool) (Z : Me) (P : Nat) (t : Bool × Rs) : Me := if (ad && t.1) = true then adE Z P t.2 else Z
theorem nxE_0 {Z : Me} {P : Nat} {t : Bool × Rs} : nxE false Z P t = Z := rfl
theorem nxE_n {ad : Bool} {Z : Me} {P : Nat} {t : Bool × Rs} (h : t.1 = false) : nxE ad Z P t = Z := by
  unfold nxE
  rw [h, Bool.and_false]
  rfl
theorem nxE_r {Z : Me} {P P2 : Nat} {s d k : Int32} {l : List Int32} : nxE true Z P (true, (P2, 0, s, d, k, l)) = adR Z P l s d := rfl
theorem nxE_w {Z : Me} {P P2 : Nat} {s d k : Int32} {l : List Int32} : nxE true Z P (true, (P2, 1, s, d, k, l)) = adW Z (P + 1) l k := rfl
theorem nxE_s {Z : Me} {P P2 : Nat} {s d k : Int32} {l : List Int32} : nxE true Z P (true, (P2, 2, s, d, k, l)) = adG Z (s - 65).toNatClampNeg l := rfl
theorem isH_sm {ts : List Int32} {P : Nat} : isH ts P 65 90 = cpt (ts.getD P (-5)) := rfl
theorem nI_z0 {n : Nat} (h : n < 1000000000) (h0 : nI n ≤ 0) : n = 0 := by
  rw [show (0 : Int32) = nI 0 from rfl, nI_leI (by omega) (by omega)] at h0
  omega
theorem sgn0_n {c : Int32} (h : ¬ c = 0) : sgn0 c = c := if_neg h
theorem cap_0 {c : Int32} (h : cpt c = true) : ¬ c = 0 := fun z => by rw [z] at h; exact absurd h (by decide)
def enP (ad : Bool) (Z : Me) (P : Nat) : Prop := ad = true → 3 * Z.2.1.length ≤ P
def feR (ts : List Int32) (R : Er) : Int32 := if R.1 = true ∧ ts.length ≤ R.2.1.1 then -5 else nI R.2.1.1
