/-- the first n numbers of a row written over by another's -/
def cpK (f g : Nat → Int32) (n : Nat) : Nat → Int32 := fun j => if j < n then f j else g j
theorem cpK_s {f g : Nat → Int32} {k : Nat} : upd (cpK f g k) k (f k) = cpK f g (k + 1) := by
  funext j
  unfold upd cpK
  by_cases h : j = k
  · subst h; rw [if_pos rfl, if_pos (Nat.lt_succ_self _)]
  · rw [if_neg h]
    by_cases h2 : j < k
    · rw [if_pos h2, if_pos (by omega)]
    · rw [if_neg h2, if_neg (by omega)]
theorem cpK_0 {f g : Nat → Int32} : cpK f g 0 = g := by
  funext j
  exact if_neg (Nat.not_lt_zero j)
theorem cpK_in {f g : Nat → Int32} {n j : Nat} (h : j < n) : cpK f g n j = f j := if_pos h
theorem cpK_out {f g : Nat → Int32} {n j : Nat} (h : n ≤ j) : cpK f g n j = g j := if_neg (by omega)
theorem allR_cong {S : Bk} {f g : Nat → Int32} (h : allR S f) (hg : ∀ k, k < 570 → g k = f k) : allR S g := by
  obtain ⟨hw, h0, h1, hR, hS, hW⟩ := h
  have hr30 := hw.1
  have hw20 := hw.2.2.2.2.1
  refine ⟨hw, by rw [hg 0 (by decide)]; exact h0, by rw [hg 1 (by decide)]; exact h1, fun r hr => ?_, fun s hs => ?_, fun w hw2 => ?_⟩
  · obtain ⟨a, b, c, d⟩ := hR r hr
    have hl := (hw.2.2.2.2.2.2.1 r hr).2.1
    refine ⟨by rw [hg _ (by omega)]; exact a, fun j hj => by rw [hg _ (by omega)]; exact b j hj, by rw [hg _ (by omega)]; exact c, by rw [hg _ (by omega)]; exact d⟩
  · obtain ⟨a, b⟩ := hS s hs
    have hl := (hw.2.2.2.2.2.2.2.1 s hs).2.1
    exact ⟨by rw [hg _ (by omega)]; exact a, fun j hj => by rw [hg _ (by omega)]; exact b j hj⟩
  · obtain ⟨a, b, c⟩ := hW w hw2
    have hl := (hw.2.2.2.2.2.2.2.2 w hw2).2.1
    exact ⟨by rw [hg _ (by omega)]; exact a, by rw [hg _ (by omega)]; exact b, fun j hj => by rw [hg _ (by omega)]; exact c j hj⟩
theorem allR_cp {S : Bk} {f g : Nat → Int32} (h : allR S f) : allR S (cpK f g 570) := allR_cong h fun _ hk => cpK_in hk
/-- the model's row of the history -/
def histR (hs : List Bk) (h : Nat → Int32) : Prop := hs.length ≤ 4 ∧ ∀ i, i < hs.length → allR (hs.getD i bk0) (fun j => h (570 * i + j))
def plK (kp h : Nat → Int32) (n k : Nat) : Nat → Int32 := fun j => if 570 * n ≤ j ∧ j < 570 * n + k then kp (j - 570 * n) else h j
theorem plK_0 {kp h : Nat → Int32} {n : Nat} : plK kp h n 0 = h := by
  funext j
  exact if_neg (by omega)
theorem plK_s {kp h : Nat → Int32} {n k : Nat} : upd (plK kp h n k) (570 * n + k) (kp k) = plK kp h n (k + 1) := by
  funext j
  unfold upd plK
  by_cases e : j = 570 * n + k
  · subst e; rw [if_pos rfl, if_pos (by omega), Nat.add_sub_cancel_left]
  · rw [if_neg e]
    by_cases h2 : 570 * n ≤ j ∧ j < 570 * n + k
    · rw [if_pos h2, if_pos (by omega)]
    · rw [if_neg h2, if_neg (by omega)]
def shK (h : Nat → Int32) (k : Nat) : Nat → Int32 := fun j => if j < k then h (j + 570) else h j
theorem shK_0 {h : Nat → Int32} : shK h 0 = h := by
  funext j
  exact if_neg (Nat.not_lt_zero j)
theorem shK_s {h : Nat → Int32} {k : Nat} : upd (shK h k) k (shK h k (k + 570)) = shK h (k + 1) := by
  funext j
  unfold upd shK
  by_cases e : j = k
  · subst e; rw [if_pos rfl, if_neg (by omega), if_pos (Nat.lt_succ_self _)]
  · rw [if_neg e]
    by_cases h2 : j < k
    · rw [if_pos h2, if_pos (by omega)]
    · rw [if_neg h2, if_neg (by omega)]
theorem hist_add {hs : List Bk} {h kp : Nat → Int32} {So : Bk} (hl : hs.length < 4) (hH : histR hs h) (hK : allR So kp) : histR (hs ++ [So]) (plK kp h hs.length 570) := by
  refine ⟨by rw [List.length_append]; simp only [List.length_singleton]; omega, fun i hi => ?_⟩
  rw [List.length_append, List.length_singleton] at hi
  by_cases h1 : i < hs.length
  · have e : (hs ++ [So]).getD i bk0 = hs.getD i bk0 := by
      rw [gd_in (by rw [List.length_append]; omega), gd_in h1, List.getElem_append_left h1]
    rw [e]
    refine allR_cong (hH.2 i h1) fun k hk => ?_
    show plK kp h hs.length 570 (570 * i + k) = h (570 * i + k)
    unfold plK
    rw [if_neg (by omega)]
  · have h2 : i = hs.length := by omega
    subst h2
    have e : (hs ++ [So]).getD hs.length bk0 = So := by
      rw [gd_in (by rw [List.length_append, List.length_singleton]; omega), List.getElem_append_right (Nat.le_refl _)]
      simp
    rw [e]
    refine allR_cong hK fun k hk => ?_
    show plK kp h hs.length 570 (570 * hs.length + k) = kp k
    unfold plK
    rw [if_pos (by omega), Nat.add_sub_cancel_left]
theorem gd_drop {α : Type} {l : List α} {i n : Nat} {d : α} : (l.drop n).getD i d = l.getD (n + i) d := by
  simp only [List.getD_eq_getElem?_getD, List.getElem?_drop]
theorem hist_sh {hs : List Bk} {h : Nat → Int32} (hl : hs.length = 4) (hH : histR hs h) : histR (hs.drop 1) (shK h 1710) := by
  have hd : (hs.drop 1).length = 3 := by rw [List.length_drop]; omega
  refine ⟨by omega, fun i hi => ?_⟩
  rw [hd] at hi
  rw [gd_drop]
  refine allR_cong (hH.2 (1 + i) (by omega)) fun k hk => ?_
  show shK h 1710 (570 * i + k) = h (570 * (1 + i) + k)
  unfold shK
  rw [if_pos (by omega)]
  exact congrArg h (by omega)
theorem rec4_4 {hs : List Bk} {x : Bk} (h : hs.length = 4) : rec4 hs x = hs.drop 1 ++ [x] := by
  unfold rec4
  rw [if_pos (by omega)]
theorem rec4_n {hs : List Bk} {x : Bk} (h : hs.length < 4) : rec4 hs x = hs ++ [x] := by
  unfold rec4
  rw [if_neg (by omega)]
theorem len1b {hs : List Bk} {x : Bk} : nI (hs ++ [x]).length = nI hs.length + 1 := by
  rw [List.length_append, nI_1]; rfl
/-- texts -/
def tyT (ts : List Int32) (c : Int32) : Int32 × List Int32 := if 60 ≤ ts.length then (-3, ts) else (nI (adL 60 ts c).length, adL 60 ts c)
theorem tyT_f {ts : List Int32} {c : Int32} (h : 60 ≤ ts.length) : tyT ts c = (-3, ts) := if_pos h
theorem tyT_n {ts : List Int32} {c : Int32} (h : ts.length < 60) : tyT ts c = (nI ts.length + 1, ts ++ [c]) := by
  unfold tyT
  rw [if_neg (by omega), adL_lt h, len1]
def isH (ts : List Int32) (P : Nat) (lo hi : Int32) : Bool := decide (lo ≤ ts.getD P (-5) ∧ ts.getD P (-5) ≤ hi)
theorem isH_out {ts : List Int32} {P : Nat} {lo hi : Int32} (h0 : 0 ≤ lo) (h : ts.length ≤ P) : isH ts P lo hi = false := by
  refine decide_eq_false (fun z => ?_)
  rw [gd_out h] at z
  exact absurd (Int32.le_trans h0 z.1) (by decide)
theorem isH_eq {ts : List Int32} {P : Nat} {c : Int32} : isH ts P c c = decide (ts.getD P (-5) = c) := by
  unfold isH
  rw [decide_eq_decide]
  exact ⟨fun h => Int32.le_antisymm h.2 h.1, fun h => by rw [h]; exact ⟨Int32.le_refl _, Int32.le_refl _⟩⟩
theorem pa_step {ts : List Int32} {M P k N : Nat} (hk : k < M) (hs : sm (ts.getD (P + k) (-5)) = true) (h : k + (tlF (M - k) (ts.drop (P + k))).length = N) : (k + 1) + (tlF (M - (k + 1)) (ts.drop (P + (k + 1)))).length = N := by
  rw [show M - k = (M - (k + 1)) + 1 by omega, tlF_hit hs (sm_at hs), List.length_cons] at h
  rw [show P + (k + 1) = P + k + 1 from rfl]
  omega
theorem pa_end {ts : List Int32} {M P k N : Nat} (hk : M ≤ k) (h : k + (tlF (M - k) (ts.drop (P + k))).length = N) : N = k := by
  rw [Nat.sub_eq_zero_of_le hk] at h
  exact h.symm
theorem pa_f {ts : List Int32} {M P k N : Nat} (hs : sm (ts.getD (P + k) (-5)) = false) (h : k + (tlF (M - k) (ts.drop (P + k))).length = N) : N = k := by
  rw [tlF_miss hs] at h
  exact h.symm
def tkT (ts rs : List Int32) : Int32 × List Int32 := if nI rs.length ≤ 60 then (nI (aaL 60 [] rs).length, aaL 60 [] rs) else (-3, ts)
theorem tkT_y {ts rs : List Int32} (hN : rs.length < 1000000000) (h : nI rs.length ≤ 60) : tkT ts rs = (nI rs.length, rs) := by
  have h2 : rs.length ≤ 60 := by
    rw [show (60 : Int32) = nI 60 from rfl, nI_leI (by omega) (by omega)] at h
    exact h
  unfold tkT
  rw [if_pos h, ad_all, List.nil_append, List.take_of_length_le (by simpa using h2)]
theorem tkT_n {ts rs : List Int32} (h : ¬ nI rs.length ≤ 60) : tkT ts rs = (-3, ts) := if_neg h
theorem nI_gt {a b : Nat} (ha : a < 1000000000) (hb : b < 1000000000) (h : ¬ nI a ≤ nI b) : b < a := by
  rw [nI_leI (by omega) (by omega)] at h
  omega
theorem vRes_in {rs : List Int32} {j : Int32} (h0 : 0 ≤ j) (hN : rs.length < 1000000000) (h : ¬ nI rs.length ≤ j) : ∃ k, k < rs.length ∧ j = nI k := by
  have hj := i_le.mp h0
  rw [i_le, i_n (by omega)] at h
  rw [i_0] at hj
  refine ⟨j.toInt.toNat, by omega, ?_⟩
  rw [i_eq, i_n (by omega)]
  omega
section VSV
variable {X : Cx} {cc : ByteArray} {nL : Nat} {own : String} {Ts : List Cond} {R : Room} {k1 k2 pc : Nat} {lv : List (Nat × Value)} {st : List Value} {Ms Mc : List Md}
theorem v_callSv (C : okx X cc nL own Ts R) {y : MethodName} {wsY ws' : List Cond} {rm : Room} {As rest : List Value} {bytes : ByteArray} {maxL index n : Nat} {ret : Option FieldType} {Mc' : List Md} (is : List Nat)
    (hM : Ct (XI X) (XB X) y wsY rm As Mc (dn Mc')) (hp : is.map (fun i => Ms[i]?) = Mc.map some) (hG : GoodIn Ts (va_wsS own index y wsY)) (hw : wsY = Cond.code y bytes maxL ret :: ws') (hn : As.length = n)
    (hd : y.cls ≠ "java/lang/invoke/MethodHandle" ∧ y.cls ≠ "java/lang/invoke/VarHandle" ∧ (parseMethodDescriptor y.desc).map (fun d => d.parameters.length) = some n) (hrm : rm.cells = 0 ∧ rm.slots = 0) (hR : rm.frames + 1 ≤ R.frames ∧ 8 + (maxL + 11) + rm.locals ≤ R.locals)
    (hnd : is.Nodup) (hroom : (rest.map fun v => v.category).sum ≤ 8) (hk : k1 ≤ R.cells ∧ k2 ≤ R.slots) (hst : st = As.reverse ++ rest) (hdg : decode cc pc = .ok (.invokestatic index, 3))
    (kk : V X k1 k2 (pc + 3) lv rest (rep Ms is Mc')) : V X k1 k2 pc lv st Ms :=
  v_callS C is hM hp hG hw hn hd hrm hR hnd hroom hk hst hdg fun ov M h _ => by
    obtain ⟨rfl, rfl⟩ := h
    exact kk
end VSV
