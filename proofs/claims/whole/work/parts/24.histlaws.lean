section AROW
variable {X : Cx} {cc : ByteArray} {nL : Nat} {own : String} {Ts : List Cond} {R : Room} {k1 k2 pc : Nat} {lv : List (Nat × Value)} {st : List Value} {Ms : List Md}
theorem v_aald (C : okx X cc nL own Ts R) {a n : Nat} {f : Nat → Option Nat} (i : Nat) (hi : Ms[i]? = some (cM a (.inl (XB X, n, .inr (.inr (.inr (.inr f))))))) {x : Int32} (hx : vp_in x n) {b : Nat} (hbv : f x.toNatClampNeg = some b) (hdg : decode cc pc = .ok (.aaload, 1))
    (kk : V X k1 k2 (pc + 1) lv (.ref b :: st) Ms) : V X k1 k2 pc lv (.int x :: .ref a :: st) Ms := by
  intro H locs ls w nd a' s h
  obtain ⟨ws, h1, h2, hP⟩ := w _ (List.mem_of_getElem? hi)
  have h1 : ws = [(a, .inl (XB X, n, .inr (.inr (.inr (.inr f)))))] := h1
  subst h1
  exact va_aldq C.1 C.2.1 C.2.2.2.2.2.2.2.1 hP 0 1 rfl rfl hx hdg (by rw [hbv]; exact kk H locs ls w nd a' s h)
theorem v_alenq (C : okx X cc nL own Ts R) {a n : Nat} {f : Nat → Option Nat} (i : Nat) (hi : Ms[i]? = some (cM a (.inl (XB X, n, .inr (.inr (.inr (.inr f))))))) (hdg : decode cc pc = .ok (.arraylength, 1))
    (kk : V X k1 k2 (pc + 1) lv (.int (nI n) :: st) Ms) : V X k1 k2 pc lv (.ref a :: st) Ms := by
  intro H locs ls w nd a' s h
  obtain ⟨ws, h1, h2, hP⟩ := w _ (List.mem_of_getElem? hi)
  have h1 : ws = [(a, .inl (XB X, n, .inr (.inr (.inr (.inr f)))))] := h1
  subst h1
  exact va_alen (ty := .object "SoundSpeller$Book") C.1 C.2.1 C.2.2.2.2.2.2.2.1 hP 0 1 rfl rfl rfl hdg (kk H locs ls w nd a' s h)
theorem v_ifnull (C : okx X cc nL own Ts R) {x : Nat} {off : Int} (hdg : decode cc pc = .ok (.ifnull off, 3)) (kk : V X k1 k2 (pc + 3) lv st Ms) : V X k1 k2 pc lv (.ref x :: st) Ms := fun H locs ls w n a s h => lv_ifnull C.1 C.2.1 hdg (kk H locs ls w n a s h)
theorem v_aast (C : okx X cc nL own Ts R) {a n v : Nat} {f : Nat → Option Nat} (i : Nat) (hi : Ms[i]? = some (cM a (.inl (XB X, n, .inr (.inr (.inr (.inr f))))))) (hv : ∃ M ∈ Ms, ∃ fs, hasF M v 0 fs) {x : Int32} (hx : vp_in x n) (hdg : decode cc pc = .ok (.aastore, 1))
    (kk : V X k1 k2 (pc + 1) lv st (Ms.set i (cM a (.inl (XB X, n, .inr (.inr (.inr (.inr (va_up f x.toNatClampNeg (some v)))))))))) : V X k1 k2 pc lv (.ref v :: .int x :: .ref a :: st) Ms := by
  intro H locs ls w nd a' s h
  have ha : a ∈ adr Ms := adr_in hi (List.mem_singleton.mpr rfl)
  have hcell : H[a]? = some (vp_cell (XB X) (n, .inr (.inr (.inr (.inr f))))) := mAt_c.mp (w _ (List.mem_of_getElem? hi))
  have hK := C.2.2.2.2.2.2.2.1
  have hlt : x.toNatClampNeg < n := Nat.not_le.mp fun q => hx (Or.inr q)
  have h0 : ¬ x < 0 := fun q => hx (Or.inl q)
  obtain ⟨M, hM, fs, hF⟩ := hv
  obtain ⟨ws, g1', g2', hP⟩ := w M hM
  obtain ⟨k0, hk0⟩ := hF ws g1'
  obtain ⟨r', hr', cellV, g1, g2, g3, -⟩ := hP k0 _ hk0
  have hcls := (hK.1 0 (RX0, TX0, 6) rfl).2
  obtain ⟨kA, comp, e1, e2, e3, -⟩ := (hK.2 1 _ rfl).2
  have hcomp : comp = (XD X).1 0 := Option.some.inj (e3.symm.trans hcls.1)
  subst hcomp
  obtain ⟨kC, hkC, -⟩ := hcls.2
  refine W.aast C.1 C.2.1 hcell (fun q h => by cases h) (fun h => by cases h) e1 e2 rfl hkC ⟨h0, by show _ < (arrV _ _ _).slots.size; rw [arrV_size]; exact hlt⟩ g1 (fun q h => by rw [g3] at h; cases h) (by rw [g2]; exact hkC) (by rw [g2]; exact va_assign hcls) rfl rfl hdg fun H1 z1 z2 z3 => ?_
  have hmap : (Ms.set i (cM a (.inl (XB X, n, .inr (.inr (.inr (.inr (va_up f x.toNatClampNeg (some v))))))))).map (fun M => M.1) = Ms.map (fun M => M.1) := set_map (by rw [List.getElem?_map, hi]; rfl)
  refine kk H1 _ ls (wd_set w nd hi rfl (mAt_c.mpr ?_) z3) (by rw [adr_map hmap]; exact nd) (by rw [adr_map hmap]; exact a') (s.put z2 z3 (a' a ha)) h
  show H1[a]? = some (vp_cell _ _)
  rw [z1]
  rw [vp_cell_q, vp_cell_q, arrV_store]
  congr 2
  funext q
  by_cases hq : q = x.toNatClampNeg
  · subst hq
    simp [updV, va_up, va_rf]
  · simp [updV, va_up, hq]
end AROW
/-! the history: four books, that change places -/
def bk0 : Bk := ([], [], [], [], [], [])
def hrel (B : Nat → Nat → Nat) (f : Nat → Option Nat) (G : Nat → Bk) (hs : List Bk) : Prop := hs.length ≤ 4 ∧ ∃ π : Nat → Nat, (∀ j, j < 4 → π j < 4 ∧ f j = some (B (π j) 0)) ∧ (∀ i j, i < 4 → j < 4 → π i = π j → i = j) ∧ ∀ j, j < hs.length → hs.getD j bk0 = G (π j)
def hiL (cI cB : ClassId) (h a : Nat) (B : Nat → Nat → Nat) (f : Nat → Option Nat) (G : Nat → Bk) (n : Nat) : List Md := [cM h (.inr (1, [.ref a, .int (nI n)])), cM a (.inl (cB, 4, .inr (.inr (.inr (.inr f))))), bookM cI (B 0) 30 20 (G 0), bookM cI (B 1) 30 20 (G 1), bookM cI (B 2) 30 20 (G 2), bookM cI (B 3) 30 20 (G 3)]
def hiM (cI cB : ClassId) (h a : Nat) (B : Nat → Nat → Nat) (hs : List Bk) : Md := exM (adr (hiL cI cB h a B (fun _ => none) (fun _ => bk0) 0)) (fun q : (Nat → Option Nat) × (Nat → Bk) => hrel B q.1 q.2 hs) (fun q => jn (hiL cI cB h a B q.1 q.2 hs.length))
theorem hiF {cI cB : ClassId} {h a : Nat} {B : Nat → Nat → Nat} {hs : List Bk} : hasF (hiM cI cB h a B hs) h 1 [.ref a, .int (nI hs.length)] := hasF_ex fun q => hasF_jn (i := 0) rfl hasF_c
theorem hi_at {D : va_G} {cI cB : ClassId} {h a : Nat} {B : Nat → Nat → Nat} {hs : List Bk} {H : Heap} : mAt D (hiM cI cB h a B hs) H ↔ ∃ q : (Nat → Option Nat) × (Nat → Bk), hrel B q.1 q.2 hs ∧ wd D (hiL cI cB h a B q.1 q.2 hs.length) H := by
  refine Iff.trans (mAt_ex (fun _ => rfl)) ?_
  exact exists_congr fun q => and_congr_right fun _ => mAt_jn
section HIS
variable {X : Cx} {k1 k2 pc : Nat} {lv : List (Nat × Value)} {st : List Value} {Ms : List Md}
theorem v_ohi (i : Nat) {h a : Nat} {B : Nat → Nat → Nat} {hs : List Bk} (hi : Ms[i]? = some (hiM (XI X) (XB X) h a B hs)) (kk : ∀ (f : Nat → Option Nat) (G : Nat → Bk), hrel B f G hs → V X k1 k2 pc lv st (Ms.take i ++ ([cM h (.inr (1, [.ref a, .int (nI hs.length)])), cM a (.inl (XB X, 4, .inr (.inr (.inr (.inr f))))), bookM (XI X) (B 0) 30 20 (G 0), bookM (XI X) (B 1) 30 20 (G 1), bookM (XI X) (B 2) 30 20 (G 2), bookM (XI X) (B 3) 30 20 (G 3)] ++ Ms.drop (i + 1)))) : V X k1 k2 pc lv st Ms :=
  v_open (α := (Nat → Option Nat) × (Nat → Bk)) (φ := fun q => hrel B q.1 q.2 hs) (F := fun q => hiL (XI X) (XB X) h a B q.1 q.2 hs.length) i hi (fun H h => hi_at.mp h) (fun _ => rfl) (fun q hq => kk q.1 q.2 hq)
theorem v_chi (i : Nat) {h a : Nat} {B : Nat → Nat → Nat} {f : Nat → Option Nat} {n : Int32} {s0 s1 s2 s3 : Bk} (hs : List Bk) (G : Nat → Bk) {Z : List Md} (hd : Ms.drop i = [cM h (.inr (1, [.ref a, .int n])), cM a (.inl (XB X, 4, .inr (.inr (.inr (.inr f))))), bookM (XI X) (B 0) 30 20 s0, bookM (XI X) (B 1) 30 20 s1, bookM (XI X) (B 2) 30 20 s2, bookM (XI X) (B 3) 30 20 s3] ++ Z) (hr : hrel B f G hs) (hn : n = nI hs.length) (h0 : s0 = G 0) (h1 : s1 = G 1) (h2 : s2 = G 2) (h3 : s3 = G 3) (kk : V X k1 k2 pc lv st (Ms.take i ++ (hiM (XI X) (XB X) h a B hs :: Z))) : V X k1 k2 pc lv st Ms := by
  subst hn; subst h0; subst h1; subst h2; subst h3
  exact v_close (M := hiM (XI X) (XB X) h a B hs) i hd (fun H hh => hi_at.mpr ⟨(f, G), hr, hh⟩) rfl kk
end HIS
theorem mx1 {n : Nat} (hn : n < 1000000000) : (if nI n - 1 < 0 then (0 : Int32) else nI n - 1) = nI (n - 1) := by
  by_cases h : n = 0
  · subst h; rfl
  · rw [sub1 (by omega), if_neg (nI_pos (by omega))]
theorem va_up_s {f : Nat → Option Nat} {k : Nat} {v : Option Nat} : va_up f k v k = v := if_pos rfl
theorem va_up_n {f : Nat → Option Nat} {k j : Nat} {v : Option Nat} (h : j ≠ k) : va_up f k v j = f j := if_neg h
/-- k places have been turned -/
def hrot (b : Nat → Nat) (k : Nat) (f : Nat → Option Nat) : Prop := (∀ j, j < k → f j = some (b (j + 1))) ∧ f k = some (b 0) ∧ ∀ j, k < j → j < 4 → f j = some (b j)
theorem hrot_step {b : Nat → Nat} {k : Nat} {f : Nat → Option Nat} (h : hrot b k f) : hrot b (k + 1) (va_up (va_up f k (some (b (k + 1)))) (k + 1) (some (b 0))) := by
  obtain ⟨h1, h2, h3⟩ := h
  refine ⟨fun j hj => ?_, va_up_s, fun j hj hj4 => ?_⟩
  · rw [va_up_n (by omega)]
    by_cases e : j = k
    · subst e; exact va_up_s
    · rw [va_up_n e]; exact h1 j (by omega)
  · rw [va_up_n (by omega), va_up_n (by omega)]; exact h3 j (by omega) hj4
theorem hrel_rot {B : Nat → Nat → Nat} {f f' : Nat → Option Nat} {G : Nat → Bk} {hs : List Bk} {π : Nat → Nat} (hl : hs.length ≤ 4) (h1 : ∀ j, j < 4 → π j < 4 ∧ f j = some (B (π j) 0)) (h2 : ∀ i j, i < 4 → j < 4 → π i = π j → i = j) (h3 : ∀ j, j < hs.length → hs.getD j bk0 = G (π j)) (hr : hrot (fun j => B (π j) 0) 3 f') : hrel B f' G (hs.drop 1) := by
  refine ⟨by rw [List.length_drop]; omega, fun j => if j < 3 then π (j + 1) else π 0, fun j hj => ?_, fun i j hi hj he => ?_, fun j hj => ?_⟩
  · by_cases h : j < 3
    · show (if j < 3 then π (j + 1) else π 0) < 4 ∧ f' j = some (B (if j < 3 then π (j + 1) else π 0) 0)
      rw [if_pos h]
      exact ⟨(h1 (j + 1) (by omega)).1, hr.1 j h⟩
    · show (if j < 3 then π (j + 1) else π 0) < 4 ∧ f' j = some (B (if j < 3 then π (j + 1) else π 0) 0)
      rw [if_neg h]
      have : j = 3 := by omega
      subst this
      exact ⟨(h1 0 (by omega)).1, hr.2.1⟩
  · have he : (if i < 3 then π (i + 1) else π 0) = (if j < 3 then π (j + 1) else π 0) := he
    by_cases a : i < 3 <;> by_cases c : j < 3
    · rw [if_pos a, if_pos c] at he
      have := h2 _ _ (by omega) (by omega) he
      omega
    · rw [if_pos a, if_neg c] at he
      have := h2 _ _ (by omega) (by omega) he
      omega
    · rw [if_neg a, if_pos c] at he
      have := h2 _ _ (by omega) (by omega) he
      omega
    · omega
  · rw [List.length_drop] at hj
    show (hs.drop 1).getD j bk0 = G (if j < 3 then π (j + 1) else π 0)
    rw [if_pos (by omega), ← h3 (j + 1) (by omega)]
    simp [List.getD_eq_getElem?_getD, List.getElem?_drop, Nat.add_comm]
theorem bk_in {X : Cx} {B : Nat → Nat → Nat} {G : Nat → Bk} {Ms : List Md} {i : Nat} (hi : i < 4) (h : ∀ j, j < 4 → bookM (XI X) (B j) 30 20 (G j) ∈ Ms) : ∃ M ∈ Ms, ∃ fs, hasF M (B i 0) 0 fs := ⟨_, h i hi, _, bookF⟩
def rec4 (hs : List Bk) (x : Bk) : List Bk := (if 4 ≤ hs.length then hs.drop 1 else hs) ++ [x]
theorem hrel_add {B : Nat → Nat → Nat} {f : Nat → Option Nat} {G : Nat → Bk} {hs : List Bk} {π : Nat → Nat} {x : Bk} (hl : hs.length < 4) (h1 : ∀ j, j < 4 → π j < 4 ∧ f j = some (B (π j) 0)) (h2 : ∀ i j, i < 4 → j < 4 → π i = π j → i = j) (h3 : ∀ j, j < hs.length → hs.getD j bk0 = G (π j)) : hrel B f (fun q => if q = π hs.length then x else G q) (hs ++ [x]) := by
  refine ⟨by rw [List.length_append, List.length_singleton]; omega, π, h1, h2, fun j hj => ?_⟩
  rw [List.length_append, List.length_singleton] at hj
  by_cases e : j = hs.length
  · subst e
    show _ = (if π hs.length = π hs.length then x else G (π hs.length))
    rw [if_pos rfl]
    simp [List.getD_eq_getElem?_getD]
  · show _ = (if π j = π hs.length then x else G (π j))
    rw [if_neg (fun z => e (h2 _ _ (by omega) hl z)), ← h3 j (by omega)]
    simp [List.getD_eq_getElem?_getD, List.getElem?_append_left (show j < hs.length by omega)]
theorem hrel_drop {B : Nat → Nat → Nat} {f : Nat → Option Nat} {G : Nat → Bk} {hs : List Bk} (h : hrel B f G hs) : hrel B f G hs.dropLast := by
  obtain ⟨hl, π, h1, h2, h3⟩ := h
  refine ⟨by rw [List.length_dropLast]; omega, π, h1, h2, fun j hj => ?_⟩
  rw [gd_in hj, List.getElem_dropLast]
  rw [List.length_dropLast] at hj
  rw [← h3 j (by omega), gd_in (by omega)]
theorem pk_q {m0 m1 z : Md} {cI : ClassId} {B : Nat → Nat → Nat} {G : Nat → Bk} {q : Nat} (hq : q < 4) : [2 + q, 6].map (fun i => ([m0, m1, bookM cI (B 0) 30 20 (G 0), bookM cI (B 1) 30 20 (G 1), bookM cI (B 2) 30 20 (G 2), bookM cI (B 3) 30 20 (G 3), z] : List Md)[i]?) = [bookM cI (B q) 30 20 (G q), z].map some := by
  obtain rfl | rfl | rfl | rfl : q = 0 ∨ q = 1 ∨ q = 2 ∨ q = 3 := by omega
  all_goals rfl
theorem pk_q2 {m0 m1 z : Md} {cI : ClassId} {B : Nat → Nat → Nat} {G : Nat → Bk} {q : Nat} (hq : q < 4) : [6, 2 + q].map (fun i => ([m0, m1, bookM cI (B 0) 30 20 (G 0), bookM cI (B 1) 30 20 (G 1), bookM cI (B 2) 30 20 (G 2), bookM cI (B 3) 30 20 (G 3), z] : List Md)[i]?) = [z, bookM cI (B q) 30 20 (G q)].map some := by
  obtain rfl | rfl | rfl | rfl : q = 0 ∨ q = 1 ∨ q = 2 ∨ q = 3 := by omega
  all_goals rfl
theorem at_q {m0 m1 z : Md} {cI : ClassId} {B : Nat → Nat → Nat} {G : Nat → Bk} {q : Nat} (hq : q < 4) : ([m0, m1, bookM cI (B 0) 30 20 (G 0), bookM cI (B 1) 30 20 (G 1), bookM cI (B 2) 30 20 (G 2), bookM cI (B 3) 30 20 (G 3), z] : List Md)[2 + q]? = some (bookM cI (B q) 30 20 (G q)) := by
  obtain rfl | rfl | rfl | rfl : q = 0 ∨ q = 1 ∨ q = 2 ∨ q = 3 := by omega
  all_goals rfl
theorem rep_q {m0 m1 z z' : Md} {cI : ClassId} {B : Nat → Nat → Nat} {G : Nat → Bk} {x : Bk} {q : Nat} (hq : q < 4) : rep [m0, m1, bookM cI (B 0) 30 20 (G 0), bookM cI (B 1) 30 20 (G 1), bookM cI (B 2) 30 20 (G 2), bookM cI (B 3) 30 20 (G 3), z] [2 + q, 6] [bookM cI (B q) 30 20 x, z'] = [m0, m1, bookM cI (B 0) 30 20 (if 0 = q then x else G 0), bookM cI (B 1) 30 20 (if 1 = q then x else G 1), bookM cI (B 2) 30 20 (if 2 = q then x else G 2), bookM cI (B 3) 30 20 (if 3 = q then x else G 3), z'] := by
  obtain rfl | rfl | rfl | rfl : q = 0 ∨ q = 1 ∨ q = 2 ∨ q = 3 := by omega
  all_goals rfl
theorem rep_q2 {m0 m1 z z' : Md} {cI : ClassId} {B : Nat → Nat → Nat} {G : Nat → Bk} {q : Nat} (hq : q < 4) : rep [m0, m1, bookM cI (B 0) 30 20 (G 0), bookM cI (B 1) 30 20 (G 1), bookM cI (B 2) 30 20 (G 2), bookM cI (B 3) 30 20 (G 3), z] [6, 2 + q] [z', bookM cI (B q) 30 20 (G q)] = [m0, m1, bookM cI (B 0) 30 20 (G 0), bookM cI (B 1) 30 20 (G 1), bookM cI (B 2) 30 20 (G 2), bookM cI (B 3) 30 20 (G 3), z'] := by
  obtain rfl | rfl | rfl | rfl : q = 0 ∨ q = 1 ∨ q = 2 ∨ q = 3 := by omega
  all_goals rfl
theorem nd_q {q : Nat} (hq : q < 4) : [2 + q, 6].Nodup ∧ [6, 2 + q].Nodup := by
  obtain rfl | rfl | rfl | rfl : q = 0 ∨ q = 1 ∨ q = 2 ∨ q = 3 := by omega
  all_goals exact ⟨by decide, by decide⟩
