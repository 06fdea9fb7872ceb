/-- the model's first row of a state -/
def fI : Nat → Nat → Int32
  | 0 => fun _ => 0
  | s + 1 => upd (upd (fI s) (212 + 3 * s) 1) (212 + 3 * s + 1) (nI (97 + s))
theorem fI_s {s : Nat} : upd (upd (fI s) (212 + 3 * s) 1) (212 + 3 * s + 1) (nI (97 + s)) = fI (s + 1) := rfl
theorem fI_0 : (fun _ => 0 : Nat → Int32) = fI 0 := rfl
theorem fI_lo : ∀ (s j : Nat), j < 212 → fI s j = 0
  | 0, _, _ => rfl
  | s + 1, j, h => by
    rw [← fI_s, pk_un (by omega), pk_un (by omega)]
    exact fI_lo s j h
theorem fI_at : ∀ (s t : Nat), t < s → fI s (212 + 3 * t) = 1 ∧ fI s (212 + 3 * t + 1) = nI (97 + t)
  | 0, _, h => absurd h (Nat.not_lt_zero _)
  | s + 1, t, h => by
    rw [← fI_s]
    by_cases e : t = s
    · subst e
      rw [pk_un (by omega), pk_us, pk_us]
      exact ⟨rfl, rfl⟩
    · rw [pk_un (by omega), pk_un (by omega), pk_un (by omega), pk_un (by omega)]
      exact fI_at s t (by omega)
theorem sgI {s : Nat} (h : s < 26) : nthS bkI s = [nI (97 + s)] := mpG_at h
theorem allR_I : allR bkI (fI 26) := by
  have h26 : bkI.2.2.2.1.length = 26 := mpG_len
  refine ⟨⟨Nat.zero_le _, rfl, rfl, h26, Nat.zero_le _, rfl, fun r hr => absurd hr (Nat.not_lt_zero r), fun s hs => ?_, fun w hw => absurd hw (Nat.not_lt_zero w)⟩, fI_lo 26 0 (by decide), fI_lo 26 1 (by decide), fun r hr => absurd hr (Nat.not_lt_zero r), fun s hs => ?_, fun w hw => absurd hw (Nat.not_lt_zero w)⟩
  · rw [sgI hs]
    refine ⟨Nat.le_refl 1, Nat.le_succ 1, fun x hx => ?_⟩
    rw [List.mem_singleton.mp hx]
    refine ⟨?_, ?_⟩
    · rw [show (97 : Int32) = nI 97 from rfl, nI_leI (by omega) (by omega)]; omega
    · rw [show (122 : Int32) = nI 122 from rfl, nI_leI (by omega) (by omega)]; omega
  · rw [sgI hs]
    obtain ⟨e1, e2⟩ := fI_at 26 s hs
    refine ⟨e1, fun j hj => ?_⟩
    have hj0 : j = 0 := by
      simp only [List.length_singleton] at hj
      omega
    subst hj0
    exact e2
theorem histR_0 {h : Nat → Int32} : histR [] h := ⟨Nat.zero_le _, fun i hi => absurd hi (Nat.not_lt_zero i)⟩
theorem lay_rep {n : Nat} (hn : n < 1000000000) : layf (List.replicate n 0) n (fun _ => 0) := ⟨Nat.le_of_eq List.length_replicate, hn, fun k hk => by rw [gd_in hk]; simp⟩
