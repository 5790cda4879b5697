/-! ===== what an approved flight keeps clear of ===== -/
section Rea
variable {σ τ : qσ} {fc zc nw dc c st : Nat} {A : aS} {l : Bool} {dr : Nat → Nat}
theorem apart {p q : Nat} (h1 : p ≤ q + 2) (h2 : q ≤ p + 2) (hp : p < 2 ^ 30) : ¬ nI p - nI q < -2 ∧ ¬ (2 : Int32) < nI p - nI q := by
  rcases Nat.le_total q p with h | h
  · rw [nI_sub h]
    rcases (show p - q = 0 ∨ p - q = 1 ∨ p - q = 2 by omega) with e | e | e <;> rw [e] <;> decide
  · have e : nI p - nI q = 0 - nI (q - p) := by
      have : nI q = nI p + nI (q - p) := by rw [nI_add]; congr 1; omega
      rw [this, ← Int32.sub_sub, Int32.sub_self]
    rw [e]
    rcases (show q - p = 0 ∨ q - p = 1 ∨ q - p = 2 by omega) with e | e | e <;> rw [e] <;> decide
theorem two_nI (i : Nat) : 2 * nI i = nI (2 * i) := nI_mul 2 i
theorem meetIn_t {r o : Nat} {os : Int32} {i u : Nat} : ∀ (j t : Nat), t ≤ u → u < t + j → ¬ σ r 1 + 2 * nI i - os - 2 * nI u < -2 → ¬ (2 : Int32) < σ r 1 + 2 * nI i - os - 2 * nI u → atF σ (r + 1) (nI i) = atF σ o (nI u) → meetInL σ r o os i j t = true := by
  intro j
  induction j with
  | zero => intro t h1 h2; omega
  | succ j ih =>
    intro t h1 h2 a b e
    unfold meetInL
    by_cases q : t = u
    · subst q; rw [if_neg a, if_neg b, if_pos e]
    · have := ih (t + 1) (by omega) (by omega) a b e
      by_cases c1 : σ r 1 + 2 * nI i - os - 2 * nI t < -2
      · rw [if_pos c1]; exact this
      · rw [if_neg c1]
        by_cases c2 : (2 : Int32) < σ r 1 + 2 * nI i - os - 2 * nI t
        · rw [if_pos c2]; exact this
        · rw [if_neg c2]
          by_cases c3 : atF σ (r + 1) (nI i) = atF σ o (nI t)
          · rw [if_pos c3]
          · rw [if_neg c3]; exact this
theorem meet_t {r o : Nat} {os : Int32} {co v : Nat} : ∀ (j i : Nat), i ≤ v → v < i + j → meetInL σ r o os v co 0 = true → meetL σ r o os co j i = true := by
  intro j
  induction j with
  | zero => intro i h1 h2; omega
  | succ j ih =>
    intro i h1 h2 e
    unfold meetL
    by_cases q : i = v
    · subst q; rw [if_pos e]
    · by_cases c1 : meetInL σ r o os i co 0 = true
      · rw [if_pos c1]
      · rw [if_neg c1]; exact ih (i + 1) (by omega) (by omega) e
/-- the rows of a flight and of the draft -/
theorem meets_rs {k : Nat} {f : aF} (hf : RF (σ (14 + 10 + 3 * k)) (σ (14 + 10 + 3 * k + 1)) (σ (14 + 10 + 3 * k + 1 + 1)) f) (hln : 2 ≤ f.ln ∧ f.ln ≤ 10) (hsta : f.sta < 2 ^ 20) (hd : DR σ dc dr) (h2 : 2 ≤ dc) (h10 : dc ≤ 10) (hst : st < 2 ^ 20) (h1 : 0 < st)
    (hm : mts f (c, st, 0, dc, dr)) : bI (closeF σ (14 + 10 + 3 * k) 106 (nI st)) ≠ 0 ∧ bI (meetL σ (14 + 10 + 3 * k) 106 (nI st) (cntF σ 106) (cntF σ (14 + 10 + 3 * k + 1)) 0) ≠ 0 := by
  obtain ⟨i, j, m1, m2, m3, m4, m5⟩ := hm
  replace m2 : j < dc := m2
  replace m3 : f.rt i = dr j := m3
  replace m4 : f.sta + 2 * i ≤ st + 2 * j + 2 := m4
  replace m5 : st + 2 * j ≤ f.sta + 2 * i + 2 := m5
  refine ⟨bI_ne0 ?_, bI_ne0 ?_⟩
  · unfold closeF endF
    rw [hf.h1, hf.hn, hd.1, show nI dc - 1 = nI (dc - 1) from nI_sub (b := 1) (by omega), show nI f.ln - 1 = nI (f.ln - 1) from nI_sub (b := 1) (by omega), two_nI, two_nI, nI_add, nI_add, show nI (st + 2 * (dc - 1)) + 2 = nI (st + 2 * (dc - 1) + 2) from nI_add _ 2, if_neg (nI_nlt (by omega) (by omega))]
    rw [if_neg]
    by_cases e : st = 1
    · subst e
      intro x
      have : nI (f.sta + 2 * (f.ln - 1)) < 0 := Int32.lt_trans x (by decide)
      exact nI_pos (by omega) this
    · rw [show nI st - 2 = nI (st - 2) from nI_sub (b := 2) (by omega)]
      exact nI_nlt (by omega) (by omega)
  · rw [cntF_of hd.1 h10, cntF_of hf.hn hln.2]
    refine meet_t (v := i) f.ln 0 (by omega) (by omega) (meetIn_t (u := j) dc 0 (by omega) (by omega) ?_ ?_ ?_)
    · rw [hf.h1, two_nI, two_nI, nI_add, Int32.sub_sub, nI_add]
      exact (apart m4 m5 (by omega)).1
    · rw [hf.h1, two_nI, two_nI, nI_add, Int32.sub_sub, nI_add]
      exact (apart m4 m5 (by omega)).2
    · rw [at_rs hf hln m1]
      have := at_rs (hd.rf c st) (show 2 ≤ aF.ln (c, st, 0, dc, dr) ∧ aF.ln (c, st, 0, dc, dr) ≤ 10 from ⟨h2, h10⟩) (k := j) m2
      rw [this]
      exact congrArg nI m3
theorem others_f {num os : Int32} : ∀ (j i t : Nat), bI (othersL σ num 106 os j i) = 0 → i ≤ t → t < i + j → σ (14 + 10 + 3 * t) 0 ≠ num → bI (aheadF (σ (14 + 10 + 3 * t))) ≠ 0 → ¬ (bI (closeF σ (14 + 10 + 3 * t) 106 os) ≠ 0 ∧ bI (meetL σ (14 + 10 + 3 * t) 106 os (cntF σ 106) (cntF σ (14 + 10 + 3 * t + 1)) 0) ≠ 0) := by
  intro j
  induction j with
  | zero => intro i t _ h1 h2; omega
  | succ j ih =>
    intro i t h h1 h2 a b
    unfold othersL at h
    by_cases q : i = t
    · subst q
      rw [if_neg a, if_neg b] at h
      rintro ⟨x, y⟩
      rw [if_neg x, if_neg y] at h
      exact absurd h (by decide)
    · have hr : bI (othersL σ num 106 os j (i + 1)) = 0 := by
        by_cases c1 : σ (14 + 10 + 3 * i) 0 = num
        · rw [if_pos c1] at h; exact h
        · rw [if_neg c1] at h
          by_cases c2 : bI (aheadF (σ (14 + 10 + 3 * i))) = 0
          · rw [if_pos c2] at h; exact h
          · rw [if_neg c2] at h
            by_cases c3 : bI (closeF σ (14 + 10 + 3 * i) 106 os) = 0
            · rw [if_pos c3] at h; exact h
            · rw [if_neg c3] at h
              by_cases c4 : bI (meetL σ (14 + 10 + 3 * i) 106 os (cntF σ 106) (cntF σ (14 + 10 + 3 * i + 1)) 0) = 0
              · rw [if_pos c4] at h; exact h
              · rw [if_neg c4] at h; exact absurd h (by decide)
      exact ih (i + 1) t hr (by omega) (by omega) a b
theorem itself_f {num os : Int32} : ∀ (j i t : Nat), bI (itselfL σ num 106 os j i) = 0 → i ≤ t → t < i + j → σ (14 + 10 + 3 * t) 0 = num → bI (aheadF (σ (14 + 10 + 3 * t))) ≠ 0 → bI (closeF σ (14 + 10 + 3 * t) 106 os) = 0 := by
  intro j
  induction j with
  | zero => intro i t _ h1 h2; omega
  | succ j ih =>
    intro i t h h1 h2 a b
    unfold itselfL at h
    by_cases q : i = t
    · subst q
      rw [if_pos a, if_neg b] at h
      by_cases x : bI (closeF σ (14 + 10 + 3 * i) 106 os) = 0
      · exact x
      · rw [if_neg x] at h; exact absurd h (by decide)
    · have hr : bI (itselfL σ num 106 os j (i + 1)) = 0 := by
        by_cases c1 : σ (14 + 10 + 3 * i) 0 = num
        · rw [if_pos c1] at h
          by_cases c2 : bI (aheadF (σ (14 + 10 + 3 * i))) = 0
          · rw [if_pos c2] at h; exact h
          · rw [if_neg c2] at h
            by_cases c3 : bI (closeF σ (14 + 10 + 3 * i) 106 os) = 0
            · rw [if_pos c3] at h; exact h
            · rw [if_neg c3] at h; exact absurd h (by decide)
        · rw [if_neg c1] at h; exact h
      exact ih (i + 1) t hr (by omega) (by omega) a b
theorem ahead_rs {f g r : Nat → Int32} {a : aF} (h : RF f g r a) (hs : a.st ≤ 6) : bI (aheadF f) ≠ 0 ↔ ahd a := by
  unfold aheadF ahd
  rw [h.h2]
  by_cases c0 : a.st = 0
  · rw [if_pos (by rw [c0]; rfl)]
    exact ⟨fun _ => Or.inl c0, fun _ => by decide⟩
  · rw [if_neg (fun e => c0 ((nI_eq0 (by omega)).mp e))]
    by_cases c1 : a.st = 1
    · rw [if_pos (by rw [c1]; rfl)]
      exact ⟨fun _ => Or.inr c1, fun _ => by decide⟩
    · rw [if_neg (fun e => c1 ((nI_eq1 (by omega)).mp e))]
      exact ⟨fun e => absurd rfl e, fun e => by omega⟩
/-- without a reason: no other flight ahead meets it; none of the same craft is close; none of its cells is too loud -/
theorem reason0 (h : reasonF σ c 106 st fc zc = 0) : bI (othersL σ (nI c) 106 (nI st) fc 0) = 0 ∧ bI (itselfL σ (nI c) 106 (nI st) fc 0) = 0 ∧ bI (loudB σ (14 + 4 + c) 106 (nI st) fc) = 0 := by
  unfold reasonF at h
  by_cases c1 : bI (towerL σ 106 (cntF σ 106) 0) = 0
  · rw [if_pos c1] at h
    by_cases c2 : bI (zoneL σ 106 (14 + 4 + c) zc st (cntF σ 106) 0) = 0
    · rw [if_pos c2] at h
      by_cases c3 : bI (othersL σ (nI c) 106 (nI st) fc 0) = 0
      · rw [if_pos c3] at h
        by_cases c4 : bI (itselfL σ (nI c) 106 (nI st) fc 0) = 0
        · rw [if_pos c4] at h
          by_cases c5 : costRF σ 106 (cntF σ 106) ≤ σ (14 + 4 + c) 4
          · rw [if_pos c5] at h
            by_cases c6 : bI (loudB σ (14 + 4 + c) 106 (nI st) fc) = 0
            · exact ⟨c3, c4, c6⟩
            · rw [if_neg c6] at h; exact absurd h (by decide)
          · rw [if_neg c5] at h; exact absurd h (by decide)
        · rw [if_neg c4] at h; exact absurd h (by decide)
      · rw [if_neg c3] at h; exact absurd h (by decide)
    · rw [if_neg c2] at h; exact absurd h (by decide)
  · rw [if_neg c1] at h; exact absurd h (by decide)
/-- the reason is a number from 0 to 6 -/
theorem reason_le (σ : qσ) (c st fc zc : Nat) : ∃ k, k ≤ 6 ∧ reasonF σ c 106 st fc zc = nI k := by
  unfold reasonF
  repeat' split
  · exact ⟨0, by omega, rfl⟩
  · exact ⟨6, by omega, rfl⟩
  · exact ⟨5, by omega, rfl⟩
  · exact ⟨4, by omega, rfl⟩
  · exact ⟨3, by omega, rfl⟩
  · exact ⟨2, by omega, rfl⟩
  · exact ⟨1, by omega, rfl⟩
/-- no flight ahead meets the new one, none of another craft; nor has one of any craft its first cell at its start -/
theorem clear_of (h : LW σ fc zc nw dc A l) (hd : DR σ dc dr) (w : wayN dc dr) (hr : reasonF σ c 106 st fc zc = 0) (hc : c < 5) (hst : st < 2 ^ 20) (h1 : 0 < st) {t : Nat} (ht : t < fc) (ha : ahd (A.F t)) :
    ((A.F t).cr ≠ c → ¬ mts (A.F t) (c, st, 0, dc, dr)) ∧ ((A.F t).cr = c → ¬ mts (A.F t) (c, st, 0, dc, dr)) := by
  obtain ⟨r1, r2, -⟩ := reason0 hr
  have hf := h.2.2.1.fl t ht
  have hF := h.2.2.2.1.f t ht
  have b := hF.cr
  have hah := (ahead_rs hf hF.st).mpr ha
  refine ⟨fun hne hm => ?_, fun he hm => ?_⟩
  · have hk := meets_rs hf hF.ln hF.sta hd w.1 w.2.1 hst h1 hm
    refine others_f fc 0 t r1 (by omega) (by omega) (fun e => hne ?_) hah hk
    rw [hf.h0] at e
    exact (nI_eq (by omega) (by omega)).mp e
  · have hk := meets_rs hf hF.ln hF.sta hd w.1 w.2.1 hst h1 hm
    exact hk.1 (itself_f fc 0 t r2 (by omega) (by omega) (by rw [hf.h0, he]) hah)
end Rea
