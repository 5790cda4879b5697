/-! ===== a flight is asked for ===== -/
section Ask
variable {σ τ : qσ} {fc zc nw dc c st : Nat} {A : aS} {l : Bool} {dr : Nat → Nat}
/-- the rows of the new flight, and all others -/
theorem addF_rows {σ : qσ} (hf : fc < 12) (c st : Nat) : (addFlightF σ fc c st (14 + 10 + 3 * fc) 0 = nI c ∧ addFlightF σ fc c st (14 + 10 + 3 * fc) 1 = nI st ∧ addFlightF σ fc c st (14 + 10 + 3 * fc) 2 = 0) ∧ addFlightF σ fc c st (14 + 10 + 3 * fc + 1) 1 = σ 106 1 ∧
    (∀ k, k < 10 → addFlightF σ fc c st (14 + 10 + 3 * fc + 1 + 1) k = σ 107 k) ∧ (∀ k, k ≠ 14 + 10 + 3 * fc → k ≠ 14 + 10 + 3 * fc + 1 → k ≠ 14 + 10 + 3 * fc + 1 + 1 → k ≠ 106 → k ≠ 14 → addFlightF σ fc c st k = σ k) ∧ (∀ j, j ≠ 4 → addFlightF σ fc c st 14 j = σ 14 j) ∧ addFlightF σ fc c st 14 4 = nI (fc + 1) ∧ addFlightF σ fc c st 106 1 = 0 := by
  have e : addFlightF σ fc c st = sset (sset (cpRouteF (sset (sset (sset σ (14 + 10 + 3 * fc) 0 (nI c)) (14 + 10 + 3 * fc) 1 (nI st)) (14 + 10 + 3 * fc) 2 0) (14 + 10 + 3 * fc + 1) 106) 106 1 0) 14 4 (nI (fc + 1)) := by
    unfold addFlightF
    rw [nI_1]
  rw [e, cpRoute_row (r := 14 + 10 + 3 * fc + 1) (o := 106) (by omega) (by omega)]
  refine ⟨⟨?_, ?_, ?_⟩, ?_, fun k hk => ?_, fun k h1 h2 h3 h4 h5 => ?_, fun j hj => ?_, ?_, ?_⟩
  · rw [sset_ne _ _ _ (by omega), sset_ne _ _ _ (by omega), sset_ne _ _ _ (by omega), srow_ne _ _ (by omega), sset_at, if_neg (by omega), sset_at, if_neg (by omega), sset_at, if_pos ⟨rfl, rfl⟩]
  · rw [sset_ne _ _ _ (by omega), sset_ne _ _ _ (by omega), sset_ne _ _ _ (by omega), srow_ne _ _ (by omega), sset_at, if_neg (by omega), sset_at, if_pos ⟨rfl, rfl⟩]
  · rw [sset_ne _ _ _ (by omega), sset_ne _ _ _ (by omega), sset_ne _ _ _ (by omega), srow_ne _ _ (by omega), sset_at, if_pos ⟨rfl, rfl⟩]
  · rw [sset_ne _ _ _ (by omega), sset_ne _ _ _ (by omega), sset_at, if_pos ⟨rfl, rfl⟩, sset_ne _ _ _ (by omega), sset_ne _ _ _ (by omega), sset_ne _ _ _ (by omega)]
  · rw [sset_ne _ _ _ (by omega), sset_ne _ _ _ (by omega), sset_ne _ _ _ (by omega), srow_self, cpRow, if_pos hk, sset_ne _ _ _ (by omega), sset_ne _ _ _ (by omega), sset_ne _ _ _ (by omega)]
  · rw [sset_ne _ _ _ h5, sset_ne _ _ _ h4, sset_ne _ _ _ h2, srow_ne _ _ h3, sset_ne _ _ _ h1, sset_ne _ _ _ h1, sset_ne _ _ _ h1]
  · rw [sset_at, if_neg (fun x => hj x.2), sset_ne _ _ _ (by omega), sset_ne _ _ _ (by omega), srow_ne _ _ (by omega), sset_ne _ _ _ (by omega), sset_ne _ _ _ (by omega), sset_ne _ _ _ (by omega)]
  · rw [sset_at, if_pos ⟨rfl, rfl⟩]
  · rw [sset_ne _ _ _ (by omega), sset_at, if_pos ⟨rfl, rfl⟩]
theorem addF_rf (hf : fc < 12) (hd : DR σ dc dr) (h10 : dc ≤ 10) : RF (addFlightF σ fc c st (14 + 10 + 3 * fc)) (addFlightF σ fc c st (14 + 10 + 3 * fc + 1)) (addFlightF σ fc c st (14 + 10 + 3 * fc + 1 + 1)) (c, st, 0, dc, dr) := by
  obtain ⟨⟨a1, a2, a3⟩, a4, a5, -⟩ := addF_rows (σ := σ) hf c st
  exact ⟨a1, a2, a3, by rw [a4]; exact hd.1, fun k hk => by rw [a5 k (Nat.lt_of_lt_of_le hk h10)]; exact hd.2 k hk⟩
theorem LW.ask (h : LW σ fc zc nw dc A l) (hd : DR σ dc dr) (w : wayN dc dr) (hr : reasonF σ c 106 st fc zc = 0) (hc : c < 5) (h1 : 0 < st) (hst : st < 2 ^ 20) (hf : fc < 12) : LW (addFlightF σ fc c st) (fc + 1) zc nw 0 (A.sF fc (c, st, 0, dc, dr)) l := by
  have hcl := fun t (ht : t < fc) (ha : ahd (A.F t)) => clear_of h hd w hr hc hst h1 ht ha
  obtain ⟨⟨⟨hs, h1', h2, h3, h4, h5⟩, ⟨h6, h7⟩, h8, h9, h10⟩, hG, hR, hJ, hl⟩ := h
  obtain ⟨⟨a1, a2, a3⟩, a4, a5, a6, a7, a8, a9⟩ := addF_rows (σ := σ) hf c st
  have e : ∀ k, (k < 14 ∨ (14 < k ∧ k < 24) ∨ (60 ≤ k ∧ k ≠ 106)) → addFlightF σ fc c st k = σ k := fun k hk => a6 k (by omega) (by omega) (by omega) (by omega) (by omega)
  refine ⟨⟨⟨hs, ⟨?_, h1'.2⟩, ⟨a8, hf⟩, ⟨?_, h3.2⟩, fun i hi => ?_, fun i hi => ?_⟩, ⟨fun i hi => ?_, fun i hi => ?_⟩, ⟨?_, h8.2⟩, ⟨?_, h9.2⟩, ⟨a9, Nat.zero_le _⟩⟩, hG.of (e _ (by omega)) (e _ (by omega)) (e _ (by omega)) (by rw [e 2 (by omega)]), ⟨hR.c6, hf, ?_, ?_, fun i hi => ?_, fun i hi => ?_⟩, ⟨hJ.nw, fun i hi => ?_, fun j hj => ?_, ?_, fun hx j hj => ?_⟩, hl⟩
  · rw [a7 2 (by omega)]; exact h1'.1
  · rw [e 2 (by omega)]; exact h3.1
  · rw [e _ (by omega)]; exact h4 i hi
  · by_cases q : i = fc
    · subst q; exact ⟨dc, h10.2, by rw [a4]; exact hd.1⟩
    · rw [a6 _ (by omega) (by omega) (by omega) (by omega) (by omega)]; exact h5 i hi
  · rw [e _ (by omega)]; exact h6 i hi
  · rw [e _ (by omega)]; exact h7 i hi
  · rw [e 2 (by omega)]; exact h8.1
  · rw [a7 8 (by omega)]; exact h9.1
  · rw [a7 8 (by omega)]; exact hR.now
  · rw [a7 7 (by omega)]; exact hR.near
  · rw [e _ (by omega)]; exact hR.cr i hi
  · rw [sF_F]
    by_cases q : i = fc
    · subst q; rw [if_pos rfl]; exact addF_rf hf hd w.2.1
    · rw [if_neg q, a6 _ (by omega) (by omega) (by omega) (by omega) (by omega), a6 _ (by omega) (by omega) (by omega) (by omega) (by omega), a6 _ (by omega) (by omega) (by omega) (by omega) (by omega)]; exact hR.fl i (by omega)
  · have ci := hJ.c i hi
    have c2 := ci.congr (F' := (A.sF fc (c, st, 0, dc, dr)).F) (fun hs => by rw [sF_F, if_neg (by have := (ci.fly hs).1; omega)])
    exact ⟨c2.hp, c2.hc, c2.ce, c2.ch, c2.bt, c2.st, c2.lies, c2.down, c2.la, fun hs => ⟨Nat.lt_succ_of_lt (c2.fly hs).1, (c2.fly hs).2⟩, c2.pos⟩
  · rw [sF_F]
    by_cases q : j = fc
    · rw [if_pos q]
      obtain ⟨w1, w2, w3, w4, w5, w6⟩ := w
      exact ⟨hc, ⟨w1, w2⟩, w3, fun j hj => Nat.le_of_eq (w4 j hj), w6, Nat.zero_le _, hst⟩
    · rw [if_neg q]; exact hJ.f j (by omega)
  · intro a b ha hb hab xa xb hcr hm
    rw [sF_F] at xa xb hcr hm
    rw [sF_F] at hm hcr
    by_cases qa : a = fc
    · rw [if_pos qa] at xa hcr hm
      have qb : b ≠ fc := fun x => hab (by omega)
      rw [if_neg qb] at xb hcr hm
      refine (hcl b (by omega) xb).1 (fun x => hcr x.symm) ?_
      obtain ⟨i, j, m1, m2, m3, m4, m5⟩ := hm
      exact ⟨j, i, m2, m1, m3.symm, m5, m4⟩
    · rw [if_neg qa] at xa hcr hm
      by_cases qb : b = fc
      · rw [if_pos qb] at xb hcr hm
        exact (hcl a (by omega) xa).1 hcr hm
      · rw [if_neg qb] at xb hcr hm
        exact hJ.nc a b (by omega) (by omega) hab xa xb hcr hm
  · rw [sF_F]
    by_cases q : j = fc
    · rw [if_pos q]; exact (by decide : (0 : Nat) ≠ 5)
    · rw [if_neg q]; exact hJ.lk hx j (by omega)
/-! whose a cell is in a minute -/
theorem ocL_skip {c m : Int32} : ∀ (j i r : Nat), (∀ t, i ≤ t → t < i + j → bI (aheadF (σ (14 + 10 + 3 * t))) ≠ 0 → bI (occL σ (14 + 10 + 3 * t) c m (cntF σ (14 + 10 + 3 * t + 1)) 0) = 0) → ocL σ c m (j + r) i = ocL σ c m r (i + j) := by
  intro j
  induction j with
  | zero => intro i r _; rw [Nat.zero_add, Nat.add_zero]
  | succ j ih =>
    intro i r h
    have hr := ih (i + 1) r (fun t h1 h2 => h t (by omega) (by omega))
    rw [show j + 1 + r = (j + r) + 1 by omega, show i + (j + 1) = i + 1 + j by omega, ← hr]
    have h0 := h i (by omega) (by omega)
    show (if bI (aheadF (σ (14 + 10 + 3 * i))) = 0 then ocL σ c m (j + r) (i + 1) else if bI (occL σ (14 + 10 + 3 * i) c m (cntF σ (14 + 10 + 3 * i + 1)) 0) = 0 then ocL σ c m (j + r) (i + 1) else nI i) = _
    by_cases c1 : bI (aheadF (σ (14 + 10 + 3 * i))) = 0
    · rw [if_pos c1]
    · rw [if_neg c1, if_pos (h0 c1)]
theorem ocL_at {c m : Int32} : ∀ (j i t : Nat), i + j ≤ 2 ^ 20 → t < 2 ^ 20 → ocL σ c m j i = nI t → bI (occL σ (14 + 10 + 3 * t) c m (cntF σ (14 + 10 + 3 * t + 1)) 0) ≠ 0 := by
  intro j
  induction j with
  | zero =>
    intro i t _ ht h
    have h' : (-1 : Int32) = nI t := h
    have : nI t < 0 := by rw [← h']; decide
    exact absurd this (nI_pos (by omega))
  | succ j ih =>
    intro i t hi ht h
    unfold ocL at h
    by_cases c1 : bI (aheadF (σ (14 + 10 + 3 * i))) = 0
    · rw [if_pos c1] at h; exact ih (i + 1) t (by omega) ht h
    · rw [if_neg c1] at h
      by_cases c2 : bI (occL σ (14 + 10 + 3 * i) c m (cntF σ (14 + 10 + 3 * i + 1)) 0) = 0
      · rw [if_pos c2] at h; exact ih (i + 1) t (by omega) ht h
      · rw [if_neg c2] at h
        have : i = t := (nI_eq (by omega) (by omega)).mp h
        subst this; exact c2
theorem occ_at {r : Nat} {c m : Int32} : ∀ (j i : Nat), bI (occL σ r c m j i) ≠ 0 → ∃ v, i ≤ v ∧ v < i + j ∧ atF σ (r + 1) (nI v) = c ∧ ¬ m < σ r 1 + 2 * nI v - 1 ∧ ¬ σ r 1 + 2 * nI v + 1 < m := by
  intro j
  induction j with
  | zero => intro i h; exact absurd rfl h
  | succ j ih =>
    intro i h
    have go : bI (occL σ r c m j (i + 1)) ≠ 0 → ∃ v, i ≤ v ∧ v < i + (j + 1) ∧ atF σ (r + 1) (nI v) = c ∧ ¬ m < σ r 1 + 2 * nI v - 1 ∧ ¬ σ r 1 + 2 * nI v + 1 < m := fun g => by
      obtain ⟨v, a, b, d⟩ := ih (i + 1) g
      exact ⟨v, by omega, by omega, d⟩
    unfold occL at h
    by_cases c1 : atF σ (r + 1) (nI i) = c
    · rw [if_pos c1] at h
      by_cases c2 : m < σ r 1 + 2 * nI i - 1
      · rw [if_pos c2] at h; exact go h
      · rw [if_neg c2] at h
        by_cases c3 : σ r 1 + 2 * nI i + 1 < m
        · rw [if_pos c3] at h; exact go h
        · exact ⟨i, by omega, by omega, c1, c2, c3⟩
    · rw [if_neg c1] at h; exact go h
theorem occ_mts {k m : Nat} {f : aF} (hf : RF (σ (14 + 10 + 3 * k)) (σ (14 + 10 + 3 * k + 1)) (σ (14 + 10 + 3 * k + 1 + 1)) f) (hln : 2 ≤ f.ln ∧ f.ln ≤ 10) (hrt : ∀ j, j < f.ln → f.rt j < 25) (hsta : f.sta < 2 ^ 20) {x : Nat} (hx : x < 25) (hm : m < 2 ^ 20)
    (h : bI (occL σ (14 + 10 + 3 * k) (nI x) (nI m) (cntF σ (14 + 10 + 3 * k + 1)) 0) ≠ 0) : ∃ v, v < f.ln ∧ f.rt v = x ∧ f.sta + 2 * v ≤ m + 1 ∧ m ≤ f.sta + 2 * v + 1 := by
  rw [cntF_of hf.hn hln.2] at h
  obtain ⟨v, -, h2, h3, h4, h5⟩ := occ_at _ _ h
  rw [Nat.zero_add] at h2
  have b := hrt v h2
  rw [at_rs hf hln h2] at h3
  rw [hf.h1, two_nI, nI_add] at h4 h5
  refine ⟨v, h2, (nI_eq (by omega) (by omega)).mp h3, ?_, ?_⟩
  · by_cases z : f.sta + 2 * v = 0
    · omega
    · rw [show nI (f.sta + 2 * v) - 1 = nI (f.sta + 2 * v - 1) from nI_sub (b := 1) (by omega)] at h4
      rcases Nat.lt_or_ge m (f.sta + 2 * v - 1) with q | q
      · exact absurd (nI_lt q (by omega)) h4
      · omega
  · rw [nI_1] at h5
    rcases Nat.lt_or_ge (f.sta + 2 * v + 1) m with q | q
    · exact absurd (nI_lt q (by omega)) h5
    · omega
/-- the new flight has its first cell at its start -/
theorem oc_new (h : LW σ fc zc nw dc A l) (hd : DR σ dc dr) (w : wayN dc dr) (hr : reasonF σ c 106 st fc zc = 0) (hc : c < 5) (h1 : 0 < st) (hst : st < 2 ^ 20) (hf : fc < 12) : ocL (addFlightF σ fc c st) (nI (dr 0)) (nI st) (fc + 1) 0 = nI fc := by
  have hL := h.ask hd w hr hc h1 hst hf
  have hrf := addF_rf (c := c) (st := st) hf hd w.2.1
  rw [ocL_skip fc 0 1 (fun t _ ht ha => ?_)]
  · rw [Nat.zero_add]
    show (if bI (aheadF (addFlightF σ fc c st (14 + 10 + 3 * fc))) = 0 then _ else if bI (occL (addFlightF σ fc c st) (14 + 10 + 3 * fc) (nI (dr 0)) (nI st) (cntF (addFlightF σ fc c st) (14 + 10 + 3 * fc + 1)) 0) = 0 then _ else nI fc) = nI fc
    have hln : 2 ≤ aF.ln (c, st, 0, dc, dr) ∧ aF.ln (c, st, 0, dc, dr) ≤ 10 := ⟨w.1, w.2.1⟩
    rw [if_neg ((ahead_rs hrf (Nat.zero_le _)).mpr (Or.inl rfl)), cntF_of hrf.hn w.2.1]
    rw [if_neg]
    refine bI_ne0 ?_
    obtain ⟨d, hdd⟩ : ∃ d, dc = d + 1 := ⟨dc - 1, by have := w.1; omega⟩
    show occL (addFlightF σ fc c st) (14 + 10 + 3 * fc) (nI (dr 0)) (nI st) dc 0 = true
    rw [hdd]
    unfold occL
    have ea := at_rs hrf hln (k := 0) (by show 0 < dc; have := w.1; omega)
    rw [if_pos ea, hrf.h1]
    have e0 : nI (aF.sta (c, st, 0, dc, dr)) + 2 * nI 0 = nI st := by rw [two_nI, nI_add]; rfl
    rw [e0, if_neg, if_neg]
    · rw [nI_1]; exact nI_nlt (by omega) (by omega)
    · rw [show nI st - 1 = nI (st - 1) from nI_sub (b := 1) h1]; exact nI_nlt (by omega) (by omega)
  · have ht2 : t < fc := by omega
    have hft := hL.2.2.1.fl t (by omega)
    rw [sF_F, if_neg (by omega)] at hft
    have hFt := h.2.2.2.1.f t ht2
    have haa := (ahead_rs hft hFt.st).mp ha
    by_cases q : bI (occL (addFlightF σ fc c st) (14 + 10 + 3 * t) (nI (dr 0)) (nI st) (cntF (addFlightF σ fc c st) (14 + 10 + 3 * t + 1)) 0) = 0
    · exact q
    · obtain ⟨v, v1, v2, v3, v4⟩ := occ_mts hft hFt.ln hFt.rt hFt.sta (w.2.2.1 0 (by have := w.1; omega)) hst q
      have hm : mts (A.F t) (c, st, 0, dc, dr) := ⟨v, 0, v1, (by show 0 < dc; have := w.1; omega), v2, (by show _ ≤ st + 2 * 0 + 2; omega), (by show st + 2 * 0 ≤ _; omega)⟩
      have hcl := clear_of h hd w hr hc hst h1 ht2 haa
      by_cases z : (A.F t).cr = c
      · exact absurd hm (hcl.2 z)
      · exact absurd hm (hcl.1 z)
end Ask
