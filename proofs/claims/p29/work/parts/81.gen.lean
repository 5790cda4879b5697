/-! ===== the law begins: pads, craft, houses ===== -/
def pdsF : Nat → qσ
  | 0 => s0
  | i + 1 => addPadF (pdsF i) (pdN i) i
set_option maxRecDepth 100000 in
theorem pds_ok : ∀ i, i < 5 → pdsF i 4 (nI (pdN i)).toNatClampNeg = 0 ∧ pdsF i 5 (nI (pdN i)).toNatClampNeg = -1 ∧ pdsF i 2 4 = nI i := by decide +kernel
theorem pds_far {k : Nat} (h2 : k ≠ 2) (h5 : k ≠ 5) (h6 : k ≠ 6) : ∀ i, pdsF i k = s0 k := by
  intro i
  induction i with
  | zero => rfl
  | succ i ih =>
    show addPadF (pdsF i) (pdN i) i k = _
    unfold addPadF
    rw [sset_ne _ _ _ h2, sset_ne _ _ _ h5, sset_ne _ _ _ h6, ih]
set_option maxRecDepth 100000 in
theorem pds_5 : (∀ p, p < 5 → pdsF 5 6 p = nI (pdN p)) ∧ (∀ c, c < 25 → pdsF 5 5 c = padI c) ∧ pdsF 5 2 4 = nI 5 ∧ pdsF 5 2 6 = nI 0 ∧ pdsF 5 2 8 = nI 0 := by decide +kernel
def hpZ (z : qZ) (t : Nat) : Nat := blw (cl z t) 5
def btZ (z : qZ) (t : Nat) : Nat := 20 + blw (cl z (t + 1)) 100
/-- a craft as it is at first -/
abbrev CR (f : Nat → Int32) (h b : Nat) : Prop := (f 1 = nI h ∧ f 2 = nI (pdN h) ∧ f 3 = nI b) ∧ f 4 = nI b ∧ f 6 = 1 ∧ f 7 = 0 ∧ f 8 = nI (pdN h) ∧ f 9 = -1 ∧ f 11 = -1
/-- five pads, i craft -/
abbrev SU (z : qZ) (i : Nat) (σ : qσ) : Prop :=
  (∀ k j, ¬ (k = 14 ∧ j = 2) → ¬ (18 ≤ k ∧ k < 24) → σ k j = pdsF 5 k j) ∧ (σ 14 2 = nI i) ∧ (∀ t, t < i → CR (σ (14 + 4 + t)) (hpZ z t) (btZ z t)) ∧ (∀ t, i ≤ t → t < 6 → σ (14 + 4 + t) = crI)
theorem SU.zero (z : qZ) : SU z 0 (pdsF 5) := by
  refine ⟨fun _ _ _ _ => rfl, ?_, fun t ht => absurd ht (by omega), fun t _ ht => ?_⟩
  · rw [pds_far (by omega) (by omega) (by omega)]; decide +kernel
  · rw [pds_far (by omega) (by omega) (by omega)]
    unfold s0
    rw [if_neg (by omega), if_pos (by omega)]
    unfold sk0
    rw [if_pos (by omega)]
theorem SU.next {z : qZ} {i : Nat} {σ : qσ} (h : SU z i σ) (hi : i < 5) (rk ld : Int32) : SU z (i + 1) (craftF σ i (nI (hpZ z i)) rk (nI (btZ z i)) ld) := by
  obtain ⟨h1, h2, h3, h4⟩ := h
  have hp : hpZ z i < 5 := blw_lt _ (by omega)
  have h5 : ∀ k j, ¬ (k = 14 ∧ j = 2) → k ≠ 14 + 4 + i → craftF σ i (nI (hpZ z i)) rk (nI (btZ z i)) ld k j = σ k j := fun k j q1 q2 => by
    unfold craftF
    simp only [sset_at]
    rw [if_neg q1, if_neg (by omega), if_neg (by omega), if_neg (by omega), if_neg (by omega), if_neg (by omega), if_neg (by omega), if_neg (by omega)]
  refine ⟨fun k j q1 q2 => ?_, ?_, fun t ht => ?_, fun t ht ht6 => ?_⟩
  · rw [h5 k j q1 (by omega)]; exact h1 k j q1 q2
  · unfold craftF
    simp only [sset_at]
    rw [if_pos ⟨trivial, trivial⟩]; exact nI_1 i
  · by_cases e : t = i
    · subst e
      have e6 : σ 6 (nI (hpZ z t)).toNatClampNeg = nI (pdN (hpZ z t)) := by
        rw [nI_clamp (by omega), h1 6 _ (by omega) (by omega)]; exact pds_5.1 _ hp
      have ec := h4 t (Nat.le_refl t) (by omega)
      have v1 : ∀ j, craftF σ t (nI (hpZ z t)) rk (nI (btZ z t)) ld (14 + 4 + t) j = if j = 8 then nI (pdN (hpZ z t)) else if j = 5 then ld else if j = 4 then nI (btZ z t) else if j = 3 then nI (btZ z t) else if j = 2 then nI (pdN (hpZ z t)) else if j = 1 then nI (hpZ z t) else if j = 0 then rk else crI j := fun j => by
        unfold craftF
        simp only [sset_at]
        simp only [show ¬ (14 + 4 + t = 14) by omega, show ¬ (6 = 14 + 4 + t) by omega, false_and, true_and, if_false, e6, ec]
        rfl
      refine ⟨⟨?_, ?_, ?_⟩, ?_, ?_, ?_, ?_, ?_, ?_⟩ <;> rw [v1] <;> rfl
    · have e2 : craftF σ i (nI (hpZ z i)) rk (nI (btZ z i)) ld (14 + 4 + t) = σ (14 + 4 + t) := funext fun j => h5 _ j (by omega) (by omega)
      rw [e2]; exact h3 t (by omega)
  · have e2 : craftF σ i (nI (hpZ z i)) rk (nI (btZ z i)) ld (14 + 4 + t) = σ (14 + 4 + t) := funext fun j => h5 _ j (by omega) (by omega)
    rw [e2]; exact h4 t (by omega) ht6
def A00 (z : qZ) : aS := (0, 0, fun i => ((hpZ z i, pdN (hpZ z i), btZ z i, btZ z i, true, 0, pdN (hpZ z i), 0, 0) : aC), fun _ => ((0, 0, 0, 0, fun _ => 0) : aF))
theorem SU.lw {z : qZ} {σ : qσ} (h : SU z 5 σ) : LW σ 0 0 0 0 (A00 z) true := by
  obtain ⟨h1, h2, h3, h4⟩ := h
  have e : ∀ k j, ¬ (k = 14 ∧ j = 2) → ¬ (18 ≤ k ∧ k < 24) → k ≠ 2 → k ≠ 5 → k ≠ 6 → σ k j = s0 k j := fun k j q1 q2 q3 q4 q5 => by
    rw [h1 k j q1 q2, pds_far q3 q4 q5]
  have hhp : ∀ t, hpZ z t < 5 := fun t => blw_lt _ (by omega)
  have hbt : ∀ t, 20 ≤ btZ z t ∧ btZ z t < 120 := fun t => by
    have := blw_lt (cl z (t + 1)) (N := 100) (by omega)
    unfold btZ; omega
  have hz : ∀ k j, (24 ≤ k ∧ k < 60) ∨ k = 106 → s0 k j = 0 := fun k j q => by
    unfold s0
    rw [if_neg (by omega)]
    by_cases q2 : 14 ≤ k ∧ k < 60
    · rw [if_pos q2]
      unfold sk0
      rw [if_neg (by omega)]
    · rw [if_neg q2, if_neg (by omega)]
  have hz4 : ∀ j, s0 14 j = 0 := fun j => by
    unfold s0
    rw [if_neg (by omega), if_pos (by omega)]
    unfold sk0
    rw [if_neg (by omega)]
  refine ⟨⟨⟨Or.inl rfl, ⟨h2, by omega⟩, ⟨?_, by omega⟩, ⟨?_, by omega⟩, fun i hi => ?_, fun i hi => ⟨0, by omega, ?_⟩⟩, ⟨fun i hi => ⟨true, ?_⟩, fun i hi => ⟨0, by omega, ?_⟩⟩, ⟨?_, by omega⟩, ⟨?_, by omega⟩, ⟨?_, by omega⟩⟩,
    ⟨fun p hp => ?_, fun c hc => ?_, fun c hc => ⟨false, ?_⟩, 0, by omega, ?_⟩, ⟨by omega, by omega, ?_, ?_, fun i hi => ?_, fun i hi => absurd hi (by omega)⟩, ⟨rfl, fun i hi => ?_, fun k hk => absurd hk (by omega), fun a b ha => absurd ha (by omega), fun _ k hk => absurd hk (by omega)⟩, fun _ => ⟨fun i hi => rfl, rfl⟩⟩
  · rw [e 14 4 (by omega) (by omega) (by omega) (by omega) (by omega)]; exact hz4 4
  · rw [h1 2 6 (by omega) (by omega)]; exact pds_5.2.2.2.1
  · by_cases q : i < 5
    · exact ⟨true, (h3 i q).2.2.1⟩
    · refine ⟨true, ?_⟩
      rw [h4 i (by omega) hi]; rfl
  · rw [e _ 1 (by omega) (by omega) (by omega) (by omega) (by omega)]; exact hz _ 1 (by omega)
  · rw [e _ 6 (by omega) (by omega) (by omega) (by omega) (by omega)]
    unfold s0
    rw [if_neg (by omega), if_neg (by omega), if_pos (by omega)]
    unfold sk0
    rw [if_pos (by omega)]; rfl
  · rw [e _ 1 (by omega) (by omega) (by omega) (by omega) (by omega)]
    unfold s0
    rw [if_neg (by omega), if_neg (by omega), if_pos (by omega)]
    unfold sk0
    rw [if_neg (by omega)]; rfl
  · rw [h1 2 4 (by omega) (by omega)]; exact pds_5.2.2.1
  · rw [e 14 8 (by omega) (by omega) (by omega) (by omega) (by omega)]; exact hz4 8
  · rw [e 106 1 (by omega) (by omega) (by omega) (by omega) (by omega)]; exact hz 106 1 (by omega)
  · rw [h1 6 p (by omega) (by omega)]; exact pds_5.1 p hp
  · rw [h1 5 c (by omega) (by omega)]; exact pds_5.2.1 c hc
  · rw [e 4 c (by omega) (by omega) (by omega) (by omega) (by omega)]; rfl
  · rw [h1 2 8 (by omega) (by omega)]; exact pds_5.2.2.2.2
  · rw [e 14 8 (by omega) (by omega) (by omega) (by omega) (by omega)]; exact hz4 8
  · rw [e 14 7 (by omega) (by omega) (by omega) (by omega) (by omega)]; exact hz4 7
  · obtain ⟨⟨q1, q2, q3⟩, q4, q5, q6, q7, q8, q9⟩ := h3 i hi
    exact ⟨q1, q2, q3, q4, q5, q6, q7, q8, q9⟩
  · have a1 := hhp i
    have a2 := hbt i
    have a3 := isPd_pdN a1
    exact ⟨a1, rfl, isPd_lt a3, Nat.le_refl _, ⟨show 10 ≤ btZ z i by omega, show btZ z i ≤ 200 by omega⟩, Nat.zero_le _, fun _ => a3, fun q => absurd (show (0 : Nat) = 2 from q) (by decide), Nat.le_refl _, fun q => absurd (show (0 : Nat) = 1 from q) (by decide), fun q => absurd (show (0 : Nat) = 1 from q) (by decide)⟩
theorem LW.house {σ : qσ} {fc zc nw dc : Nat} {A : aS} {l : Bool} (h : LW σ fc zc nw dc A l) (c : Nat) (v : Int32) : LW (sset σ 3 c v) fc zc nw dc A l := by
  obtain ⟨hO, hG, hR, hJ, hl⟩ := h
  refine ⟨hO.of fun k j hk => ?_, hG.of (sset_ne _ _ _ (by omega)) (sset_ne _ _ _ (by omega)) (sset_ne _ _ _ (by omega)) (by rw [sset_ne _ _ _ (by omega)]), hR.up fun k h1 _ => sset_ne _ _ _ (by omega), hJ, hl⟩
  unfold okd at hk
  rw [sset_at, if_neg (by omega)]
/-! less may be known of the locals -/
def qsub : List Value → List Value → Prop
  | [], _ => True
  | v :: t, w :: u => (v = .null ∨ v = w) ∧ qsub t u
  | v :: t, [] => False
theorem qsub_at : ∀ (L L' : List Value), qsub L L' → ∀ (i : Nat) (v : Value), L[i]? = some v → v ≠ .null → L'[i]? = some v
  | [], _, _, i, v, h, _ => by simp at h
  | w :: t, [], h, _, _, _, _ => h.elim
  | w :: t, w' :: u, h, 0, v, h1, h2 => by
    simp only [List.getElem?_cons_zero, Option.some.injEq] at h1 ⊢
    subst h1
    rcases h.1 with e | e
    · exact absurd e h2
    · exact e.symm
  | w :: t, w' :: u, h, i + 1, v, h1, h2 => by
    simp only [List.getElem?_cons_succ] at h1 ⊢
    exact qsub_at t u h.2 i v h1 h2
theorem EV_sub {z : qZ} {k : Nat} {y : qY} {pc : Nat} {Lc Lc' st : List Value} {M : qM} {n bc bs : Nat} {Q : qQ} (h : qsub Lc' Lc) (kk : EV z k y pc Lc' st M n bc bs Q) : EV z k y pc Lc st M n bc bs Q := by
  intro p l e R s m args below meth c D cA b B tc ts Qf C H locs cells slots ls h1 h2 hR hS hl
  refine kk p l e R s m args below meth c D cA b B tc ts Qf C H locs cells slots ls h1 h2 hR hS ⟨hl.1, hl.2.1, fun q hq => ?_⟩
  obtain ⟨i, v, rfl, e2, e3⟩ := qll_of _ _ _ q hq
  rw [Nat.zero_add]
  have h4 := qll_mem (qad b B) Lc 0 i v (qsub_at _ _ h i v e2 e3) e3
  rw [Nat.zero_add] at h4
  exact hl.2.2 _ h4
