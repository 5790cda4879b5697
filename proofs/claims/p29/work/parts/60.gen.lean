/-! ===== a sky in numbers: craft, flights, and what a minute does with them ===== -/
abbrev aC : Type := Nat × Nat × Nat × Nat × Bool × Nat × Nat × Nat × Nat
abbrev aC.hp (c : aC) : Nat := c.1
abbrev aC.hc (c : aC) : Nat := c.2.1
abbrev aC.bt (c : aC) : Nat := c.2.2.1
abbrev aC.ch (c : aC) : Nat := c.2.2.2.1
abbrev aC.lk (c : aC) : Bool := c.2.2.2.2.1
abbrev aC.st (c : aC) : Nat := c.2.2.2.2.2.1
abbrev aC.ce (c : aC) : Nat := c.2.2.2.2.2.2.1
abbrev aC.fl (c : aC) : Nat := c.2.2.2.2.2.2.2.1
abbrev aC.la (c : aC) : Nat := c.2.2.2.2.2.2.2.2
abbrev aC.go (c : aC) (ch fl : Nat) : aC := (c.hp, c.hc, c.bt, ch, c.lk, 1, c.ce, fl, c.la)
abbrev aC.to (c : aC) (ch ce : Nat) : aC := (c.hp, c.hc, c.bt, ch, c.lk, c.st, ce, c.fl, c.la)
abbrev aC.dn (c : aC) : aC := (c.hp, c.hc, c.bt, 0, c.lk, 2, c.ce, c.fl, c.la)
abbrev aC.wc (c : aC) (ch : Nat) : aC := (c.hp, c.hc, c.bt, ch, c.lk, c.st, c.ce, c.fl, c.la)
abbrev aF : Type := Nat × Nat × Nat × Nat × (Nat → Nat)
abbrev aF.cr (f : aF) : Nat := f.1
abbrev aF.sta (f : aF) : Nat := f.2.1
abbrev aF.st (f : aF) : Nat := f.2.2.1
abbrev aF.ln (f : aF) : Nat := f.2.2.2.1
abbrev aF.rt (f : aF) : Nat → Nat := f.2.2.2.2
abbrev aF.ws (f : aF) (s : Nat) : aF := (f.cr, f.sta, s, f.ln, f.rt)
abbrev aS : Type := Nat × Int32 × (Nat → aC) × (Nat → aF)
abbrev aS.nw (A : aS) : Nat := A.1
abbrev aS.ne (A : aS) : Int32 := A.2.1
abbrev aS.C (A : aS) : Nat → aC := A.2.2.1
abbrev aS.F (A : aS) : Nat → aF := A.2.2.2
def aS.sC (A : aS) (i : Nat) (c : aC) : aS := (A.nw, A.ne, fun k => if k = i then c else A.C k, A.F)
def aS.sF (A : aS) (i : Nat) (f : aF) : aS := (A.nw, A.ne, A.C, fun k => if k = i then f else A.F k)
theorem sC_nw (A : aS) (i : Nat) (c : aC) : (A.sC i c).nw = A.nw := rfl
theorem sF_nw (A : aS) (i : Nat) (f : aF) : (A.sF i f).nw = A.nw := rfl
theorem sC_F (A : aS) (i : Nat) (c : aC) : (A.sC i c).F = A.F := rfl
theorem sF_C (A : aS) (i : Nat) (f : aF) : (A.sF i f).C = A.C := rfl
theorem sC_C (A : aS) (i : Nat) (c : aC) (k : Nat) : (A.sC i c).C k = if k = i then c else A.C k := rfl
theorem sF_F (A : aS) (i : Nat) (f : aF) (k : Nat) : (A.sF i f).F k = if k = i then f else A.F k := rfl
def pdN (p : Nat) : Nat := match p with
  | 0 => 0
  | 1 => 2
  | 2 => 12
  | 3 => 20
  | _ => 24
def isPd (c : Nat) : Prop := c = 0 ∨ c = 2 ∨ c = 12 ∨ c = 20 ∨ c = 24
theorem isPd_pdN {p : Nat} (h : p < 5) : isPd (pdN p) := by
  rcases (show p = 0 ∨ p = 1 ∨ p = 2 ∨ p = 3 ∨ p = 4 by omega) with rfl | rfl | rfl | rfl | rfl <;> simp [isPd, pdN]
theorem isPd_lt {c : Nat} (h : isPd c) : c < 25 := by unfold isPd at h; omega
def farN (a b : Nat) : Nat := (a / 5 - b / 5) + (b / 5 - a / 5) + ((a % 5 - b % 5) + (b % 5 - a % 5))
abbrev CI (fc n t i : Nat) (F : Nat → aF) (c : aC) : Prop :=
  (c.hp < 5) ∧ (c.hc = pdN c.hp) ∧ (c.ce < 25) ∧ (c.ch ≤ c.bt) ∧ (10 ≤ c.bt ∧ c.bt ≤ 200) ∧ (c.st ≤ 2) ∧ (c.st = 0 → isPd c.ce) ∧ (c.st = 2 → c.ch = 0) ∧ (c.la ≤ n) ∧ (c.st = 1 → c.fl < fc ∧ (F c.fl).cr = i ∧ ((F c.fl).st = 1 ∨ (F c.fl).st = 5) ∧ (F c.fl).sta ≤ n) ∧ (c.st = 1 → (F c.fl).st = 1 → (F c.fl).rt ((t - (F c.fl).sta) / 2) = c.ce ∧ (t - (F c.fl).sta) / 2 + 1 < (F c.fl).ln)
theorem CI.hp {fc n t i : Nat} {F : Nat → aF} {c : aC} (h : CI fc n t i F c) : c.hp < 5 := h.1
theorem CI.hc {fc n t i : Nat} {F : Nat → aF} {c : aC} (h : CI fc n t i F c) : c.hc = pdN c.hp := h.2.1
theorem CI.ce {fc n t i : Nat} {F : Nat → aF} {c : aC} (h : CI fc n t i F c) : c.ce < 25 := h.2.2.1
theorem CI.ch {fc n t i : Nat} {F : Nat → aF} {c : aC} (h : CI fc n t i F c) : c.ch ≤ c.bt := h.2.2.2.1
theorem CI.bt {fc n t i : Nat} {F : Nat → aF} {c : aC} (h : CI fc n t i F c) : 10 ≤ c.bt ∧ c.bt ≤ 200 := h.2.2.2.2.1
theorem CI.st {fc n t i : Nat} {F : Nat → aF} {c : aC} (h : CI fc n t i F c) : c.st ≤ 2 := h.2.2.2.2.2.1
theorem CI.lies {fc n t i : Nat} {F : Nat → aF} {c : aC} (h : CI fc n t i F c) : c.st = 0 → isPd c.ce := h.2.2.2.2.2.2.1
theorem CI.down {fc n t i : Nat} {F : Nat → aF} {c : aC} (h : CI fc n t i F c) : c.st = 2 → c.ch = 0 := h.2.2.2.2.2.2.2.1
theorem CI.la {fc n t i : Nat} {F : Nat → aF} {c : aC} (h : CI fc n t i F c) : c.la ≤ n := h.2.2.2.2.2.2.2.2.1
theorem CI.fly {fc n t i : Nat} {F : Nat → aF} {c : aC} (h : CI fc n t i F c) : c.st = 1 → c.fl < fc ∧ (F c.fl).cr = i ∧ ((F c.fl).st = 1 ∨ (F c.fl).st = 5) ∧ (F c.fl).sta ≤ n := h.2.2.2.2.2.2.2.2.2.1
theorem CI.pos {fc n t i : Nat} {F : Nat → aF} {c : aC} (h : CI fc n t i F c) : c.st = 1 → (F c.fl).st = 1 → (F c.fl).rt ((t - (F c.fl).sta) / 2) = c.ce ∧ (t - (F c.fl).sta) / 2 + 1 < (F c.fl).ln := h.2.2.2.2.2.2.2.2.2.2
abbrev FI (cc : Nat) (f : aF) : Prop :=
  (f.cr < cc) ∧ (2 ≤ f.ln ∧ f.ln ≤ 10) ∧ (∀ j, j < f.ln → f.rt j < 25) ∧ (∀ j, j + 1 < f.ln → farN (f.rt j) (f.rt (j + 1)) ≤ 1) ∧ (isPd (f.rt (f.ln - 1))) ∧ (f.st ≤ 6) ∧ (f.sta < 2 ^ 20)
theorem FI.cr {cc : Nat} {f : aF} (h : FI cc f) : f.cr < cc := h.1
theorem FI.ln {cc : Nat} {f : aF} (h : FI cc f) : 2 ≤ f.ln ∧ f.ln ≤ 10 := h.2.1
theorem FI.rt {cc : Nat} {f : aF} (h : FI cc f) : ∀ j, j < f.ln → f.rt j < 25 := h.2.2.1
theorem FI.adj {cc : Nat} {f : aF} (h : FI cc f) : ∀ j, j + 1 < f.ln → farN (f.rt j) (f.rt (j + 1)) ≤ 1 := h.2.2.2.1
theorem FI.last {cc : Nat} {f : aF} (h : FI cc f) : isPd (f.rt (f.ln - 1)) := h.2.2.2.2.1
theorem FI.st {cc : Nat} {f : aF} (h : FI cc f) : f.st ≤ 6 := h.2.2.2.2.2.1
theorem FI.sta {cc : Nat} {f : aF} (h : FI cc f) : f.sta < 2 ^ 20 := h.2.2.2.2.2.2
def mts (a b : aF) : Prop := ∃ i j, i < a.ln ∧ j < b.ln ∧ a.rt i = b.rt j ∧ a.sta + 2 * i ≤ b.sta + 2 * j + 2 ∧ b.sta + 2 * j ≤ a.sta + 2 * i + 2
def ahd (f : aF) : Prop := f.st = 0 ∨ f.st = 1
def NC (fc : Nat) (F : Nat → aF) : Prop := ∀ a b, a < fc → b < fc → a ≠ b → ahd (F a) → ahd (F b) → (F a).cr ≠ (F b).cr → ¬ mts (F a) (F b)
abbrev JJ (cc fc n : Nat) (τ : Nat → Nat) (A : aS) : Prop :=
  (A.nw = n) ∧ (∀ i, i < cc → CI fc n (τ i) i A.F (A.C i)) ∧ (∀ k, k < fc → FI cc (A.F k)) ∧ (NC fc A.F) ∧ ((∀ i, i < cc → (A.C i).lk = true) → ∀ k, k < fc → (A.F k).st ≠ 5)
theorem JJ.nw {cc fc n : Nat} {τ : Nat → Nat} {A : aS} (h : JJ cc fc n τ A) : A.nw = n := h.1
theorem JJ.c {cc fc n : Nat} {τ : Nat → Nat} {A : aS} (h : JJ cc fc n τ A) : ∀ i, i < cc → CI fc n (τ i) i A.F (A.C i) := h.2.1
theorem JJ.f {cc fc n : Nat} {τ : Nat → Nat} {A : aS} (h : JJ cc fc n τ A) : ∀ k, k < fc → FI cc (A.F k) := h.2.2.1
theorem JJ.nc {cc fc n : Nat} {τ : Nat → Nat} {A : aS} (h : JJ cc fc n τ A) : NC fc A.F := h.2.2.2.1
theorem JJ.lk {cc fc n : Nat} {τ : Nat → Nat} {A : aS} (h : JJ cc fc n τ A) : (∀ i, i < cc → (A.C i).lk = true) → ∀ k, k < fc → (A.F k).st ≠ 5 := h.2.2.2.2
theorem CI.congr {fc n t i : Nat} {F F' : Nat → aF} {c : aC} (h : CI fc n t i F c) (e : c.st = 1 → F' c.fl = F c.fl) : CI fc n t i F' c :=
  ⟨h.hp, h.hc, h.ce, h.ch, h.bt, h.st, h.lies, h.down, h.la, fun q => by rw [e q]; exact h.fly q, fun q => by rw [e q]; exact h.pos q⟩
theorem NC.sub {fc k : Nat} {F : Nat → aF} {f : aF} (h : NC fc F) (h1 : f.cr = (F k).cr) (h2 : f.sta = (F k).sta) (h3 : f.ln = (F k).ln) (h4 : f.rt = (F k).rt) (ha : ahd f → ahd (F k)) : NC fc (fun j => if j = k then f else F j) := by
  have e : ∀ j, (ahd (if j = k then f else F j) → ahd (F j)) ∧ (if j = k then f else F j).cr = (F j).cr ∧ (if j = k then f else F j).sta = (F j).sta ∧ (if j = k then f else F j).ln = (F j).ln ∧ (if j = k then f else F j).rt = (F j).rt := by
    intro j
    by_cases hj : j = k
    · subst hj; rw [if_pos rfl]; exact ⟨ha, h1, h2, h3, h4⟩
    · rw [if_neg hj]; exact ⟨id, rfl, rfl, rfl, rfl⟩
  intro a b hA hB hab aa ab hcr hm
  obtain ⟨i, j, m1, m2, m3, m4, m5⟩ := hm
  obtain ⟨a1, a2, a3, a4, a5⟩ := e a
  obtain ⟨b1, b2, b3, b4, b5⟩ := e b
  refine h a b hA hB hab (a1 aa) (b1 ab) (by rw [← a2, ← b2]; exact hcr) ⟨i, j, by rw [← a4]; exact m1, by rw [← b4]; exact m2, by rw [← a5, ← b5]; exact m3, ?_, ?_⟩
  · rw [← a3, ← b3]; exact m4
  · rw [← a3, ← b3]; exact m5
/-! a flight starts or not -/
def stA (A : aS) (k : Nat) : aS :=
  if (A.F k).st = 0 ∧ (A.F k).sta = A.nw then
    (if (A.C (A.F k).cr).st = 0 ∧ (A.C (A.F k).cr).ce = (A.F k).rt 0 ∧ 2 ≤ (A.C (A.F k).cr).ch ∧ (A.C (A.F k).cr).lk = true then
      (A.sF k ((A.F k).ws 1)).sC (A.F k).cr ((A.C (A.F k).cr).go ((A.C (A.F k).cr).ch - 2) k)
    else A.sF k ((A.F k).ws 4))
  else A
def H1 (n : Nat) (F : Nat → aF) (c0 c : aC) : Prop := c = c0 ∨ (c0.st = 0 ∧ 2 ≤ c0.ch ∧ c = c0.go (c0.ch - 2) c.fl ∧ (F c.fl).sta = n)
abbrev HF1 (n q : Nat) (f0 f : aF) : Prop :=
  (f.cr = f0.cr) ∧ (f.sta = f0.sta) ∧ (f.ln = f0.ln) ∧ (f.rt = f0.rt) ∧ (f.st = f0.st ∨ (f0.st = 0 ∧ (f.st = 1 ∨ f.st = 4) ∧ f.sta = n) ∨ (f.cr < q ∧ ((f0.st = 1 ∧ (f.st = 2 ∨ f.st = 5 ∨ f.st = 6)) ∨ (f0.st = 5 ∧ f.st = 6))))
theorem HF1.cr {n q : Nat} {f0 f : aF} (h : HF1 n q f0 f) : f.cr = f0.cr := h.1
theorem HF1.sta {n q : Nat} {f0 f : aF} (h : HF1 n q f0 f) : f.sta = f0.sta := h.2.1
theorem HF1.ln {n q : Nat} {f0 f : aF} (h : HF1 n q f0 f) : f.ln = f0.ln := h.2.2.1
theorem HF1.rt {n q : Nat} {f0 f : aF} (h : HF1 n q f0 f) : f.rt = f0.rt := h.2.2.2.1
theorem HF1.st {n q : Nat} {f0 f : aF} (h : HF1 n q f0 f) : f.st = f0.st ∨ (f0.st = 0 ∧ (f.st = 1 ∨ f.st = 4) ∧ f.sta = n) ∨ (f.cr < q ∧ ((f0.st = 1 ∧ (f.st = 2 ∨ f.st = 5 ∨ f.st = 6)) ∨ (f0.st = 5 ∧ f.st = 6))) := h.2.2.2.2
def HC (n : Nat) (c0 c : aC) : Prop := (c.hp = c0.hp ∧ c.hc = c0.hc ∧ c.bt = c0.bt ∧ c.lk = c0.lk) ∧
  ((c.st = c0.st ∧ c.ce = c0.ce ∧ c.ch = c0.ch ∧ c.la = c0.la) ∨ (c0.st = 0 ∧ c.st = 1 ∧ c.ce = c0.ce ∧ c.ch + 2 = c0.ch) ∨
   (c0.st = 1 ∧ c.st ≠ 2 ∧ (c.st = 0 → c.la = n) ∧ c.ce ≠ c0.ce ∧ farN c0.ce c.ce ≤ 1 ∧ c.ch + 1 ≤ c0.ch ∧ c0.ch ≤ c.ch + 7) ∨
   (c0.st = 1 ∧ c.st ≠ 2 ∧ (c.st = 0 → c.la = n) ∧ c.ce = c0.ce ∧ c.ch = c0.ch) ∨ (c0.st = 1 ∧ c.st = 2 ∧ c.ce = c0.ce ∧ c.ch = 0))
abbrev P2 (cc fc n q : Nat) (A0 A : aS) : Prop :=
  (JJ cc fc n (fun i => if i < q then n else n - 1) A) ∧ (∀ i, i < cc → q ≤ i → H1 n A.F (A0.C i) (A.C i)) ∧ (∀ i, i < cc → i < q → HC n (A0.C i) (A.C i)) ∧ (∀ k, k < fc → HF1 n q (A0.F k) (A.F k))
theorem P2.j {cc fc n q : Nat} {A0 A : aS} (h : P2 cc fc n q A0 A) : JJ cc fc n (fun i => if i < q then n else n - 1) A := h.1
theorem P2.h1 {cc fc n q : Nat} {A0 A : aS} (h : P2 cc fc n q A0 A) : ∀ i, i < cc → q ≤ i → H1 n A.F (A0.C i) (A.C i) := h.2.1
theorem P2.hc {cc fc n q : Nat} {A0 A : aS} (h : P2 cc fc n q A0 A) : ∀ i, i < cc → i < q → HC n (A0.C i) (A.C i) := h.2.2.1
theorem P2.hf {cc fc n q : Nat} {A0 A : aS} (h : P2 cc fc n q A0 A) : ∀ k, k < fc → HF1 n q (A0.F k) (A.F k) := h.2.2.2
theorem H1.congr {n : Nat} {F F' : Nat → aF} {c0 c : aC} (h : H1 n F c0 c) (e : (F' c.fl).sta = (F c.fl).sta) : H1 n F' c0 c := by
  rcases h with h | ⟨h1, h2, h3, h4⟩
  · exact Or.inl h
  · exact Or.inr ⟨h1, h2, h3, e.trans h4⟩
theorem sF_sta {A : aS} {k : Nat} {f : aF} (h : f.sta = (A.F k).sta) (j : Nat) : ((A.sF k f).F j).sta = (A.F j).sta := by
  rw [sF_F]
  by_cases hj : j = k
  · subst hj; rw [if_pos rfl]; exact h
  · rw [if_neg hj]
theorem P2.start {cc fc n k : Nat} {A0 A : aS} (h : P2 cc fc n 0 A0 A) (hk : k < fc) : P2 cc fc n 0 A0 (stA A k) := by
  unfold stA
  by_cases c1 : (A.F k).st = 0 ∧ (A.F k).sta = A.nw
  · rw [if_pos c1]
    have hF := h.j.f k hk
    have hf := h.hf k hk
    have f00 : (A0.F k).st = 0 := by
      rcases hf.st with e | ⟨e, -, -⟩ | ⟨e, -⟩
      · rw [← e]; exact c1.1
      · exact e
      · omega
    have ne : ∀ i, i < cc → (A.C i).st = 1 → (A.C i).fl ≠ k := fun i hi hs e => by
      have := ((h.j.c i hi).fly hs).2.2.1
      rw [e] at this; omega
    have hn := h.j.nw
    by_cases c2 : (A.C (A.F k).cr).st = 0 ∧ (A.C (A.F k).cr).ce = (A.F k).rt 0 ∧ 2 ≤ (A.C (A.F k).cr).ch ∧ (A.C (A.F k).cr).lk = true
    · rw [if_pos c2]
      have hC := h.j.c _ hF.cr
      refine ⟨⟨hn, fun i hi => ?_, fun j hj => ?_, ?_, fun hl j hj => ?_⟩, fun i hi _ => ?_, fun i _ hi => absurd hi (Nat.not_lt_zero i), fun j hj => ?_⟩
      · rw [sC_C, sC_F]
        by_cases hi2 : i = (A.F k).cr
        · rw [if_pos hi2]
          have ek : (A.sF k ((A.F k).ws 1)).F k = ((A.F k).ws 1) := by rw [sF_F, if_pos rfl]
          refine ⟨hC.hp, hC.hc, hC.ce, ?_, hC.bt, Nat.le_of_ble_eq_true rfl, fun e => absurd (show (1 : Nat) = 0 from e) (by decide), fun e => absurd (show (1 : Nat) = 2 from e) (by decide), hC.la, fun _ => ?_, fun _ _ => ?_⟩
          · show (A.C (A.F k).cr).ch - 2 ≤ _
            have := hC.ch; show _ ≤ (A.C (A.F k).cr).bt; omega
          · show k < fc ∧ _
            simp only [ek]
            exact ⟨hk, hi2.symm, Or.inl trivial, by show (A.F k).sta ≤ n; omega⟩
          · simp only [ek]
            have e : (n - 1 - (A.F k).sta) / 2 = 0 := by have := c1.2; omega
            simp only [Nat.not_lt_zero, if_false, e]
            exact ⟨c2.2.1.symm, by show 0 + 1 < (A.F k).ln; have := hF.ln.1; omega⟩
        · rw [if_neg hi2]
          refine (h.j.c i hi).congr fun hs => ?_
          rw [sF_F, if_neg (ne i hi hs)]
      · rw [sC_F, sF_F]
        by_cases hj2 : j = k
        · rw [if_pos hj2]
          exact ⟨hF.cr, hF.ln, hF.rt, hF.adj, hF.last, Nat.le_of_ble_eq_true rfl, hF.sta⟩
        · rw [if_neg hj2]; exact h.j.f j hj
      · exact h.j.nc.sub rfl rfl rfl rfl (fun _ => Or.inl c1.1)
      · rw [sC_F, sF_F]
        by_cases hj2 : j = k
        · rw [if_pos hj2]; exact (by decide : (1 : Nat) ≠ 5)
        · rw [if_neg hj2]
          refine h.j.lk (fun i hi => ?_) j hj
          have := hl i hi
          rw [sC_C] at this
          by_cases hi2 : i = (A.F k).cr
          · rw [if_pos hi2] at this; rw [hi2]; exact c2.2.2.2
          · rw [if_neg hi2] at this; exact this
      · rw [sC_C, sC_F]
        by_cases hi2 : i = (A.F k).cr
        · rw [if_pos hi2, hi2]
          have := h.h1 _ hF.cr (Nat.zero_le _)
          rcases this with e | ⟨-, -, e, -⟩
          · rw [e] at c2 ⊢
            refine Or.inr ⟨c2.1, c2.2.2.1, rfl, ?_⟩
            show ((A.sF k _).F k).sta = n
            rw [sF_F, if_pos rfl]
            show (A.F k).sta = n
            rw [c1.2, hn]
          · have : (A.C (A.F k).cr).st = 1 := by rw [e]
            omega
        · rw [if_neg hi2]
          exact (h.h1 i hi (Nat.zero_le _)).congr (sF_sta (A := A) (k := k) (f := ((A.F k).ws 1)) rfl _)
      · rw [sC_F, sF_F]
        by_cases hj2 : j = k
        · subst hj2
          rw [if_pos rfl]
          exact ⟨hf.cr, hf.sta, hf.ln, hf.rt, Or.inr (Or.inl ⟨f00, Or.inl rfl, by show (A.F j).sta = n; rw [c1.2, hn]⟩)⟩
        · rw [if_neg hj2]; exact h.hf j hj
    · rw [if_neg c2]
      refine ⟨⟨hn, fun i hi => ?_, fun j hj => ?_, ?_, fun hl j hj => ?_⟩, fun i hi _ => ?_, fun i _ hi => absurd hi (Nat.not_lt_zero i), fun j hj => ?_⟩
      · refine (h.j.c i hi).congr fun hs => ?_
        show (A.sF k _).F (A.C i).fl = _
        rw [sF_F, if_neg (ne i hi hs)]
      · rw [sF_F]
        by_cases hj2 : j = k
        · rw [if_pos hj2]
          exact ⟨hF.cr, hF.ln, hF.rt, hF.adj, hF.last, Nat.le_of_ble_eq_true rfl, hF.sta⟩
        · rw [if_neg hj2]; exact h.j.f j hj
      · exact h.j.nc.sub rfl rfl rfl rfl (fun _ => Or.inl c1.1)
      · rw [sF_F]
        by_cases hj2 : j = k
        · rw [if_pos hj2]; exact (by decide : (4 : Nat) ≠ 5)
        · rw [if_neg hj2]; exact h.j.lk hl j hj
      · exact (h.h1 i hi (Nat.zero_le _)).congr (sF_sta (A := A) (k := k) (f := ((A.F k).ws 4)) rfl _)
      · rw [sF_F]
        by_cases hj2 : j = k
        · subst hj2
          rw [if_pos rfl]
          exact ⟨hf.cr, hf.sta, hf.ln, hf.rt, Or.inr (Or.inl ⟨f00, Or.inr rfl, by show (A.F j).sta = n; rw [c1.2, hn]⟩)⟩
        · rw [if_neg hj2]; exact h.hf j hj
  · rw [if_neg c1]; exact h
/-! a craft moves -/
def landA (n : Nat) (c : aC) : aC := (c.hp, c.hc, c.bt, c.ch, c.lk, 0, c.ce, c.fl, n)
def homeN (c : aC) : Nat := if c.ce / 5 = c.hc / 5 then (if c.ce = c.hc then c.ce else if c.hc ≤ c.ce then c.ce - 1 else c.ce + 1) else if c.hc ≤ c.ce then c.ce - 5 else c.ce + 5
theorem home_lt {c : aC} (h1 : c.ce < 25) (h2 : c.hc < 25) : homeN c < 25 := by
  unfold homeN
  by_cases e1 : c.ce / 5 = c.hc / 5
  · rw [if_pos e1]
    by_cases e2 : c.ce = c.hc
    · rw [if_pos e2]; exact h1
    · rw [if_neg e2]
      by_cases e3 : c.hc ≤ c.ce
      · rw [if_pos e3]; omega
      · rw [if_neg e3]; omega
  · rw [if_neg e1]
    by_cases e3 : c.hc ≤ c.ce
    · rw [if_pos e3]; omega
    · rw [if_neg e3]; omega
theorem home_far {c : aC} (h1 : c.ce < 25) (h2 : c.hc < 25) : farN c.ce (homeN c) ≤ 1 := by
  unfold homeN farN
  by_cases e1 : c.ce / 5 = c.hc / 5
  · rw [if_pos e1]
    by_cases e2 : c.ce = c.hc
    · rw [if_pos e2]; omega
    · rw [if_neg e2]
      by_cases e3 : c.hc ≤ c.ce
      · rw [if_pos e3]; omega
      · rw [if_neg e3]; omega
  · rw [if_neg e1]
    by_cases e3 : c.hc ≤ c.ce
    · rw [if_pos e3]; omega
    · rw [if_neg e3]; omega
def lndP (n : Nat) (c : aC) (f : aF) (pl : Nat) : aC × aF :=
  if f.st = 5 then (if c.ce = c.hc then (landA n c, f) else (c, f)) else if pl = f.ln - 1 then (landA n c, (f.ws 2)) else (c, f)
def mvN (n k : Nat) (c : aC) (f : aF) (nx pl : Nat) : aC × aF :=
  if nx = c.ce then lndP n c f pl else if k ≤ c.ch then lndP n (c.to (c.ch - k) nx) f pl else (c.dn, (f.ws 6))
def mvP (n k : Nat) (c : aC) (f : aF) : aC × aF :=
  let f1 : aF := if f.st = 1 ∧ c.lk = false then (f.ws 5) else f
  mvN n k c f1 (if f1.st = 5 then homeN c else f1.rt ((n - f.sta) / 2)) ((n - f.sta) / 2)
def mvA (A : aS) (i k : Nat) : aS :=
  if (A.C i).st = 1 ∧ 2 ≤ A.nw - (A.F (A.C i).fl).sta ∧ (A.nw - (A.F (A.C i).fl).sta) % 2 = 0 then
    (A.sF (A.C i).fl (mvP A.nw k (A.C i) (A.F (A.C i).fl)).2).sC i (mvP A.nw k (A.C i) (A.F (A.C i).fl)).1
  else A
/-- what a move makes of its craft and its flight -/
abbrev MV (n : Nat) (c : aC) (f : aF) (c' : aC) (f' : aF) : Prop :=
  (f' = f.ws f'.st) ∧ (f'.st = f.st ∨ (f.st = 1 ∧ (f'.st = 2 ∨ f'.st = 5 ∨ f'.st = 6)) ∨ (f.st = 5 ∧ f'.st = 6)) ∧ (HC n c c') ∧ (c'.ce < 25) ∧ (c'.ch ≤ c'.bt) ∧ (c'.st ≤ 2) ∧ (c'.st = 0 → isPd c'.ce) ∧ (c'.st = 2 → c'.ch = 0) ∧ (c'.la ≤ n) ∧ (c'.fl = c.fl) ∧ (c'.st = 1 → f'.st = 1 ∨ f'.st = 5) ∧ (c'.st = 1 → f'.st = 1 → f'.rt ((n - f'.sta) / 2) = c'.ce ∧ (n - f'.sta) / 2 + 1 < f'.ln) ∧ (c.lk = true → f.st = 1 → f'.st ≠ 5)
theorem MV.eq {n : Nat} {c : aC} {f : aF} {c' : aC} {f' : aF} (h : MV n c f c' f') : f' = f.ws f'.st := h.1
theorem MV.st {n : Nat} {c : aC} {f : aF} {c' : aC} {f' : aF} (h : MV n c f c' f') : f'.st = f.st ∨ (f.st = 1 ∧ (f'.st = 2 ∨ f'.st = 5 ∨ f'.st = 6)) ∨ (f.st = 5 ∧ f'.st = 6) := h.2.1
theorem MV.hc {n : Nat} {c : aC} {f : aF} {c' : aC} {f' : aF} (h : MV n c f c' f') : HC n c c' := h.2.2.1
theorem MV.ce {n : Nat} {c : aC} {f : aF} {c' : aC} {f' : aF} (h : MV n c f c' f') : c'.ce < 25 := h.2.2.2.1
theorem MV.ch {n : Nat} {c : aC} {f : aF} {c' : aC} {f' : aF} (h : MV n c f c' f') : c'.ch ≤ c'.bt := h.2.2.2.2.1
theorem MV.ss {n : Nat} {c : aC} {f : aF} {c' : aC} {f' : aF} (h : MV n c f c' f') : c'.st ≤ 2 := h.2.2.2.2.2.1
theorem MV.lies {n : Nat} {c : aC} {f : aF} {c' : aC} {f' : aF} (h : MV n c f c' f') : c'.st = 0 → isPd c'.ce := h.2.2.2.2.2.2.1
theorem MV.down {n : Nat} {c : aC} {f : aF} {c' : aC} {f' : aF} (h : MV n c f c' f') : c'.st = 2 → c'.ch = 0 := h.2.2.2.2.2.2.2.1
theorem MV.la {n : Nat} {c : aC} {f : aF} {c' : aC} {f' : aF} (h : MV n c f c' f') : c'.la ≤ n := h.2.2.2.2.2.2.2.2.1
theorem MV.fl {n : Nat} {c : aC} {f : aF} {c' : aC} {f' : aF} (h : MV n c f c' f') : c'.fl = c.fl := h.2.2.2.2.2.2.2.2.2.1
theorem MV.fly {n : Nat} {c : aC} {f : aF} {c' : aC} {f' : aF} (h : MV n c f c' f') : c'.st = 1 → f'.st = 1 ∨ f'.st = 5 := h.2.2.2.2.2.2.2.2.2.2.1
theorem MV.pos {n : Nat} {c : aC} {f : aF} {c' : aC} {f' : aF} (h : MV n c f c' f') : c'.st = 1 → f'.st = 1 → f'.rt ((n - f'.sta) / 2) = c'.ce ∧ (n - f'.sta) / 2 + 1 < f'.ln := h.2.2.2.2.2.2.2.2.2.2.2.1
theorem MV.lk {n : Nat} {c : aC} {f : aF} {c' : aC} {f' : aF} (h : MV n c f c' f') : c.lk = true → f.st = 1 → f'.st ≠ 5 := h.2.2.2.2.2.2.2.2.2.2.2.2
