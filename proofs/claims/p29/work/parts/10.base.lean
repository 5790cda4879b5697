/-! ===== the machine over cells that are numbered from 1; cell 0 is the script ===== -/
abbrev qY : Type := MethodName × ByteArray × Nat × Option FieldType
abbrev qE : Type := (Nat × vp_A) ⊕ (Nat × List Value)
abbrev qZ : Type := Nat × (Nat → Int32)
abbrev qM : Type := Nat → qE
def qad (b B : Nat) (k : Nat) : Nat := match k with
  | 0 => b
  | j + 1 => B + j
def qv (f : Nat → Nat) (v : Value) : Value := match v with
  | .ref r => .ref (f r)
  | w => w
def qa (f : Nat → Nat) (x : vp_A) : vp_A := match x with
  | (n, .inr (.inr (.inr (.inr g)))) => (n, .inr (.inr (.inr (.inr (fun j => (g j).map f)))))
  | w => w
def qe (f : Nat → Nat) (cA : Nat → ClassId) (e : qE) : va_E := match e with
  | .inl a => .inl (cA a.1, qa f a.2)
  | .inr o => .inr (o.1, o.2.map (qv f))
def qw (f : Nat → Nat) (cA : Nat → ClassId) (M : qM) (n : Nat) : va_W := (List.range n).map (fun k => (f (k + 1), qe f cA (M (k + 1))))
def qset (M : qM) (r : Nat) (e : qE) : qM := fun k => if k = r then e else M k
theorem qw_len (f : Nat → Nat) (cA : Nat → ClassId) (M : qM) (n : Nat) : (qw f cA M n).length = n := by simp [qw]
theorem qw_at (f : Nat → Nat) (cA : Nat → ClassId) (M : qM) {n k : Nat} (h : k < n) : (qw f cA M n)[k]? = some (f (k + 1), qe f cA (M (k + 1))) := by
  simp [qw, h]
theorem qw_at' {f : Nat → Nat} {cA : Nat → ClassId} {M : qM} {n k : Nat} {q : Nat × va_E} (h : (qw f cA M n)[k]? = some q) : k < n ∧ q = (f (k + 1), qe f cA (M (k + 1))) := by
  have hl := (List.getElem?_eq_some_iff.mp h).1
  rw [qw_len] at hl
  rw [qw_at f cA M hl] at h
  exact ⟨hl, (Option.some.inj h).symm⟩
theorem qw_set (f : Nat → Nat) (cA : Nat → ClassId) (M : qM) {n k : Nat} (e : qE) (h : k < n) : (qw f cA M n).set k (f (k + 1), qe f cA e) = qw f cA (qset M (k + 1) e) n := by
  apply List.ext_getElem?
  intro i
  by_cases hi : i < n
  · rw [qw_at _ _ _ hi]
    by_cases hk : i = k
    · subst hk
      rw [List.getElem?_set_self (by rw [qw_len]; exact hi)]
      simp [qset]
    · rw [List.getElem?_set_ne (Ne.symm hk), qw_at _ _ _ hi]
      simp [qset, hk]
  · rw [List.getElem?_eq_none (by rw [List.length_set, qw_len]; omega), List.getElem?_eq_none (by rw [qw_len]; omega)]
theorem qw_push (f : Nat → Nat) (cA : Nat → ClassId) (M : qM) (n : Nat) (e : qE) : qw f cA M n ++ [(f (n + 1), qe f cA e)] = qw f cA (qset M (n + 1) e) (n + 1) := by
  unfold qw
  rw [List.range_succ, List.map_append]
  congr 1
  · apply List.map_congr_left
    intro k hk
    have h1 : k < n := List.mem_range.mp hk
    have h2 : ¬ k = n := by omega
    simp [qset, h2]
  · simp [qset]
theorem qad_inj (b B : Nat) (h : b < B) {i j : Nat} (e : qad b B (i + 1) = qad b B (j + 1)) : i = j := by
  have e' : B + i = B + j := e
  omega
theorem qw_D (b B : Nat) (h : b < B) (cA : Nat → ClassId) (M : qM) (n : Nat) : va_D (fun q => B ≤ q) (qw (qad b B) cA M n) := by
  refine ⟨fun i j p q hi hj he => ?_, fun k q hk => ?_⟩
  · obtain ⟨-, rfl⟩ := qw_at' hi
    obtain ⟨-, rfl⟩ := qw_at' hj
    exact qad_inj b B h he
  · obtain ⟨-, rfl⟩ := qw_at' hk
    exact Nat.le_add_right B k
/-! the tables' words that hold at every later start too -/
def qnest (w : Cond) : Bool := match w with
  | .fieldLinkNest .. => true
  | .methodLinkNest .. => true
  | _ => false
def qover (w : Cond) : Bool := match w with
  | .arrayOver _ => true
  | _ => false
theorem qover_moved {ty : FieldType} {A A' : Array Value} {u U : State} (hvm : u.vm.Alike U.vm) (h : (Cond.arrayOver ty).before A u = true) : (Cond.arrayOver ty).before A' U = true := by
  have e : (Cond.arrayOver ty).before A' U = (Cond.arrayOver ty).before A u := by
    simp only [Cond.before, Cond.holds, Cond.value, hvm.findClass]
    congr 1
    congr 1
    funext comp
    have e1 := va_idx_bare U.vm comp
    have e2 := va_idx_bare u.vm comp
    rw [hvm.bare_eq] at e1
    refine congr (congrArg Option.bind (e1.symm.trans e2)) ?_
    funext c
    exact hvm.class_map _ (fun k r _ _ => rfl) c
  rw [e]; exact h
def qgood (w : Cond) : Bool := goodWord w || qnest w || qover w
def qTBL : List Cond := lw_tbl.filter qgood
theorem qpay {args : Array Value} {s : State} (h : ∀ w ∈ qTBL, w.before args s = true) : ∀ w ∈ qTBL, ∀ (a' : Array Value) (U : State), s.WarmedH U.vm → w.before a' U = true := by
  intro w hw a' U hW
  have hg : qgood w = true := (List.mem_filter.mp hw).2
  have hb := h w hw
  rcases (Bool.or_eq_true _ _).mp hg with hg2 | h1
  rotate_left
  · unfold qover at h1
    split at h1
    · exact qover_moved hW.alike hb
    · cases h1
  rcases (Bool.or_eq_true _ _).mp hg2 with h1 | h1
  · exact word_at hW (good_of_word h1) hb
  · unfold qnest at h1
    split at h1
    · exact va_Nw.use rfl (va_Nw.warmF hW (va_Nw.of rfl hb))
    · exact va_Nw.use rfl (va_Nw.warmM hW (va_Nw.of rfl hb))
    · cases h1
def qws (y : qY) : List Cond := .code y.1 y.2.1 y.2.2.1 y.2.2.2 :: qTBL
/-! what is known of classes and array classes -/
def qT (cA : Nat → ClassId) : List (ClassId × FieldType) := [(cA 0, .int), (cA 1, .boolean), (cA 2, .object "LowAir$Zone"), (cA 3, .object "LowAir$Craft"), (cA 4, .object "LowAir$Flight"), (cA 5, .array .int)]
def qAA (cA : Nat → ClassId) (U : State) : Prop := ∃ kA kC : Class, U.vm.classes[cA 5]? = some kA ∧ kA.kind = .array (cA 0) (.array .int) ∧ U.vm.classes[cA 0]? = some kC
def qK (D : va_G) (cA : Nat → ClassId) (U : State) : Prop := va_K D vwCl (qT cA) U ∧ qAA cA U
theorem qK.moved {D : va_G} {cA : Nat → ClassId} {u U : State} (hvm : u.vm.Alike U.vm) (h : qK D cA u) : qK D cA U := by
  refine ⟨h.1.moved hvm, ?_⟩
  obtain ⟨kA, kC, h1, h2, h3⟩ := h.2
  obtain ⟨k', hk', he⟩ := hvm.2.2 _ _ h1
  obtain ⟨k2, hk2, -⟩ := hvm.2.2 _ _ h3
  exact ⟨k', k2, hk', by rw [he]; exact h2, hk2⟩
def qR (D : va_G) (cA : Nat → ClassId) (b B : Nat) (M : qM) (n : Nat) (H : Heap) : Prop := va_P D vwCl (qw (qad b B) cA M n) H ∧ H.size = B + n
def qrm (k mc ms : Nat) : Room := { frames := k, cells := mc, slots := ms, locals := 40 * k }
def qPre (z : qZ) (D : va_G) (cA : Nat → ClassId) (b B : Nat) (M : qM) (n : Nat) (U : State) : Prop := (b < B ∧ B ≤ U.heap.size) ∧ qR D cA b B M n U.heap ∧ qK D cA U ∧ va_X b z.1 z.2 U U.heap
abbrev qQ : Type := Option Value → qM → Nat → Prop
def qPost (D : va_G) (cA : Nat → ClassId) (b B : Nat) (Q : qQ) : Array Value → State → Outcome → State → Prop := fun _ st oc t =>
  (∃ (v : Option Value) (M' : qM) (n' : Nat), oc = .returned (v.map (qv (qad b B))) ∧ Q v M' n' ∧ qR D cA b B M' n' t.heap) ∧ va_F (fun q => B ≤ q) st t
/-- the contract of a method at these arguments, over this memory -/
def CT (z : qZ) (k : Nat) (y : qY) (as : List Value) (M : qM) (n mc ms : Nat) (Q : qQ) : Prop :=
  ∀ (l : Launch) (D : va_G) (cA : Nat → ClassId) (b B : Nat), Met l y.1 (qws y) (qrm k mc ms) (va_Pc (as.map (qv (qad b B))) (qPre z D cA b B M n)) (qPost D cA b B Q) mc ms (fun q => B ≤ q)
def qret (y : qY) (v : Option Value) (pc : Nat) : Prop := match v with
  | none => y.2.2.2 = none ∧ decode y.2.1 pc = .ok (.return_, 1)
  | some (.int x) => (∃ ty, y.2.2.2 = some ty ∧ narrow ty (.int x) = .int x) ∧ decode y.2.1 pc = .ok (.ireturn, 1)
  | some (.long _) => y.2.2.2 = some .long ∧ decode y.2.1 pc = .ok (.lreturn, 1)
  | some (.double _) => y.2.2.2 = some .double ∧ decode y.2.1 pc = .ok (.dreturn, 1)
  | _ => False
def qC (z : qZ) (k : Nat) (y : qY) (Q : qQ) (p : Program) (l : Launch) (e : Env) (R : Room) (s : State) (m : MethodId) (args : Array Value) (below : List Frame) (meth : Method) (c : Code) (D : va_G) (cA : Nat → ClassId) (b B tc ts : Nat) (Qf : State → Prop) : Prop :=
  p.tables.exec = Jvm.exec ∧ c.code = y.2.1 ∧ c.maxLocals = y.2.2.1 ∧ s.vm.findClass y.1.cls = some m.cls ∧ meth.name = y.1.name ∧ (∀ w ∈ qTBL, w.before args s = true) ∧ qK D cA s ∧ va_X b z.1 z.2 s s.heap ∧ (b < B ∧ B ≤ s.heap.size) ∧
  (k ≤ R.frames ∧ 40 * k ≤ R.locals ∧ tc ≤ R.cells ∧ ts ≤ R.slots) ∧
  (∀ (v : Option Value) (M' : qM) (n' : Nat) (H' : Heap) (locs' : List Loc) (ls' : Array Slot) (pc' : Nat), Q v M' n' → qR D cA b B M' n' H' → va_S (fun q => B ≤ q) s.heap H' locs' → qret y v pc' → W p l e R s m args below meth c H' locs' tc ts Qf (F0 m pc' ls' ((v.map (qv (qad b B))).toList)))
def qll (f : Nat → Nat) : Nat → List Value → List (Nat × Value)
  | _, [] => []
  | i, .null :: t => qll f (i + 1) t
  | i, v :: t => (i, qv f v) :: qll f (i + 1) t
/-- from this point, with these locals, this stack, this memory of n cells, with room for bc cells and bs slots more, the method comes to its end with Q -/
def EV (z : qZ) (k : Nat) (y : qY) (pc : Nat) (Lc st : List Value) (M : qM) (n bc bs : Nat) (Q : qQ) : Prop :=
  ∀ (p : Program) (l : Launch) (e : Env) (R : Room) (s : State) (m : MethodId) (args : Array Value) (below : List Frame) (meth : Method) (c : Code) (D : va_G) (cA : Nat → ClassId) (b B tc ts : Nat) (Qf : State → Prop), qC z k y Q p l e R s m args below meth c D cA b B tc ts Qf →
  ∀ (H : Heap) (locs : List Loc) (cells slots : Nat) (ls : Array Slot), cells + bc = tc → slots + bs = ts → qR D cA b B M n H → va_S (fun q => B ≤ q) s.heap H locs → lv_has ls y.2.2.1 (qll (qad b B) 0 Lc) →
  W p l e R s m args below meth c H locs cells slots Qf (F0 m pc ls (st.map (qv (qad b B))))
/-! ===== locals ===== -/
theorem qll_cons (f : Nat → Nat) (i : Nat) (v : Value) (t : List Value) (h : v ≠ .null) : qll f i (v :: t) = (i, qv f v) :: qll f (i + 1) t := by
  cases v <;> first | rfl | exact absurd rfl h
theorem qll_mem (f : Nat → Nat) : ∀ (L : List Value) (j i : Nat) (v : Value), L[i]? = some v → v ≠ .null → (j + i, qv f v) ∈ qll f j L
  | [], j, i, v, h, _ => by simp at h
  | w :: t, j, 0, v, h, hn => by
    simp only [List.getElem?_cons_zero, Option.some.injEq] at h
    subst h
    rw [qll_cons f j w t hn]
    exact List.mem_cons_self
  | w :: t, j, i + 1, v, h, hn => by
    simp only [List.getElem?_cons_succ] at h
    have h1 := qll_mem f t (j + 1) i v h hn
    rw [show j + 1 + i = j + (i + 1) by omega] at h1
    by_cases hw : w = .null
    · subst hw; exact h1
    · rw [qll_cons f j w t hw]
      exact List.mem_cons_of_mem _ h1
theorem qll_of (f : Nat → Nat) : ∀ (L : List Value) (j : Nat) (q : Nat × Value), q ∈ qll f j L → ∃ (i : Nat) (v : Value), q = (j + i, qv f v) ∧ L[i]? = some v ∧ v ≠ .null
  | [], j, q, h => by simp [qll] at h
  | w :: t, j, q, h => by
    have rec' : q ∈ qll f (j + 1) t → ∃ (i : Nat) (v : Value), q = (j + i, qv f v) ∧ (w :: t)[i]? = some v ∧ v ≠ .null := fun h1 => by
      obtain ⟨i, v, e1, e2, e3⟩ := qll_of f t (j + 1) q h1
      exact ⟨i + 1, v, by rw [e1, show j + 1 + i = j + (i + 1) by omega], by simpa using e2, e3⟩
    by_cases hw : w = .null
    · subst hw; exact rec' h
    · rw [qll_cons f j w t hw] at h
      rcases List.mem_cons.mp h with h1 | h1
      · exact ⟨0, w, h1, rfl, hw⟩
      · exact rec' h1
theorem qls_at {f : Nat → Nat} {ls : Array Slot} {nL : Nat} {L : List Value} (h : lv_has ls nL (qll f 0 L)) {i : Nat} {v : Value} (hL : L[i]? = some v) (hn : v ≠ .null) : ls[i]? = some (.val (qv f v)) := by
  have h1 := qll_mem f L 0 i v hL hn
  rw [Nat.zero_add] at h1
  exact h.2.2 _ h1
/-- the place before i holds nothing of two words -/
def qok1 (L : List Value) (i : Nat) : Bool := match i with
  | 0 => true
  | j + 1 => match L[j]? with
    | some v => v.category != 2
    | none => true
theorem qcat (f : Nat → Nat) (v : Value) : (qv f v).category = v.category := by cases v <;> rfl
theorem qll_put {f : Nat → Nat} {ls : Array Slot} {nL i : Nat} {L L' : List Value} {w : Value} {lv : List (Nat × Value)} (ho : qok1 L i = true)
    (hL' : ∀ (j : Nat) (v : Value), L'[j]? = some v → v ≠ .null → (j = i ∧ v = w) ∨ (j ≠ i ∧ L[j]? = some v))
    (hlv : ∀ q : Nat × Value, q = (i, qv f w) ∨ (q ∈ qll f 0 L ∧ q.1 ≠ i ∧ ¬ (q.1 + 1 = i ∧ q.2.category = 2)) → q ∈ lv)
    (h : lv_has ls nL lv) : lv_has ls nL (qll f 0 L') := by
  refine ⟨h.1, h.2.1, fun q hq => h.2.2 q (hlv q ?_)⟩
  obtain ⟨j, v, rfl, h1, h2⟩ := qll_of f L' 0 q hq
  rcases hL' j v h1 h2 with ⟨e1, e2⟩ | ⟨e1, e2⟩
  · left; rw [Nat.zero_add, e1, e2]
  · right
    refine ⟨qll_mem f L 0 j v e2 h2, by rw [Nat.zero_add]; exact e1, fun hx => ?_⟩
    rw [Nat.zero_add] at hx
    obtain ⟨h3, h4⟩ := hx
    subst h3
    simp only [qok1, e2] at ho
    rw [qcat] at h4
    simp [h4] at ho
theorem qset_of {L : List Value} {i : Nat} {w : Value} (hi : i < L.length) (j : Nat) (v : Value) (h : (L.set i w)[j]? = some v) (_ : v ≠ .null) : (j = i ∧ v = w) ∨ (j ≠ i ∧ L[j]? = some v) := by
  by_cases hj : j = i
  · subst hj
    rw [List.getElem?_set_self hi] at h
    exact Or.inl ⟨rfl, (Option.some.inj h).symm⟩
  · rw [List.getElem?_set_ne (Ne.symm hj)] at h
    exact Or.inr ⟨hj, h⟩
theorem qset2_of {L : List Value} {i : Nat} {w : Value} (hi : i < L.length) (j : Nat) (v : Value) (h : ((L.set i w).set (i + 1) .null)[j]? = some v) (hv : v ≠ .null) : (j = i ∧ v = w) ∨ (j ≠ i ∧ j ≠ i + 1 ∧ L[j]? = some v) := by
  by_cases hj : j = i + 1
  · subst hj
    by_cases hl : i + 1 < L.length
    · rw [List.getElem?_set_self (by rw [List.length_set]; exact hl)] at h
      exact absurd (Option.some.inj h).symm hv
    · rw [List.getElem?_eq_none (by rw [List.length_set, List.length_set]; omega)] at h
      cases h
  · rw [List.getElem?_set_ne (Ne.symm hj)] at h
    rcases qset_of hi j v h hv with h1 | h1
    · exact Or.inl h1
    · exact Or.inr ⟨h1.1, hj, h1.2⟩

theorem qll_put2 {f : Nat → Nat} {ls : Array Slot} {nL i : Nat} {L : List Value} {w : Value} {lv : List (Nat × Value)} (ho : qok1 L i = true) (hi : i < L.length)
    (hlv : ∀ q : Nat × Value, q = (i, qv f w) ∨ (q ∈ qll f 0 L ∧ q.1 ≠ i ∧ q.1 ≠ i + 1 ∧ ¬ (q.1 + 1 = i ∧ q.2.category = 2)) → q ∈ lv)
    (h : lv_has ls nL lv) : lv_has ls nL (qll f 0 ((L.set i w).set (i + 1) .null)) := by
  refine ⟨h.1, h.2.1, fun q hq => h.2.2 q (hlv q ?_)⟩
  obtain ⟨j, v, rfl, h1, h2⟩ := qll_of f _ 0 q hq
  rcases qset2_of hi j v h1 h2 with ⟨e1, e2⟩ | ⟨e1, e3, e2⟩
  · left; rw [Nat.zero_add, e1, e2]
  · right
    refine ⟨qll_mem f L 0 j v e2 h2, by rw [Nat.zero_add]; exact e1, by rw [Nat.zero_add]; exact e3, fun hx => ?_⟩
    rw [Nat.zero_add] at hx
    obtain ⟨h3, h4⟩ := hx
    subst h3
    simp only [qok1, e2] at ho
    rw [qcat] at h4
    simp [h4] at ho
section QRows
variable {z : qZ} {k : Nat} {y : qY} {pc : Nat} {Lc st : List Value} {M : qM} {n bc bs : Nat} {Q : qQ}
theorem EV_iadd {x x0 : Int32} (hd : decode y.2.1 pc = .ok (.iadd, 1))  (kk : EV z k y (pc + 1) Lc (.int (x + x0) :: st) M n bc bs Q) : EV z k y pc Lc (.int x0 :: .int x :: st) M n bc bs Q := by
  intro p l e R s m args below meth c D cA b B tc ts Qf C H locs cells slots ls h1 h2 hR hS hl
  exact lv_iadd C.1 C.2.1 hd (kk p l e R s m args below meth c D cA b B tc ts Qf C H locs cells slots ls h1 h2 hR hS hl)
theorem EV_isub {x x0 : Int32} (hd : decode y.2.1 pc = .ok (.isub, 1))  (kk : EV z k y (pc + 1) Lc (.int (x - x0) :: st) M n bc bs Q) : EV z k y pc Lc (.int x0 :: .int x :: st) M n bc bs Q := by
  intro p l e R s m args below meth c D cA b B tc ts Qf C H locs cells slots ls h1 h2 hR hS hl
  exact lv_isub C.1 C.2.1 hd (kk p l e R s m args below meth c D cA b B tc ts Qf C H locs cells slots ls h1 h2 hR hS hl)
theorem EV_imul {x x0 : Int32} (hd : decode y.2.1 pc = .ok (.imul, 1))  (kk : EV z k y (pc + 1) Lc (.int (x * x0) :: st) M n bc bs Q) : EV z k y pc Lc (.int x0 :: .int x :: st) M n bc bs Q := by
  intro p l e R s m args below meth c D cA b B tc ts Qf C H locs cells slots ls h1 h2 hR hS hl
  exact lv_imul C.1 C.2.1 hd (kk p l e R s m args below meth c D cA b B tc ts Qf C H locs cells slots ls h1 h2 hR hS hl)
theorem EV_idiv {x x0 : Int32} (hd : decode y.2.1 pc = .ok (.idiv, 1)) (hne : ¬ x0 = 0) (kk : EV z k y (pc + 1) Lc (.int (x / x0) :: st) M n bc bs Q) : EV z k y pc Lc (.int x0 :: .int x :: st) M n bc bs Q := by
  intro p l e R s m args below meth c D cA b B tc ts Qf C H locs cells slots ls h1 h2 hR hS hl
  exact lv_idiv C.1 C.2.1 hd hne (kk p l e R s m args below meth c D cA b B tc ts Qf C H locs cells slots ls h1 h2 hR hS hl)
theorem EV_irem {x x0 : Int32} (hd : decode y.2.1 pc = .ok (.irem, 1)) (hne : ¬ x0 = 0) (kk : EV z k y (pc + 1) Lc (.int (x - x / x0 * x0) :: st) M n bc bs Q) : EV z k y pc Lc (.int x0 :: .int x :: st) M n bc bs Q := by
  intro p l e R s m args below meth c D cA b B tc ts Qf C H locs cells slots ls h1 h2 hR hS hl
  exact lv_irem C.1 C.2.1 hd hne (kk p l e R s m args below meth c D cA b B tc ts Qf C H locs cells slots ls h1 h2 hR hS hl)
theorem EV_iand {x x0 : Int32} (hd : decode y.2.1 pc = .ok (.iand, 1))  (kk : EV z k y (pc + 1) Lc (.int (x &&& x0) :: st) M n bc bs Q) : EV z k y pc Lc (.int x0 :: .int x :: st) M n bc bs Q := by
  intro p l e R s m args below meth c D cA b B tc ts Qf C H locs cells slots ls h1 h2 hR hS hl
  exact lv_iand C.1 C.2.1 hd (kk p l e R s m args below meth c D cA b B tc ts Qf C H locs cells slots ls h1 h2 hR hS hl)
theorem EV_ishr {x x0 : Int32} (hd : decode y.2.1 pc = .ok (.ishr, 1))  (kk : EV z k y (pc + 1) Lc (.int (x >>> (x0 &&& 31)) :: st) M n bc bs Q) : EV z k y pc Lc (.int x0 :: .int x :: st) M n bc bs Q := by
  intro p l e R s m args below meth c D cA b B tc ts Qf C H locs cells slots ls h1 h2 hR hS hl
  exact lv_ishr C.1 C.2.1 hd (kk p l e R s m args below meth c D cA b B tc ts Qf C H locs cells slots ls h1 h2 hR hS hl)
theorem EV_ladd {x x0 : Int64} (hd : decode y.2.1 pc = .ok (.ladd, 1))  (kk : EV z k y (pc + 1) Lc (.long (x + x0) :: st) M n bc bs Q) : EV z k y pc Lc (.long x0 :: .long x :: st) M n bc bs Q := by
  intro p l e R s m args below meth c D cA b B tc ts Qf C H locs cells slots ls h1 h2 hR hS hl
  exact lv_ladd C.1 C.2.1 hd (kk p l e R s m args below meth c D cA b B tc ts Qf C H locs cells slots ls h1 h2 hR hS hl)
theorem EV_lmul {x x0 : Int64} (hd : decode y.2.1 pc = .ok (.lmul, 1))  (kk : EV z k y (pc + 1) Lc (.long (x * x0) :: st) M n bc bs Q) : EV z k y pc Lc (.long x0 :: .long x :: st) M n bc bs Q := by
  intro p l e R s m args below meth c D cA b B tc ts Qf C H locs cells slots ls h1 h2 hR hS hl
  exact lv_lmul C.1 C.2.1 hd (kk p l e R s m args below meth c D cA b B tc ts Qf C H locs cells slots ls h1 h2 hR hS hl)
theorem EV_dadd {x x0 : UInt64} (hd : decode y.2.1 pc = .ok (.dadd, 1)) (hne : vf_n64 (FP.dadd x x0)) (kk : EV z k y (pc + 1) Lc (.double (FP.dadd x x0) :: st) M n bc bs Q) : EV z k y pc Lc (.double x0 :: .double x :: st) M n bc bs Q := by
  intro p l e R s m args below meth c D cA b B tc ts Qf C H locs cells slots ls h1 h2 hR hS hl
  exact lv_dadd C.1 C.2.1 hd hne (kk p l e R s m args below meth c D cA b B tc ts Qf C H locs cells slots ls h1 h2 hR hS hl)
theorem EV_ddiv {x x0 : UInt64} (hd : decode y.2.1 pc = .ok (.ddiv, 1)) (hne : vf_n64 (FP.ddiv x x0)) (kk : EV z k y (pc + 1) Lc (.double (FP.ddiv x x0) :: st) M n bc bs Q) : EV z k y pc Lc (.double x0 :: .double x :: st) M n bc bs Q := by
  intro p l e R s m args below meth c D cA b B tc ts Qf C H locs cells slots ls h1 h2 hR hS hl
  exact lv_ddiv C.1 C.2.1 hd hne (kk p l e R s m args below meth c D cA b B tc ts Qf C H locs cells slots ls h1 h2 hR hS hl)
theorem EV_ineg {x : Int32} (hd : decode y.2.1 pc = .ok (.ineg, 1))  (kk : EV z k y (pc + 1) Lc (.int (-x) :: st) M n bc bs Q) : EV z k y pc Lc (.int x :: st) M n bc bs Q := by
  intro p l e R s m args below meth c D cA b B tc ts Qf C H locs cells slots ls h1 h2 hR hS hl
  exact lv_ineg C.1 C.2.1 hd (kk p l e R s m args below meth c D cA b B tc ts Qf C H locs cells slots ls h1 h2 hR hS hl)
theorem EV_i2l {x : Int32} (hd : decode y.2.1 pc = .ok (.i2l, 1))  (kk : EV z k y (pc + 1) Lc (.long x.toInt64 :: st) M n bc bs Q) : EV z k y pc Lc (.int x :: st) M n bc bs Q := by
  intro p l e R s m args below meth c D cA b B tc ts Qf C H locs cells slots ls h1 h2 hR hS hl
  exact lv_i2l C.1 C.2.1 hd rfl (kk p l e R s m args below meth c D cA b B tc ts Qf C H locs cells slots ls h1 h2 hR hS hl)
theorem EV_i2d {x : Int32} (hd : decode y.2.1 pc = .ok (.i2d, 1))  (kk : EV z k y (pc + 1) Lc (.double (FP.i2d x) :: st) M n bc bs Q) : EV z k y pc Lc (.int x :: st) M n bc bs Q := by
  intro p l e R s m args below meth c D cA b B tc ts Qf C H locs cells slots ls h1 h2 hR hS hl
  exact lv_i2d C.1 C.2.1 hd (kk p l e R s m args below meth c D cA b B tc ts Qf C H locs cells slots ls h1 h2 hR hS hl)
theorem EV_dcmp {x x0 : UInt64} {op : CmpOp} (hd : decode y.2.1 pc = .ok (.dcmp op, 1))  (kk : EV z k y (pc + 1) Lc (.int (Op.cmpValue (FP.dcmp x x0) op) :: st) M n bc bs Q) : EV z k y pc Lc (.double x0 :: .double x :: st) M n bc bs Q := by
  intro p l e R s m args below meth c D cA b B tc ts Qf C H locs cells slots ls h1 h2 hR hS hl
  exact lv_dcmp C.1 C.2.1 hd (kk p l e R s m args below meth c D cA b B tc ts Qf C H locs cells slots ls h1 h2 hR hS hl)
theorem EV_lcmp {x x0 : Int64} (hd : decode y.2.1 pc = .ok (.lcmp, 1))  (kk : EV z k y (pc + 1) Lc (.int (lg_cmp x x0) :: st) M n bc bs Q) : EV z k y pc Lc (.long x0 :: .long x :: st) M n bc bs Q := by
  intro p l e R s m args below meth c D cA b B tc ts Qf C H locs cells slots ls h1 h2 hR hS hl
  exact W.lcmp C.1 C.2.1 hd (kk p l e R s m args below meth c D cA b B tc ts Qf C H locs cells slots ls h1 h2 hR hS hl)
theorem EV_iconst {i : Int} {v : Int32} (hd : decode y.2.1 pc = .ok (.iconst i, 1)) (hv : Int32.ofInt i = v) (kk : EV z k y (pc + 1) Lc (.int v :: st) M n bc bs Q) : EV z k y pc Lc st M n bc bs Q := by
  intro p l e R s m args below meth c D cA b B tc ts Qf C H locs cells slots ls h1 h2 hR hS hl
  exact lv_iconst C.1 C.2.1 hd hv (kk p l e R s m args below meth c D cA b B tc ts Qf C H locs cells slots ls h1 h2 hR hS hl)
theorem EV_bipush {i : Int} {v : Int32} (hd : decode y.2.1 pc = .ok (.bipush i, 2)) (hv : (Int8.ofInt i).toInt32 = v) (kk : EV z k y (pc + 2) Lc (.int v :: st) M n bc bs Q) : EV z k y pc Lc st M n bc bs Q := by
  intro p l e R s m args below meth c D cA b B tc ts Qf C H locs cells slots ls h1 h2 hR hS hl
  exact lv_bipush C.1 C.2.1 hd hv (kk p l e R s m args below meth c D cA b B tc ts Qf C H locs cells slots ls h1 h2 hR hS hl)
theorem EV_sipush {i : Int} {v : Int32} (hd : decode y.2.1 pc = .ok (.sipush i, 3)) (hv : (Int16.ofInt i).toInt32 = v) (kk : EV z k y (pc + 3) Lc (.int v :: st) M n bc bs Q) : EV z k y pc Lc st M n bc bs Q := by
  intro p l e R s m args below meth c D cA b B tc ts Qf C H locs cells slots ls h1 h2 hR hS hl
  exact lv_sipush C.1 C.2.1 hd hv (kk p l e R s m args below meth c D cA b B tc ts Qf C H locs cells slots ls h1 h2 hR hS hl)
theorem EV_dconst0  (hd : decode y.2.1 pc = .ok (.dconst 0, 1))  (kk : EV z k y (pc + 1) Lc (.double FP.dconst0 :: st) M n bc bs Q) : EV z k y pc Lc st M n bc bs Q := by
  intro p l e R s m args below meth c D cA b B tc ts Qf C H locs cells slots ls h1 h2 hR hS hl
  exact lv_dconst0 C.1 C.2.1 hd (kk p l e R s m args below meth c D cA b B tc ts Qf C H locs cells slots ls h1 h2 hR hS hl)
theorem EV_dconst1  (hd : decode y.2.1 pc = .ok (.dconst 1, 1))  (kk : EV z k y (pc + 1) Lc (.double FP.dconst1 :: st) M n bc bs Q) : EV z k y pc Lc st M n bc bs Q := by
  intro p l e R s m args below meth c D cA b B tc ts Qf C H locs cells slots ls h1 h2 hR hS hl
  exact lv_dconst1 C.1 C.2.1 hd (kk p l e R s m args below meth c D cA b B tc ts Qf C H locs cells slots ls h1 h2 hR hS hl)
theorem EV_ldc {i : Nat} {v : Int32} (hd : decode y.2.1 pc = .ok (.ldc i, 2)) (hw : Cond.constant y.1.cls i v ∈ qTBL) (kk : EV z k y (pc + 2) Lc (.int v :: st) M n bc bs Q) : EV z k y pc Lc st M n bc bs Q := by
  intro p l e R s m args below meth c D cA b B tc ts Qf C H locs cells slots ls h1 h2 hR hS hl
  exact lv_ldc C.1 C.2.1 C.2.2.2.1 (C.2.2.2.2.2.1 _ hw) hd (kk p l e R s m args below meth c D cA b B tc ts Qf C H locs cells slots ls h1 h2 hR hS hl)
theorem EV_ldcw {i : Nat} {v : Int32} (hd : decode y.2.1 pc = .ok (.ldc_w i, 3)) (hw : Cond.constant y.1.cls i v ∈ qTBL) (kk : EV z k y (pc + 3) Lc (.int v :: st) M n bc bs Q) : EV z k y pc Lc st M n bc bs Q := by
  intro p l e R s m args below meth c D cA b B tc ts Qf C H locs cells slots ls h1 h2 hR hS hl
  exact lv_ldcw C.1 C.2.1 C.2.2.2.1 (C.2.2.2.2.2.1 _ hw) hd (kk p l e R s m args below meth c D cA b B tc ts Qf C H locs cells slots ls h1 h2 hR hS hl)
theorem EV_ldc2 {i : Nat} {v : Int64} (hd : decode y.2.1 pc = .ok (.ldc2_w i, 3)) (hw : Cond.constantLong y.1.cls i v ∈ qTBL) (kk : EV z k y (pc + 3) Lc (.long v :: st) M n bc bs Q) : EV z k y pc Lc st M n bc bs Q := by
  intro p l e R s m args below meth c D cA b B tc ts Qf C H locs cells slots ls h1 h2 hR hS hl
  exact lv_ldc2 C.1 C.2.1 C.2.2.2.1 (C.2.2.2.2.2.1 _ hw) hd (kk p l e R s m args below meth c D cA b B tc ts Qf C H locs cells slots ls h1 h2 hR hS hl)
theorem EV_iload_n {i : Fin 4} {x : Int32} (hd : decode y.2.1 pc = .ok (.iload_n i, 1)) (hL : Lc[(i : Nat)]? = some (.int x)) (kk : EV z k y (pc + 1) Lc (.int x :: st) M n bc bs Q) : EV z k y pc Lc st M n bc bs Q := by
  intro p l e R s m args below meth c D cA b B tc ts Qf C H locs cells slots ls h1 h2 hR hS hl
  exact lv_iload_n C.1 C.2.1 hd rfl (qls_at hl hL (by intro h; cases h)) (kk p l e R s m args below meth c D cA b B tc ts Qf C H locs cells slots ls h1 h2 hR hS hl)
theorem EV_iload {i : Nat} {x : Int32} (hd : decode y.2.1 pc = .ok (.iload i, 2)) (hL : Lc[i]? = some (.int x)) (kk : EV z k y (pc + 2) Lc (.int x :: st) M n bc bs Q) : EV z k y pc Lc st M n bc bs Q := by
  intro p l e R s m args below meth c D cA b B tc ts Qf C H locs cells slots ls h1 h2 hR hS hl
  exact lv_iload C.1 C.2.1 hd (qls_at hl hL (by intro h; cases h)) (kk p l e R s m args below meth c D cA b B tc ts Qf C H locs cells slots ls h1 h2 hR hS hl)
theorem EV_lload_n {i : Fin 4} {x : Int64} (hd : decode y.2.1 pc = .ok (.lload_n i, 1)) (hL : Lc[(i : Nat)]? = some (.long x)) (kk : EV z k y (pc + 1) Lc (.long x :: st) M n bc bs Q) : EV z k y pc Lc st M n bc bs Q := by
  intro p l e R s m args below meth c D cA b B tc ts Qf C H locs cells slots ls h1 h2 hR hS hl
  exact lv_lload_n C.1 C.2.1 hd rfl (qls_at hl hL (by intro h; cases h)) (kk p l e R s m args below meth c D cA b B tc ts Qf C H locs cells slots ls h1 h2 hR hS hl)
theorem EV_lload {i : Nat} {x : Int64} (hd : decode y.2.1 pc = .ok (.lload i, 2)) (hL : Lc[i]? = some (.long x)) (kk : EV z k y (pc + 2) Lc (.long x :: st) M n bc bs Q) : EV z k y pc Lc st M n bc bs Q := by
  intro p l e R s m args below meth c D cA b B tc ts Qf C H locs cells slots ls h1 h2 hR hS hl
  exact lv_lload C.1 C.2.1 hd (qls_at hl hL (by intro h; cases h)) (kk p l e R s m args below meth c D cA b B tc ts Qf C H locs cells slots ls h1 h2 hR hS hl)
theorem EV_aload_n {i : Fin 4} {x : Nat} (hd : decode y.2.1 pc = .ok (.aload_n i, 1)) (hL : Lc[(i : Nat)]? = some (.ref x)) (kk : EV z k y (pc + 1) Lc (.ref x :: st) M n bc bs Q) : EV z k y pc Lc st M n bc bs Q := by
  intro p l e R s m args below meth c D cA b B tc ts Qf C H locs cells slots ls h1 h2 hR hS hl
  exact lv_aload_n C.1 C.2.1 hd rfl (qls_at hl hL (by intro h; cases h)) (kk p l e R s m args below meth c D cA b B tc ts Qf C H locs cells slots ls h1 h2 hR hS hl)
theorem EV_aload {i : Nat} {x : Nat} (hd : decode y.2.1 pc = .ok (.aload i, 2)) (hL : Lc[i]? = some (.ref x)) (kk : EV z k y (pc + 2) Lc (.ref x :: st) M n bc bs Q) : EV z k y pc Lc st M n bc bs Q := by
  intro p l e R s m args below meth c D cA b B tc ts Qf C H locs cells slots ls h1 h2 hR hS hl
  exact lv_aload C.1 C.2.1 hd (qls_at hl hL (by intro h; cases h)) (kk p l e R s m args below meth c D cA b B tc ts Qf C H locs cells slots ls h1 h2 hR hS hl)
theorem EV_dload_n {i : Fin 4} {x : UInt64} (hd : decode y.2.1 pc = .ok (.dload_n i, 1)) (hL : Lc[(i : Nat)]? = some (.double x)) (kk : EV z k y (pc + 1) Lc (.double x :: st) M n bc bs Q) : EV z k y pc Lc st M n bc bs Q := by
  intro p l e R s m args below meth c D cA b B tc ts Qf C H locs cells slots ls h1 h2 hR hS hl
  exact lv_dload_n C.1 C.2.1 hd rfl (qls_at hl hL (by intro h; cases h)) (kk p l e R s m args below meth c D cA b B tc ts Qf C H locs cells slots ls h1 h2 hR hS hl)
theorem EV_dload {i : Nat} {x : UInt64} (hd : decode y.2.1 pc = .ok (.dload i, 2)) (hL : Lc[i]? = some (.double x)) (kk : EV z k y (pc + 2) Lc (.double x :: st) M n bc bs Q) : EV z k y pc Lc st M n bc bs Q := by
  intro p l e R s m args below meth c D cA b B tc ts Qf C H locs cells slots ls h1 h2 hR hS hl
  exact lv_dload C.1 C.2.1 hd (qls_at hl hL (by intro h; cases h)) (kk p l e R s m args below meth c D cA b B tc ts Qf C H locs cells slots ls h1 h2 hR hS hl)
theorem EV_dup {v : Value} (hd : decode y.2.1 pc = .ok (.dup, 1)) (hv : v.category = 1) (kk : EV z k y (pc + 1) Lc (v :: v :: st) M n bc bs Q) : EV z k y pc Lc (v :: st) M n bc bs Q := by
  intro p l e R s m args below meth c D cA b B tc ts Qf C H locs cells slots ls h1 h2 hR hS hl
  exact lv_dup C.1 C.2.1 hd ((qcat _ v).trans hv) (kk p l e R s m args below meth c D cA b B tc ts Qf C H locs cells slots ls h1 h2 hR hS hl)
theorem EV_pop {v : Value} (hd : decode y.2.1 pc = .ok (.pop, 1)) (hv : v.category = 1) (kk : EV z k y (pc + 1) Lc st M n bc bs Q) : EV z k y pc Lc (v :: st) M n bc bs Q := by
  intro p l e R s m args below meth c D cA b B tc ts Qf C H locs cells slots ls h1 h2 hR hS hl
  exact lv_pop C.1 C.2.1 hd ((qcat _ v).trans hv) (kk p l e R s m args below meth c D cA b B tc ts Qf C H locs cells slots ls h1 h2 hR hS hl)
theorem EV_dup_x1 {v v0 : Value} (hd : decode y.2.1 pc = .ok (.dup_x1, 1)) (hv : v.category = 1) (hv0 : v0.category = 1) (kk : EV z k y (pc + 1) Lc (v :: v0 :: v :: st) M n bc bs Q) : EV z k y pc Lc (v :: v0 :: st) M n bc bs Q := by
  intro p l e R s m args below meth c D cA b B tc ts Qf C H locs cells slots ls h1 h2 hR hS hl
  exact lv_dup_x1 C.1 C.2.1 hd ((qcat _ v).trans hv) ((qcat _ v0).trans hv0) (kk p l e R s m args below meth c D cA b B tc ts Qf C H locs cells slots ls h1 h2 hR hS hl)
theorem EV_dup2 {v v0 : Value} (hd : decode y.2.1 pc = .ok (.dup2, 1)) (hv : v.category = 1) (hv0 : v0.category = 1) (kk : EV z k y (pc + 1) Lc (v :: v0 :: v :: v0 :: st) M n bc bs Q) : EV z k y pc Lc (v :: v0 :: st) M n bc bs Q := by
  intro p l e R s m args below meth c D cA b B tc ts Qf C H locs cells slots ls h1 h2 hR hS hl
  exact lv_dup2_11 C.1 C.2.1 hd ((qcat _ v).trans hv) ((qcat _ v0).trans hv0) (kk p l e R s m args below meth c D cA b B tc ts Qf C H locs cells slots ls h1 h2 hR hS hl)
theorem EV_istore_n {i : Fin 4} {x : Int32} (hd : decode y.2.1 pc = .ok (.istore_n i, 1)) (hi : (i : Nat) < Lc.length) (hn : (i : Nat) < y.2.2.1) (ho : qok1 Lc (i : Nat) = true) (kk : EV z k y (pc + 1) (Lc.set (i : Nat) (.int x)) st M n bc bs Q) : EV z k y pc Lc (.int x :: st) M n bc bs Q := by
  intro p l e R s m args below meth c D cA b B tc ts Qf C H locs cells slots ls h1 h2 hR hS hl
  refine lv_istore_n C.1 C.2.1 hd rfl hl hn rfl (fun ls9 hl9 => ?_)
  exact kk p l e R s m args below meth c D cA b B tc ts Qf C H locs cells slots ls9 h1 h2 hR hS (qll_put (w := .int x) ho (qset_of hi) (fun q hq => by
    rcases hq with rfl | ⟨g1, g2, g3⟩
    · exact List.mem_cons_self
    · refine List.mem_cons_of_mem _ (List.mem_filter.mpr ⟨g1, ?_⟩)
      simp only [Bool.and_eq_true, Bool.not_eq_true', beq_eq_false_iff_ne, Bool.and_eq_false_iff]
      refine ⟨g2, ?_⟩
      by_cases h7 : q.1 + 1 = (i : Nat)
      · right
        intro h8
        exact g3 ⟨h7, h8⟩
      · left
        exact h7) hl9)
theorem EV_istore {i : Nat} {x : Int32} (hd : decode y.2.1 pc = .ok (.istore i, 2)) (hi : i < Lc.length) (hn : i < y.2.2.1) (ho : qok1 Lc i = true) (kk : EV z k y (pc + 2) (Lc.set i (.int x)) st M n bc bs Q) : EV z k y pc Lc (.int x :: st) M n bc bs Q := by
  intro p l e R s m args below meth c D cA b B tc ts Qf C H locs cells slots ls h1 h2 hR hS hl
  refine lv_istore C.1 C.2.1 hd hl hn rfl (fun ls9 hl9 => ?_)
  exact kk p l e R s m args below meth c D cA b B tc ts Qf C H locs cells slots ls9 h1 h2 hR hS (qll_put (w := .int x) ho (qset_of hi) (fun q hq => by
    rcases hq with rfl | ⟨g1, g2, g3⟩
    · exact List.mem_cons_self
    · refine List.mem_cons_of_mem _ (List.mem_filter.mpr ⟨g1, ?_⟩)
      simp only [Bool.and_eq_true, Bool.not_eq_true', beq_eq_false_iff_ne, Bool.and_eq_false_iff]
      refine ⟨g2, ?_⟩
      by_cases h7 : q.1 + 1 = i
      · right
        intro h8
        exact g3 ⟨h7, h8⟩
      · left
        exact h7) hl9)
theorem EV_astore_n {i : Fin 4} {x : Nat} (hd : decode y.2.1 pc = .ok (.astore_n i, 1)) (hi : (i : Nat) < Lc.length) (hn : (i : Nat) < y.2.2.1) (ho : qok1 Lc (i : Nat) = true) (kk : EV z k y (pc + 1) (Lc.set (i : Nat) (.ref x)) st M n bc bs Q) : EV z k y pc Lc (.ref x :: st) M n bc bs Q := by
  intro p l e R s m args below meth c D cA b B tc ts Qf C H locs cells slots ls h1 h2 hR hS hl
  refine lv_astore_n C.1 C.2.1 hd rfl hl hn rfl (fun ls9 hl9 => ?_)
  exact kk p l e R s m args below meth c D cA b B tc ts Qf C H locs cells slots ls9 h1 h2 hR hS (qll_put (w := .ref x) ho (qset_of hi) (fun q hq => by
    rcases hq with rfl | ⟨g1, g2, g3⟩
    · exact List.mem_cons_self
    · refine List.mem_cons_of_mem _ (List.mem_filter.mpr ⟨g1, ?_⟩)
      simp only [Bool.and_eq_true, Bool.not_eq_true', beq_eq_false_iff_ne, Bool.and_eq_false_iff]
      refine ⟨g2, ?_⟩
      by_cases h7 : q.1 + 1 = (i : Nat)
      · right
        intro h8
        exact g3 ⟨h7, h8⟩
      · left
        exact h7) hl9)
theorem EV_astore {i : Nat} {x : Nat} (hd : decode y.2.1 pc = .ok (.astore i, 2)) (hi : i < Lc.length) (hn : i < y.2.2.1) (ho : qok1 Lc i = true) (kk : EV z k y (pc + 2) (Lc.set i (.ref x)) st M n bc bs Q) : EV z k y pc Lc (.ref x :: st) M n bc bs Q := by
  intro p l e R s m args below meth c D cA b B tc ts Qf C H locs cells slots ls h1 h2 hR hS hl
  refine lv_astore C.1 C.2.1 hd hl hn rfl (fun ls9 hl9 => ?_)
  exact kk p l e R s m args below meth c D cA b B tc ts Qf C H locs cells slots ls9 h1 h2 hR hS (qll_put (w := .ref x) ho (qset_of hi) (fun q hq => by
    rcases hq with rfl | ⟨g1, g2, g3⟩
    · exact List.mem_cons_self
    · refine List.mem_cons_of_mem _ (List.mem_filter.mpr ⟨g1, ?_⟩)
      simp only [Bool.and_eq_true, Bool.not_eq_true', beq_eq_false_iff_ne, Bool.and_eq_false_iff]
      refine ⟨g2, ?_⟩
      by_cases h7 : q.1 + 1 = i
      · right
        intro h8
        exact g3 ⟨h7, h8⟩
      · left
        exact h7) hl9)
theorem EV_lstore_n {i : Fin 4} {x : Int64} (hd : decode y.2.1 pc = .ok (.lstore_n i, 1)) (hi : (i : Nat) < Lc.length) (hn : (i : Nat) + 1 < y.2.2.1) (ho : qok1 Lc (i : Nat) = true) (kk : EV z k y (pc + 1) ((Lc.set (i : Nat) (.long x)).set ((i : Nat) + 1) .null) st M n bc bs Q) : EV z k y pc Lc (.long x :: st) M n bc bs Q := by
  intro p l e R s m args below meth c D cA b B tc ts Qf C H locs cells slots ls h1 h2 hR hS hl
  refine lv_lstore_n C.1 C.2.1 hd rfl hl hn rfl (fun ls9 hl9 => ?_)
  exact kk p l e R s m args below meth c D cA b B tc ts Qf C H locs cells slots ls9 h1 h2 hR hS (qll_put2 (w := .long x) ho hi (fun q hq => by
    rcases hq with rfl | ⟨g1, g2, g4, g3⟩
    · exact List.mem_cons_self
    · refine List.mem_cons_of_mem _ (List.mem_filter.mpr ⟨g1, ?_⟩)
      simp only [Bool.and_eq_true, Bool.not_eq_true', beq_eq_false_iff_ne, Bool.and_eq_false_iff]
      refine ⟨g2, g4, ?_⟩
      by_cases h7 : q.1 + 1 = (i : Nat)
      · right
        intro h8
        exact g3 ⟨h7, h8⟩
      · left
        exact h7) hl9)
theorem EV_lstore {i : Nat} {x : Int64} (hd : decode y.2.1 pc = .ok (.lstore i, 2)) (hi : i < Lc.length) (hn : i + 1 < y.2.2.1) (ho : qok1 Lc i = true) (kk : EV z k y (pc + 2) ((Lc.set i (.long x)).set (i + 1) .null) st M n bc bs Q) : EV z k y pc Lc (.long x :: st) M n bc bs Q := by
  intro p l e R s m args below meth c D cA b B tc ts Qf C H locs cells slots ls h1 h2 hR hS hl
  refine lv_lstore C.1 C.2.1 hd hl hn rfl (fun ls9 hl9 => ?_)
  exact kk p l e R s m args below meth c D cA b B tc ts Qf C H locs cells slots ls9 h1 h2 hR hS (qll_put2 (w := .long x) ho hi (fun q hq => by
    rcases hq with rfl | ⟨g1, g2, g4, g3⟩
    · exact List.mem_cons_self
    · refine List.mem_cons_of_mem _ (List.mem_filter.mpr ⟨g1, ?_⟩)
      simp only [Bool.and_eq_true, Bool.not_eq_true', beq_eq_false_iff_ne, Bool.and_eq_false_iff]
      refine ⟨g2, g4, ?_⟩
      by_cases h7 : q.1 + 1 = i
      · right
        intro h8
        exact g3 ⟨h7, h8⟩
      · left
        exact h7) hl9)
theorem EV_dstore_n {i : Fin 4} {x : UInt64} (hd : decode y.2.1 pc = .ok (.dstore_n i, 1)) (hi : (i : Nat) < Lc.length) (hn : (i : Nat) + 1 < y.2.2.1) (ho : qok1 Lc (i : Nat) = true) (kk : EV z k y (pc + 1) ((Lc.set (i : Nat) (.double x)).set ((i : Nat) + 1) .null) st M n bc bs Q) : EV z k y pc Lc (.double x :: st) M n bc bs Q := by
  intro p l e R s m args below meth c D cA b B tc ts Qf C H locs cells slots ls h1 h2 hR hS hl
  refine lv_dstore_n C.1 C.2.1 hd rfl hl hn rfl (fun ls9 hl9 => ?_)
  exact kk p l e R s m args below meth c D cA b B tc ts Qf C H locs cells slots ls9 h1 h2 hR hS (qll_put2 (w := .double x) ho hi (fun q hq => by
    rcases hq with rfl | ⟨g1, g2, g4, g3⟩
    · exact List.mem_cons_self
    · refine List.mem_cons_of_mem _ (List.mem_filter.mpr ⟨g1, ?_⟩)
      simp only [Bool.and_eq_true, Bool.not_eq_true', beq_eq_false_iff_ne, Bool.and_eq_false_iff]
      refine ⟨g2, g4, ?_⟩
      by_cases h7 : q.1 + 1 = (i : Nat)
      · right
        intro h8
        exact g3 ⟨h7, h8⟩
      · left
        exact h7) hl9)
theorem EV_dstore {i : Nat} {x : UInt64} (hd : decode y.2.1 pc = .ok (.dstore i, 2)) (hi : i < Lc.length) (hn : i + 1 < y.2.2.1) (ho : qok1 Lc i = true) (kk : EV z k y (pc + 2) ((Lc.set i (.double x)).set (i + 1) .null) st M n bc bs Q) : EV z k y pc Lc (.double x :: st) M n bc bs Q := by
  intro p l e R s m args below meth c D cA b B tc ts Qf C H locs cells slots ls h1 h2 hR hS hl
  refine lv_dstore C.1 C.2.1 hd hl hn rfl (fun ls9 hl9 => ?_)
  exact kk p l e R s m args below meth c D cA b B tc ts Qf C H locs cells slots ls9 h1 h2 hR hS (qll_put2 (w := .double x) ho hi (fun q hq => by
    rcases hq with rfl | ⟨g1, g2, g4, g3⟩
    · exact List.mem_cons_self
    · refine List.mem_cons_of_mem _ (List.mem_filter.mpr ⟨g1, ?_⟩)
      simp only [Bool.and_eq_true, Bool.not_eq_true', beq_eq_false_iff_ne, Bool.and_eq_false_iff]
      refine ⟨g2, g4, ?_⟩
      by_cases h7 : q.1 + 1 = i
      · right
        intro h8
        exact g3 ⟨h7, h8⟩
      · left
        exact h7) hl9)
theorem EV_iinc {i : Nat} {j : Int} {x : Int32} (hd : decode y.2.1 pc = .ok (.iinc i j, 3)) (hL : Lc[i]? = some (.int x)) (hn : i < y.2.2.1) (ho : qok1 Lc i = true) (kk : EV z k y (pc + 3) (Lc.set i (.int (x + Int32.ofInt j))) st M n bc bs Q) : EV z k y pc Lc st M n bc bs Q := by
  intro p l e R s m args below meth c D cA b B tc ts Qf C H locs cells slots ls h1 h2 hR hS hl
  have hi : i < Lc.length := (List.getElem?_eq_some_iff.mp hL).1
  have hm := qll_mem (qad b B) Lc 0 i (.int x) hL (by intro h; cases h)
  rw [Nat.zero_add] at hm
  obtain ⟨k9, hk9⟩ := List.getElem?_of_mem hm
  refine lv_iinc C.1 C.2.1 hd hl hk9 rfl hn rfl (fun ls9 hl9 => ?_)
  exact kk p l e R s m args below meth c D cA b B tc ts Qf C H locs cells slots ls9 h1 h2 hR hS (qll_put (w := .int (x + Int32.ofInt j)) ho (qset_of hi) (fun q hq => by
    rcases hq with rfl | ⟨g1, g2, g3⟩
    · exact List.mem_cons_self
    · refine List.mem_cons_of_mem _ (List.mem_filter.mpr ⟨g1, ?_⟩)
      simp only [Bool.and_eq_true, Bool.not_eq_true', beq_eq_false_iff_ne, Bool.and_eq_false_iff]
      refine ⟨g2, ?_⟩
      by_cases h7 : q.1 + 1 = i
      · right
        intro h8
        exact g3 ⟨h7, h8⟩
      · left
        exact h7) hl9)
theorem EV_goto {off : Int} (tgt : Nat) (hd : decode y.2.1 pc = .ok (.goto off, 3)) (ht : (pc : Int) + off = (tgt : Int)) (kk : EV z k y tgt Lc st M n bc bs Q) : EV z k y pc Lc st M n bc bs Q := by
  intro p l e R s m args below meth c D cA b B tc ts Qf C H locs cells slots ls h1 h2 hR hS hl
  exact lv_goto C.1 C.2.1 hd ht (kk p l e R s m args below meth c D cA b B tc ts Qf C H locs cells slots ls h1 h2 hR hS hl)
theorem EV_if_eq {x : Int32} {off : Int} (tgt : Nat) (hd : decode y.2.1 pc = .ok (.ifCond .eq off, 3)) (ht : (pc : Int) + off = (tgt : Int)) (kt : x = 0 → EV z k y tgt Lc st M n bc bs Q) (kf : ¬ x = 0 → EV z k y (pc + 3) Lc st M n bc bs Q) : EV z k y pc Lc (.int x :: st) M n bc bs Q := by
  intro p l e R s m args below meth c D cA b B tc ts Qf C H locs cells slots ls h1 h2 hR hS hl
  exact lv_if_eq C.1 C.2.1 hd ht (fun h9 => (kt h9 p l e R s m args below meth c D cA b B tc ts Qf C H locs cells slots ls h1 h2 hR hS hl)) (fun h9 => (kf h9 p l e R s m args below meth c D cA b B tc ts Qf C H locs cells slots ls h1 h2 hR hS hl))
theorem EV_icmp_eq {x x0 : Int32} {off : Int} (tgt : Nat) (hd : decode y.2.1 pc = .ok (.if_icmp .eq off, 3)) (ht : (pc : Int) + off = (tgt : Int)) (kt : x = x0 → EV z k y tgt Lc st M n bc bs Q) (kf : ¬ x = x0 → EV z k y (pc + 3) Lc st M n bc bs Q) : EV z k y pc Lc (.int x0 :: .int x :: st) M n bc bs Q := by
  intro p l e R s m args below meth c D cA b B tc ts Qf C H locs cells slots ls h1 h2 hR hS hl
  exact lv_icmp_eq C.1 C.2.1 hd ht (fun h9 => (kt h9 p l e R s m args below meth c D cA b B tc ts Qf C H locs cells slots ls h1 h2 hR hS hl)) (fun h9 => (kf h9 p l e R s m args below meth c D cA b B tc ts Qf C H locs cells slots ls h1 h2 hR hS hl))
theorem EV_if_ne {x : Int32} {off : Int} (tgt : Nat) (hd : decode y.2.1 pc = .ok (.ifCond .ne off, 3)) (ht : (pc : Int) + off = (tgt : Int)) (kt : ¬ x = 0 → EV z k y tgt Lc st M n bc bs Q) (kf : x = 0 → EV z k y (pc + 3) Lc st M n bc bs Q) : EV z k y pc Lc (.int x :: st) M n bc bs Q := by
  intro p l e R s m args below meth c D cA b B tc ts Qf C H locs cells slots ls h1 h2 hR hS hl
  exact lv_if_ne C.1 C.2.1 hd ht (fun h9 => (kt h9 p l e R s m args below meth c D cA b B tc ts Qf C H locs cells slots ls h1 h2 hR hS hl)) (fun h9 => (kf h9 p l e R s m args below meth c D cA b B tc ts Qf C H locs cells slots ls h1 h2 hR hS hl))
theorem EV_icmp_ne {x x0 : Int32} {off : Int} (tgt : Nat) (hd : decode y.2.1 pc = .ok (.if_icmp .ne off, 3)) (ht : (pc : Int) + off = (tgt : Int)) (kt : ¬ x = x0 → EV z k y tgt Lc st M n bc bs Q) (kf : x = x0 → EV z k y (pc + 3) Lc st M n bc bs Q) : EV z k y pc Lc (.int x0 :: .int x :: st) M n bc bs Q := by
  intro p l e R s m args below meth c D cA b B tc ts Qf C H locs cells slots ls h1 h2 hR hS hl
  exact lv_icmp_ne C.1 C.2.1 hd ht (fun h9 => (kt h9 p l e R s m args below meth c D cA b B tc ts Qf C H locs cells slots ls h1 h2 hR hS hl)) (fun h9 => (kf h9 p l e R s m args below meth c D cA b B tc ts Qf C H locs cells slots ls h1 h2 hR hS hl))
theorem EV_if_lt {x : Int32} {off : Int} (tgt : Nat) (hd : decode y.2.1 pc = .ok (.ifCond .lt off, 3)) (ht : (pc : Int) + off = (tgt : Int)) (kt : x < 0 → EV z k y tgt Lc st M n bc bs Q) (kf : ¬ x < 0 → EV z k y (pc + 3) Lc st M n bc bs Q) : EV z k y pc Lc (.int x :: st) M n bc bs Q := by
  intro p l e R s m args below meth c D cA b B tc ts Qf C H locs cells slots ls h1 h2 hR hS hl
  exact lv_if_lt C.1 C.2.1 hd ht (fun h9 => (kt h9 p l e R s m args below meth c D cA b B tc ts Qf C H locs cells slots ls h1 h2 hR hS hl)) (fun h9 => (kf h9 p l e R s m args below meth c D cA b B tc ts Qf C H locs cells slots ls h1 h2 hR hS hl))
theorem EV_icmp_lt {x x0 : Int32} {off : Int} (tgt : Nat) (hd : decode y.2.1 pc = .ok (.if_icmp .lt off, 3)) (ht : (pc : Int) + off = (tgt : Int)) (kt : x < x0 → EV z k y tgt Lc st M n bc bs Q) (kf : ¬ x < x0 → EV z k y (pc + 3) Lc st M n bc bs Q) : EV z k y pc Lc (.int x0 :: .int x :: st) M n bc bs Q := by
  intro p l e R s m args below meth c D cA b B tc ts Qf C H locs cells slots ls h1 h2 hR hS hl
  exact lv_icmp_lt C.1 C.2.1 hd ht (fun h9 => (kt h9 p l e R s m args below meth c D cA b B tc ts Qf C H locs cells slots ls h1 h2 hR hS hl)) (fun h9 => (kf h9 p l e R s m args below meth c D cA b B tc ts Qf C H locs cells slots ls h1 h2 hR hS hl))
theorem EV_if_ge {x : Int32} {off : Int} (tgt : Nat) (hd : decode y.2.1 pc = .ok (.ifCond .ge off, 3)) (ht : (pc : Int) + off = (tgt : Int)) (kt : 0 ≤ x → EV z k y tgt Lc st M n bc bs Q) (kf : ¬ 0 ≤ x → EV z k y (pc + 3) Lc st M n bc bs Q) : EV z k y pc Lc (.int x :: st) M n bc bs Q := by
  intro p l e R s m args below meth c D cA b B tc ts Qf C H locs cells slots ls h1 h2 hR hS hl
  exact lv_if_ge C.1 C.2.1 hd ht (fun h9 => (kt h9 p l e R s m args below meth c D cA b B tc ts Qf C H locs cells slots ls h1 h2 hR hS hl)) (fun h9 => (kf h9 p l e R s m args below meth c D cA b B tc ts Qf C H locs cells slots ls h1 h2 hR hS hl))
theorem EV_icmp_ge {x x0 : Int32} {off : Int} (tgt : Nat) (hd : decode y.2.1 pc = .ok (.if_icmp .ge off, 3)) (ht : (pc : Int) + off = (tgt : Int)) (kt : x0 ≤ x → EV z k y tgt Lc st M n bc bs Q) (kf : ¬ x0 ≤ x → EV z k y (pc + 3) Lc st M n bc bs Q) : EV z k y pc Lc (.int x0 :: .int x :: st) M n bc bs Q := by
  intro p l e R s m args below meth c D cA b B tc ts Qf C H locs cells slots ls h1 h2 hR hS hl
  exact lv_icmp_ge C.1 C.2.1 hd ht (fun h9 => (kt h9 p l e R s m args below meth c D cA b B tc ts Qf C H locs cells slots ls h1 h2 hR hS hl)) (fun h9 => (kf h9 p l e R s m args below meth c D cA b B tc ts Qf C H locs cells slots ls h1 h2 hR hS hl))
theorem EV_if_gt {x : Int32} {off : Int} (tgt : Nat) (hd : decode y.2.1 pc = .ok (.ifCond .gt off, 3)) (ht : (pc : Int) + off = (tgt : Int)) (kt : 0 < x → EV z k y tgt Lc st M n bc bs Q) (kf : ¬ 0 < x → EV z k y (pc + 3) Lc st M n bc bs Q) : EV z k y pc Lc (.int x :: st) M n bc bs Q := by
  intro p l e R s m args below meth c D cA b B tc ts Qf C H locs cells slots ls h1 h2 hR hS hl
  exact lv_if_gt C.1 C.2.1 hd ht (fun h9 => (kt h9 p l e R s m args below meth c D cA b B tc ts Qf C H locs cells slots ls h1 h2 hR hS hl)) (fun h9 => (kf h9 p l e R s m args below meth c D cA b B tc ts Qf C H locs cells slots ls h1 h2 hR hS hl))
theorem EV_icmp_gt {x x0 : Int32} {off : Int} (tgt : Nat) (hd : decode y.2.1 pc = .ok (.if_icmp .gt off, 3)) (ht : (pc : Int) + off = (tgt : Int)) (kt : x0 < x → EV z k y tgt Lc st M n bc bs Q) (kf : ¬ x0 < x → EV z k y (pc + 3) Lc st M n bc bs Q) : EV z k y pc Lc (.int x0 :: .int x :: st) M n bc bs Q := by
  intro p l e R s m args below meth c D cA b B tc ts Qf C H locs cells slots ls h1 h2 hR hS hl
  exact lv_icmp_gt C.1 C.2.1 hd ht (fun h9 => (kt h9 p l e R s m args below meth c D cA b B tc ts Qf C H locs cells slots ls h1 h2 hR hS hl)) (fun h9 => (kf h9 p l e R s m args below meth c D cA b B tc ts Qf C H locs cells slots ls h1 h2 hR hS hl))
theorem EV_if_le {x : Int32} {off : Int} (tgt : Nat) (hd : decode y.2.1 pc = .ok (.ifCond .le off, 3)) (ht : (pc : Int) + off = (tgt : Int)) (kt : x ≤ 0 → EV z k y tgt Lc st M n bc bs Q) (kf : ¬ x ≤ 0 → EV z k y (pc + 3) Lc st M n bc bs Q) : EV z k y pc Lc (.int x :: st) M n bc bs Q := by
  intro p l e R s m args below meth c D cA b B tc ts Qf C H locs cells slots ls h1 h2 hR hS hl
  exact lv_if_le C.1 C.2.1 hd ht (fun h9 => (kt h9 p l e R s m args below meth c D cA b B tc ts Qf C H locs cells slots ls h1 h2 hR hS hl)) (fun h9 => (kf h9 p l e R s m args below meth c D cA b B tc ts Qf C H locs cells slots ls h1 h2 hR hS hl))
theorem EV_icmp_le {x x0 : Int32} {off : Int} (tgt : Nat) (hd : decode y.2.1 pc = .ok (.if_icmp .le off, 3)) (ht : (pc : Int) + off = (tgt : Int)) (kt : x ≤ x0 → EV z k y tgt Lc st M n bc bs Q) (kf : ¬ x ≤ x0 → EV z k y (pc + 3) Lc st M n bc bs Q) : EV z k y pc Lc (.int x0 :: .int x :: st) M n bc bs Q := by
  intro p l e R s m args below meth c D cA b B tc ts Qf C H locs cells slots ls h1 h2 hR hS hl
  exact lv_icmp_le C.1 C.2.1 hd ht (fun h9 => (kt h9 p l e R s m args below meth c D cA b B tc ts Qf C H locs cells slots ls h1 h2 hR hS hl)) (fun h9 => (kf h9 p l e R s m args below meth c D cA b B tc ts Qf C H locs cells slots ls h1 h2 hR hS hl))
theorem EV_tableOut {dflt lo hi : Int} {offs : Array Int} {len : Nat} {x : Int32} (tgt : Nat) (hd : decode y.2.1 pc = .ok (.tableswitch dflt lo hi offs, len)) (h9 : x.toInt < lo ∨ hi < x.toInt) (ht : (pc : Int) + dflt = (tgt : Int)) (kk : EV z k y tgt Lc st M n bc bs Q) : EV z k y pc Lc (.int x :: st) M n bc bs Q := by
  intro p l e R s m args below meth c D cA b B tc ts Qf C H locs cells slots ls h1 h2 hR hS hl
  exact lv_tableOut C.1 C.2.1 hd h9 ht (kk p l e R s m args below meth c D cA b B tc ts Qf C H locs cells slots ls h1 h2 hR hS hl)
theorem EV_tableIn {dflt lo hi off : Int} {offs : Array Int} {len : Nat} {x : Int32} (tgt : Nat) (hd : decode y.2.1 pc = .ok (.tableswitch dflt lo hi offs, len)) (h8 : ¬ x.toInt < lo) (h9 : ¬ hi < x.toInt) (ho : offs[(x.toInt - lo).toNat]? = some off) (ht : (pc : Int) + off = (tgt : Int)) (kk : EV z k y tgt Lc st M n bc bs Q) : EV z k y pc Lc (.int x :: st) M n bc bs Q := by
  intro p l e R s m args below meth c D cA b B tc ts Qf C H locs cells slots ls h1 h2 hR hS hl
  exact lv_tableIn C.1 C.2.1 hd h8 h9 ho ht (kk p l e R s m args below meth c D cA b B tc ts Qf C H locs cells slots ls h1 h2 hR hS hl)
theorem EV_iret {x : Int32} {ty : FieldType} (hd : decode y.2.1 pc = .ok (.ireturn, 1)) (hr : y.2.2.2 = some ty) (hn : narrow ty (.int x) = .int x) (hq : Q (some (.int x)) M n) : EV z k y pc Lc [.int x] M n bc bs Q := by
  intro p l e R s m args below meth c D cA b B tc ts Qf C H locs cells slots ls h1 h2 hR hS hl
  exact W.widen (by omega) (by omega) (C.2.2.2.2.2.2.2.2.2.2 (some (.int x)) M n H locs ls pc hq hR hS ⟨⟨ty, hr, hn⟩, hd⟩)
theorem EV_lret {x : Int64} (hd : decode y.2.1 pc = .ok (.lreturn, 1)) (hr : y.2.2.2 = some .long) (hq : Q (some (.long x)) M n) : EV z k y pc Lc [.long x] M n bc bs Q := by
  intro p l e R s m args below meth c D cA b B tc ts Qf C H locs cells slots ls h1 h2 hR hS hl
  exact W.widen (by omega) (by omega) (C.2.2.2.2.2.2.2.2.2.2 (some (.long x)) M n H locs ls pc hq hR hS ⟨hr, hd⟩)
theorem EV_dret {x : UInt64} (hd : decode y.2.1 pc = .ok (.dreturn, 1)) (hr : y.2.2.2 = some .double) (hq : Q (some (.double x)) M n) : EV z k y pc Lc [.double x] M n bc bs Q := by
  intro p l e R s m args below meth c D cA b B tc ts Qf C H locs cells slots ls h1 h2 hR hS hl
  exact W.widen (by omega) (by omega) (C.2.2.2.2.2.2.2.2.2.2 (some (.double x)) M n H locs ls pc hq hR hS ⟨hr, hd⟩)
theorem EV_vret  (hd : decode y.2.1 pc = .ok (.return_, 1)) (hr : y.2.2.2 = none) (hq : Q none M n) : EV z k y pc Lc [] M n bc bs Q := by
  intro p l e R s m args below meth c D cA b B tc ts Qf C H locs cells slots ls h1 h2 hR hS hl
  exact W.widen (by omega) (by omega) (C.2.2.2.2.2.2.2.2.2.2 none M n H locs ls pc hq hR hS ⟨hr, hd⟩)
end QRows
