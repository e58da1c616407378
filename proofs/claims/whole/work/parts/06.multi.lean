/-! Arrays of arrays of ints: 'multianewarray' of two dimensions. -/
def mu_o (c : ClassId) (N a i : Nat) : Cell := arrV c N (fun j => if j < i then .ref (a + 1 + j) else .null)
def mu_n (k : ClassId) (M : Nat) : Cell := arrV k M (fun _ => .int 0)
def mu_s (s : State) (c k : ClassId) (N M : Nat) : Nat → State
  | 0 => s.pushCell (mu_o c N s.heap.size 0)
  | i + 1 => ((mu_s s c k N M i).pushCell (mu_n k M)).setCell s.heap.size (mu_o c N s.heap.size (i + 1))
theorem mu_o_set (c : ClassId) (N a i : Nat) : (mu_o c N a i).setSlot i (.ref (a + 1 + i)) = mu_o c N a (i + 1) := by
  unfold mu_o
  rw [arrV_store]
  congr 1
  funext j
  unfold updV
  by_cases hj : j = i
  · subst hj
    rw [if_pos rfl, if_pos (Nat.lt_succ_self _)]
  · rw [if_neg hj]
    dsimp only
    by_cases hl : j < i
    · rw [if_pos hl, if_pos (by omega)]
    · rw [if_neg hl, if_neg (by omega)]
theorem mu_facts (s : State) (c k : ClassId) (N M : Nat) : ∀ i, (mu_s s c k N M i).heap.size = s.heap.size + 1 + i ∧ (mu_s s c k N M i).heap[s.heap.size]? = some (mu_o c N s.heap.size i) ∧ (mu_s s c k N M i).vm = s.vm ∧ (mu_s s c k N M i).slotsUsed = s.slotsUsed + N + i * M ∧ (∀ q, q < s.heap.size → (mu_s s c k N M i).heap[q]? = s.heap[q]?) ∧ ∀ j, j < i → (mu_s s c k N M i).heap[s.heap.size + 1 + j]? = some (mu_n k M)
  | 0 => ⟨by simp [mu_s], by simp [mu_s], rfl, by simp [mu_s, mu_o, arrV_size], fun q hq => State.heap_pushCell_of_lt _ _ hq, fun j hj => absurd hj (Nat.not_lt_zero _)⟩
  | i + 1 => by
    obtain ⟨a1, a2, a3, a4, a5, a6⟩ := mu_facts s c k N M i
    have hlt : s.heap.size < (mu_s s c k N M i).heap.size := by omega
    have hb : ((mu_s s c k N M i).pushCell (mu_n k M)).heap[s.heap.size]? = some (mu_o c N s.heap.size i) := by rw [State.heap_pushCell_of_lt (h := hlt)]; exact a2
    have ho : ∀ q, q ≠ s.heap.size → (mu_s s c k N M (i + 1)).heap[q]? = ((mu_s s c k N M i).pushCell (mu_n k M)).heap[q]? := fun q hq => heapAt_setCell_ne _ (Ne.symm hq)
    refine ⟨?_, State.heap_setCell_self hb, by simp [mu_s, a3], ?_, fun q hq => ?_, fun j hj => ?_⟩
    · show (((mu_s s c k N M i).pushCell (mu_n k M)).setCell _ _).heap.size = _
      rw [size_setCell, size_pushCell, a1]
      omega
    · show ((mu_s s c k N M i).pushCell (mu_n k M)).slotsUsed = _
      rw [State.slotsUsed_pushCell, a4, show (mu_n k M).slots.size = M from arrV_size _ _ _, Nat.succ_mul]
      omega
    · have hq2 : q < (mu_s s c k N M i).heap.size := by omega
      rw [ho q (by omega), State.heap_pushCell_of_lt (h := hq2)]
      exact a5 q hq
    · rw [ho _ (by omega)]
      by_cases hji : j = i
      · subst hji
        rw [← a1]
        exact State.heap_pushCell_size _ _
      · have hq2 : s.heap.size + 1 + j < (mu_s s c k N M i).heap.size := by omega
        rw [State.heap_pushCell_of_lt (h := hq2)]
        exact a6 j (by omega)
theorem mu_setTop (s : State) (f : JFrame) (c k : ClassId) (N M : Nat) : ∀ i, mu_s (s.setTop f) c k N M i = (mu_s s c k N M i).setTop f
  | 0 => rfl
  | i + 1 => by simp only [mu_s, mu_setTop s f c k N M i, State.heap_setTop, State.pushCell_setTop, State.setCell_setTop]
section MU
variable {E : CtlPost} {e : Env} {d : Bool} {acts : List Action} {s : State}
theorem mu_new {c comp : ClassId} {k : Class} {type : FieldType} {len : Nat} {init : Value} (hk : s.vm.classes[c]? = some k) (hkind : k.kind = .array comp type) (h1 : ¬ len > e.platform.arrayLengthLimit) (h2 : ¬ len * componentBytes type > e.platform.maxHeapBytes) (hfit : fits type init = true) (hdef : init.isDefault = true) {Q : Addr → Pre} (h3 : s.heap.size < e.platform.maxCells) (h4 : s.slotsUsed + len ≤ e.platform.maxSlots) (hq : Q s.heap.size d acts (s.pushCell (arrV c len (fun _ => init)))) : wp (Jvm.newArray c len init) Q E e d acts s := by
  rw [← arrV_new] at hq
  have hfits : ∀ i v, (Array.replicate len init)[i]? = some v → s.fitsSlot c .none i v = true := by
    intro i v hv
    rw [Array.getElem?_replicate] at hv
    split at hv
    · cases hv
      simp [State.fitsSlot, State.slotType?, hk, hkind, hfit]
    · cases hv
  have hda : allocActs (Array.replicate len init) s.heap.size acts = acts := by
    unfold allocActs
    rw [if_pos (by rw [Array.all_replicate]; split <;> simp [hdef])]
  simp only [Jvm.newArray, Jvm.arrayFits, wp_bind', W.ask, W.ite, h1, if_false, wp_pure', W.theClass, hk, hkind, h2, W.alloc, W.stop, Option.some.injEq, exists_eq_left', Array.size_replicate, hda]
  rw [if_neg (by omega)]
  exact ⟨h3, h4, hfits, hq⟩
theorem mu_make {c k1 k2 : ClassId} {K K1 : Class} {n m : Int32} (hK : s.vm.classes[c]? = some K) (hkind : K.kind = .array k1 (.array .int)) (hK1 : s.vm.classes[k1]? = some K1) (hkind1 : K1.kind = .array k2 .int) (hn : ¬ n < 0) (hm : ¬ m < 0)
    (hl1 : ¬ n.toNatClampNeg > e.platform.arrayLengthLimit) (hh1 : ¬ n.toNatClampNeg * componentBytes (.array .int) > e.platform.maxHeapBytes) (hl2 : ¬ m.toNatClampNeg > e.platform.arrayLengthLimit) (hh2 : ¬ m.toNatClampNeg * componentBytes .int > e.platform.maxHeapBytes)
    (hc : s.heap.size + 1 + n.toNatClampNeg ≤ e.platform.maxCells) (hs : s.slotsUsed + n.toNatClampNeg + n.toNatClampNeg * m.toNatClampNeg ≤ e.platform.maxSlots) {Q : Addr → Pre} (hq : ∀ d' acts', Q s.heap.size d' acts' (mu_s s c k1 n.toNatClampNeg m.toNatClampNeg n.toNatClampNeg)) : wp (Op.multianewarray.make c [n, m]) Q E e d acts s := by
  have hfind : ([m].find? (· < 0)) = none := by simp [hm]
  rw [Op.multianewarray.make]
  simp only [wp_bind', W.ite, hn, if_false, wp_pure', W.theClass, hK, hkind, Option.some.injEq, exists_eq_left']
  refine mu_new hK hkind hl1 hh1 rfl rfl (by omega) (by have := Nat.zero_le (n.toNatClampNeg * m.toNatClampNeg); omega) ?_
  simp only [hfind]
  rw [ite_self, wp_bind', Std.Legacy.Range.forIn_eq_forIn_range']
  have hsz : ([:n.toNatClampNeg] : Std.Legacy.Range).size = n.toNatClampNeg := by simp [Std.Legacy.Range.size]
  rw [hsz]
  show wp (forIn (List.range' 0 n.toNatClampNeg 1) PUnit.unit _) _ E e d acts _
  have e0 : arrV c n.toNatClampNeg (fun _ => Value.null) = mu_o c n.toNatClampNeg s.heap.size 0 := by
    unfold mu_o
    congr 1
  rw [e0]
  refine wp_forIn_inv (fun rest s' => ∃ i, i ≤ n.toNatClampNeg ∧ rest = List.range' i (n.toNatClampNeg - i) ∧ s' = mu_s s c k1 n.toNatClampNeg m.toNatClampNeg i) _ _ ⟨0, Nat.zero_le _, rfl, rfl⟩ ?_ ?_
  · rintro x rest s' d' acts' Q' ⟨i, hi, hl, rfl⟩ hnext
    have hlt : i < n.toNatClampNeg := by
      rcases Nat.lt_or_ge i n.toNatClampNeg with h | h
      · exact h
      · rw [show n.toNatClampNeg - i = 0 by omega] at hl
        simp at hl
    obtain ⟨rfl, hrest⟩ : x = i ∧ rest = List.range' (i + 1) (n.toNatClampNeg - (i + 1)) := by
      rw [show n.toNatClampNeg - i = (n.toNatClampNeg - (i + 1)) + 1 by omega, List.range'_succ] at hl
      exact List.cons.inj hl
    obtain ⟨f1, f2, f3, f4, -, -⟩ := mu_facts s c k1 n.toNatClampNeg m.toNatClampNeg x
    have hmul : x * m.toNatClampNeg + m.toNatClampNeg ≤ n.toNatClampNeg * m.toNatClampNeg := by
      have := Nat.mul_le_mul_right m.toNatClampNeg (show x + 1 ≤ n.toNatClampNeg from hlt)
      rw [Nat.succ_mul] at this
      exact this
    simp only [wp_bind']
    rw [Op.multianewarray.make]
    simp only [wp_bind', W.ite, hm, if_false, wp_pure', W.theClass, f3, hK1, hkind1, Option.some.injEq, exists_eq_left']
    refine mu_new (type := .int) (comp := k2) (by rw [f3]; exact hK1) hkind1 hl2 hh2 rfl rfl (by rw [f1]; omega) (by rw [f4]; omega) ?_
    have hlt0 : s.heap.size < (mu_s s c k1 n.toNatClampNeg m.toNatClampNeg x).heap.size := by rw [f1]; omega
    simp only [wp_bind', W.writeLoc, wp_pure']
    refine ⟨mu_o c n.toNatClampNeg s.heap.size x, by rw [State.heap_pushCell_of_lt (h := hlt0)]; exact f2, (fun q => by cases q), by show _ < (arrV _ _ _).slots.size; rw [arrV_size]; exact hlt, ?_, hnext _ _ _ ⟨x + 1, hlt, hrest, ?_⟩⟩
    · show State.fitsSlot _ c .none x _ = true
      simp [State.fitsSlot, State.slotType?, f3, hK, hkind, fits]
    · rw [f1, mu_o_set]
      rfl
  · rintro s' d' acts' ⟨i, hi, hl, rfl⟩
    have hiN : i = n.toNatClampNeg := by
      rcases Nat.lt_or_ge i n.toNatClampNeg with h | h
      · rw [show n.toNatClampNeg - i = (n.toNatClampNeg - (i + 1)) + 1 by omega, List.range'_succ] at hl
        cases hl
      · omega
    rw [hiN]
    simp only [wp_pure']
    exact hq _ _
end MU
section AMM
variable {p : Program} {l : Launch} {e : Env} {R : Room} {s : State} {m : MethodId} {args : Array Value} {below : List Frame} {meth : Method} {c : Code} {Q : State → Prop}
variable {cc : ByteArray} {D : va_G} {cl : List vw_C} {tys : List (ClassId × FieldType)} {b c0 L : Nat} {xs : Nat → Int32} {h0 h : am_H} {nL : Nat} {pcs : Nat → Nat} {own : String} {Tb : List Jvm.Cond}
variable {T : State} {H : Heap} {locs : List Loc} {ls : Array Slot} {cells slots : Nat} {lv : am_L} {st rest : List Value} {j pc : Nat} {X : am_C}
theorem mu_stand (S : Stand p l e R s m args below meth c T locs cells slots) (cA k : ClassId) (N M : Nat) : ∀ i, Stand p l e R s m args below meth c (mu_s T cA k N M i) (locs ++ (List.range i).map fun j => ⟨T.heap.size, j⟩) (cells + 1 + i) (slots + N + i * M)
  | 0 => by
    have h := S.pushed (mu_o cA N T.heap.size 0)
    rw [show (mu_o cA N T.heap.size 0).slots.size = N from arrV_size _ _ _] at h
    simpa [mu_s] using h
  | i + 1 => by
    have Si := mu_stand S cA k N M i
    obtain ⟨f1, f2, -, -, -, -⟩ := mu_facts T cA k N M i
    have hlt0 : T.heap.size < (mu_s T cA k N M i).heap.size := by rw [f1]; omega
    have hcell : ((mu_s T cA k N M i).pushCell (mu_n k M)).heap[T.heap.size]? = some (mu_o cA N T.heap.size i) := by rw [State.heap_pushCell_of_lt (h := hlt0)]; exact f2
    have h := (Si.pushed (mu_n k M)).stored hcell i (.ref (T.heap.size + 1 + i))
    rw [mu_o_set, show (mu_n k M).slots.size = M from arrV_size _ _ _] at h
    have e2 : (locs ++ (List.range (i + 1)).map fun j => (⟨T.heap.size, j⟩ : Loc)) = (locs ++ (List.range i).map fun j => (⟨T.heap.size, j⟩ : Loc)) ++ [⟨T.heap.size, i⟩] := by simp [List.range_succ, List.append_assoc]
    have e3 : slots + N + (i + 1) * M = slots + N + i * M + M := by rw [Nat.succ_mul]; omega
    rw [e2, e3]
    exact h
/-- the row: the outer array comes first, its rows behind it in order -/
theorem mu_W (hexec : p.tables.exec = Jvm.exec) (hb : c.code = cc) {idx : Nat} (hown : s.vm.findClass own = some m.cls) (hclink : (Jvm.Cond.classLink own idx "[[I").before args s = true) (hover : (Jvm.Cond.arrayOver (.array .int)).before args s = true) (harr : (Jvm.Cond.arrayClass .int).before args s = true)
    (hdg : decode cc pc = .ok (.multianewarray idx 2, 4)) {n k : Int32} (hn : ¬ n < 0) (hk : ¬ k < 0) (hn2 : n.toNatClampNeg ≤ 1000) (hk2 : k.toNatClampNeg ≤ 1000000) (hcells : cells + (1 + n.toNatClampNeg) ≤ R.cells) (hslots : slots + (n.toNatClampNeg + n.toNatClampNeg * k.toNatClampNeg) ≤ R.slots)
    (kk : ∀ (H1 : Heap) (cA k1 : ClassId), s.vm.findClass "[[I" = some cA → s.vm.findClass "[I" = some k1 → H1.size = H.size + 1 + n.toNatClampNeg → H1[H.size]? = some (mu_o cA n.toNatClampNeg H.size n.toNatClampNeg) → (∀ q, q < H.size → H1[q]? = H[q]?) → (∀ j, j < n.toNatClampNeg → H1[H.size + 1 + j]? = some (mu_n k1 k.toNatClampNeg)) →
      W p l e R s m args below meth c H1 (locs ++ (List.range n.toNatClampNeg).map fun j => ⟨H.size, j⟩) (cells + 1 + n.toNatClampNeg) (slots + n.toNatClampNeg + n.toNatClampNeg * k.toNatClampNeg) Q (F0 m (pc + 4) ls (.ref H.size :: rest))) : W p l e R s m args below meth c H locs cells slots Q (F0 m pc ls (.int k :: .int n :: rest)) := by
  intro T hT X
  subst hT
  subst hb
  have hpl : e.platform.magicAccessors = ({} : Platform).magicAccessors := by rw [X.admits.platform]
  obtain ⟨comp, cA, kA, hcomp, -, hkA, hkindA, hnameA⟩ := arrayOverA_spec hover
  obtain ⟨comp', kC, cc', hcomp', hkC, hkindC⟩ := Cond.arrayClass_spec harr
  have ecomp : comp' = comp := Option.some.inj (hcomp'.symm.trans hcomp)
  subst ecomp
  obtain ⟨c1, hfc0, hcl⟩ := Cond.classLink_spec hown hclink e.platform hpl
  cases hnameA.symm.trans hfc0
  obtain ⟨hg₁, hwarm₁, hready₁⟩ := State.classEntry (e := e) X.warmed hcl
  have hsz0 : ∀ v, (T.setVm v).heap.size = T.heap.size := fun v => rfl
  generalize T.vm.noted m.cls idx (.cls cA) = vm₁ at hg₁ hwarm₁ hready₁
  have hal : s.vm.Alike vm₁ := hwarm₁.alike
  obtain ⟨kA₁, hkA₁, heA⟩ := hal.2.2 _ _ hkA
  obtain ⟨kC₁, hkC₁, heC⟩ := hal.2.2 _ _ hkC
  have hkindA₁ : kA₁.kind = .array comp' (.array .int) := by rw [heA]; exact hkindA
  have hkindC₁ : kC₁.kind = .array cc' .int := by rw [heC]; exact hkindC
  have X₁ := X.noted hwarm₁
  obtain ⟨hr1, hr2⟩ := X.roomAbove hcells hslots
  have XF := mu_stand X₁ cA comp' n.toNatClampNeg k.toNatClampNeg n.toNatClampNeg
  obtain ⟨f1, f2, -, -, f5, f6⟩ := mu_facts (T.setVm vm₁) cA comp' n.toNatClampNeg k.toNatClampNeg n.toNatClampNeg
  obtain ⟨t, a1, b1⟩ := kk _ cA comp' hnameA hcomp f1 f2 f5 f6 _ rfl XF
  refine ⟨t, ?_, b1⟩
  have hl1 : ¬ n.toNatClampNeg > e.platform.arrayLengthLimit := by rw [Launch.admits_arrayLengthLimit X.admits]; omega
  have hh1 : ¬ n.toNatClampNeg * componentBytes (.array .int) > e.platform.maxHeapBytes := by
    rw [Launch.admits_maxHeapBytes X.admits]; show ¬ n.toNatClampNeg * 4 > 536870912; omega
  have hl2 : ¬ k.toNatClampNeg > e.platform.arrayLengthLimit := by rw [Launch.admits_arrayLengthLimit X.admits]; omega
  have hh2 : ¬ k.toNatClampNeg * componentBytes .int > e.platform.maxHeapBytes := by
    rw [Launch.admits_maxHeapBytes X.admits]; show ¬ k.toNatClampNeg * 4 > 536870912; omega
  jvm_step X.here [hexec, hdg]
  simp only [Op.multianewarray.sem, wp_bind', W.resolveClassAt_links (State.method?_setTop (F0 m pc ls (.int k :: .int n :: rest)) X.here.top) hg₁]
  rw [W.popN, if_neg (by decide)]
  refine ⟨F0 m pc ls (.int k :: .int n :: rest), State.topJava?_setTop' (s := T.setVm vm₁) _ X.here.top, [.int n, .int k], rest, rfl, rfl, ?_⟩
  simp only [List.mapM_cons, List.mapM_nil, wp_bind', wp_pure']
  refine mu_make (K := kA₁) (K1 := kC₁) (k1 := comp') (k2 := cc') hkA₁ hkindA₁ hkC₁ hkindC₁ hn hk hl1 hh1 hl2 hh2 (by show T.heap.size + 1 + _ ≤ _; omega) (by show T.slotsUsed + _ + _ ≤ _; omega) (fun d' acts' => ?_)
  have eS : ((T.setTop (F0 m pc ls (.int k :: .int n :: rest))).setVm vm₁).setTop { F0 m pc ls (.int k :: .int n :: rest) with stack := rest } = (T.setVm vm₁).setTop { F0 m pc ls (.int k :: .int n :: rest) with stack := rest } := by
    show ((T.setVm vm₁).setTop _).setTop _ = _
    rw [State.setTop_setTop]
  rw [eS, mu_setTop]
  simp only [wp_bind', W.mark, W.pushRef, State.topJava?_setTop' _ XF.here.top, Option.some.injEq, exists_eq_left', State.setTop_setTop, State.heap_setTop]
  intro acts
  simp [jvm, XF.here.top]
  exact a1
theorem am_w_multi {idx t : Nat} (C : CallFix p m c cc nL s args Tb own) (hd : decode cc pc = .ok (.multianewarray idx 2, 4)) (hnx : pcs (j + 1) = pc + 4) (hty0 : ∃ cA, tys[0]? = some (cA, .int)) (hty : ∃ cA, tys[t]? = some (cA, .array .int)) (hw1 : Jvm.Cond.classLink own idx "[[I" ∈ Tb) (hw2 : (Jvm.Cond.arrayOver (.array .int)).before args s = true) (hw3 : Jvm.Cond.arrayClass .int ∈ Tb) (hn : am_i2 st (fun n k r => if n < 0 ∨ 1000 < n.toNatClampNeg ∨ k < 0 ∨ 1000000 < k.toNatClampNeg then none else some (j + 1, lv, .ref h.2.1 :: r, am_mk2 h t 0 n.toNatClampNeg k.toNatClampNeg (am_zero 0))) = some X) (hr : X.2.2.2.2.1 ≤ h0.2.1 + R.cells ∧ X.2.2.2.2.2 ≤ h0.2.2 + R.slots) (hB : am_B D cl tys b c0 L xs s h0 nL h lv H locs ls cells slots) (K : am_K p l e R s m args below meth c Q D cl tys b c0 L xs h0 nL pcs X) : W p l e R s m args below meth c H locs cells slots Q (F0 m pc ls (st.map (am_r b c0))) := by
  unfold am_i2 at hn
  split at hn
  · rename_i k n r
    dsimp only at hn
    split at hn
    · cases hn
    · rename_i hc
      cases hn
      obtain ⟨b1, b2, b3, b4, b5, b6⟩ := hB
      have e1 := b1.1.1
      have e2 := b1.1.2.1
      have e3 := b1.1.2.2
      have hr1 : h.2.1 + 1 + n.toNatClampNeg ≤ h0.2.1 + R.cells := hr.1
      have hr2 : h.2.2 + n.toNatClampNeg + n.toNatClampNeg * k.toNatClampNeg ≤ h0.2.2 + R.slots := hr.2
      obtain ⟨cI, hcI⟩ := hty0
      obtain ⟨cA, hcA⟩ := hty
      have q1 : s.vm.findClass "[I" = some cI := (b1.2.2.1.2 _ _ hcI).2
      have q2 : s.vm.findClass "[[I" = some cA := (b1.2.2.1.2 _ _ hcA).2
      refine mu_W C.1 C.2.1 C.2.2.2.1 (C.2.2.2.2 _ hw1) hw2 (C.2.2.2.2 _ hw3) hd (fun q => hc (Or.inl q)) (fun q => hc (Or.inr (Or.inr (Or.inl q)))) (Nat.not_lt.mp (fun q => hc (Or.inr (Or.inl q)))) (Nat.not_lt.mp (fun q => hc (Or.inr (Or.inr (Or.inr q))))) (by omega) (by omega) (fun H1 cA2 k1 g1 g2 g3 g4 g5 g6 => ?_)
      cases q2.symm.trans g1
      cases q1.symm.trans g2
      have hin : ∀ i, i < n.toNatClampNeg → am_at D cl tys b c0 (h.2.1 + 1 + i) (.inl (0, k.toNatClampNeg, am_zero 0)) H1 := fun i hi => ⟨_, hcI, by
        have := g6 i hi
        rw [e1, show c0 + h.2.1 + 1 + i = c0 + (h.2.1 + 1 + i) by omega] at this
        exact this⟩
      have hout : am_at D cl tys b c0 h.2.1 (.inl (t, n.toNatClampNeg, .inr (.inr (.inr (.inr (fun i => if i < n.toNatClampNeg then some (h.2.1 + 1 + i) else none)))))) H1 := ⟨_, hcA, by
        rw [e1] at g4
        rw [g4]
        show some (mu_o _ _ _ _) = some (vp_cell cA (n.toNatClampNeg, .inr (.inr (.inr (.inr (fun j => Option.map (am_ad b c0) (if j < n.toNatClampNeg then some (h.2.1 + 1 + j) else none)))))))
        rw [vp_cell_q]
        unfold mu_o
        congr 2
        funext i
        by_cases hi : i < n.toNatClampNeg
        · rw [if_pos hi, if_pos hi]
          show _ = Value.ref (am_ad b c0 (h.2.1 + 1 + i))
          rw [am_adp (by omega)]
          show Value.ref (c0 + h.2.1 + 1 + i) = Value.ref (c0 + (h.2.1 + 1 + i))
          rw [show c0 + h.2.1 + 1 + i = c0 + (h.2.1 + 1 + i) by omega]
        · rw [if_neg hi, if_neg hi]
          rfl⟩
      have k9 := K H1 (locs ++ (List.range n.toNatClampNeg).map fun j => ⟨H.size, j⟩) ls (cells + 1 + n.toNatClampNeg) (slots + n.toNatClampNeg + n.toNatClampNeg * k.toNatClampNeg) ⟨b1.mk2 g3 g5 hout hin, b2, fun q hq => (g5 q (by omega)).trans (b3 q hq), fun x hx => by
        rcases List.mem_append.mp hx with hx | hx
        · exact b4 x hx
        · obtain ⟨i, -, rfl⟩ := List.mem_map.mp hx
          show c0 < H.size
          omega, by show h.2.1 + 1 + n.toNatClampNeg = _; omega, by show h.2.2 + n.toNatClampNeg + n.toNatClampNeg * k.toNatClampNeg = _; omega⟩
      dsimp only at k9
      rw [hnx] at k9
      have e9 : am_r b c0 (.ref h.2.1) = .ref H.size := by
        show Value.ref (am_ad b c0 h.2.1) = _
        rw [am_adp e2, e1]
      have k8 : W p l e R s m args below meth c H1 (locs ++ (List.range n.toNatClampNeg).map fun j => ⟨H.size, j⟩) (cells + 1 + n.toNatClampNeg) (slots + n.toNatClampNeg + n.toNatClampNeg * k.toNatClampNeg) Q (F0 m (pc + 4) ls (am_r b c0 (.ref h.2.1) :: r.map (am_r b c0))) := k9
      rw [e9] at k8
      exact k8
  · cases hn
end AMM
