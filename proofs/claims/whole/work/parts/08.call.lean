/-! A call, and a method's whole run. -/
def am_rm (d mc ms : Nat) : Room := { frames := d, cells := mc, slots := ms, locals := d * 36 }
def am_Pc (D : va_G) (cl : List vw_C) (tys : List (ClassId × FieldType)) (b c0 L : Nat) (xs : Nat → Int32) (as : List Value) (h : am_H) : Array Value → State → Prop := fun v U => v = (as.map (am_r b c0)).toArray ∧ am_R D cl tys b c0 L xs U h U.heap ∧ am_N U
def am_Qc (D : va_G) (cl : List vw_C) (tys : List (ClassId × FieldType)) (b c0 L : Nat) (xs : Nat → Int32) (r : Option Value) (h : am_H) : Array Value → State → Outcome → State → Prop := fun _ st o t => o = .returned (r.map (am_r b c0)) ∧ am_R D cl tys b c0 L xs t h t.heap ∧ ∀ q, q ≤ c0 → t.heap[q]? = st.heap[q]?
theorem am_blind {D : va_G} {cl : List vw_C} {tys : List (ClassId × FieldType)} {b c0 L : Nat} {xs : Nat → Int32} {as : List Value} {h : am_H} : FrameBlind (am_Pc D cl tys b c0 L xs as h) :=
  fun a U g mk q => ⟨q.1, am_R.moved (u := U) (U := U.calling g mk a) (Vm.Alike.refl U.vm) q.2.1, q.2.2.same rfl⟩
abbrev am_wsM (Tb : List Jvm.Cond) (M : am_M) : List Jvm.Cond := Jvm.Cond.code M.1 M.2.1 M.2.2.1 M.2.2.2.1 :: Tb
/-- a method's contract out of its run -/
def am_Met (l : Launch) (Tb : List Jvm.Cond) (D : va_G) (cl : List vw_C) (tys : List (ClassId × FieldType)) (b c0 L : Nat) (xs : Nat → Int32) (d : Nat) (M : am_M) (as : List Value) (h : am_H) (r : Option Value) (h1 : am_H) : Prop :=
  (h.2.1 ≤ h1.2.1 ∧ h.2.2 ≤ h1.2.2) ∧ Met l M.1 (am_wsM Tb M) (am_rm d (h1.2.1 - h.2.1) (h1.2.2 - h.2.2)) (am_Pc D cl tys b c0 L xs as h) (am_Qc D cl tys b c0 L xs r h1) (h1.2.1 - h.2.1) (h1.2.2 - h.2.2) (fun q => c0 < q)
theorem am_next_mono {df : Nat → List Value} {e : am_I} {j : Nat} {lv : am_L} {st : List Value} {h : am_H} {X : am_C} (hn : am_next df e j lv st h = some X) : h.2.1 ≤ X.2.2.2.2.1 ∧ h.2.2 ≤ X.2.2.2.2.2 := by
  obtain ⟨pc, len, i, a, b', c', d', q⟩ := e
  cases i <;> first
    | (change none = some X at hn; cases hn; done)
    | (simp only [am_next, am_op, am_i1, am_i2, am_l1, am_l2, am_li, am_r1, am_ir, am_vr, am_iir, am_lir, am_v1, am_v2, am_nl, am_ldi, am_ldl, am_lda, am_inc, am_ai, am_ab, am_al, am_aq, am_al0, am_ob, am_fd, am_br, am_tg] at hn
       repeat' split at hn
       all_goals first
         | (cases hn; exact ⟨Nat.le_refl _, Nat.le_refl _⟩)
         | (cases hn; exact ⟨Nat.le_succ _, Nat.le_add_right _ _⟩)
         | (cases hn; simp only [am_mk2]; exact ⟨by omega, by omega⟩)
         | cases hn)
theorem am_loop_mono {df : Nat → List Value} {orc : Nat → List Value → am_H → Option (Option Value × am_H)} {code : List am_I} (ho : ∀ (z : Nat) (as : List Value) (h : am_H) (r : Option Value) (h1 : am_H), orc z as h = some (r, h1) → h.2.1 ≤ h1.2.1 ∧ h.2.2 ≤ h1.2.2) : ∀ (k : Nat) (X : am_C) (r : Option Value) (h1 : am_H), am_loop df orc code k X = some (r, h1) → X.2.2.2.2.1 ≤ h1.2.1 ∧ X.2.2.2.2.2 ≤ h1.2.2 := by
  intro k
  induction k with
  | zero => intro X r h1 hl; cases hl
  | succ k ih =>
    intro X r h1 hl
    obtain ⟨j, lv, st, h⟩ := X
    unfold am_loop at hl
    split at hl
    · cases hl
    · rename_i e he
      split at hl
      · cases hx : am_next df e j lv st h with
        | none => rw [hx] at hl; cases hl
        | some Y =>
          rw [hx] at hl
          have h2 := am_next_mono hx
          have h3 := ih Y r h1 hl
          exact ⟨Nat.le_trans h2.1 h3.1, Nat.le_trans h2.2 h3.2⟩
      · cases hx : am_ret e st with
        | none => rw [hx] at hl; cases hl
        | some v =>
          rw [hx] at hl
          cases hl
          exact ⟨Nat.le_refl _, Nat.le_refl _⟩
      · split at hl
        · cases hx : orc (am_a e) (st.take (am_b e)).reverse h with
          | none => rw [hx] at hl; cases hl
          | some v =>
            rw [hx] at hl
            obtain ⟨v1, v2⟩ := v
            have h2 := ho _ _ _ _ _ hx
            have h3 := ih _ r h1 hl
            exact ⟨Nat.le_trans h2.1 h3.1, Nat.le_trans h2.2 h3.2⟩
        · cases hl
section AMS
variable {p : Program} {l : Launch} {e : Env} {R : Room} {s : State} {m : MethodId} {args : Array Value} {below : List Frame} {meth : Method} {c : Code} {Q : State → Prop}
variable {cc : ByteArray} {D : va_G} {cl : List vw_C} {tys : List (ClassId × FieldType)} {b c0 L : Nat} {xs : Nat → Int32} {h0 h : am_H} {nL : Nat} {own nm : String} {Tb : List Jvm.Cond}
variable {H : Heap} {locs : List Loc} {ls : Array Slot} {cells slots : Nat} {lv : am_L} {st rest : List Value} {j pc : Nat} {X : am_C}
variable {wd : Nat → Option Jvm.Cond} {tyL : List FieldType} {df : Nat → List Value} {MT : List am_M} {ret : Option FieldType} {code : List am_I}
theorem am_callX {mc ms : Nat} {Qa : State → Outcome → State → Prop} {st0 : List Value} (hr : va_Run p l e R s m args below meth c H locs cells slots mc ms (F0 m pc ls st0) rest Qa (fun q => c0 < q))
    (kk : ∀ (v : Option Value) (st₀ t : State) (L1 : List Loc), st₀.heap = H → s.vm.Alike t.vm → Qa st₀ (.returned v) t → (∀ x ∈ L1, c0 < x.base) → W p l e R s m args below meth c t.heap (locs ++ L1) (cells + mc) (slots + ms) Q (F0 m (pc + 3) ls (v.toList ++ rest))) : W p l e R s m args below meth c H locs cells slots Q (F0 m pc ls st0) := by
  intro T hT X
  obtain ⟨v, st₀, t, T', L1, g0, X', hL, e1, e2, hq, st⟩ := hr T hT X
  obtain ⟨t2, a1, b1⟩ := kk v st₀ t L1 g0 (by rw [← e2]; exact X'.warmed.alike) hq hL T' e1 X'
  exact ⟨t2, st t2 a1, b1⟩
/-- behind a call -/
theorem am_back {pcs : Nat → Nat} {r : Option Value} {h1 : am_H} {a : Array Value} {st0 : List Value} (hm : h.2.1 ≤ h1.2.1 ∧ h.2.2 ≤ h1.2.2) (hnx : pcs (j + 1) = pc + 3) (hB : am_B D cl tys b c0 L xs s h0 nL h lv H locs ls cells slots) (K : am_K p l e R s m args below meth c Q D cl tys b c0 L xs h0 nL pcs (j + 1, lv, r.toList ++ rest, h1))
    (hr : va_Run p l e R s m args below meth c H locs cells slots (h1.2.1 - h.2.1) (h1.2.2 - h.2.2) (F0 m pc ls st0) (rest.map (am_r b c0)) (am_Qc D cl tys b c0 L xs r h1 a) (fun q => c0 < q)) : W p l e R s m args below meth c H locs cells slots Q (F0 m pc ls st0) := by
  refine am_callX hr (fun v st₀ t L1 e1 hv hq hL => ?_)
  obtain ⟨q1, q2, q3⟩ := hq
  cases q1
  obtain ⟨b1, b2, b3, b4, b5, b6⟩ := hB
  have k9 := K t.heap (locs ++ L1) ls (cells + (h1.2.1 - h.2.1)) (slots + (h1.2.2 - h.2.2)) ⟨q2.moved hv.symm, b2, fun q hq => (q3 q hq).trans (by rw [e1]; exact b3 q hq), fun x hx => by
    rcases List.mem_append.mp hx with hx | hx
    · exact b4 x hx
    · exact hL x hx, by show h1.2.1 = _; omega, by show h1.2.2 = _; omega⟩
  dsimp only at k9
  rw [hnx] at k9
  cases r with
  | none => exact k9
  | some r => exact k9
theorem am_goodIn (hG : ∀ w ∈ Tb, goodWord w = true) {x : Jvm.Cond} (hx : x ∈ Tb) : GoodIn Tb (x :: Tb) := by
  intro w hw
  have h1 : w ∈ Tb := by
    rcases List.mem_cons.mp hw with h1 | h1
    · rw [h1]; exact hx
    · exact h1
  exact ⟨h1, good_of_word (hG w h1)⟩
/-- what the program decides of a callee, and what its call asks of the room -/
theorem am_okB {E : am_I} {idx n d mc ms : Nat} {M : am_M} (hG : ∀ w ∈ Tb, goodWord w = true) (C : CallFix p m c cc nL s args Tb own) (hM : MT[am_a E]? = some M) (hwd : ∀ (q : Nat) (w : Jvm.Cond), wd q = some w → am_hard w = false → w ∈ Tb) (hwn : ∀ (q : Nat) (w : Jvm.Cond), wd q = some w → am_hard w = true → w ∈ am_Nd) (hN : am_N s) (hok : am_okC wd MT own E idx n = true) (hR : d + 1 ≤ R.frames ∧ (d + 1) * 36 ≤ R.locals) :
    CallB R s args own idx M.1 M.2.1 M.2.2.1 M.2.2.2.1 (am_wsM Tb M) (am_rm d mc ms) mc ms n ∨ ∃ host, va_CN R s args own idx M.1 host M.2.1 M.2.2.1 M.2.2.2.1 (am_wsM Tb M) (am_rm d mc ms) mc ms n := by
  obtain ⟨y, bytes, maxL, ret, pos, code1⟩ := M
  unfold am_okC at hok
  rw [hM] at hok
  simp only [Bool.and_eq_true, decide_eq_true_eq] at hok
  obtain ⟨⟨⟨⟨h1, h2⟩, h3⟩, h4⟩, h5⟩ := hok
  have hroom : (am_rm d mc ms).frames + 1 ≤ R.frames ∧ 8 + (maxL + 11) + (am_rm d mc ms).locals ≤ R.locals := by
    have hR1 := hR.1
    have hR2 := hR.2
    simp only [am_rm]
    omega
  have hcd : Jvm.Cond.code y bytes maxL ret ∈ Tb := hwd _ _ h1 rfl
  split at h5
  · rename_i o i y2 hq
    simp only [decide_eq_true_eq] at h5
    obtain ⟨rfl, rfl, rfl⟩ := h5
    exact Or.inl (callB_of n C.2.2.2.2 (am_goodIn hG hcd) rfl rfl rfl (C.2.2.2.2 _ (hwd _ _ h2 rfl)) (C.2.2.2.2 _ (hwd _ _ hq rfl)) h3 hroom)
  · rename_i o i y2 host hq
    simp only [decide_eq_true_eq] at h5
    obtain ⟨rfl, rfl, rfl⟩ := h5
    exact Or.inr ⟨host, va_cnB n C.2.2.2.2 (am_goodIn hG hcd) rfl rfl rfl (hN _ (hwn _ _ hq rfl)) (C.2.2.2.2 _ (hwd _ _ h2 rfl)) h3 hroom⟩
  · cases h5
end AMS
