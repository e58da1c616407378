/-! Words that go along with the state: links within a nest, arrays over arrays. -/
def am_Nd : List Jvm.Cond := [(Jvm.Cond.methodLinkNest "TypeStarts" (11 : Nat) ({ cls := "TypeStarts$Types", name := "<init>", desc := "()V" } : Jvm.MethodName) "TypeStarts"), (Jvm.Cond.arrayOver (Jvm.ClassFile.FieldType.array Jvm.ClassFile.FieldType.int)), (Jvm.Cond.methodLinkNest "TypeStarts$Run" (17 : Nat) ({ cls := "TypeStarts$Log", name := "<init>", desc := "()V" } : Jvm.MethodName) "TypeStarts"), (Jvm.Cond.methodLinkNest "TypeStarts$Search" (11 : Nat) ({ cls := "TypeStarts$Points", name := "<init>", desc := "()V" } : Jvm.MethodName) "TypeStarts"), (Jvm.Cond.methodLinkNest "TypeStarts$Search" (20 : Nat) ({ cls := "TypeStarts$Outcomes", name := "<init>", desc := "()V" } : Jvm.MethodName) "TypeStarts"), (Jvm.Cond.methodLinkNest "TypeStarts$Search" (56 : Nat) ({ cls := "TypeStarts", name := "memberAt", desc := "(II)I" } : Jvm.MethodName) "TypeStarts")]
def am_hard : Jvm.Cond → Bool
  | .methodLinkNest .. => true
  | .arrayOver (.array _) => true
  | _ => false
def am_N (U : State) : Prop := ∀ w ∈ am_Nd, w.before #[] U = true
theorem am_Nd_a : am_Nd.all am_hard = true := by decide +kernel
theorem am_Nd_h : ∀ w ∈ am_Nd, am_hard w = true := fun w hw => List.all_eq_true.mp am_Nd_a w hw
theorem am_hard_2 {w : Jvm.Cond} (h : am_hard w = true) : (∃ a i x o, w = .methodLinkNest a i x o) ∨ ∃ t, w = .arrayOver (.array t) := by
  unfold am_hard at h
  split at h
  · exact Or.inl ⟨_, _, _, _, rfl⟩
  · exact Or.inr ⟨_, rfl⟩
  · cases h
theorem am_hard_eq {w : Jvm.Cond} (h : am_hard w = true) {u U : State} (hvm : u.vm = U.vm) {A A' : Array Value} (hb : w.before A u = true) : w.before A' U = true := by
  rcases am_hard_2 h with ⟨a, i, x, o, rfl⟩ | ⟨t, rfl⟩
  · exact va_tabs rfl hvm hb
  · exact over_moved (by rw [hvm]; exact Vm.Alike.refl _) hb
theorem am_N.warm {s U : State} (h : am_N s) (hW : s.WarmedH U.vm) : am_N U := fun w hw => by
  have hb := h w hw
  rcases am_hard_2 (am_Nd_h w hw) with ⟨a, i, x, o, rfl⟩ | ⟨t, rfl⟩
  · exact va_Nw.warmM hW hb
  · exact over_moved hW.alike hb
theorem am_N.same {u U : State} (h : am_N u) (hvm : u.vm = U.vm) : am_N U := fun w hw => am_hard_eq (am_Nd_h w hw) hvm (h w hw)
