/-! calls on the whole world; empty worlds; folds over a part of a list -/
theorem lz_nilP {D : va_G} {cl : List vw_C} {H : Heap} : va_P D cl [] H := fun k q h => by simp at h
theorem lz_nilD {A : Nat → Prop} : va_D A [] := ⟨fun i j p q h => by simp at h, fun k q h => by simp at h⟩
section CM0
variable {p : Program} {l : Launch} {e : Env} {R : Room} {s : State} {m : MethodId} {args : Array Value} {below : List Frame} {meth : Method} {c : Code} {H : Heap} {locs : List Loc} {cells slots : Nat} {Q : State → Prop}
variable {D : va_G} {A : Nat → Prop} {mc ms pc : Nat} {st0 rest : List Value} {ls : Array Slot} {w : va_W}
theorem lz_cMi0 {post : Int32 → va_W → Prop} {a : Array Value} (hr : va_Run p l e R s m args below meth c H locs cells slots mc ms (F0 m pc ls st0) rest (va_Qi post (fun w1 t => va_P D vwCl w1 t.heap) (va_A w H.size) a) (va_A w H.size)) (hD : va_D A w) (hS : va_S A s.heap H locs) (hA : ∀ q, s.heap.size ≤ q → A q) (ha : ∀ r w1, post r w1 → w1.map Prod.fst = w.map Prod.fst)
    (kk : ∀ (r : Int32) (w1 : va_W) (H1 : Heap) (locs1 : List Loc), post r w1 → va_P D vwCl w1 H1 → va_D A w1 → va_S A s.heap H1 locs1 → W p l e R s m args below meth c H1 locs1 (cells + mc) (slots + ms) Q (F0 m (pc + 3) ls (.int r :: rest))) : W p l e R s m args below meth c H locs cells slots Q (F0 m pc ls st0) := by
  have hF := lz_freeA hD (List.Perm.of_eq (List.append_nil w).symm) hS hA
  refine va_calli hr hS (fun q _ h => hF q h) hF (fun r w1 t H1 locs1 ht hvm hpo hB hz hk hS => ?_)
  exact kk r w1 H1 locs1 hpo (by rw [← ht]; exact hB) (lz_addD (ha r w1 hpo) hD) hS
theorem lz_cMv0 {post : va_W → Prop} {a : Array Value} (hr : va_Run p l e R s m args below meth c H locs cells slots mc ms (F0 m pc ls st0) rest (va_Qv post (fun w1 t => va_P D vwCl w1 t.heap) (va_A w H.size) a) (va_A w H.size)) (hD : va_D A w) (hS : va_S A s.heap H locs) (hA : ∀ q, s.heap.size ≤ q → A q) (ha : ∀ w1, post w1 → w1.map Prod.fst = w.map Prod.fst)
    (kk : ∀ (w1 : va_W) (H1 : Heap) (locs1 : List Loc), post w1 → va_P D vwCl w1 H1 → va_D A w1 → va_S A s.heap H1 locs1 → W p l e R s m args below meth c H1 locs1 (cells + mc) (slots + ms) Q (F0 m (pc + 3) ls rest)) : W p l e R s m args below meth c H locs cells slots Q (F0 m pc ls st0) := by
  have hF := lz_freeA hD (List.Perm.of_eq (List.append_nil w).symm) hS hA
  refine va_callv hr hS (fun q _ h => hF q h) hF (fun w1 t H1 locs1 ht hvm hpo hB hz hk hS => ?_)
  exact kk w1 H1 locs1 hpo (by rw [← ht]; exact hB) (lz_addD (ha w1 hpo) hD) hS
end CM0
/-- places a .. b - 1 of a list -/
def seg {α : Type} (L : List α) (a b : Nat) : List α := (L.take b).drop a
theorem seg_self {α : Type} (L : List α) (a : Nat) : seg L a a = [] := by
  unfold seg
  rw [List.drop_eq_nil_iff, List.length_take]
  omega
theorem seg_succ {α : Type} {L : List α} {a b : Nat} {e : α} (hab : a ≤ b) (h : L[b]? = some e) : seg L a (b + 1) = seg L a b ++ [e] := by
  obtain ⟨hl, he⟩ := List.getElem?_eq_some_iff.mp h
  unfold seg
  rw [List.take_add_one, h, List.drop_append_of_le_length (by rw [List.length_take]; omega)]
  rfl
theorem seg_mem {α : Type} {L : List α} {a b : Nat} {e : α} (h : e ∈ seg L a b) : e ∈ L := List.mem_of_mem_take (List.mem_of_mem_drop h)
theorem seg_all {α : Type} (L : List α) : seg L 0 L.length = L := by
  unfold seg
  rw [List.take_length, List.drop_zero]
theorem lz_rightD {A : Nat → Prop} {w w' : va_W} (h : va_D A (w ++ w')) : va_D A w' := by
  have h1 := va_D_iff.mp h
  rw [List.map_append] at h1
  exact va_D_iff.mpr ⟨(List.nodup_append.mp h1.1).2.1, fun q hq => h1.2 q (List.mem_append_right _ hq)⟩
