/-! the law's end -/
theorem law_end {g : Gl} {s t : State} {args : Array Value} {below : List Frame} (hb : gbs g = s.heap.size) (h : QM g 600000 7302250 lwQ s args below t) : ∃ o, t.status = .running ∧ Ended t below o ∧ o = .returned (some (.int 1)) ∧ Framed s o t [] 600000 7302250 := by
  obtain ⟨o, h1, h2, ⟨⟨r, σ', ho, hr, -⟩, -⟩, L, hFE, hf⟩ := h
  refine ⟨o, h1, h2, ?_, ?_⟩
  · rw [ho, show r = some (vi 1) from hr]
    rfl
  · obtain ⟨e1, e2, f1, f2, f3, f4, f5, f6⟩ := hFE
    refine ⟨e1, e2, f1, f2, f3, f4, f5, fun a c hc => ?_⟩
    obtain ⟨c', g1, g2, g3, g4⟩ := f6 a c hc
    refine ⟨c', g1, g2, g3, fun i _ => g4 i (fun hm => ?_)⟩
    have hq : gbs g ≤ a := hf _ hm
    have hlt := (Array.getElem?_eq_some_iff.mp hc).1
    omega
theorem W_imp {p : Program} {l : Launch} {e : Env} {R : Room} {s : State} {m : MethodId} {args : Array Value} {below : List Frame} {meth : Method} {c : Code} {H : Heap} {locs : List Loc} {k n : Nat} {Q Q' : State → Prop} {f : JFrame} (kk : W p l e R s m args below meth c H locs k n Q f) (h : ∀ t, Q t → Q' t) : W p l e R s m args below meth c H locs k n Q' f := by
  intro T hT X
  obtain ⟨t, a, q⟩ := kk T hT X
  exact ⟨t, a, h t q⟩
/-- the law, once the tables' words stand -/
theorem law_W {p : Program} {e : Env} {s : State} {m : MethodId} {below : List Frame} {meth : Method} {c : Code} (g : Gl) (b : Nat) (hL : gL0 g ≤ 3072) (hg4 : gad g 4 = b) (hb : gbs g = s.heap.size) (hg8 : gad g 8 = s.heap.size) (C : Cx g mL_law p s m #[Value.ref b] meth c) : W p g.1 e room_1 s m #[Value.ref b] below meth c s.heap [] 0 0 (fun t => ∃ o, t.status = .running ∧ Ended t below o ∧ o = .returned (some (.int 1)) ∧ Framed s o t [] 600000 7302250) (entryFrame m ([Value.ref b] : List Value).toArray 4) := by
  subst hg4
  refine W_imp (Q := QM g 600000 7302250 lwQ s #[Value.ref (gad g 4)] below) ?_ (fun t h => law_end hb h)
  have hv := law_V g hL
  have hl := lv_entry [Value.ref (gad g 4)] (n := mL_law.2.2.1) (show 1 ≤ 4 by decide)
  rw [lg_entry_eq]
  generalize (lg_sl [Value.ref (gad g 4)] ++ List.replicate (4 - (lg_sl [Value.ref (gad g 4)]).length) Slot.unset).toArray = la at hl ⊢
  exact hv p e s m #[Value.ref (gad g 4)] below meth c s.heap [] la C ⟨hg8.symm, Nat.le_refl _, fun a sh h => by cases h⟩ va_S.rf hl
