/-! returns, contracts, calls -/
theorem aoA_moved {u U : State} (hvm : u.vm.Alike U.vm) (h : va_Nw (.arrayOver (.array .int)) u) : va_Nw (.arrayOver (.array .int)) U := by
  have h1 : (Cond.arrayOver (.array .int)).before #[] (u.setVm U.vm) = true := by rw [Cond.arrayOver_setVmC hvm]; exact h
  simp only [Cond.before, Cond.holds, Cond.value] at h1
  simp only [va_Nw, Cond.before, Cond.holds, Cond.value]
  exact h1
theorem KS.same {g : Gl} {u U : State} (hv : u.vm = U.vm) (hh : U.heap = u.heap) (h : KS g u) : KS g U := by
  obtain ⟨h1, h2, h3, h4, h5, h6, h7, h8, h9, h10, h11, h12⟩ := h
  have hvm : u.vm.Alike U.vm := by rw [hv]; exact Vm.Alike.refl _
  refine ⟨h1, h2, by rw [hh]; exact h3, h4.moved hvm, fun a ha => ?_, fun a ha => ?_, fun q hq => (h7 q hq).same rfl hv, fun q hq => (h8 q hq).same rfl hv, fun q hq => (h9 q hq).moved hvm, fun q hq => (h10 q hq).moved hvm, aoA_moved hvm h11, h12.same rfl hv⟩
  · rw [hh]; exact (h5 a ha).moved hvm
  · rw [hh]; exact (h6 a ha).moved hvm
theorem KS.warm {g : Gl} {s U : State} (hW : s.WarmedH U.vm) (hz : s.heap.size ≤ U.heap.size) (hq : ∀ q : Nat, q < s.heap.size → ¬ gbs g ≤ q → U.heap[q]? = s.heap[q]?) (h : KS g s) : KS g U := by
  obtain ⟨h1, h2, h3, h4, h5, h6, h7, h8, h9, h10, h11, h12⟩ := h
  have hvm : s.vm.Alike U.vm := hW.alike
  refine ⟨h1, h2, Nat.le_trans h3 hz, h4.moved hvm, fun a ha => ?_, fun a ha => ?_, fun q hq => (h7 q hq).warmM hW, fun q hq => (h8 q hq).warmC hW, fun q hq => (h9 q hq).moved hvm, fun q hq => (h10 q hq).moved hvm, ?_, h12.warmD hW⟩
  · exact va_Z.moved hvm ((h5 a ha).kept hq)
  · exact va_T.moved hvm ((h6 a ha).kept hq)
  · exact aoA_moved hvm h11
theorem RelU.blind {g : Gl} {σ : St} {As : List Value} : FrameBlind (va_Pc As (RelU g σ)) := fun a U gf mk q => ⟨q.1, q.2.1.same rfl rfl, q.2.2⟩
theorem RelU.of {g : Gl} {σ : St} {s : State} {H : Heap} {locs : List Loc} (hK : KS g s) (hH : HR g σ H) (hS : va_S (fun q => gbs g ≤ q) s.heap H locs) (U : State) (hU : U.heap = H) (hW : s.WarmedH U.vm) : RelU g σ U :=
  ⟨hK.warm hW (by rw [hU]; exact hS.1) (by rw [hU]; exact hS.2.1), by rw [hU]; exact hH⟩
theorem V_iret {g : Gl} {mi : MI} {R : Room} {mc ms pc k n : Nat} {ls : List (Option MV)} {σ : St} {post : Option MV → St → Prop} {z : Int} (hd : decode mi.1 pc = .ok (.ireturn, 1)) (hr : mi.2.2.2 = some .int) (hk : k ≤ mc) (hn : n ≤ ms) (hp : post (some (vi z)) σ) : V g mi R (QM g mc ms post) pc ls [vi z] k n σ := by
  intro p e s m args below meth c H locs la C hH hS hl
  refine W.widen hk hn ?_
  exact W.iret (v := iI z) C.1 C.2.1 (C.2.2.2.1.trans hr) (fun t ht hW => ⟨⟨some (vi z), σ, rfl, hp, by rw [ht]; exact hH⟩, hS.F ht⟩) hS.2.2 hd C.2.2.2.2.2.2.2.1
theorem V_zret {g : Gl} {mi : MI} {R : Room} {mc ms pc k n : Nat} {ls : List (Option MV)} {σ : St} {post : Option MV → St → Prop} {z : Int} (hd : decode mi.1 pc = .ok (.ireturn, 1)) (hr : mi.2.2.2 = some .boolean) (hk : k ≤ mc) (hn : n ≤ ms) (hz : z = 0 ∨ z = 1) (hp : post (some (vi z)) σ) : V g mi R (QM g mc ms post) pc ls [vi z] k n σ := by
  intro p e s m args below meth c H locs la C hH hS hl
  refine W.widen hk hn ?_
  exact W.zret (v := iI z) C.1 C.2.1 (C.2.2.2.1.trans hr) (by rcases hz with rfl | rfl <;> rfl) (fun t ht hW => ⟨⟨some (vi z), σ, rfl, hp, by rw [ht]; exact hH⟩, hS.F ht⟩) hS.2.2 hd C.2.2.2.2.2.2.2.1
theorem V_lret {g : Gl} {mi : MI} {R : Room} {mc ms pc k n : Nat} {ls : List (Option MV)} {σ : St} {post : Option MV → St → Prop} {z : Int64} (hd : decode mi.1 pc = .ok (.lreturn, 1)) (hr : mi.2.2.2 = some .long) (hk : k ≤ mc) (hn : n ≤ ms) (hp : post (some (vl z)) σ) : V g mi R (QM g mc ms post) pc ls [vl z] k n σ := by
  intro p e s m args below meth c H locs la C hH hS hl
  refine W.widen hk hn ?_
  exact W.lret (v := z) C.1 C.2.1 (C.2.2.2.1.trans hr) (fun t ht hW => ⟨⟨some (vl z), σ, rfl, hp, by rw [ht]; exact hH⟩, hS.F ht⟩) hS.2.2 hd C.2.2.2.2.2.2.2.1
theorem V_vret {g : Gl} {mi : MI} {R : Room} {mc ms pc k n : Nat} {ls : List (Option MV)} {σ : St} {post : Option MV → St → Prop} (hd : decode mi.1 pc = .ok (.return_, 1)) (hr : mi.2.2.2 = none) (hk : k ≤ mc) (hn : n ≤ ms) (hp : post none σ) : V g mi R (QM g mc ms post) pc ls [] k n σ := by
  intro p e s m args below meth c H locs la C hH hS hl
  refine W.widen hk hn ?_
  exact W.vret C.1 C.2.1 (C.2.2.2.1.trans hr) (fun t ht hW => ⟨⟨none, σ, rfl, hp, by rw [ht]; exact hH⟩, hS.F ht⟩) hS.2.2 hd C.2.2.2.2.2.2.2.1
theorem V_aret {g : Gl} {mi : MI} {R : Room} {mc ms pc k n : Nat} {ls : List (Option MV)} {σ : St} {post : Option MV → St → Prop} {r : Option Nat} {C0 : String} (hd : decode mi.1 pc = .ok (.areturn, 1)) (hr : mi.2.2.2 = some (.object C0)) (hk : k ≤ mc) (hn : n ≤ ms) (hp : post (some (vq r)) σ) : V g mi R (QM g mc ms post) pc ls [vq r] k n σ := by
  intro p e s m args below meth c H locs la C hH hS hl
  refine W.widen hk hn ?_
  exact W.aret (v := rv g (vq r)) C.1 C.2.1 (C.2.2.2.1.trans hr) (Or.inl ⟨_, rfl⟩) (by cases r; exact Or.inl rfl; exact Or.inr ⟨_, rfl⟩) (fun t ht hW => ⟨⟨some (vq r), σ, rfl, hp, by rw [ht]; exact hH⟩, hS.F ht⟩) hS.2.2 hd C.2.2.2.2.2.2.2.1
/-- a contract out of the walk of the body -/
theorem Ct.of {g : Gl} {mi : MI} {d mc ms : Nat} {As : List MV} {σ : St} {post : Option MV → St → Prop} (hy : plainName mi.2.1.cls = true) (hlen : (entL As).length ≤ mi.2.2.1) (h : V g mi (rmD d mc ms) (QM g mc ms post) 0 (padL mi.2.2.1 (entL As)) [] 0 0 σ) : Ct g mi d mc ms As σ post := by
  refine Met.ofW (cc := mi.1) (maxL := mi.2.2.1) (ret := mi.2.2.2) hy rfl ?_
  intro p e s m args below meth c s₁ B hml hv
  obtain ⟨rfl, hKS, hHR⟩ := hv
  have hts0 := atoms_spec (ws := Cond.code mi.2.1 mi.1 mi.2.2.1 mi.2.2.2 :: gTbl) B.pre
  have hl := lv_entry (As.map (rv g)) (n := mi.2.2.1) (by rw [entL_len]; exact hlen)
  rw [lg_entry_eq]
  generalize (lg_sl (As.map (rv g)) ++ List.replicate (mi.2.2.1 - (lg_sl (As.map (rv g))).length) Slot.unset).toArray = la at hl ⊢
  refine h p e s m _ below meth c s.heap [] la ⟨B.exec, B.bytes, hml, B.returns, findClass_of_methodNamed B.named, (name_of_methodNamed B.named B.method).1, fun w hw => hts0 w (List.mem_cons_of_mem _ hw), B.notSynchronized, hKS⟩ hHR va_S.rf ?_
  unfold padL
  rw [lvl_app_none, lvl_ent]
  exact hl
/-- what the tables say of a method -/
def CS (my : MI) (np : Nat) : Prop := Cond.code my.2.1 my.1 my.2.2.1 my.2.2.2 ∈ gTbl ∧ Cond.initialized my.2.1.cls ∈ gTbl ∧ (my.2.1.cls ≠ "java/lang/invoke/MethodHandle" ∧ my.2.1.cls ≠ "java/lang/invoke/VarHandle") ∧ (parseMethodDescriptor my.2.1.desc).map (fun d => d.parameters.length) = some np ∧ my.2.2.1 ≤ 22
theorem gTbl_good {my : MI} (h : Cond.code my.2.1 my.1 my.2.2.1 my.2.2.2 ∈ gTbl) : GoodIn gTbl (Cond.code my.2.1 my.1 my.2.2.1 my.2.2.2 :: gTbl) := by
  intro w hw
  have hm : w ∈ gTbl := by
    rcases List.mem_cons.mp hw with e | e
    · rw [e]; exact h
    · exact e
  exact ⟨hm, good_of_word (List.mem_filter.mp hm).2⟩
theorem np_of {my : MI} {np : Nat} (h : CS my np) : ∀ sig, parseMethodDescriptor my.2.1.desc = some sig → np = sig.parameters.length := by
  intro sig hs
  have h2 := h.2.2.2.1
  rw [hs] at h2
  exact (Option.some.inj h2).symm
/-- behind a call -/
theorem V_back {g : Gl} {mi : MI} {R : Room} {QF : QFT} {pc : Nat} {ls : List (Option MV)} {st : List MV} {k n mc ms : Nat} {post : Option MV → St → Prop} {p : Program} {e : Env} {s : State} {m : MethodId} {args : Array Value} {below : List Frame} {meth : Method} {c : Code} {H : Heap} {locs : List Loc} {la : Array Slot} {stk : List Value} {av : Array Value}
    (C : Cx g mi p s m args meth c) (hS : va_S (fun q => gbs g ≤ q) s.heap H locs) (hl : lv_has la mi.2.2.1 (lvl g 0 ls))
    (hr : va_Run p g.1 e R s m args below meth c H locs k n mc ms (F0 m pc la stk) (st.map (rv g)) (QcP g post av) (fun q => gbs g ≤ q))
    (kk : ∀ (r : Option MV) (σ' : St), post r σ' → V g mi R QF (pc + 3) ls (r.toList ++ st) (k + mc) (n + ms) σ') : W p g.1 e R s m args below meth c H locs k n (QF s args below) (F0 m pc la stk) := by
  intro T hT X
  obtain ⟨v, st₀, t, T', L, h0, X', hL, e1, e2, ⟨⟨r, σ', hv, hp, hHR⟩, hz, hkp⟩, stp⟩ := hr T hT X
  cases hv
  rw [h0] at hz hkp
  have hS1 : va_S (fun q => gbs g ≤ q) s.heap T'.heap (locs ++ L) := ⟨Nat.le_trans hS.1 (by rw [e1]; exact hz), fun q h1 h2 => by rw [e1, hkp q (Nat.lt_of_lt_of_le h1 hS.1) h2]; exact hS.2.1 q h1 h2, fun q hq => by
      rcases List.mem_append.mp hq with h | h
      · exact hS.2.2 q h
      · exact hL q h⟩
  obtain ⟨t2, a1, b1⟩ := kk r σ' hp p e s m args below meth c T'.heap (locs ++ L) la C (by rw [e1]; exact hHR) hS1 hl T' rfl X'
  refine ⟨t2, stp t2 ?_, b1⟩
  have e3 : (r.toList ++ st).map (rv g) = (r.map (rv g)).toList ++ st.map (rv g) := by cases r <;> rfl
  rw [e3] at a1
  exact a1
/-- the room of a call -/
def CR (R : Room) (d k n mc ms : Nat) : Prop := (d + 1 ≤ R.frames ∧ 41 * (d + 1) ≤ R.locals) ∧ (k + mc ≤ R.cells ∧ n + ms ≤ R.slots)
def wds : List MV → Nat
  | [] => 0
  | .inr (.inl _) :: t => 2 + wds t
  | _ :: t => 1 + wds t
theorem wds_cat (g : Gl) : ∀ st : List MV, ((st.map (rv g)).map fun v => v.category).sum = wds st
  | [] => rfl
  | .inl z :: t => by
    show 1 + ((t.map (rv g)).map fun v => v.category).sum = 1 + wds t
    rw [wds_cat g t]
  | .inr (.inl x) :: t => by
    show 2 + ((t.map (rv g)).map fun v => v.category).sum = 2 + wds t
    rw [wds_cat g t]
  | .inr (.inr r) :: t => by
    show (rv g (vq r)).category + ((t.map (rv g)).map fun v => v.category).sum = 1 + wds t
    rw [wds_cat g t, rv_catq]
theorem map_rev (g : Gl) (As st : List MV) : (As.reverse ++ st).map (rv g) = (As.map (rv g)).reverse ++ st.map (rv g) := by
  rw [List.map_append, List.map_reverse]
theorem V_callS {g : Gl} {mi my : MI} {R : Room} {QF : QFT} {pc : Nat} {ls : List (Option MV)} {st stk : List MV} {k n d mc ms idx : Nat} {σ : St} {As : List MV} {post : Option MV → St → Prop} (hd : decode mi.1 pc = .ok (.invokestatic idx, 3)) (hM : Ct g my d mc ms As σ post)
    (hc : CS my As.length ∧ Cond.static my.2.1 ∈ gTbl ∧ (Cond.methodLink mi.2.1.cls idx my.2.1 ∈ gTbl ∨ (mi.2.1.cls, idx, my.2.1) ∈ mnTbl)) (hst : stk = As.reverse ++ st) (hR : CR R d k n mc ms) (hw : wds st ≤ 8)
    (kk : ∀ (r : Option MV) (σ' : St), post r σ' → V g mi R QF (pc + 3) ls (r.toList ++ st) (k + mc) (n + ms) σ') : V g mi R QF pc ls stk k n σ := by
  intro p e s m args below meth c H locs la C hH hS hl
  subst hst
  have hKS := C.2.2.2.2.2.2.2.2
  have hts := C.2.2.2.2.2.2.1
  have h5 := hc.1.2.2.2.2
  have hlo : 8 + (my.2.2.1 + 11) + (rmD d mc ms).locals ≤ R.locals := by
    have := hR.1.2
    show 8 + (my.2.2.1 + 11) + 41 * d ≤ R.locals
    omega
  refine V_back (av := (As.map (rv g)).toArray) C hS hl ?_ kk
  rw [map_rev]
  rcases hc.2.2 with hlk | hlk
  · refine va_runS (As := As.map (rv g)) (rest := st.map (rv g)) ⟨C.1, C.2.1, C.2.2.1, C.2.2.2.2.1, hts⟩ hM (n := As.length) ⟨⟨rfl, rfl, hR.1.1, hlo, pay_in hts (gTbl_good hc.1.1), List.mem_cons_self, hts _ hc.1.1, hts _ hc.1.2.1, hc.1.2.2.1, np_of hc.1, hts _ hlk⟩, hts _ hc.2.1⟩ ⟨RelU.blind, fun U hU hW => ⟨rfl, RelU.of hKS hH hS U hU hW⟩⟩ rfl (by simp) hl.1 rfl ?_ hd hR.2
    show 2 * 0 + _ ≤ 8
    rw [wds_cat]; omega
  · refine va_runSN (host := RX11) (As := As.map (rv g)) (rest := st.map (rv g)) ⟨C.1, C.2.1, C.2.2.1, C.2.2.2.2.1, hts⟩ hM (n := As.length) ⟨⟨⟨rfl, rfl, hR.1.1, hlo, pay_in hts (gTbl_good hc.1.1), List.mem_cons_self⟩, hts _ hc.1.1, hts _ hc.1.2.1, hc.1.2.2.1, np_of hc.1, va_Nw.use rfl (hKS.2.2.2.2.2.2.1 _ hlk)⟩, hts _ hc.2.1, trivial⟩ ⟨RelU.blind, fun U hU hW => ⟨rfl, RelU.of hKS hH hS U hU hW⟩⟩ rfl (by simp) hl.1 rfl ?_ hd hR.2
    show 2 * 0 + _ ≤ 8
    rw [wds_cat]; omega
theorem V_callV {g : Gl} {mi my : MI} {R : Room} {QF : QFT} {pc : Nat} {ls : List (Option MV)} {st stk : List MV} {k n d mc ms idx a ci : Nat} {σ : St} {As : List MV} {post : Option MV → St → Prop} (hd : decode mi.1 pc = .ok (.invokevirtual idx, 3)) (hM : Ct g my d mc ms (vq (some a) :: As) σ post)
    (hc : CS my As.length ∧ Cond.instanceMethod my.2.1 ∈ gTbl ∧ Cond.methodLink mi.2.1.cls idx my.2.1 ∈ gTbl ∧ Cond.selects my.2.1.cls my.2.1 my.2.1 ∈ gTbl ∧ ∃ r, vwCl[ci]? = some r ∧ r.1 = my.2.1.cls) (ha : gl σ a = some (.inl ci)) (hst : stk = As.reverse ++ vq (some a) :: st) (hR : CR R d k n mc ms) (hw : wds st ≤ 8)
    (kk : ∀ (r : Option MV) (σ' : St), post r σ' → V g mi R QF (pc + 3) ls (r.toList ++ st) (k + mc) (n + ms) σ') : V g mi R QF pc ls stk k n σ := by
  intro p e s m args below meth c H locs la C hH hS hl
  subst hst
  have hKS := C.2.2.2.2.2.2.2.2
  have hts := C.2.2.2.2.2.2.1
  have h5 := hc.1.2.2.2.2
  have hlo : 8 + (my.2.2.1 + 11) + (rmD d mc ms).locals ≤ R.locals := by
    have := hR.1.2
    show 8 + (my.2.2.1 + 11) + 41 * d ≤ R.locals
    omega
  obtain ⟨r, hr1, hr2⟩ := hc.2.2.2.2
  obtain ⟨-, r', hr3, cell, q1, q2, q3, -⟩ := hH.2.2 a _ ha
  cases hr1.symm.trans hr3
  have hcl := (ks_K hKS).1 ci r hr1
  refine V_back (av := (Value.ref (gad g a) :: As.map (rv g)).toArray) C hS hl ?_ kk
  rw [map_rev]
  refine va_runV (C := my.2.1.cls) (b := gad g a) (As := As.map (rv g)) (rest := st.map (rv g)) ⟨C.1, C.2.1, C.2.2.1, C.2.2.2.2.1, hts⟩ hM (n := As.length) ⟨⟨rfl, rfl, hR.1.1, hlo, pay_in hts (gTbl_good hc.1.1), List.mem_cons_self, hts _ hc.1.1, hts _ hc.1.2.1, hc.1.2.2.1, np_of hc.1, hts _ hc.2.2.1⟩, hts _ hc.2.1, hts _ hc.2.2.2.1⟩ ⟨RelU.blind, ⟨cell, q1, by rw [q3]; rfl, by rw [q2, ← hr2]; exact hcl.2.1⟩, fun U hU hW => ⟨rfl, RelU.of hKS hH hS U hU hW⟩⟩ rfl (by simp) hl.1 rfl ?_ hd hR.2
  show 2 * 0 + _ ≤ 8
  rw [wds_cat]; omega
/-- a constructor -/
theorem V_callI {g : Gl} {mi my : MI} {R : Room} {QF : QFT} {pc : Nat} {ls : List (Option MV)} {st stk : List MV} {k n d mc ms idx a : Nat} {σ : St} {As : List MV} {post : Option MV → St → Prop} (hd : decode mi.1 pc = .ok (.invokespecial idx, 3)) (hM : Ct g my d mc ms (vq (some a) :: As) σ post)
    (hc : CS my As.length ∧ my.2.2.2 = none ∧ my.2.1.name = "<init>" ∧ Cond.instanceMethod my.2.1 ∈ gTbl ∧ (Cond.methodLink mi.2.1.cls idx my.2.1 ∈ gTbl ∨ (mi.2.1.cls, idx, my.2.1) ∈ mnTbl)) (hst : stk = As.reverse ++ vq (some a) :: st) (hR : CR R d k n mc ms) (hw : wds st ≤ 8)
    (kk : ∀ (r : Option MV) (σ' : St), post r σ' → V g mi R QF (pc + 3) ls (r.toList ++ st) (k + mc) (n + ms) σ') : V g mi R QF pc ls stk k n σ := by
  intro p e s m args below meth c H locs la C hH hS hl
  subst hst
  have hKS := C.2.2.2.2.2.2.2.2
  have hts := C.2.2.2.2.2.2.1
  have h5 := hc.1.2.2.2.2
  have hlo : 8 + (my.2.2.1 + 11) + (rmD d mc ms).locals ≤ R.locals := by
    have := hR.1.2
    show 8 + (my.2.2.1 + 11) + 41 * d ≤ R.locals
    omega
  have hret := hc.2.1
  refine V_back (av := (Value.ref (gad g a) :: As.map (rv g)).toArray) C hS hl ?_ kk
  rw [map_rev]
  rcases hc.2.2.2.2 with hlk | hlk
  · refine va_runI (b := gad g a) (As := As.map (rv g)) (rest := st.map (rv g)) ⟨C.1, C.2.1, C.2.2.1, C.2.2.2.2.1, hts⟩ hM (n := As.length) (bytes := my.1) (maxL := my.2.2.1) ⟨⟨rfl, rfl, hR.1.1, hlo, pay_in hts (gTbl_good hc.1.1), by rw [← hret]; exact List.mem_cons_self, by rw [← hret]; exact hts _ hc.1.1, hts _ hc.1.2.1, hc.1.2.2.1, np_of hc.1, hts _ hlk⟩, hc.2.2.1, hts _ hc.2.2.2.1⟩ ⟨RelU.blind, fun U hU hW => ⟨rfl, RelU.of hKS hH hS U hU hW⟩⟩ rfl (by simp) hl.1 rfl ?_ hd hR.2
    show 2 * 0 + _ ≤ 8
    rw [wds_cat]; omega
  · refine va_runIN (host := RX11) (b := gad g a) (As := As.map (rv g)) (rest := st.map (rv g)) ⟨C.1, C.2.1, C.2.2.1, C.2.2.2.2.1, hts⟩ hM (n := As.length) (bytes := my.1) (maxL := my.2.2.1) ⟨⟨⟨rfl, rfl, hR.1.1, hlo, pay_in hts (gTbl_good hc.1.1), by rw [← hret]; exact List.mem_cons_self⟩, by rw [← hret]; exact hts _ hc.1.1, hts _ hc.1.2.1, hc.1.2.2.1, np_of hc.1, va_Nw.use rfl (hKS.2.2.2.2.2.2.1 _ hlk)⟩, hc.2.2.1, hts _ hc.2.2.2.1⟩ ⟨RelU.blind, fun U hU hW => ⟨rfl, RelU.of hKS hH hS U hU hW⟩⟩ rfl (by simp) hl.1 rfl ?_ hd hR.2
    show 2 * 0 + _ ≤ 8
    rw [wds_cat]; omega
theorem V_objInit {g : Gl} {mi : MI} {R : Room} {QF : QFT} {pc : Nat} {ls : List (Option MV)} {st : List MV} {k n idx a : Nat} {σ : St} (hd : decode mi.1 pc = .ok (.invokespecial idx, 3)) (hl0 : Cond.methodLink mi.2.1.cls idx objectInit ∈ gTbl) (hR : 1 ≤ R.frames ∧ 41 ≤ R.locals) (hw : wds st ≤ 8)
    (kk : V g mi R QF (pc + 3) ls st k n σ) : V g mi R QF pc ls (vq (some a) :: st) k n σ := by
  intro p e s m args below meth c H locs la C hH hS hl
  have hts := C.2.2.2.2.2.2.1
  refine W.objInit C.1 C.2.1 C.2.2.2.2.1 (hts _ hl0) (hts (.instanceMethod objectInit) (by decide +kernel)) (hts (.code objectInit ⟨#[0xb1]⟩ 1 none) (by decide +kernel)) rfl (by rw [C.2.2.1]; exact hl.1) rfl hd hR.1 ?_ (kk p e s m args below meth c H locs la C hH hS hl)
  show 2 * 0 + _ + 12 ≤ _
  rw [wds_cat]; omega
