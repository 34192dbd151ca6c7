/-! casts, a call by an abstract name, a row of longs copied -/
theorem sw_311 : Cond.methodLink RX11 311 ⟨RX9, "toldAs", "()I"⟩ ∈ gTbl := (gt4 82 rfl rfl)
theorem sw_same : Cond.sameMethod RX9 RX9 "toldAs" "()I" ∈ gTbl := (gt4 84 rfl rfl)
theorem sw_sel0 : Cond.selects RX0 ⟨RX9, "toldAs", "()I"⟩ yX0_toldAs ∈ gTbl := (gt4 85 rfl rfl)
theorem sw_ins0 : Cond.instanceMethod yX0_toldAs ∈ gTbl := (gt4 86 rfl rfl)
theorem sw_sel3 : Cond.selects RX3 ⟨RX9, "toldAs", "()I"⟩ yX3_toldAs ∈ gTbl := (gt4 88 rfl rfl)
theorem sw_ins3 : Cond.instanceMethod yX3_toldAs ∈ gTbl := (gt4 89 rfl rfl)
theorem sw_sel6 : Cond.selects RX6 ⟨RX9, "toldAs", "()I"⟩ yX6_toldAs ∈ gTbl := (gt4 91 rfl rfl)
theorem sw_ins6 : Cond.instanceMethod yX6_toldAs ∈ gTbl := (gt4 92 rfl rfl)
theorem sw_sel10 : Cond.selects RX10 ⟨RX9, "toldAs", "()I"⟩ yX10_toldAs ∈ gTbl := (gt4 94 rfl rfl)
theorem sw_ins10 : Cond.instanceMethod yX10_toldAs ∈ gTbl := (gt4 95 rfl rfl)
theorem sw_acl : Cond.methodLink RX11 364 arraycopyName ∈ gTbl := (gt4 158 rfl rfl)
theorem sw_acn : Cond.native arraycopyName ∈ gTbl := (gt4 160 rfl rfl)
theorem sw_acs : Cond.static arraycopyName ∈ gTbl := (gt4 159 rfl rfl)
theorem sw_aci : Cond.initialized "java/lang/System" ∈ gTbl := (gt1 17 rfl rfl)
theorem rcv_of {g : Gl} {σ : St} {H : Heap} {s : State} {a ci : Nat} {r : vw_C} (hKS : KS g s) (hH : HR g σ H) (ha : gl σ a = some (.inl ci)) (hr : vwCl[ci]? = some r) : ∃ cell : Cell, H[gad g a]? = some cell ∧ cell.vm.isStatics = false ∧ s.vm.findClass r.1 = some cell.cls := by
  obtain ⟨-, r', hr3, cell, q1, q2, q3, -⟩ := hH.2.2 a _ ha
  cases hr.symm.trans hr3
  exact ⟨cell, q1, by rw [q3]; rfl, by rw [q2]; exact ((ks_K hKS).1 ci r hr).2.1⟩
theorem V_instY {g : Gl} {mi : MI} {R : Room} {QF : QFT} {pc : Nat} {ls : List (Option MV)} {st : List MV} {k n idx a ci : Nat} {σ : St} {T : String} (hd : decode mi.1 pc = .ok (.instanceof idx, 3)) (hl0 : Cond.classLink mi.2.1.cls idx T ∈ gTbl) (ha : gl σ a = some (.inl ci)) (hr : ∃ r, vwCl[ci]? = some r ∧ r.1 = T)
    (kk : V g mi R QF (pc + 3) ls (vi 1 :: st) k n σ) : V g mi R QF pc ls (vq (some a) :: st) k n σ := by
  intro p e s m args below meth c H locs la C hH hS hl
  obtain ⟨r, h1, h2⟩ := hr
  subst h2
  exact va_instE C.1 C.2.1 C.2.2.2.2.1 (C.2.2.2.2.2.2.1 _ hl0) (rcv_of C.2.2.2.2.2.2.2.2 hH ha h1) hd (kk p e s m args below meth c H locs la C hH hS hl)
theorem V_castY {g : Gl} {mi : MI} {R : Room} {QF : QFT} {pc : Nat} {ls : List (Option MV)} {st : List MV} {k n idx a ci : Nat} {σ : St} {T : String} (hd : decode mi.1 pc = .ok (.checkcast idx, 3)) (hl0 : Cond.classLink mi.2.1.cls idx T ∈ gTbl) (ha : gl σ a = some (.inl ci)) (hr : ∃ r, vwCl[ci]? = some r ∧ r.1 = T)
    (kk : V g mi R QF (pc + 3) ls (vq (some a) :: st) k n σ) : V g mi R QF pc ls (vq (some a) :: st) k n σ := by
  intro p e s m args below meth c H locs la C hH hS hl
  obtain ⟨r, h1, h2⟩ := hr
  subst h2
  exact va_castE C.1 C.2.1 C.2.2.2.2.1 (C.2.2.2.2.2.2.1 _ hl0) (rcv_of C.2.2.2.2.2.2.2.2 hH ha h1) hd (kk p e s m args below meth c H locs la C hH hS hl)
theorem V_instNo {g : Gl} {mi : MI} {R : Room} {QF : QFT} {pc : Nat} {ls : List (Option MV)} {st : List MV} {k n idx a ci : Nat} {σ : St} {T : String} (hd : decode mi.1 pc = .ok (.instanceof idx, 3)) (hl0 : Cond.classLink mi.2.1.cls idx T ∈ gTbl) (ha : gl σ a = some (.inl ci)) (hr : ∃ r, vwCl[ci]? = some r ∧ (r.1, T) ∈ ncTbl)
    (kk : V g mi R QF (pc + 3) ls (vi 0 :: st) k n σ) : V g mi R QF pc ls (vq (some a) :: st) k n σ := by
  intro p e s m args below meth c H locs la C hH hS hl
  obtain ⟨r, h1, h2⟩ := hr
  exact va_instNo C.1 C.2.1 C.2.2.2.2.1 (C.2.2.2.2.2.2.1 _ hl0) (C.2.2.2.2.2.2.2.2.2.2.2.2.2.2.2.2.1 _ h2) (rcv_of C.2.2.2.2.2.2.2.2 hH ha h1) hd (kk p e s m args below meth c H locs la C hH hS hl)
theorem V_instN {g : Gl} {mi : MI} {R : Room} {QF : QFT} {pc : Nat} {ls : List (Option MV)} {st : List MV} {k n idx : Nat} {σ : St} (hd : decode mi.1 pc = .ok (.instanceof idx, 3))
    (kk : V g mi R QF (pc + 3) ls (vi 0 :: st) k n σ) : V g mi R QF pc ls (vq none :: st) k n σ := by
  intro p e s m args below meth c H locs la C hH hS hl
  exact lv_instN C.1 C.2.1 hd (kk p e s m args below meth c H locs la C hH hS hl)
theorem V_callU {g : Gl} {mi my : MI} {R : Room} {QF : QFT} {pc : Nat} {ls : List (Option MV)} {st : List MV} {k n d mc ms idx a ci : Nat} {σ : St} {post : Option MV → St → Prop} (hd : decode mi.1 pc = .ok (.invokevirtual idx, 3)) (hM : Ct g my d mc ms [vq (some a)] σ post)
    (hc : CS my 0 ∧ Cond.instanceMethod my.2.1 ∈ gTbl ∧ Cond.selects my.2.1.cls ⟨RX9, "toldAs", "()I"⟩ my.2.1 ∈ gTbl ∧ ∃ r, vwCl[ci]? = some r ∧ r.1 = my.2.1.cls) (hlk : Cond.methodLink mi.2.1.cls idx ⟨RX9, "toldAs", "()I"⟩ ∈ gTbl) (ha : gl σ a = some (.inl ci)) (hR : CR R d k n mc ms) (hw : wds st ≤ 8)
    (kk : ∀ (r : Option MV) (σ' : St), post r σ' → V g mi R QF (pc + 3) ls (r.toList ++ st) (k + mc) (n + ms) σ') : V g mi R QF pc ls (vq (some a) :: st) k n σ := by
  intro p e s m args below meth c H locs la C hH hS hl
  have hKS := C.2.2.2.2.2.2.2.2
  have hts := C.2.2.2.2.2.2.1
  have h5 := hc.1.2.2.2.2
  have hlo : 8 + (my.2.2.1 + 11) + (rmD d mc ms).locals ≤ R.locals := by
    have := hR.1.2
    show 8 + (my.2.2.1 + 11) + 41 * d ≤ R.locals
    omega
  obtain ⟨r, hr1, hr2⟩ := hc.2.2.2
  have hrc := rcv_of hKS hH ha hr1
  rw [hr2] at hrc
  refine V_back (av := (Value.ref (gad g a) :: ([] : List Value)).toArray) C hS hl ?_ kk
  refine va_runU (C := my.2.1.cls) (owner := RX9) (x := ⟨RX9, "toldAs", "()I"⟩) (b := gad g a) (As := []) (rest := st.map (rv g)) ⟨C.1, C.2.1, C.2.2.1, C.2.2.2.2.1, hts⟩ hM (n := 0) ⟨⟨rfl, rfl, hR.1.1, hlo, pay_in hts (gTbl_good hc.1.1), List.mem_cons_self⟩, hts _ hc.1.1, hts _ hc.1.2.1, ⟨by decide, by decide⟩, fun sig h => ?_, hts _ hlk, hts _ sw_same, va_Decl.abs hKS.2.2.2.2.2.2.2.2.2.2.2, hts _ hc.2.2.1, hts _ hc.2.1⟩ ⟨RelU.blind, hrc, fun U hU hW => ⟨rfl, RelU.of hKS hH hS U hU hW⟩⟩ rfl rfl hl.1 rfl ?_ hd hR.2
  · have h2 : (parseMethodDescriptor "()I").map (fun d => d.parameters.length) = some 0 := by decide +kernel
    have h3 : parseMethodDescriptor "()I" = some sig := h
    rw [h3] at h2
    exact (oinj h2).symm
  · show 2 * 0 + _ ≤ 8
    rw [wds_cat]; omega
