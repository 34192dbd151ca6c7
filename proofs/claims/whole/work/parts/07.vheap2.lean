/-! writes of fields, references in arrays, new things, arrays that nobody writes -/
/-- a field that may be written by a method of this name: an int -/
def PF (own nm : String) (idx ci k : Nat) (ds : String) : Prop := FL own idx ci k ∧ ∃ r : vw_C, vwCl[ci]? = some r ∧ (r.2.1 k).2.2.1 = ds ∧ ((r.2.1 k).2.2.2 = false ∨ ((r.2.1 k).2.2.2 = true ∧ nm = "<init>" ∧ (r.2.1 k).1 = own))
def clsTy (ci k : Nat) : FieldType := match ci with
  | 0 => tyX0 k | 1 => tyX1 k | 2 => tyX2 k | 3 => tyX3 k | 4 => tyX4 k | 5 => tyX5 k | 6 => tyX6 k | 7 => tyX7 k | 8 => tyX8 k | 9 => tyX10 k | 10 => tyX11 k | _ => tyX12 k
theorem cls_ok : ∀ (ci : Nat) (r : vw_C), vwCl[ci]? = some r → (∀ k, k < r.2.2 → parseFieldDescriptor (r.2.1 k).2.2.1 = some (clsTy ci k)) ∧ (∀ a, a < r.2.2 → ∀ b, b < r.2.2 → a ≠ b → (r.2.1 a).2.1 ≠ (r.2.1 b).2.1)
  | 0, r, h => by cases h; exact ⟨tyX0_ok, nmX0⟩
  | 1, r, h => by cases h; exact ⟨tyX1_ok, nmX1⟩
  | 2, r, h => by cases h; exact ⟨tyX2_ok, nmX2⟩
  | 3, r, h => by cases h; exact ⟨tyX3_ok, nmX3⟩
  | 4, r, h => by cases h; exact ⟨tyX4_ok, nmX4⟩
  | 5, r, h => by cases h; exact ⟨tyX5_ok, nmX5⟩
  | 6, r, h => by cases h; exact ⟨tyX6_ok, nmX6⟩
  | 7, r, h => by cases h; exact ⟨tyX7_ok, nmX7⟩
  | 8, r, h => by cases h; exact ⟨tyX8_ok, nmX8⟩
  | 9, r, h => by cases h; exact ⟨tyX10_ok, nmX10⟩
  | 10, r, h => by cases h; exact ⟨tyX11_ok, nmX11⟩
  | 11, r, h => by cases h; exact ⟨tyX12_ok, nmX12⟩
  | n + 12, r, h => by simp [vwCl] at h
theorem V_putV {g : Gl} {mi : MI} {R : Room} {QF : QFT} {pc : Nat} {ls : List (Option MV)} {st : List MV} {k n : Nat} {σ σ' : St} {idx ci f a : Nat} {v : MV} {ds : String} {ty : FieldType} (hd : decode mi.1 pc = .ok (.putfield idx, 3)) (hF : PF mi.2.1.cls mi.2.1.name idx ci f ds) (ha : gl σ a = some (.inl ci))
    (hty : parseFieldDescriptor ds = some ty) (hn : narrow ty (rv g v) = rv g v) (hfit : fits ty (rv g v) = true)
    (e1 : gl σ' = gl σ) (e2 : gn σ' = gn σ) (e3 : ∀ b, b ≠ a → gG σ' b = gG σ b ∧ gL σ' b = gL σ b ∧ gP σ' b = gP σ b) (e4 : ∀ j, fvr ci j (gG σ' a) (gP σ' a) = if j = f then v else fvr ci j (gG σ a) (gP σ a))
    (kk : V g mi R QF (pc + 3) ls st k n σ') : V g mi R QF pc ls (v :: vq (some a) :: st) k n σ := by
  intro p e s m args below meth c H locs la C hH hS hl
  obtain ⟨⟨r, h1, h2, h3, h4⟩, r0, h5, hds, hfin⟩ := hF
  cases h1.symm.trans h5
  obtain ⟨ha8, r', h5, cell, q1, q2, q3, q4⟩ := hH.2.2 a _ ha
  cases h1.symm.trans h5
  have hK := ks_K C.2.2.2.2.2.2.2.2
  have hg := ks_ok C.2.2.2.2.2.2.2.2
  obtain ⟨hSl, hfc, kC, hkC, hkind⟩ := hK.1 ci _ h1
  obtain ⟨cf, kf, fi, fd, hi, hsl⟩ := hSl f h2
  have hts := C.2.2.2.2.2.2.1
  obtain ⟨hc1, hc2⟩ := cls_ok ci _ h1
  have hap := va_apart (own := r.1) (C := r.1) (T := r.2.1) (N := r.2.2) hts h4 (clsTy ci) hc1 hc2 hK h1
  have hst := (u_facts hfc hkC (u_lays hts h4 h2) hi).1
  have hlay := hts _ (h4 _ (u_in_lay h2))
  have fin : ∀ H1 : Heap, H1[gad g a]? = some (cell.setSlot fd.slot (rv g v)) → H1.size = H.size → (∀ q, q ≠ gad g a → H1[q]? = H[q]?) → HR g σ' H1 := by
    intro H1 x1 x2 x3
    refine hH.set hg ha x2 x3 e1 e2 e3 ⟨r, h1, ?_⟩
    rw [hsl] at x1
    refine t_OB.to (V := updV (fun j => rv g (fvr ci j (gG σ a) (gP σ a))) f (rv g v)) ⟨_, x1, q2, q3, t_set q4 hap h2 _⟩ (fun j _ => ?_)
    rw [e4 j]
    by_cases hj : j = f
    · subst hj; simp [updV]
    · simp [updV, hj]
  rcases hfin with hfin | ⟨hfin, hnm, hdecl⟩
  · unfold u_lay at hlay
    rw [if_neg (by rw [hfin]; decide)] at hlay
    have h6 := u_store hfc hkC hkind hlay hi (by rw [hds]; exact hty) hn hfit
    refine W.putK C.1 C.2.1 (f := fd) ⟨C.2.2.2.2.1, hts _ h3, ⟨_, _, _, hi⟩, hst⟩ (by rw [q2]; exact h6) q1 q3 (by rw [hsl]; exact k2_hasslot (q4 f h2)) rfl rfl hd fun H1 x1 x2 x3 => ?_
    exact kk p e s m args below meth c H1 _ la C (fin H1 x1 x2 x3) (vaS_put hg ha8.1 hS x2 x3) hl
  · unfold u_lay at hlay
    rw [if_pos hfin] at hlay
    have hcf : m.cls = cf := by
      obtain ⟨_, _, c', _, _, _, -, -, hf', -, -, -, hown2, -⟩ := Cond.laysFinal_spec hlay
      have x1 : c' = cf := by have := hi.symm.trans hf'; simp at this; exact this.1.symm
      have hown := C.2.2.2.2.1
      rw [hdecl] at hown2
      rw [← x1]; exact Option.some.inj (hown.symm.trans hown2)
    have h6 := u_fits hfc hkC hkind (Or.inr hlay) hi (by rw [hds]; exact hty) hn hfit
    refine W.putFinK C.1 C.2.1 C.2.2.2.2.1 (hts _ h3) hi hst hcf (by rw [C.2.2.2.2.2.1]; exact hnm) (by rw [q2]; exact h6) q1 q3 (by rw [hsl]; exact k2_hasslot (q4 f h2)) rfl rfl hd fun H1 x1 x2 x3 => ?_
    exact kk p e s m args below meth c H1 _ la C (fin H1 x1 x2 x3) (vaS_put hg ha8.1 hS x2 x3) hl
theorem V_puti {g : Gl} {mi : MI} {R : Room} {QF : QFT} {pc : Nat} {ls : List (Option MV)} {st : List MV} {k n : Nat} {σ : St} {idx ci f a : Nat} {x : Int} (hd : decode mi.1 pc = .ok (.putfield idx, 3)) (hF : PF mi.2.1.cls mi.2.1.name idx ci f "I") (hk : fk ci f = 0) (ha : gl σ a = some (.inl ci))
    (kk : V g mi R QF (pc + 3) ls st k n (setG σ a f x)) : V g mi R QF pc ls (vi x :: vq (some a) :: st) k n σ := by
  refine V_putV (σ' := setG σ a f x) (ty := .int) hd hF ha (by decide +kernel) rfl rfl rfl rfl (fun b hb => ⟨by unfold setG; rw [gG_setA, if_neg hb], rfl, rfl⟩) (fun j => ?_) kk
  unfold setG
  rw [gG_setA, if_pos rfl, gP_setA]
  by_cases hj : j = f
  · subst hj
    simp [fvr, hk, up1]
  · simp [fvr, up1, hj]
theorem V_putz {g : Gl} {mi : MI} {R : Room} {QF : QFT} {pc : Nat} {ls : List (Option MV)} {st : List MV} {k n : Nat} {σ : St} {idx ci f a : Nat} {x : Int} (hd : decode mi.1 pc = .ok (.putfield idx, 3)) (hF : PF mi.2.1.cls mi.2.1.name idx ci f "Z") (hk : fk ci f = 0) (ha : gl σ a = some (.inl ci)) (hx : x = 0 ∨ x = 1)
    (kk : V g mi R QF (pc + 3) ls st k n (setG σ a f x)) : V g mi R QF pc ls (vi x :: vq (some a) :: st) k n σ := by
  refine V_putV (σ' := setG σ a f x) (ty := .boolean) hd hF ha (by decide +kernel) (by rcases hx with rfl | rfl <;> rfl) (by rcases hx with rfl | rfl <;> rfl) rfl rfl (fun b hb => ⟨by unfold setG; rw [gG_setA, if_neg hb], rfl, rfl⟩) (fun j => ?_) kk
  unfold setG
  rw [gG_setA, if_pos rfl, gP_setA]
  by_cases hj : j = f
  · subst hj
    simp [fvr, hk, up1]
  · simp [fvr, up1, hj]
theorem V_putr {g : Gl} {mi : MI} {R : Room} {QF : QFT} {pc : Nat} {ls : List (Option MV)} {st : List MV} {k n : Nat} {σ : St} {idx ci f a b : Nat} {ds : String} {ty : FieldType} (hd : decode mi.1 pc = .ok (.putfield idx, 3)) (hF : PF mi.2.1.cls mi.2.1.name idx ci f ds) (hty : parseFieldDescriptor ds = some ty) (hr : ty.isReference = true) (hk : ¬ fk ci f = 0) (ha : gl σ a = some (.inl ci))
    (kk : V g mi R QF (pc + 3) ls st k n (setP σ a (up1 (gP σ a) f (some b)))) : V g mi R QF pc ls (vq (some b) :: vq (some a) :: st) k n σ := by
  refine V_putV (σ' := setP σ a (up1 (gP σ a) f (some b))) (ty := ty) hd hF ha hty ?_ ?_ rfl rfl (fun b hb => ⟨rfl, rfl, by rw [gP_setP, if_neg hb]⟩) (fun j => ?_) kk
  · cases ty <;> first | rfl | (cases hr)
  · cases ty <;> first | rfl | (cases hr)
  · rw [gP_setP, if_pos rfl, gG_setP]
    by_cases hj : j = f
    · subst hj
      simp [fvr, hk, up1]
    · simp [fvr, up1, hj]
/-- a reference into an array of its own class, or of things -/
def elTy (g : Gl) (t : Nat) : String := match t with | 3 => RX6 | 4 => RX3 | 5 => RX0 | _ => RX9
theorem V_aastN {g : Gl} {mi : MI} {R : Room} {QF : QFT} {pc : Nat} {ls : List (Option MV)} {st : List MV} {k n : Nat} {σ : St} {a t N : Nat} {i : Int} (hd : decode mi.1 pc = .ok (.aastore, 1)) (ha : gl σ a = some (.inr (t, N))) (h3 : 3 ≤ t) (h7 : t < 7) (hi : 0 ≤ i ∧ i < N)
    (kk : V g mi R QF (pc + 1) ls st k n (setP σ a (up1 (gP σ a) i.toNat none))) : V g mi R QF pc ls (vq none :: vi i :: vq (some a) :: st) k n σ := by
  intro p e s m args below meth c H locs la C hH hS hl
  obtain ⟨ha8, h8, hN, hc⟩ := hH.2.2 a _ ha
  obtain ⟨z1, z2, z3⟩ := arr_in hi hN
  have hg := ks_ok C.2.2.2.2.2.2.2.2
  obtain ⟨ty, t1⟩ : ∃ C, (tysG g)[t]? = some (gcA g t, .object C) := by
    match t, h3, h7 with
    | 3, _, _ => exact ⟨_, rfl⟩
    | 4, _, _ => exact ⟨_, rfl⟩
    | 5, _, _ => exact ⟨_, rfl⟩
    | 6, _, _ => exact ⟨_, rfl⟩
  refine va_WaastN (C := ty) C.1 C.2.1 hc (((ks_K C.2.2.2.2.2.2.2.2).2 t _ t1).1 _ _) (fun q => by cases q) (by rw [arrV_size]; exact z1) rfl rfl hd (fun H1 e1 z oq => ?_)
  refine kk p e s m args below meth c H1 _ la C (hH.setP hg ha z oq ⟨h8, hN, ?_⟩) (vaS_put hg ha8.1 hS z oq) hl
  rw [e1, z2, arrV_store]
  congr 2
  funext q
  rw [evr_ref h3]
  by_cases hq : q = i.toNat
  · subst hq
    simp [updV, up1, rv, va_rf]
  · simp [updV, up1, hq, evr_ref h3]
theorem V_aast {g : Gl} {mi : MI} {R : Room} {QF : QFT} {pc : Nat} {ls : List (Option MV)} {st : List MV} {k n : Nat} {σ : St} {a t N b ci : Nat} {i : Int} (hd : decode mi.1 pc = .ok (.aastore, 1)) (ha : gl σ a = some (.inr (t, N))) (hi : 0 ≤ i ∧ i < N) (hb : gl σ b = some (.inl ci)) (ht : (t, ci) ∈ [(3, 6), (4, 3), (5, 0), (6, 6), (6, 3), (6, 0), (6, 9)])
    (kk : V g mi R QF (pc + 1) ls st k n (setP σ a (up1 (gP σ a) i.toNat (some b)))) : V g mi R QF pc ls (vq (some b) :: vi i :: vq (some a) :: st) k n σ := by
  intro p e s m args below meth c H locs la C hH hS hl
  obtain ⟨ha8, h8, hN, hc⟩ := hH.2.2 a _ ha
  obtain ⟨z1, z2, z3⟩ := arr_in hi hN
  have hKS := C.2.2.2.2.2.2.2.2
  have hg := ks_ok hKS
  have hK := ks_K hKS
  have hca : ∀ q ∈ caTbl, va_Nw (.castable q.1 q.2) s := hKS.2.2.2.2.2.2.2.1
  obtain ⟨-, r, h1, cell, q1, q2, q3, q4⟩ := hH.2.2 b _ hb
  have hcls := (hK.1 ci r h1).2
  obtain ⟨hfc, kC, hkC, hkind⟩ := id hcls
  obtain ⟨E, t1, h3, hasg⟩ : ∃ E, (tysG g)[t]? = some (gcA g t, .object E) ∧ 3 ≤ t ∧ ∀ comp : ClassId, s.vm.findClass E = some comp → s.vm.assignable ((gD g).1 ci) comp = true := by
    have self : ∀ comp : ClassId, s.vm.findClass r.1 = some comp → s.vm.assignable ((gD g).1 ci) comp = true := fun comp hcomp => by
      cases hfc.symm.trans hcomp
      exact va_assign hcls
    have up : ∀ comp : ClassId, (r.1, RX9) ∈ caTbl → s.vm.findClass RX9 = some comp → s.vm.assignable ((gD g).1 ci) comp = true := fun comp hm hcomp => by
      obtain ⟨c0, t0, f1, f2, f3⟩ := Cond.castable_spec (va_Nw.use (A := args) rfl (hca _ hm))
      cases hfc.symm.trans f1
      cases hcomp.symm.trans f2
      exact f3
    simp only [List.mem_cons, Prod.mk.injEq, List.not_mem_nil, or_false] at ht
    rcases ht with ⟨rfl, rfl⟩ | ⟨rfl, rfl⟩ | ⟨rfl, rfl⟩ | ⟨rfl, rfl⟩ | ⟨rfl, rfl⟩ | ⟨rfl, rfl⟩ | ⟨rfl, rfl⟩
    · cases h1; exact ⟨_, rfl, by decide, self⟩
    · cases h1; exact ⟨_, rfl, by decide, self⟩
    · cases h1; exact ⟨_, rfl, by decide, self⟩
    · cases h1; exact ⟨_, rfl, by decide, fun comp => up comp (by decide +kernel)⟩
    · cases h1; exact ⟨_, rfl, by decide, fun comp => up comp (by decide +kernel)⟩
    · cases h1; exact ⟨_, rfl, by decide, fun comp => up comp (by decide +kernel)⟩
    · cases h1; exact ⟨_, rfl, by decide, fun comp => up comp (by decide +kernel)⟩
  obtain ⟨kA, comp, k1, k2, k3, -⟩ := (hK.2 t _ t1).2
  obtain ⟨kcomp, hkcomp, -⟩ := Vm.findClass_spec k3
  refine W.aast C.1 C.2.1 hc (fun q h => by cases h) (fun h => by cases h) k1 k2 rfl hkcomp ⟨fun q => z1 (Or.inl q), by rw [arrV_size, z2]; exact z3⟩ q1 (fun q h => by rw [q3] at h; cases h) (by rw [q2]; exact hkC) (by rw [q2]; exact hasg comp k3) rfl rfl hd (fun H1 e1 z oq => ?_)
  refine kk p e s m args below meth c H1 _ la C (hH.setP hg ha z oq ⟨h8, hN, ?_⟩) (vaS_put hg ha8.1 hS z oq) hl
  rw [e1, z2, arrV_store]
  congr 2
  funext q
  rw [evr_ref h3]
  by_cases hq : q = i.toNat
  · subst hq
    simp [updV, up1, rv, va_rf]
  · simp [updV, up1, hq, evr_ref h3]
/-- arrays that nobody writes -/
theorem V_rold {g : Gl} {mi : MI} {R : Room} {QF : QFT} {pc : Nat} {ls : List (Option MV)} {st : List MV} {k n : Nat} {σ : St} {a : Nat} {i : Int} (hd : decode mi.1 pc = .ok (.iaload, 1)) (ha : a < 5) (hi : 0 ≤ i ∧ i < roN g a)
    (kk : V g mi R QF (pc + 1) ls (vi (roC g a i.toNat) :: st) k n σ) : V g mi R QF pc ls (vi i :: vq (some a) :: st) k n σ := by
  intro p e s m args below meth c H locs la C hH hS hl
  have hKS := C.2.2.2.2.2.2.2.2
  obtain ⟨cell, c1, c2, c3, c4, c5, c6, c7⟩ := hKS.2.2.2.2.2.1 a ha
  have hN : roN g a < 2147483648 := by
    have := hKS.2.1
    match a, ha with
    | 0, _ => exact (by decide : 4 < 2147483648)
    | 1, _ => exact (by decide : 4 < 2147483648)
    | 2, _ => exact (by decide : 5 < 2147483648)
    | 3, _ => exact (by decide : 4 < 2147483648)
    | 4, _ => show gL0 g < _; omega
  obtain ⟨z1, z2, z3⟩ := arr_in hi hN
  have hlt : gad g a < s.heap.size := (Array.getElem?_eq_some_iff.mp c1).1
  refine W.iald (v := .int (iI (roC g a i.toNat))) C.1 C.2.1 (by rw [hS.2.1 _ hlt c7]; exact c1) c2 c3 (fun q => z1 (q.imp id (fun h => Nat.le_trans c4 h))) (by rw [z2]; exact c6 _ z3) rfl rfl hd (kk p e s m args below meth c H locs la C hH hS hl)
theorem V_rolen {g : Gl} {mi : MI} {R : Room} {QF : QFT} {pc : Nat} {ls : List (Option MV)} {st : List MV} {k n : Nat} {σ : St} {a : Nat} (hd : decode mi.1 pc = .ok (.arraylength, 1)) (ha : a < 5)
    (kk : V g mi R QF (pc + 1) ls (vi (roN g a : Int) :: st) k n σ) : V g mi R QF pc ls (vq (some a) :: st) k n σ := by
  intro p e s m args below meth c H locs la C hH hS hl
  have hKS := C.2.2.2.2.2.2.2.2
  obtain ⟨cell, c1, c2, c3, c4, c5, c6, c7⟩ := hKS.2.2.2.2.2.1 a ha
  have hlt : gad g a < s.heap.size := (Array.getElem?_eq_some_iff.mp c1).1
  exact W.alen C.1 C.2.1 (by rw [hS.2.1 _ hlt c7]; exact c1) c2 c5 rfl rfl hd (kk p e s m args below meth c H locs la C hH hS hl)
theorem V_gets {g : Gl} {mi : MI} {R : Room} {QF : QFT} {pc : Nat} {ls : List (Option MV)} {st : List MV} {k n : Nat} {σ : St} {idx a : Nat} (hd : decode mi.1 pc = .ok (.getstatic idx, 3)) (ha : a < 4) (hlink : Cond.fieldLink mi.2.1.cls idx RX11 (roF a) "[I" ∈ gTbl)
    (kk : V g mi R QF (pc + 3) ls (vq (some a) :: st) k n σ) : V g mi R QF pc ls st k n σ := by
  intro p e s m args below meth c H locs la C hH hS hl
  have hKS := C.2.2.2.2.2.2.2.2
  exact va_gets C.1 C.2.1 (hKS.2.2.2.2.1 a ha) hS C.2.2.2.2.1 (C.2.2.2.2.2.2.1 _ hlink) (fun x h => h) hd (kk p e s m args below meth c H locs la C hH hS hl)
/-- a new place -/
theorem HR.add {g : Gl} {σ : St} {H H1 : Heap} {sh : Sh} (hg : GOK g) (h : HR g σ H) (hz : H1.size = H.size + 1) (hq : ∀ q : Nat, q < H.size → H1[q]? = H[q]?) (hc : cellR g (fun _ => 0) (fun _ => 0) (fun _ => none) H1 (gn σ) sh) : HR g (addC σ sh) H1 := by
  have h1 := hg.1 (gn σ) h.2.1
  have h2 := hg.1 (gn σ + 1) (by have := h.2.1; omega)
  have h8 := h.2.1
  refine ⟨?_, Nat.le_succ_of_le h.2.1, fun b shb hb => ?_⟩
  · show H1.size = gad g (gn σ + 1)
    rw [hz, h.1]; omega
  · by_cases e : b = gn σ
    · subst e
      have e0 : shb = sh := by
        have : gl (addC σ sh) (gn σ) = some sh := if_pos rfl
        exact (Option.some.inj (this.symm.trans hb)).symm
      subst e0
      refine ⟨⟨h8, Nat.lt_succ_self _⟩, ?_⟩
      have x1 : gG (addC σ shb) (gn σ) = fun _ => 0 := if_pos rfl
      have x2 : gL (addC σ shb) (gn σ) = fun _ => 0 := if_pos rfl
      have x3 : gP (addC σ shb) (gn σ) = fun _ => none := if_pos rfl
      rw [x1, x2, x3]
      exact hc
    · have hb' : gl σ b = some shb := by
        have : gl (addC σ sh) b = gl σ b := if_neg e
        exact this.symm.trans hb
      obtain ⟨y1, y2⟩ := h.2.2 b shb hb'
      refine ⟨⟨y1.1, Nat.lt_succ_of_lt y1.2⟩, ?_⟩
      have x1 : gG (addC σ sh) b = gG σ b := if_neg e
      have x2 : gL (addC σ sh) b = gL σ b := if_neg e
      have x3 : gP (addC σ sh) b = gP σ b := if_neg e
      rw [x1, x2, x3]
      have h3 := hg.1 b y1.1
      exact y2.kept (hq _ (by rw [h.1]; omega))
theorem vaS_add {g : Gl} {H0 H H1 : Heap} {locs : List Loc} (h : va_S (fun q => gbs g ≤ q) H0 H locs) (hz : H.size ≤ H1.size) (hq : ∀ q : Nat, q < H.size → H1[q]? = H[q]?) : va_S (fun q => gbs g ≤ q) H0 H1 locs :=
  ⟨Nat.le_trans h.1 hz, fun x h1 h2 => (hq x (Nat.lt_of_lt_of_le h1 h.1)).trans (h.2.1 x h1 h2), h.2.2⟩
/-- class number ci can be made, by this link -/
def NC (own : String) (idx ci N : Nat) : Prop := ∃ r : vw_C, vwCl[ci]? = some r ∧ r.2.2 = N ∧ Cond.classLink own idx r.1 ∈ gTbl ∧ Cond.instantiable r.1 r.2.2 ∈ gTbl ∧ Cond.initialized r.1 ∈ gTbl ∧ (∀ w ∈ u_ws r.1 r.2.1 r.2.2, w ∈ gTbl) ∧ ∀ j, j < r.2.2 → (fk ci j = 0 → defaultValue (clsTy ci j) = .int 0) ∧ (¬ fk ci j = 0 → defaultValue (clsTy ci j) = .null)
theorem V_new {g : Gl} {mi : MI} {R : Room} {QF : QFT} {pc : Nat} {ls : List (Option MV)} {st : List MV} {k n : Nat} {σ : St} {idx ci N : Nat} (hd : decode mi.1 pc = .ok (.new idx, 3)) (hF : NC mi.2.1.cls idx ci N) (hk : k + 1 ≤ R.cells) (hn : n + N ≤ R.slots)
    (kk : V g mi R QF (pc + 3) ls (vq (some (gn σ)) :: st) (k + 1) (n + N) (addC σ (.inl ci))) : V g mi R QF pc ls st k n σ := by
  intro p e s m args below meth c H locs la C hH hS hl
  obtain ⟨r, h1, rfl, h3, h4, h5, h6, h7⟩ := hF
  have hKS := C.2.2.2.2.2.2.2.2
  have hK := ks_K hKS
  have hg := ks_ok hKS
  have hts := C.2.2.2.2.2.2.1
  have hKn := hK.1 ci _ h1
  obtain ⟨hc1, hc2⟩ := cls_ok ci _ h1
  refine W.newcK C.1 C.2.1 C.2.2.2.2.1 (hts _ h3) (hts _ h4) (hts _ h5) rfl hd hk hn hKn.2.1 hH.1 fun H1 kC hkC e1 z1 o1 => ?_
  rw [← hH.1] at z1 o1
  refine kk p e s m args below meth c H1 locs la C (hH.add hg z1 o1 ⟨r, h1, ?_⟩) (vaS_add hS (by omega) o1) hl
  refine (u_born (clsTy ci) hts h6 hKn hkC e1 hc1).to (fun j hj => ?_)
  obtain ⟨y1, y2⟩ := h7 j hj
  by_cases hf : fk ci j = 0
  · rw [y1 hf]; simp [fvr, hf, rv]; rfl
  · rw [y2 hf]; simp [fvr, hf, rv, va_rf]
theorem V_newa {g : Gl} {mi : MI} {R : Room} {QF : QFT} {pc : Nat} {ls : List (Option MV)} {st : List MV} {k n : Nat} {σ : St} {at' : ArrayType} {t N : Nat} (hd : decode mi.1 pc = .ok (.newarray at', 2)) (ht : (at', t) ∈ [(ArrayType.int, 0), (.long, 1), (.byte, 2)]) (hN : N < 100000) (hk : k + 1 ≤ R.cells) (hn : n + N ≤ R.slots)
    (kk : V g mi R QF (pc + 2) ls (vq (some (gn σ)) :: st) (k + 1) (n + N) (addC σ (.inr (t, N)))) : V g mi R QF pc ls (vi (N : Int) :: st) k n σ := by
  intro p e s m args below meth c H locs la C hH hS hl
  have hKS := C.2.2.2.2.2.2.2.2
  have hK := ks_K hKS
  have hg := ks_ok hKS
  have hts := C.2.2.2.2.2.2.1
  have hc : (iI (N : Int)).toNatClampNeg = N := by rw [iI_clamp (by omega) (by omega)]; omega
  have h0 : ¬ iI (N : Int) < 0 := fun q => by have := (iI_lt0 ⟨by omega, by omega⟩).mp q; omega
  have hw : Cond.arrayClass (newarray.typeOf at') ∈ gTbl := by
    simp only [List.mem_cons, Prod.mk.injEq, List.not_mem_nil, or_false] at ht
    rcases ht with ⟨rfl, -⟩ | ⟨rfl, -⟩ | ⟨rfl, -⟩ <;> decide +kernel
  have hb : N * componentBytes (newarray.typeOf at') ≤ 536870912 := by
    simp only [List.mem_cons, Prod.mk.injEq, List.not_mem_nil, or_false] at ht
    rcases ht with ⟨rfl, -⟩ | ⟨rfl, -⟩ | ⟨rfl, -⟩ <;> simp [newarray.typeOf, componentBytes] <;> omega
  refine va_newaK C.1 C.2.1 (hts _ hw) rfl hd rfl h0 hc hb hk hn hH.1 fun H1 cA e1 z1 o1 hAr hNm => ?_
  rw [← hH.1] at z1 o1
  refine kk p e s m args below meth c H1 locs la C (hH.add hg z1 o1 ?_) (vaS_add hS (by omega) o1) hl
  have key : t < 8 ∧ cA = gcA g t ∧ (fun (_ : Nat) => defaultValue (newarray.typeOf at')) = fun j => rv g (evr t (fun _ => 0) (fun _ => 0) (fun _ => none) j) := by
    simp only [List.mem_cons, Prod.mk.injEq, List.not_mem_nil, or_false] at ht
    rcases ht with ⟨rfl, rfl⟩ | ⟨rfl, rfl⟩ | ⟨rfl, rfl⟩
    · exact ⟨by decide, Option.some.inj (hNm.symm.trans (hK.2 0 _ rfl).2), rfl⟩
    · exact ⟨by decide, Option.some.inj (hNm.symm.trans (hK.2 1 _ rfl).2), rfl⟩
    · exact ⟨by decide, Option.some.inj (hNm.symm.trans (hK.2 2 _ rfl).2), rfl⟩
  refine ⟨key.1, by omega, ?_⟩
  rw [e1, key.2.1, key.2.2]
theorem V_anew {g : Gl} {mi : MI} {R : Room} {QF : QFT} {pc : Nat} {ls : List (Option MV)} {st : List MV} {k n : Nat} {σ : St} {idx : Nat} {E : String} {t N : Nat} (hd : decode mi.1 pc = .ok (.anewarray idx, 3)) (ht : (E, t) ∈ [(RX6, 3), (RX3, 4), (RX0, 5), (RX9, 6)]) (hlink : Cond.classLink mi.2.1.cls idx E ∈ gTbl) (hN : N < 100000) (hk : k + 1 ≤ R.cells) (hn : n + N ≤ R.slots)
    (kk : V g mi R QF (pc + 3) ls (vq (some (gn σ)) :: st) (k + 1) (n + N) (addC σ (.inr (t, N)))) : V g mi R QF pc ls (vi (N : Int) :: st) k n σ := by
  intro p e s m args below meth c H locs la C hH hS hl
  have hKS := C.2.2.2.2.2.2.2.2
  have hK := ks_K hKS
  have hg := ks_ok hKS
  have hts := C.2.2.2.2.2.2.1
  have hc : (iI (N : Int)).toNatClampNeg = N := by rw [iI_clamp (by omega) (by omega)]; omega
  have h0 : ¬ iI (N : Int) < 0 := fun q => by have := (iI_lt0 ⟨by omega, by omega⟩).mp q; omega
  have hao : va_AO E s := hKS.2.2.2.2.2.2.2.2.2.1 E (by
    simp only [List.mem_cons, Prod.mk.injEq, List.not_mem_nil, or_false] at ht
    rcases ht with ⟨rfl, -⟩ | ⟨rfl, -⟩ | ⟨rfl, -⟩ | ⟨rfl, -⟩ <;> simp [aoTbl])
  refine W.anew C.1 C.2.1 C.2.2.2.2.1 (hts _ hlink) (va_AO.use hao) rfl hd rfl h0 (by rw [hc]; omega) hk (by rw [hc]; exact hn) fun cA kA comp f1 f2 f3 f4 => ?_
  rw [hc]
  generalize hH1 : H.push ({ cls := cA, slots := Array.replicate N .null, vm := .none } : Cell) = H1
  have z1 : H1.size = H.size + 1 := by rw [← hH1, Array.size_push]
  have e1 : H1[H.size]? = some (arrV cA N (fun _ => .null)) := by rw [← hH1, Array.getElem?_push_size, ← arrV_new]
  have o1 : ∀ q : Nat, q < H.size → H1[q]? = H[q]? := fun q hq => by rw [← hH1, Array.getElem?_push, if_neg (Nat.ne_of_lt hq)]
  have hsz := hH.1
  rw [hsz]
  refine kk p e s m args below meth c H1 locs la C (hH.add hg z1 o1 ?_) (vaS_add hS (by omega) o1) hl
  have key : t < 8 ∧ cA = gcA g t ∧ (fun (_ : Nat) => Value.null) = fun j => rv g (evr t (fun _ => 0) (fun _ => 0) (fun _ => none) j) := by
    simp only [List.mem_cons, Prod.mk.injEq, List.not_mem_nil, or_false] at ht
    rcases ht with ⟨rfl, rfl⟩ | ⟨rfl, rfl⟩ | ⟨rfl, rfl⟩ | ⟨rfl, rfl⟩
    · obtain ⟨_, _, _, _, _, x⟩ := (hK.2 3 _ rfl).2
      exact ⟨by decide, Option.some.inj (f1.symm.trans x), rfl⟩
    · obtain ⟨_, _, _, _, _, x⟩ := (hK.2 4 _ rfl).2
      exact ⟨by decide, Option.some.inj (f1.symm.trans x), rfl⟩
    · obtain ⟨_, _, _, _, _, x⟩ := (hK.2 5 _ rfl).2
      exact ⟨by decide, Option.some.inj (f1.symm.trans x), rfl⟩
    · obtain ⟨_, _, _, _, _, x⟩ := (hK.2 6 _ rfl).2
      exact ⟨by decide, Option.some.inj (f1.symm.trans x), rfl⟩
  refine ⟨key.1, by omega, ?_⟩
  rw [← hsz, e1, key.2.1, key.2.2]
