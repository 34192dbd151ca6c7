/-! the law's entry: all words -/
def mkG (l : Launch) (D : va_G) (cA : Nat → ClassId) (t : Nat → Nat) (b H L : Nat) (xs : Nat → Int32) : Gl := (l, D, cA, fun a => if a < 4 then t a else if a < 8 then b else H + (a - 8), H, L, xs)
theorem ks_all {s : State} {args : Array Value} {l : Launch} {b L : Nat} {xs : Nat → Int32} (hL : L ≤ 3072) (hs : ∀ w ∈ flatC (Jvm.Cond.and given_1 narrow_1), w.before args s = true) (hts : ∀ w ∈ lw_tbl, w.before args s = true) (hX : va_X b L xs s s.heap) (hbl : b < s.heap.size) : ∃ (D : va_G) (cA : Nat → ClassId) (t : Nat → Nat), KS (mkG l D cA t b s.heap.size L xs) s := by
  have hg : ∀ w ∈ gTbl, w.before args s = true := fun w hw => hts w (List.mem_filter.mp hw).1
  obtain ⟨D, hD⟩ := kn_all hg
  have wo : Cond.arrayOver (.array .int) ∈ lw_tbl := by decide +kernel
  have wd : Cond.declares ⟨RX9, "toldAs", "()I"⟩ ∈ lw_tbl := by decide +kernel
  have wa : ∀ C ∈ aoTbl, Cond.arrayOver (.object C) ∈ lw_tbl := by decide +kernel
  have wm : ∀ q ∈ mnTbl, Cond.methodLinkNest q.1 q.2.1 q.2.2 RX11 ∈ lw_tbl := by decide +kernel
  have wc : ∀ q ∈ caTbl, Cond.castable q.1 q.2 ∈ flatC (Jvm.Cond.and given_1 narrow_1) ∨ Cond.castable q.1 q.2 ∈ lw_tbl := by decide +kernel
  have wn : ∀ q ∈ ncTbl, Cond.not (.castable q.1 q.2) ∈ flatC (Jvm.Cond.and given_1 narrow_1) ∨ Cond.not (.castable q.1 q.2) ∈ lw_tbl := by decide +kernel
  obtain ⟨cA, hcA⟩ := ar_all (hts (.arrayClass .int) (by decide +kernel)) (hts (.arrayClass .long) (by decide +kernel)) (hts (.arrayClass .byte) (by decide +kernel)) (fun C hC => hts _ (wa C hC)) (hts _ wo)
  obtain ⟨t, ht⟩ := st_all hs hts
  have hA : ¬ (s.heap.size ≤ b) := Nat.not_le.mpr hbl
  obtain ⟨scr, x1, x2, x3, x4, x5⟩ := hX
  have hT4 : va_T .int b L (fun j => .int (iI ((xs j).toInt))) (fun q => s.heap.size ≤ q) s s.heap := by
    refine ⟨scr, x1, x2, x3, Nat.le_of_eq x4.symm, by rw [x4], fun j hj => ?_, hA⟩
    rw [x5 j hj]
    show some (Value.int (xs j)) = some (Value.int (iI (xs j).toInt))
    rw [iI_of]
  refine ⟨D, cA, t, ⟨fun a ha => ?_, fun a ha => ?_⟩, hL, Nat.le_refl _, ⟨hD, hcA⟩, fun a ha => ?_, fun a ha => ?_, fun q hq => hts _ (wm q hq), fun q hq => ?_, fun q hq => ?_, fun q hq => hts _ (wa q hq), hts _ wo, hts _ wd⟩
  · show (if a < 4 then t a else if a < 8 then b else s.heap.size + (a - 8)) = s.heap.size + (a - 8)
    rw [if_neg (by omega), if_neg (by omega)]
  · show (if a < 4 then t a else if a < 8 then b else s.heap.size + (a - 8)) < s.heap.size
    by_cases q : a < 4
    · rw [if_pos q]; exact (ht a q).1
    · rw [if_neg q, if_pos ha]; exact hbl
  · match a, ha with
    | 0, h => exact (ht 0 (by decide)).2.1
    | 1, h => exact (ht 1 (by decide)).2.1
    | 2, h => exact (ht 2 (by decide)).2.1
    | 3, h => exact (ht 3 (by decide)).2.1
    | a + 4, h => exact absurd h (by omega)
  · match a, ha with
    | 0, h => exact (ht 0 (by decide)).2.2
    | 1, h => exact (ht 1 (by decide)).2.2
    | 2, h => exact (ht 2 (by decide)).2.2
    | 3, h => exact (ht 3 (by decide)).2.2
    | 4, h => exact hT4
    | a + 5, h => exact absurd h (by omega)
  · rcases wc q hq with h | h
    · exact hs _ h
    · exact hts _ h
  · rcases wn q hq with h | h
    · exact va_Nc.of (hs _ h)
    · exact va_Nc.of (hts _ h)
theorem law_start {p : Program} {e : Env} {s : State} {m : MethodId} {below : List Frame} {meth : Method} {c : Code} (l : Launch) {b L : Nat} {xs : Nat → Int32} (hL : L ≤ 3072) (hx : p.tables.exec = Jvm.exec) (hcode : c.code = code) (hret : meth.sig.returnType = ret) (hml : c.maxLocals = 4) (hown : s.vm.findClass RL = some m.cls) (hts : ∀ w ∈ lw_tbl, w.before #[Value.ref b] s = true) (hX : va_X b L xs s s.heap) (hbl : b < s.heap.size) (hlk : meth.locks = false) (hgv : (Jvm.Cond.and given_1 narrow_1).before #[Value.ref b] s = true) (hname : meth.name = "law") :
    W p l e room_1 s m #[Value.ref b] below meth c s.heap [] 0 0 (fun t => ∃ o, t.status = .running ∧ Ended t below o ∧ o = .returned (some (.int 1)) ∧ Framed s o t [] 600000 7302250) (entryFrame m ([Value.ref b] : List Value).toArray 4) := by
  obtain ⟨D, cA, t, hK⟩ := ks_all (l := l) hL (flat_of_before _ hgv) hts hX hbl
  exact law_W (mkG l D cA t b s.heap.size L xs) b hL rfl rfl rfl ⟨hx, hcode, hml, hret, hown, hname, fun w hw => hts w (List.mem_filter.mp hw).1, hlk, hK⟩
