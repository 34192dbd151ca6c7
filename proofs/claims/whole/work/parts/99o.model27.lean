/-! the model reads a text: the whole -/
theorem c_mRead (g : Gl) (σ : St) (A : Ab) (N : Nat) (hM : MR σ A) (hA : AI A N) : Ct g mX12_read 4 0 0 [vq (some 77)] σ (PM (readV A) (readN A) σ) := by
  refine Ct.of (by decide +kernel) (Nat.le_of_ble_eq_true rfl) ?_
  have hS := hM.1
  have hS0 := hS
  have hnb := hA.2.2.2.2.1.1
  obtain ⟨t, ht⟩ : ∃ t, t = aT A := ⟨_, rfl⟩
  obtain ⟨n, hn⟩ : ∃ n, n = aC A 3 := ⟨_, rfl⟩
  have hT0 : TM2 σ t n := ⟨by rw [hM.2.2.1.2.2.2, hn], by rw [hn]; exact hnb, fun k hk => ⟨by rw [hM.2.2.2.1, ht], by rw [ht]; exact hA.2.2.2.2.1.2 k (by rw [← hn]; exact hk)⟩⟩
  rw [← hn] at hnb
  have hpa := paF_ok (t := t) (n := n) 27 0 (Int.le_refl _) hnb.1
  obtain ⟨P, hP⟩ : ∃ P, P = (psA A).2.2 := ⟨_, rfl⟩
  have ePs : psA A = paF t n 27 0 := by rw [ht, hn]; rfl
  have eP : P = (paF t n 27 0).2.2 := by rw [hP, ePs]
  rw [← eP] at hpa
  have hlen := hpa.2.1
  have hfb : -1 ≤ fuA A ∧ fuA A ≤ n := by
    have := fuF_b (t := t) (n := n) hnb.1 P (aW A 4) (aW A 5) (aW A 6) (fun i hi => ⟨(hpa.2.2 i hi).2, Int.le_of_lt (hmN_lt (hpa.2.2 i hi).1)⟩)
    rw [hP, ht, hn] at this
    rw [hn]
    exact this
  have lp : ∀ (m k : Nat) (x80 : Nat → Int) (A' : Ab) (υ : St), k + m = P.length → (psA A).1 = true → MR υ A' → AI A' (N + k) → SK (cN A 3 0) A' → FC σ υ → gG υ 80 = pour (aW A) x80 → gG υ 77 10 = (P.length : Int) → (∀ i, i < P.length → RM υ t n i (P.getD i 0)) → fuF t n (P.drop k) (aW A' 4) (aW A' 5) (aW A' 6) = fuA A → doL (cN A 3 0) t n P = doL A' t n (P.drop k) → doT (cN A 3 0) t n P = doT A' t n (P.drop k) →
      V g mX12_read (rmD 4 0 0) (QM g 0 0 (PM (readV A) (readN A) σ)) 102 [some (vq (some 77)), some (vi (k : Int))] [] 0 0 υ := by
    intro m
    induction m with
    | zero =>
      intro k x80 A' υ hk ok hM' hA' hK hF e80 e10 rows hfu hdl hdt
      have hS := hM'.1
      have dk : P.drop k = [] := List.drop_eq_nil_of_le (by omega)
      rw [dk] at hfu hdl hdt
      have hfu1 : fuA A = -1 := hfu.symm
      have hc2 := hA'.2.2.2.1
      have e5 := hM'.2.2.1.2.2.1
      refine V_iload_n dX12_read_102 rfl ?_
      refine V_aload_n dX12_read_103 rfl ?_
      refine V_getfi dX12_read_104 sf_RX12_224 rfl (sh hS rfl) ?_
      refine V_val (show _ = (P.length : Int) from e10) ?_
      refine V_icmpge (tgt := 148) dX12_read_107 (by decide) (by omega) (by omega) (fun br107 => ?_) (fun br107 => ?_)
      · refine V_aload_n dX12_read_148 rfl ?_
        refine V_dup dX12_read_149 rfl ?_
        refine V_getfi dX12_read_150 sf_RX12_80 rfl (sh hS rfl) ?_
        refine V_val (show _ = aC A' 2 from e5) ?_
        refine V_iconst dX12_read_153 ?_
        refine V_iadd dX12_read_154 ?_
        refine V_puti dX12_read_155 (sp_RX12_80 _) rfl (sh hS rfl) ?_
        refine V_aload_n dX12_read_158 rfl ?_
        refine V_getfi dX12_read_159 sf_RX12_224 rfl (sh hS rfl) ?_
        refine V_val (show _ = (P.length : Int) from (gG_ne _ _ (Or.inr (by decide))).trans e10) ?_
        refine V_iret dX12_read_162 rfl (Nat.le_refl _) (Nat.le_refl _) ?_
        unfold readV readN
        rw [if_pos ok, if_pos ok, if_pos hfu1, if_pos hfu1, ← hP, ← ht, ← hn, hdl]
        exact PM_i rfl (hM'.cn (k := 2) (by decide) _) (hF.onG _ _ (by decide))
      · omega
    | succ m ih =>
      intro k x80 A' υ hk ok hM' hA' hK hF e80 e10 rows hfu hdl hdt
      have hS := hM'.1
      have hq : k < P.length := by omega
      obtain ⟨c, hc⟩ : ∃ c, c = P.getD k 0 := ⟨_, rfl⟩
      have dk : P.drop k = c :: P.drop (k + 1) := by
        rw [hc, List.drop_eq_getElem_cons hq, List.getD_eq_getElem?_getD, List.getElem?_eq_getElem hq]; rfl
      obtain ⟨r0, rv⟩ := rows k hq
      obtain ⟨hl, hc0⟩ := hpa.2.2 k hq
      rw [← hc] at r0 rv hl hc0
      have hlt := hmN_lt hl
      have e81 : gG υ 81 c.toNat = pk t n c := by
        rw [hM'.2.2.2.1, show aT A' = aT A from congrArg (fun z => z.1) hK.2.1, ← ht]
        exact (if_pos hlt).symm
      rw [dk] at hfu hdl hdt
      refine V_iload_n dX12_read_102 rfl ?_
      refine V_aload_n dX12_read_103 rfl ?_
      refine V_getfi dX12_read_104 sf_RX12_224 rfl (sh hS rfl) ?_
      refine V_val (show _ = (P.length : Int) from e10) ?_
      refine V_icmpge (tgt := 148) dX12_read_107 (by decide) (by omega) (by omega) (fun br107 => ?_) (fun br107 => ?_)
      · omega
      · refine V_aload_n dX12_read_110 rfl ?_
        refine V_iload_n dX12_read_111 rfl ?_
        refine V_callV dX12_read_112 (c_mDoes g _ A' (N + k) hM' hA' t n c (by omega) e81 hl k (by omega) r0 rv) sv_RX12_250 (sh hS rfl) rfl ⟨⟨by decide, by decide⟩, ⟨by decide, by decide⟩⟩ (Nat.le_of_ble_eq_true rfl) (fun r112 s112 p112 => ?_)
        obtain ⟨rfl, z1, z2, z3⟩ := p112
        have hS := z1.1
        refine V_ifneB (tgt := 142) dX12_read_115 (by decide) (fun br115 => ?_) (fun br115 => ?_)
        · refine V_iinc dX12_read_142 rfl (by decide) rfl ?_
          refine V_goto (tgt := 102) dX12_read_145 (by decide) ?_
          refine V_mask [true, true] ?_
          have ef : fuF t n (c :: P.drop (k + 1)) (aW A' 4) (aW A' 5) (aW A' 6) = fuF t n (P.drop (k + 1)) (aW A' 4 + adl (pk t n c) 115) (aW A' 5 + adl (pk t n c) 104) (aW A' 6 + adl (pk t n c) 98) := if_pos br115
          have ed : doT A' t n (c :: P.drop (k + 1)) = doT (doN A' t n c) t n (P.drop (k + 1)) := if_pos br115
          obtain ⟨⟨b4, b5, b6⟩, ho⟩ := br115
          have nn := doN_n ho b4 b5 b6
          rw [ef] at hfu
          exact ih (k + 1) x80 (doN A' t n c) _ (by omega) ok z1 (hA'.don t n c) (hK.don hA' t n c) (hF.tr z2) (z3.2.1.trans e80) ((z3.1 10 (by decide)).trans e10) (fun i hi => (rows i hi).df z3.2.2) (by rw [nn.1, nn.2.1, nn.2.2]; exact hfu) hdl (hdt.trans ed)
        · have eN := doN_no hA' hl br115
          rw [eN] at z1
          have ef : fuF t n (c :: P.drop (k + 1)) (aW A' 4) (aW A' 5) (aW A' 6) = c := if_neg br115
          have ed : doT A' t n (c :: P.drop (k + 1)) = A' := if_neg br115
          rw [ef] at hfu
          rw [ed] at hdt
          refine V_aload_n dX12_read_118 rfl ?_
          refine V_getfr dX12_read_119 sf_RX12_18 (by decide) (sh hS rfl) (rf hS rfl) ?_
          refine V_aload_n dX12_read_122 rfl ?_
          refine V_getfr dX12_read_123 sf_RX12_9 (by decide) (sh hS rfl) (rf hS rfl) ?_
          refine V_callS dX12_read_126 (c_pours g _ 80 78 (sh hS rfl) (sh hS rfl) (by decide)) ss_RX12_246 rfl ⟨⟨by decide, by decide⟩, ⟨by decide, by decide⟩⟩ (Nat.le_of_ble_eq_true rfl) (fun r126 s126 p126 => ?_)
          obtain ⟨rfl, hO⟩ := p126
          have hF3 : FC σ s126 := (hF.tr z2).tr (hO.fc (by decide))
          have hS := hF3.std hS0
          refine V_sipush dX12_read_129 (by decide) ?_
          refine V_aload_n dX12_read_132 rfl ?_
          refine V_getfr dX12_read_133 sf_RX12_24 (by decide) (sh hS rfl) (rf hS rfl) ?_
          refine V_iconst dX12_read_136 ?_
          refine V_iload_n dX12_read_137 rfl ?_
          refine V_imul dX12_read_138 ?_
          refine V_val (show 5 * (k : Int) = ((5 * k : Nat) : Int) by omega) ?_
          refine V_iald dX12_read_139 (sh hS rfl) (by omega) ?_
          refine V_val (show _ = c by rw [hO.2.2.2.2.1 82 (by decide), z3.2.2]; exact r0) ?_
          refine V_isub dX12_read_140 ?_
          refine V_iret dX12_read_141 rfl (Nat.le_refl _) (Nat.le_refl _) ?_
          unfold readV readN
          rw [if_pos ok, if_pos ok, if_neg (by omega), if_neg (by omega), ← hP, ← ht, ← hn, hdt]
          obtain ⟨y1, ⟨y2, y3⟩, ⟨y4, y5, y6, y7⟩, y8, ⟨y9, y10, y11, y12⟩, y13⟩ := z1
          have o : ∀ a, a ≠ 78 → gG s126 a = gG s112 a := hO.2.2.2.2.1
          have x2 : A'.2.2.2 = A.2.2.2 := hK.2.1
          have xo : aO A' = aO A := hK.1
          have xc : ∀ j, j ≠ 1 → aC A' j = aC (cN A 3 0) j := hK.2.2.1
          refine PM_i (by omega) ⟨hS, ⟨?_, by rw [o 79 (by decide), y3]; exact xo⟩, ⟨by rw [o 77 (by decide), y4, xc 0 (by decide)]; rfl, by rw [o 77 (by decide), y5]; rfl, by rw [o 77 (by decide), y6, xc 2 (by decide)]; rfl, by rw [o 77 (by decide), y7, xc 3 (by decide)]; rfl⟩, by rw [o 81 (by decide), y8]; exact congrArg (fun z => z.1) x2, ⟨by rw [o 87 (by decide), y9]; exact congrArg (fun z => z.2.1) x2, by rw [o 88 (by decide), y10]; exact congrArg (fun z => z.2.2.1) x2, by rw [o 89 (by decide), y11]; exact congrArg (fun z => z.2.2.2.1) x2, by rw [o 90 (by decide), y12]; exact congrArg (fun z => z.2.2.2.2.1) x2⟩, by rw [hO.2.2.1, y13]; exact congrArg (fun z => z.2.2.2.2.2) x2⟩ hF3
          rw [hO.2.2.2.2.2, z3.2.1, e80, y2]
          funext j
          show pour (pour (aW A) x80) (aW A') j = aW A j
          by_cases q : j < 77
          · rw [pour_at q, pour_at q]
          · exact (if_neg q).trans (hK.2.2.2 j (by omega))
  have tail : ∀ (τ : St), LF 0 σ τ → gG τ 77 9 = (if (psA A).1 = true then -1 else (psA A).2.1) → ((psA A).1 = true → gG τ 77 10 = (P.length : Int) ∧ ∀ i, i < P.length → RM τ t n i (P.getD i 0)) →
      V g mX12_read (rmD 4 0 0) (QM g 0 0 (PM (readV A) (readN A) σ)) 69 [some (vq (some 77)), none] [] 0 0 τ := by
    intro τ hF e9 hr
    have hS := hF.ms.std hS0
    have hM1 : MR (setG τ 77 6 0) (cN A 3 0) := (hF.ms.mr hM).cn (k := 3) (by decide) 0
    have hF1 : FC σ (setG τ 77 6 0) := hF.ms.fc.onG _ _ (by decide)
    by_cases ok : (psA A).1 = true
    · rw [if_pos ok] at e9
      obtain ⟨e10, rows⟩ := hr ok
      refine V_aload_n dX12_read_69 rfl ?_
      refine V_iconst dX12_read_70 ?_
      refine V_puti dX12_read_71 (sp_RX12_77 _) rfl (sh hS rfl) ?_
      refine V_aload_n dX12_read_74 rfl ?_
      refine V_getfi dX12_read_75 sf_RX12_209 rfl (sh hS rfl) ?_
      refine V_val (show _ = -1 from (gG_ne _ _ (Or.inr (by decide))).trans e9) ?_
      refine V_iflt (tgt := 89) dX12_read_78 (by decide) (by omega) (fun br78 => ?_) (fun br78 => ?_)
      · refine V_aload_n dX12_read_89 rfl ?_
        refine V_getfr dX12_read_90 sf_RX12_9 (by decide) (sh hS rfl) (rf hS rfl) ?_
        refine V_aload_n dX12_read_93 rfl ?_
        refine V_getfr dX12_read_94 sf_RX12_18 (by decide) (sh hS rfl) (rf hS rfl) ?_
        refine V_callS dX12_read_97 (c_pours g _ 78 80 (sh hS rfl) (sh hS rfl) (by decide)) ss_RX12_246 rfl ⟨⟨by decide, by decide⟩, ⟨by decide, by decide⟩⟩ (Nat.le_of_ble_eq_true rfl) (fun r97 s97 p97 => ?_)
        obtain ⟨rfl, hO⟩ := p97
        have o : ∀ a, a ≠ 80 → gG s97 a = gG (setG τ 77 6 0) a := hO.2.2.2.2.1
        have e80 := hO.2.2.2.2.2
        rw [hM1.2.1.1] at e80
        have hF2 : FC (setG τ 77 6 0) s97 := hO.fc (by decide)
        have hS := hF2.std hS
        have hM2 : MR s97 (cN A 3 0) := by
          obtain ⟨y1, ⟨y2, y3⟩, ⟨y4, y5, y6, y7⟩, y8, ⟨y9, y10, y11, y12⟩, y13⟩ := hM1
          exact ⟨hS, ⟨(o 78 (by decide)).trans y2, (o 79 (by decide)).trans y3⟩, by rw [o 77 (by decide)]; exact ⟨y4, y5, y6, y7⟩, (o 81 (by decide)).trans y8, ⟨(o 87 (by decide)).trans y9, (o 88 (by decide)).trans y10, (o 89 (by decide)).trans y11, (o 90 (by decide)).trans y12⟩, by rw [hO.2.2.1]; exact y13⟩
        refine V_iconst dX12_read_100 ?_
        refine V_istore_n dX12_read_101 (by decide) rfl ?_
        refine V_mask [true, true] ?_
        refine lp P.length 0 _ (cN A 3 0) _ (Nat.zero_add _) ok hM2 hA.c0 (SK.rf _) (hF1.tr hF2) e80 ?_ (fun i hi => (rows i hi).df ((o 82 (by decide)).trans (show gG (setG τ 77 6 0) 82 = gG τ 82 from rfl))) ?_ rfl rfl
        · rw [o 77 (by decide)]
          exact (gG_ne _ _ (Or.inr (by decide))).trans e10
        · rw [hP, ht, hn]; rfl
      · omega
    · rw [if_neg ok] at e9
      have hb : 0 ≤ (psA A).2.1 ∧ (psA A).2.1 ≤ n := by rw [ePs]; exact hpa.1
      refine V_aload_n dX12_read_69 rfl ?_
      refine V_iconst dX12_read_70 ?_
      refine V_puti dX12_read_71 (sp_RX12_77 _) rfl (sh hS rfl) ?_
      refine V_aload_n dX12_read_74 rfl ?_
      refine V_getfi dX12_read_75 sf_RX12_209 rfl (sh hS rfl) ?_
      refine V_val (show _ = (psA A).2.1 from (gG_ne _ _ (Or.inr (by decide))).trans e9) ?_
      refine V_iflt (tgt := 89) dX12_read_78 (by decide) (by omega) (fun br78 => ?_) (fun br78 => ?_)
      · omega
      · refine V_bipush dX12_read_81 (by decide) ?_
        refine V_aload_n dX12_read_83 rfl ?_
        refine V_getfi dX12_read_84 sf_RX12_209 rfl (sh hS rfl) ?_
        refine V_val (show _ = (psA A).2.1 from (gG_ne _ _ (Or.inr (by decide))).trans e9) ?_
        refine V_isub dX12_read_87 ?_
        refine V_iret dX12_read_88 rfl (Nat.le_refl _) (Nat.le_refl _) ?_
        unfold readV readN
        rw [if_neg ok, if_neg ok]
        exact PM_i rfl hM1 hF1
  have loop : ∀ (M m k : Nat) (Q : List Int) (c : Int) (τ : St), m < M → k + m = 26 → Q.length = k → 3 * (k : Int) ≤ c → c ≤ n → paF t n 27 0 = ((paF t n (m + 1) c).1, (paF t n (m + 1) c).2.1, Q ++ (paF t n (m + 1) c).2.2) → LF 0 σ τ → ((stR t n c).1 = true → gG τ 77 9 = -1 ∧ gG τ 77 8 = (stR t n c).2 ∧ gG τ 77 10 = (k : Int) + 1 ∧ RM τ t n k c) → (¬ (stR t n c).1 = true → gG τ 77 9 = (stR t n c).2 ∧ 0 ≤ gG τ 77 8 ∧ gG τ 77 8 ≤ n) → (∀ i, i < k → RM τ t n i (Q.getD i 0)) →
      V g mX12_read (rmD 4 0 0) (QM g 0 0 (PM (readV A) (readN A) σ)) 19 [some (vq (some 77)), none] [] 0 0 τ := by
    intro M
    induction M with
    | zero => intro m k Q c τ hm; omega
    | succ M ih =>
      intro m k Q c τ hm hk hQ hc hcn hE hF hok hno rows
      have hS := hF.ms.std hS0
      have hT := hF.tm hT0
      have sb := stR_b (t := t) hcn
      by_cases r1 : (stR t n c).1 = true
      · obtain ⟨e9, e8, e10, rk⟩ := hok r1
        have lo := stR_lo hcn r1
        obtain ⟨e, he⟩ : ∃ e, e = (stR t n c).2 := ⟨_, rfl⟩
        rw [← he] at e8 lo sb
        refine V_aload_n dX12_read_19 rfl ?_
        refine V_bipush dX12_read_20 (by decide) ?_
        refine V_bipush dX12_read_22 (by decide) ?_
        refine V_callV dX12_read_24 (c_mIsFrom g _ hS t n hT e (-1) e8 e9 (by omega) (by decide) 59 59 (by decide) (by decide)) sv_RX12_215 (sh hS rfl) rfl ⟨⟨by decide, by decide⟩, ⟨by decide, by decide⟩⟩ (Nat.le_of_ble_eq_true rfl) (fun r24 s24 p24 => ?_)
        obtain ⟨rfl, rfl⟩ := p24
        refine V_ifeqB (tgt := 47) dX12_read_27 (by decide) (fun br27 => ?_) (fun br27 => ?_)
        · refine V_aload_n dX12_read_47 rfl ?_
          refine V_getfi dX12_read_48 sf_RX12_209 rfl (sh hS rfl) ?_
          refine V_val (show _ = -1 from e9) ?_
          refine V_ifge (tgt := 69) dX12_read_51 (by decide) (by omega) (fun br51 => ?_) (fun br51 => ?_)
          · omega
          · refine V_aload_n dX12_read_54 rfl ?_
            refine V_getfi dX12_read_55 sf_RX12_212 rfl (sh hS rfl) ?_
            refine V_val (show _ = e from e8) ?_
            refine V_aload_n dX12_read_58 rfl ?_
            refine V_getfi dX12_read_59 sf_RX12_77 rfl (sh hS rfl) ?_
            refine V_val (show _ = n from hT.1) ?_
            refine V_icmpge (tgt := 69) dX12_read_62 (by decide) (by omega) (by omega) (fun br62 => ?_) (fun br62 => ?_)
            · have hE2 : paF t n (m + 1) c = (true, e, [c]) := by
                rw [he]
                show (if _ then _ else _) = _
                rw [if_pos r1, if_pos (by omega)]
              rw [hE2] at hE
              have p1 : psA A = (true, e, Q ++ [c]) := ePs.trans hE
              have p2 : P = Q ++ [c] := by rw [hP, p1]
              have p3 : P.length = k + 1 := by rw [p2, List.length_append, hQ]; rfl
              refine tail _ hF (by rw [p1]; exact e9) (fun _ => ⟨by rw [p3]; exact e10, fun i hi => ?_⟩)
              rw [p2]
              by_cases q : i = k
              · rw [q, ← hQ, getD_app2, hQ]
                exact rk
              · rw [getD_app1 (by omega)]
                exact rows i (by omega)
            · refine V_aload_n dX12_read_65 rfl ?_
              refine V_callV dX12_read_66 (c_mWrong0 g _ hS e (-1) e8 e9 (by decide)) sv_RX12_218 (sh hS rfl) rfl ⟨⟨by decide, by decide⟩, ⟨by decide, by decide⟩⟩ (Nat.le_of_ble_eq_true rfl) (fun r66 s66 p66 => ?_)
              obtain ⟨rfl, rfl⟩ := p66
              refine V_mask [true, false] ?_
              have hE2 : paF t n (m + 1) c = (false, e, []) := by
                rw [he]
                show (if _ then _ else _) = _
                rw [if_pos r1, if_neg (by omega), if_neg (fun z => br27 (by rw [← he] at z; exact ⟨by decide, by omega, by omega⟩))]
              rw [hE2] at hE
              have p1 : psA A = (false, e, Q ++ []) := ePs.trans hE
              refine tail _ (hF.on77 _ (by decide)) (by rw [p1]; exact gG_is _ _ _ _) (fun z => ?_)
              rw [p1] at z
              cases z
        · have x59 : pk t n e = 59 := by omega
          have hlt := pkLtN x59 (by decide)
          refine V_aload_n dX12_read_30 rfl ?_
          refine V_dup dX12_read_31 rfl ?_
          refine V_getfi dX12_read_32 sf_RX12_212 rfl (sh hS rfl) ?_
          refine V_val (show _ = e from e8) ?_
          refine V_iconst dX12_read_35 ?_
          refine V_iadd dX12_read_36 ?_
          refine V_puti dX12_read_37 (sp_RX12_212 _) rfl (sh hS rfl) ?_
          refine V_aload_n dX12_read_40 rfl ?_
          refine V_callV dX12_read_41 (c_mReads g (setG τ 77 8 (e + 1)) hS t n ((hF.on77 _ (by decide)).tm hT0) (e + 1) (gG_is _ _ _ _) ((gG_ne _ _ (Or.inr (by decide))).trans e9) (k + 1) (by rw [gG_ne _ _ (Or.inr (by decide)), e10]; rfl) (by omega) (by omega)) sv_RX12_243 (sh hS rfl) rfl ⟨⟨by decide, by decide⟩, ⟨by decide, by decide⟩⟩ (Nat.le_of_ble_eq_true rfl) (fun r41 s41 p41 => ?_)
          obtain ⟨rfl, hG, u1, u2⟩ := p41
          refine V_goto (tgt := 19) dX12_read_44 (by decide) ?_
          refine V_mask [true, false] ?_
          have hE2 : paF t n (m + 1) c = ((paF t n m (e + 1)).1, (paF t n m (e + 1)).2.1, c :: (paF t n m (e + 1)).2.2) := by
            rw [he]
            show (if _ then _ else _) = _
            rw [if_pos r1, if_neg (by omega), if_pos (by rw [← he]; exact x59)]
          rw [hE2] at hE
          cases m with
          | zero => omega
          | succ m =>
            refine ih m (k + 1) (Q ++ [c]) (e + 1) _ (by omega) (by omega) (by rw [List.length_append, hQ]; rfl) (by omega) (by omega) (by rw [hE, List.append_assoc]; rfl) ((hF.on77 _ (by decide)).tr hG (Nat.zero_le _)) (fun z => ?_) u2 (fun i hi => ?_)
            · obtain ⟨v1, v2, v3, v4, v5⟩ := u1 z
              exact ⟨v1, v2, v3, v4, v5⟩
            · have fr : ∀ j, j < 5 * (k + 1) → gG s41 82 j = gG τ 82 j := fun j hj => (hG.2.2.2 j hj).trans (gG_ne _ _ (Or.inl (by decide)))
              have fw : ∀ (i : Nat) (x : Int), i ≤ k → RM τ t n i x → RM s41 t n i x := by
                intro i x hi h
                have := hmN_b (pk t n x)
                exact ⟨(fr _ (by omega)).trans h.1, fun j hj => (fr _ (by omega)).trans (h.2 j hj)⟩
              by_cases q : i = k
              · rw [q, ← hQ, getD_app2, hQ]
                exact fw k c (Nat.le_refl _) rk
              · rw [getD_app1 (by omega)]
                exact fw i _ (by omega) (rows i (by omega))
      · obtain ⟨e9, e8⟩ := hno r1
        obtain ⟨y, hy⟩ : ∃ y, y = gG τ 77 8 := ⟨_, rfl⟩
        rw [← hy] at e8
        have hE2 : paF t n (m + 1) c = (false, (stR t n c).2, []) := if_neg r1
        rw [hE2] at hE
        have p1 : psA A = (false, (stR t n c).2, Q ++ []) := ePs.trans hE
        have ge0 : 0 ≤ (stR t n c).2 := by
          have : 0 ≤ (psA A).2.1 := by rw [ePs]; exact hpa.1.1
          rw [p1] at this
          exact this
        refine V_aload_n dX12_read_19 rfl ?_
        refine V_bipush dX12_read_20 (by decide) ?_
        refine V_bipush dX12_read_22 (by decide) ?_
        refine V_callV dX12_read_24 (c_mIsFrom g _ hS t n hT y (stR t n c).2 hy.symm e9 e8 (by omega) 59 59 (by decide) (by decide)) sv_RX12_215 (sh hS rfl) rfl ⟨⟨by decide, by decide⟩, ⟨by decide, by decide⟩⟩ (Nat.le_of_ble_eq_true rfl) (fun r24 s24 p24 => ?_)
        obtain ⟨rfl, rfl⟩ := p24
        refine V_ifeqB (tgt := 47) dX12_read_27 (by decide) (fun br27 => ?_) (fun br27 => ?_)
        · refine V_aload_n dX12_read_47 rfl ?_
          refine V_getfi dX12_read_48 sf_RX12_209 rfl (sh hS rfl) ?_
          refine V_val (show _ = (stR t n c).2 from e9) ?_
          refine V_ifge (tgt := 69) dX12_read_51 (by decide) (by omega) (fun br51 => ?_) (fun br51 => ?_)
          · refine V_mask [true, false] ?_
            refine tail _ hF (by rw [p1]; exact e9) (fun z => ?_)
            rw [p1] at z
            cases z
          · omega
        · omega
  have hF0 : LF 0 σ (setG (setG (setG σ 77 8 0) 77 9 (-1)) 77 10 0) := (((LF.rf 0 σ).on77 _ (by decide)).on77 _ (by decide)).on77 _ (by decide)
  refine V_aload_n dX12_read_0 rfl ?_
  refine V_iconst dX12_read_1 ?_
  refine V_puti dX12_read_2 (sp_RX12_212 _) rfl (sh hS rfl) ?_
  refine V_aload_n dX12_read_5 rfl ?_
  refine V_iconst dX12_read_6 ?_
  refine V_puti dX12_read_7 (sp_RX12_209 _) rfl (sh hS rfl) ?_
  refine V_aload_n dX12_read_10 rfl ?_
  refine V_iconst dX12_read_11 ?_
  refine V_puti dX12_read_12 (sp_RX12_224 _) rfl (sh hS rfl) ?_
  refine V_aload_n dX12_read_15 rfl ?_
  refine V_callV dX12_read_16 (c_mReads g (setG (setG (setG σ 77 8 0) 77 9 (-1)) 77 10 0) hS t n (hF0.tm hT0) 0 rfl rfl 0 rfl (by decide) (by omega)) sv_RX12_243 (sh hS rfl) rfl ⟨⟨by decide, by decide⟩, ⟨by decide, by decide⟩⟩ (Nat.le_of_ble_eq_true rfl) (fun r16 s16 p16 => ?_)
  obtain ⟨rfl, hG, u1, u2⟩ := p16
  refine V_mask [true, false] ?_
  exact loop 27 26 0 [] 0 _ (by decide) rfl rfl (by decide) hnb.1 rfl (hF0.tr hG (Nat.zero_le _)) (fun z => ⟨(u1 z).1, (u1 z).2.1, (u1 z).2.2.1, (u1 z).2.2.2.1, (u1 z).2.2.2.2⟩) u2 (fun i hi => absurd hi (Nat.not_lt_zero i))