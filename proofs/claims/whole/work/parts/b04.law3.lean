/-! The law's catchers. -/
def lSp (sp : exSp) (as : List eV) (M : eM) (o : Int) (post : Int → Int → eM → Prop) (xs : List (String × Int)) : Prop := sp as M (fun r M' => ∃ z, r = some (eI z) ∧ ∃ z', r = some (eI z') ∧ w32 z' ∧ post 0 z' M') (fun E => ∃ k, (E, k) ∈ xs ∧ post k o M)
def lMet (y : MethodName) (cc : ByteArray) (nL : Nat) (hh : List (Nat × Nat × Nat × Nat)) (fr lo : Nat) (sp : exSp) (xs : List (String × Int)) : Prop :=
  ∀ (l : Launch), l.stackTraces = false → ∀ (G : eG) (A : Nat → Prop) (as : List eV) (M : eM) (o : Int) (qo : Nat) (post : Int → Int → eM → Prop), lSp sp as M o post xs →
    Met l y (.codeWith y cc nL (some .int) hh :: gW) { frames := fr, cells := 1, slots := 6, locals := lo } (lPc G A as M qo o) (lQ G A qo post) 1 6 (fun q => A q ∨ q = qo)
theorem lO.kept {G : eG} {q : Nat} {o : Int} {H H1 : Heap} (h : lO G q o H) (hk : H1[q]? = H[q]?) : lO G q o H1 := hk.trans h
theorem lO.lt {G : eG} {q : Nat} {o : Int} {H : Heap} (h : lO G q o H) : q < H.size := (Array.getElem?_eq_some_iff.mp h).1
section
variable {p : Program} {l : Launch} {e : Env} {R : Room} {s : State} {m : MethodId} {args : Array Value} {below : List Frame} {meth : Method} {c : Code} {Qc : Array Value → State → Outcome → State → Prop} {free : Addr → Prop} {cc : ByteArray} {pc : Nat} {H : Heap} {locs : List Loc} {lm : Array Slot} {mc ms : Nat}
/-- a number, and back -/
theorem lw_iret (hx : p.tables.exec = Jvm.exec) (hb : c.code = cc) (hr : meth.sig.returnType = some .int) (hlocks : meth.locks = false) {k : Int} (d0 : decode cc pc = .ok (.iconst k, 1)) (d1 : decode cc (pc + 1) = .ok (.ireturn, 1)) (hf : ∀ q ∈ locs, free q.base) (h : ∀ t : State, t.heap = H → Qc args s (.returned (some (.int (Int32.ofInt k)))) t) :
    W p l e R s m args below meth c H locs mc ms (MQ below Qc args s mc ms free) (F0 m pc lm []) := by
  refine lv_iconst (v := Int32.ofInt k) hx hb d0 rfl ?_
  exact W.zret hx hb hr (show narrow .int (Value.int (Int32.ofInt k)) = _ from rfl) (fun t ht _ => h t ht) hf d1 hlocks
end
set_option maxRecDepth 100000 in
theorem lL_signature : lMet yL_signature cL_signature 4 [(0, 9, 12, 15), (0, 9, 15, 25)] 7 112 exSig [(xIA, 1), (xIS, 2)] := by
  intro l hl0 G A as M o qo post hsp
  refine m_ofWH (cc := cL_signature) (maxL := 4) (ret := some .int) (hh := [(0, 9, 12, 15), (0, 9, 15, 25)]) (by decide) rfl ?_
  intro p e s m args below meth c s₁ B hml hv
  have hsp0 := hsp
  obtain ⟨F, A1, W, z, rfl, rfl, -⟩ := hsp0
  obtain ⟨rfl, hP, hK, hF, hZ, hO, hnA, hn1, hn2⟩ := hv
  have hts : ∀ w ∈ gW, w.before ([eR (0, 0), eI z].map (cv G) ++ [Value.ref qo]).toArray s = true := fun w hw => atoms_spec (ws := .codeWith yL_signature cL_signature 4 (some .int) [(0, 9, 12, 15), (0, 9, 15, 25)] :: gW) B.pre w (List.mem_cons_of_mem _ hw)
  have htab := vx_table (x := yL_signature) B (atoms_spec (ws := .codeWith yL_signature cL_signature 4 (some .int) [(0, 9, 12, 15), (0, 9, 15, 25)] :: gW) B.pre _ List.mem_cons_self)
  have hown : s.vm.findClass RL = some m.cls := findClass_of_methodNamed B.named
  have hx := B.exec
  have hb := B.bytes
  have hr := B.returns
  have hlocks := B.notSynchronized
  have hB : lB RL cL_signature 4 p s m ([eR (0, 0), eI z].map (cv G) ++ [Value.ref qo]).toArray c := ⟨hx, hb, hml, hown, hts⟩
  have hl := lv_entry ([eR (0, 0), eI z].map (cv G) ++ [Value.ref qo]) (n := 4) (Nat.le_of_ble_eq_true rfl)
  rw [lg_entry_eq]
  generalize (lg_sl ([eR (0, 0), eI z].map (cv G) ++ [Value.ref qo]) ++ List.replicate (4 - (lg_sl ([eR (0, 0), eI z].map (cv G) ++ [Value.ref qo])).length) Slot.unset).toArray = ls at hl ⊢
  refine lv_aload_n hx hb (show decode cL_signature 0 = .ok (.aload_n 2, 1) by decide +kernel) rfl (lv_at hl 2 rfl) ?_
  refine lv_iconst (v := 0) hx hb (show decode cL_signature 1 = .ok (.iconst 0, 1) by decide +kernel) (by decide) ?_
  refine lv_aload_n hx hb (show decode cL_signature 2 = .ok (.aload_n 0, 1) by decide +kernel) rfl (lv_at hl 0 rfl) ?_
  refine lv_iload_n hx hb (show decode cL_signature 3 = .ok (.iload_n 1, 1) by decide +kernel) rfl (lv_at hl 1 rfl) ?_
  refine lw_callX (A0 := fun q => A q ∨ q = qo) (a := (0, 0)) (ci := 8) (na := 1) (as := [eI z]) (st := [.int 0, .ref qo]) hB hl0 hl.1 hK hF hZ xX9_signature rfl (show cC F A1 W (0, 0) = _ from rfl) (gW_at 956 (by decide +kernel) rfl) (gW_at 79 (by decide +kernel) rfl) (gW_at 954 (by decide +kernel) rfl) (gW_at 955 (by decide +kernel) rfl) (gW_at 953 (by decide +kernel) rfl) (by decide +kernel) ⟨Nat.le_of_ble_eq_true rfl, Nat.le_of_ble_eq_true rfl⟩ (Nat.le_refl _) (Nat.le_refl _) (show decode cL_signature 4 = .ok (.invokevirtual 21, 3) by decide +kernel) rfl (Nat.le_of_ble_eq_true rfl) hsp hP va_S.rf (fun q h => Or.inl h) ?_ ?_
  · intro E ce q9 H1 locs1 hxt hP1 hk1 hS1 hce hcv hcl
    obtain ⟨k, hmem, hpost⟩ := hxt
    have hO1 : lO G qo o H1 := hO.kept (hk1 qo hO.lt hnA)
    simp only [List.mem_cons, Prod.mk.injEq, List.not_mem_nil, or_false] at hmem
    rcases hmem with ⟨rfl, rfl⟩ | ⟨rfl, rfl⟩
    · refine vx_catch (name := xIA) hown [] ⟨0, 9, 12, 15⟩ [⟨0, 9, 15, 25⟩] (by rw [htab]; rfl) (fun z hz => absurd hz List.not_mem_nil) (by decide) (by decide) (hts _ (gW_at 852 (by decide +kernel) rfl)) (va_Nw.use rfl (hF.1 xIA (by decide))) hce hcv hcl ?_
      refine lv_astore_n hx hb (show decode cL_signature 12 = .ok (.astore_n 3, 1) by decide +kernel) rfl hl (by decide) rfl (fun ls hl => ?_)
      exact lw_iret hx hb hr hlocks (k := 1) (show decode cL_signature 13 = .ok (.iconst 1, 1) by decide +kernel) (show decode cL_signature 14 = .ok (.ireturn, 1) by decide +kernel) hS1.2.2 (fun t ht => ⟨⟨1, o, _, rfl, hpost, by rw [ht]; exact hP1, by rw [ht]; exact hO1⟩, hS1.F ht⟩)
    · refine vx_catch (name := xIS) hown [⟨0, 9, 12, 15⟩] ⟨0, 9, 15, 25⟩ [] (by rw [htab]; rfl) (fun z hz => by rw [List.mem_singleton.mp hz]; exact Or.inr ⟨by decide, xIA, hts _ (gW_at 852 (by decide +kernel) rfl), hn2⟩) (by decide) (by decide) (hts _ (gW_at 952 (by decide +kernel) rfl)) (va_Nw.use rfl (hF.1 xIS (by decide))) hce hcv hcl ?_
      refine lv_astore_n hx hb (show decode cL_signature 15 = .ok (.astore_n 3, 1) by decide +kernel) rfl hl (by decide) rfl (fun ls hl => ?_)
      exact lw_iret hx hb hr hlocks (k := 2) (show decode cL_signature 16 = .ok (.iconst 2, 1) by decide +kernel) (show decode cL_signature 17 = .ok (.ireturn, 1) by decide +kernel) hS1.2.2 (fun t ht => ⟨⟨2, o, _, rfl, hpost, by rw [ht]; exact hP1, by rw [ht]; exact hO1⟩, hS1.F ht⟩)
  · intro z2 M' H1 locs1 hrt hP1 hk1 hS1
    obtain ⟨z3, e3, hw3, hpost⟩ := hrt
    cases e3
    have hO1 : lO G qo o H1 := hO.kept (hk1 qo hO.lt hnA)
    refine lv_i2l hx hb (show decode cL_signature 7 = .ok (.i2l, 1) by decide +kernel) (z_wl _ hw3) ?_
    refine lw_out hB hK (show decode cL_signature 8 = .ok (.lastore, 1) by decide +kernel) hO1 hS1 (Or.inr rfl) (fun H2 locs2 hO2 hk2 hz2 hS2 => ?_)
    have hP2 := hP1.kept (H1 := H2) (fun x hx1 hx2 => hk2 x (fun e => hnA (e ▸ hx1)))
    refine lv_goto (tgt := 18) hx hb (show decode cL_signature 9 = .ok (.goto 9, 3) by decide +kernel) (by decide) ?_
    exact lw_iret hx hb hr hlocks (k := 0) (show decode cL_signature 18 = .ok (.iconst 0, 1) by decide +kernel) (show decode cL_signature 19 = .ok (.ireturn, 1) by decide +kernel) hS2.2.2 (fun t ht => ⟨⟨0, z2, M', rfl, hpost, by rw [ht]; exact hP2, by rw [ht]; exact hO2⟩, hS2.F ht⟩)
set_option maxRecDepth 100000 in
theorem lL_term : lMet yL_term cL_term 7 [(0, 14, 17, 13), (0, 14, 21, 15)] 8 142 exTer [(xIO, 1), (xIA, 2)] := by
  intro l hl0 G A as M o qo post hsp
  refine m_ofWH (cc := cL_term) (maxL := 7) (ret := some .int) (hh := [(0, 14, 17, 13), (0, 14, 21, 15)]) (by decide) rfl ?_
  intro p e s m args below meth c s₁ B hml hv
  have hsp0 := hsp
  obtain ⟨F, A1, W, k, a, b, c9, rfl, rfl, -⟩ := hsp0
  obtain ⟨rfl, hP, hK, hF, hZ, hO, hnA, hn1, hn2⟩ := hv
  have hts : ∀ w ∈ gW, w.before ([eR (0, 0), eI k, eI a, eI b, eI c9].map (cv G) ++ [Value.ref qo]).toArray s = true := fun w hw => atoms_spec (ws := .codeWith yL_term cL_term 7 (some .int) [(0, 14, 17, 13), (0, 14, 21, 15)] :: gW) B.pre w (List.mem_cons_of_mem _ hw)
  have htab := vx_table (x := yL_term) B (atoms_spec (ws := .codeWith yL_term cL_term 7 (some .int) [(0, 14, 17, 13), (0, 14, 21, 15)] :: gW) B.pre _ List.mem_cons_self)
  have hown : s.vm.findClass RL = some m.cls := findClass_of_methodNamed B.named
  have hx := B.exec
  have hb := B.bytes
  have hr := B.returns
  have hlocks := B.notSynchronized
  have hB : lB RL cL_term 7 p s m ([eR (0, 0), eI k, eI a, eI b, eI c9].map (cv G) ++ [Value.ref qo]).toArray c := ⟨hx, hb, hml, hown, hts⟩
  have hl := lv_entry ([eR (0, 0), eI k, eI a, eI b, eI c9].map (cv G) ++ [Value.ref qo]) (n := 7) (Nat.le_of_ble_eq_true rfl)
  rw [lg_entry_eq]
  generalize (lg_sl ([eR (0, 0), eI k, eI a, eI b, eI c9].map (cv G) ++ [Value.ref qo]) ++ List.replicate (7 - (lg_sl ([eR (0, 0), eI k, eI a, eI b, eI c9].map (cv G) ++ [Value.ref qo])).length) Slot.unset).toArray = ls at hl ⊢
  refine lv_aload hx hb (show decode cL_term 0 = .ok (.aload 5, 2) by decide +kernel) (lv_at hl 5 rfl) ?_
  refine lv_iconst (v := 0) hx hb (show decode cL_term 2 = .ok (.iconst 0, 1) by decide +kernel) (by decide) ?_
  refine lv_aload_n hx hb (show decode cL_term 3 = .ok (.aload_n 0, 1) by decide +kernel) rfl (lv_at hl 0 rfl) ?_
  refine lv_iload_n hx hb (show decode cL_term 4 = .ok (.iload_n 1, 1) by decide +kernel) rfl (lv_at hl 1 rfl) ?_
  refine lv_iload_n hx hb (show decode cL_term 5 = .ok (.iload_n 2, 1) by decide +kernel) rfl (lv_at hl 2 rfl) ?_
  refine lv_iload_n hx hb (show decode cL_term 6 = .ok (.iload_n 3, 1) by decide +kernel) rfl (lv_at hl 3 rfl) ?_
  refine lv_iload hx hb (show decode cL_term 7 = .ok (.iload 4, 2) by decide +kernel) (lv_at hl 4 rfl) ?_
  refine lw_callX (A0 := fun q => A q ∨ q = qo) (a := (0, 0)) (ci := 8) (na := 4) (as := [eI k, eI a, eI b, eI c9]) (st := [.int 0, .ref qo]) hB hl0 hl.1 hK hF hZ xX9_term rfl (show cC F A1 W (0, 0) = _ from rfl) (gW_at 856 (by decide +kernel) rfl) (gW_at 79 (by decide +kernel) rfl) (gW_at 854 (by decide +kernel) rfl) (gW_at 855 (by decide +kernel) rfl) (gW_at 853 (by decide +kernel) rfl) (by decide +kernel) ⟨Nat.le_of_ble_eq_true rfl, Nat.le_of_ble_eq_true rfl⟩ (Nat.le_refl _) (Nat.le_refl _) (show decode cL_term 9 = .ok (.invokevirtual 7, 3) by decide +kernel) rfl (Nat.le_of_ble_eq_true rfl) hsp hP va_S.rf (fun q h => Or.inl h) ?_ ?_
  · intro E ce q9 H1 locs1 hxt hP1 hk1 hS1 hce hcv hcl
    obtain ⟨k, hmem, hpost⟩ := hxt
    have hO1 : lO G qo o H1 := hO.kept (hk1 qo hO.lt hnA)
    simp only [List.mem_cons, Prod.mk.injEq, List.not_mem_nil, or_false] at hmem
    rcases hmem with ⟨rfl, rfl⟩ | ⟨rfl, rfl⟩
    · refine vx_catch (name := xIO) hown [] ⟨0, 14, 17, 13⟩ [⟨0, 14, 21, 15⟩] (by rw [htab]; rfl) (fun z hz => absurd hz List.not_mem_nil) (by decide) (by decide) (hts _ (gW_at 851 (by decide +kernel) rfl)) (va_Nw.use rfl (hF.1 xIO (by decide))) hce hcv hcl ?_
      refine lv_astore hx hb (show decode cL_term 17 = .ok (.astore 6, 2) by decide +kernel) hl (by decide) rfl (fun ls hl => ?_)
      exact lw_iret hx hb hr hlocks (k := 1) (show decode cL_term 19 = .ok (.iconst 1, 1) by decide +kernel) (show decode cL_term 20 = .ok (.ireturn, 1) by decide +kernel) hS1.2.2 (fun t ht => ⟨⟨1, o, _, rfl, hpost, by rw [ht]; exact hP1, by rw [ht]; exact hO1⟩, hS1.F ht⟩)
    · refine vx_catch (name := xIA) hown [⟨0, 14, 17, 13⟩] ⟨0, 14, 21, 15⟩ [] (by rw [htab]; rfl) (fun z hz => by rw [List.mem_singleton.mp hz]; exact Or.inr ⟨by decide, xIO, hts _ (gW_at 851 (by decide +kernel) rfl), hn1⟩) (by decide) (by decide) (hts _ (gW_at 852 (by decide +kernel) rfl)) (va_Nw.use rfl (hF.1 xIA (by decide))) hce hcv hcl ?_
      refine lv_astore hx hb (show decode cL_term 21 = .ok (.astore 6, 2) by decide +kernel) hl (by decide) rfl (fun ls hl => ?_)
      exact lw_iret hx hb hr hlocks (k := 2) (show decode cL_term 23 = .ok (.iconst 2, 1) by decide +kernel) (show decode cL_term 24 = .ok (.ireturn, 1) by decide +kernel) hS1.2.2 (fun t ht => ⟨⟨2, o, _, rfl, hpost, by rw [ht]; exact hP1, by rw [ht]; exact hO1⟩, hS1.F ht⟩)
  · intro z2 M' H1 locs1 hrt hP1 hk1 hS1
    obtain ⟨z3, e3, hw3, hpost⟩ := hrt
    cases e3
    have hO1 : lO G qo o H1 := hO.kept (hk1 qo hO.lt hnA)
    refine lv_i2l hx hb (show decode cL_term 12 = .ok (.i2l, 1) by decide +kernel) (z_wl _ hw3) ?_
    refine lw_out hB hK (show decode cL_term 13 = .ok (.lastore, 1) by decide +kernel) hO1 hS1 (Or.inr rfl) (fun H2 locs2 hO2 hk2 hz2 hS2 => ?_)
    have hP2 := hP1.kept (H1 := H2) (fun x hx1 hx2 => hk2 x (fun e => hnA (e ▸ hx1)))
    refine lv_goto (tgt := 25) hx hb (show decode cL_term 14 = .ok (.goto 11, 3) by decide +kernel) (by decide) ?_
    exact lw_iret hx hb hr hlocks (k := 0) (show decode cL_term 25 = .ok (.iconst 0, 1) by decide +kernel) (show decode cL_term 26 = .ok (.ireturn, 1) by decide +kernel) hS2.2.2 (fun t ht => ⟨⟨0, z2, M', rfl, hpost, by rw [ht]; exact hP2, by rw [ht]; exact hO2⟩, hS2.F ht⟩)
set_option maxRecDepth 100000 in
theorem lL_query : lMet yL_query cL_query 6 [(0, 12, 15, 15)] 8 142 exQue [(xIA, 1)] := by
  intro l hl0 G A as M o qo post hsp
  refine m_ofWH (cc := cL_query) (maxL := 6) (ret := some .int) (hh := [(0, 12, 15, 15)]) (by decide) rfl ?_
  intro p e s m args below meth c s₁ B hml hv
  have hsp0 := hsp
  obtain ⟨F, A1, W, a, b, c9, rfl, rfl, -⟩ := hsp0
  obtain ⟨rfl, hP, hK, hF, hZ, hO, hnA, hn1, hn2⟩ := hv
  have hts : ∀ w ∈ gW, w.before ([eR (0, 0), eI a, eI b, eI c9].map (cv G) ++ [Value.ref qo]).toArray s = true := fun w hw => atoms_spec (ws := .codeWith yL_query cL_query 6 (some .int) [(0, 12, 15, 15)] :: gW) B.pre w (List.mem_cons_of_mem _ hw)
  have htab := vx_table (x := yL_query) B (atoms_spec (ws := .codeWith yL_query cL_query 6 (some .int) [(0, 12, 15, 15)] :: gW) B.pre _ List.mem_cons_self)
  have hown : s.vm.findClass RL = some m.cls := findClass_of_methodNamed B.named
  have hx := B.exec
  have hb := B.bytes
  have hr := B.returns
  have hlocks := B.notSynchronized
  have hB : lB RL cL_query 6 p s m ([eR (0, 0), eI a, eI b, eI c9].map (cv G) ++ [Value.ref qo]).toArray c := ⟨hx, hb, hml, hown, hts⟩
  have hl := lv_entry ([eR (0, 0), eI a, eI b, eI c9].map (cv G) ++ [Value.ref qo]) (n := 6) (Nat.le_of_ble_eq_true rfl)
  rw [lg_entry_eq]
  generalize (lg_sl ([eR (0, 0), eI a, eI b, eI c9].map (cv G) ++ [Value.ref qo]) ++ List.replicate (6 - (lg_sl ([eR (0, 0), eI a, eI b, eI c9].map (cv G) ++ [Value.ref qo])).length) Slot.unset).toArray = ls at hl ⊢
  refine lv_aload hx hb (show decode cL_query 0 = .ok (.aload 4, 2) by decide +kernel) (lv_at hl 4 rfl) ?_
  refine lv_iconst (v := 0) hx hb (show decode cL_query 2 = .ok (.iconst 0, 1) by decide +kernel) (by decide) ?_
  refine lv_aload_n hx hb (show decode cL_query 3 = .ok (.aload_n 0, 1) by decide +kernel) rfl (lv_at hl 0 rfl) ?_
  refine lv_iload_n hx hb (show decode cL_query 4 = .ok (.iload_n 1, 1) by decide +kernel) rfl (lv_at hl 1 rfl) ?_
  refine lv_iload_n hx hb (show decode cL_query 5 = .ok (.iload_n 2, 1) by decide +kernel) rfl (lv_at hl 2 rfl) ?_
  refine lv_iload_n hx hb (show decode cL_query 6 = .ok (.iload_n 3, 1) by decide +kernel) rfl (lv_at hl 3 rfl) ?_
  refine lw_callX (A0 := fun q => A q ∨ q = qo) (a := (0, 0)) (ci := 8) (na := 3) (as := [eI a, eI b, eI c9]) (st := [.int 0, .ref qo]) hB hl0 hl.1 hK hF hZ xX9_query rfl (show cC F A1 W (0, 0) = _ from rfl) (gW_at 948 (by decide +kernel) rfl) (gW_at 79 (by decide +kernel) rfl) (gW_at 946 (by decide +kernel) rfl) (gW_at 947 (by decide +kernel) rfl) (gW_at 945 (by decide +kernel) rfl) (by decide +kernel) ⟨Nat.le_of_ble_eq_true rfl, Nat.le_of_ble_eq_true rfl⟩ (Nat.le_refl _) (Nat.le_refl _) (show decode cL_query 7 = .ok (.invokevirtual 17, 3) by decide +kernel) rfl (Nat.le_of_ble_eq_true rfl) hsp hP va_S.rf (fun q h => Or.inl h) ?_ ?_
  · intro E ce q9 H1 locs1 hxt hP1 hk1 hS1 hce hcv hcl
    obtain ⟨k, hmem, hpost⟩ := hxt
    have hO1 : lO G qo o H1 := hO.kept (hk1 qo hO.lt hnA)
    simp only [List.mem_cons, Prod.mk.injEq, List.not_mem_nil, or_false] at hmem
    rcases hmem with ⟨rfl, rfl⟩
    · refine vx_catch (name := xIA) hown [] ⟨0, 12, 15, 15⟩ [] (by rw [htab]; rfl) (fun z hz => absurd hz List.not_mem_nil) (by decide) (by decide) (hts _ (gW_at 852 (by decide +kernel) rfl)) (va_Nw.use rfl (hF.1 xIA (by decide))) hce hcv hcl ?_
      refine lv_astore hx hb (show decode cL_query 15 = .ok (.astore 5, 2) by decide +kernel) hl (by decide) rfl (fun ls hl => ?_)
      exact lw_iret hx hb hr hlocks (k := 1) (show decode cL_query 17 = .ok (.iconst 1, 1) by decide +kernel) (show decode cL_query 18 = .ok (.ireturn, 1) by decide +kernel) hS1.2.2 (fun t ht => ⟨⟨1, o, _, rfl, hpost, by rw [ht]; exact hP1, by rw [ht]; exact hO1⟩, hS1.F ht⟩)
  · intro z2 M' H1 locs1 hrt hP1 hk1 hS1
    obtain ⟨z3, e3, hw3, hpost⟩ := hrt
    cases e3
    have hO1 : lO G qo o H1 := hO.kept (hk1 qo hO.lt hnA)
    refine lv_i2l hx hb (show decode cL_query 10 = .ok (.i2l, 1) by decide +kernel) (z_wl _ hw3) ?_
    refine lw_out hB hK (show decode cL_query 11 = .ok (.lastore, 1) by decide +kernel) hO1 hS1 (Or.inr rfl) (fun H2 locs2 hO2 hk2 hz2 hS2 => ?_)
    have hP2 := hP1.kept (H1 := H2) (fun x hx1 hx2 => hk2 x (fun e => hnA (e ▸ hx1)))
    refine lv_goto (tgt := 19) hx hb (show decode cL_query 12 = .ok (.goto 7, 3) by decide +kernel) (by decide) ?_
    exact lw_iret hx hb hr hlocks (k := 0) (show decode cL_query 19 = .ok (.iconst 0, 1) by decide +kernel) (show decode cL_query 20 = .ok (.ireturn, 1) by decide +kernel) hS2.2.2 (fun t ht => ⟨⟨0, z2, M', rfl, hpost, by rw [ht]; exact hP2, by rw [ht]; exact hO2⟩, hS2.F ht⟩)
