/-! The law's calls of its catchers. -/
section LKS
variable {gC : va_G} {tC : Nat → ClassId} {p : Program} {l : Launch} {e : Env} {s : State} {m : MethodId} {below : List Frame} {meth : Method} {c : Code} {Q : State → Prop} {st : List Value} {M1 M2 : eM} {o : Int} {i : Nat} {pc : Nat} {n k0 : Nat} {H : Heap} {locs : List Loc} {ls : Array Slot} {b : Nat}
theorem lw_kS (B : lB RL cL_law 7 p s m #[Value.ref b] c) (hl0 : l.stackTraces = false) (hK : eKn (lG1 gC tC s.heap.size) s) (hX : eXF s) (hZ : eXZ (lwA1 s.heap.size) s s.heap) (hn1 : va_Nc xIA xIO s) (hn2 : va_Nc xIS xIA s) (hC : lCx gC tC s b M1 M2 o i H locs ls) {idx nY fr lo na : Nat} {y : MethodName} {cy : ByteArray} {hh : List (Nat × Nat × Nat × Nat)} {sp : exSp} {xl : List (String × Int)} (hM : lMet y cy nY hh fr lo sp xl)
    (hcode : Cond.codeWith y cy nY (some .int) hh ∈ gW) (hini : Cond.initialized y.cls ∈ gW) (hsta : Cond.static y ∈ gW) (hlk : Cond.methodLink RL idx y ∈ gW) (h3 : y.cls ≠ "java/lang/invoke/MethodHandle" ∧ y.cls ≠ "java/lang/invoke/VarHandle" ∧ (parseMethodDescriptor y.desc).map (fun d => d.parameters.length) = some (na + 1)) (hR : fr + 1 ≤ room_1.frames ∧ 8 + (nY + 11) + lo ≤ room_1.locals)
    (hd : decode cL_law pc = .ok (.invokestatic idx, 3)) {as : List eV} {post : Int → Int → eM → Prop} (hn : as.length = na) (hW : (st.map fun v => v.category).sum ≤ 8) (hsp : lSp sp as M1 o post xl) (hc : n + 1 ≤ room_1.cells) (hs : k0 + 6 ≤ room_1.slots)
    (kk : ∀ (k o' : Int) (M' : eM) (H1 : Heap) (locs1 : List Loc), post k o' M' → lCx gC tC s b M' M2 o' i H1 locs1 ls → W p l e room_1 s m #[Value.ref b] below meth c H1 locs1 (n + 1) (k0 + 6) Q (F0 m (pc + 3) ls (.int (Int32.ofInt k) :: st))) : W p l e room_1 s m #[Value.ref b] below meth c H locs n k0 Q (F0 m pc ls (.ref (s.heap.size + 762) :: ((as.map (cv (lG1 gC tC s.heap.size))).reverse ++ st))) := by
  obtain ⟨hx, hb, hml, hown, hts⟩ := B
  obtain ⟨hP1, hP2, hO, hS, lv, hl⟩ := hC
  have hk0 : ∀ a : Nat, a < s.heap.size → ¬ lwA1 s.heap.size a → H[a]? = s.heap[a]? := fun a ha _ => hS.2.1 a ha (fun h => by omega)
  have hnA : ¬ lwA1 s.heap.size (s.heap.size + 762) := fun h => by have := h.2; omega
  have hpre : PreS s H (lPc (lG1 gC tC s.heap.size) (lwA1 s.heap.size) as M1 (s.heap.size + 762) o) (as.map (cv (lG1 gC tC s.heap.size)) ++ [Value.ref (s.heap.size + 762)]) := ⟨lPc.blind, fun U hU hW => ⟨rfl, by rw [hU]; exact hP1, hK.moved hW.alike, hX.warm hW, by rw [hU]; exact ⟨vx_Zq.moved hW.alike (hZ.1.kept hk0), vx_Zq.moved hW.alike (hZ.2.kept hk0)⟩, by rw [hU]; exact hO, hnA, hn1.moved hW.alike, hn2.moved hW.alike⟩⟩
  have hlen : (as.map (cv (lG1 gC tC s.heap.size)) ++ [Value.ref (s.heap.size + 762)]).length = na + 1 := by simp [hn]
  have hstk : (.ref (s.heap.size + 762) :: ((as.map (cv (lG1 gC tC s.heap.size))).reverse ++ st) : List Value) = (as.map (cv (lG1 gC tC s.heap.size)) ++ [Value.ref (s.heap.size + 762)]).reverse ++ st := by simp
  rw [hstk]
  have hWc : 2 * (F0 m pc ls ((as.map (cv (lG1 gC tC s.heap.size)) ++ [Value.ref (s.heap.size + 762)]).reverse ++ st)).monitorRoom + (st.map fun v => v.category).sum ≤ 8 := by simpa [JFrame.monitorRoom] using hW
  have hG : GoodIn gW (va_wsS RL idx y (Cond.codeWith y cy nY (some .int) hh :: gW)) := by
    intro w hw
    have hm : w ∈ gW := by
      unfold va_wsS at hw
      simp only [List.mem_append, List.mem_cons, List.not_mem_nil, or_false] at hw
      rcases hw with (rfl | rfl | rfl) | rfl | h
      all_goals first | assumption
    exact ⟨hm, good_of_word (List.mem_filter.mp hm).2⟩
  intro S hSt X
  obtain ⟨v, st₀, t, T', L, h0, X', hL, e1, e2, ⟨⟨k, o', M', hv, hpost, hP', hO'⟩, hF⟩, stp⟩ := vx_runSW (As := as.map (cv (lG1 gC tC s.heap.size)) ++ [Value.ref (s.heap.size + 762)]) (rest := st) ⟨hx, hb, hml, hown, hts⟩ (hM l hl0 (lG1 gC tC s.heap.size) (lwA1 s.heap.size) as M1 o (s.heap.size + 762) post hsp) (vx_cwSW (na + 1) hts hG rfl rfl rfl h3 hR) hpre rfl hlen hl.1 rfl hWc hd ⟨hc, hs⟩ S hSt X
  have hv' : v = some (.int (Int32.ofInt k)) := Outcome.returned.inj hv
  subst hv'
  have hfr : ∀ q : Nat, (lwA1 s.heap.size q ∨ q = s.heap.size + 762) → s.heap.size ≤ q := fun q h => by
    rcases h with h | h
    · exact h.1
    · omega
  obtain ⟨k1, k2, k3⟩ := vx_keep (A1 := fun q => lwA1 s.heap.size q ∨ q = s.heap.size + 762) (free := fun q => lwA1 s.heap.size q ∨ q = s.heap.size + 762) h0 e1 hS (fun q _ h => hfr q h) hfr hL hF
  obtain ⟨t2, a1, b1⟩ := kk k o' M' T'.heap (locs ++ L) hpost ⟨by rw [e1]; exact hP', hP2.kept (fun q hq hlt => k2 q hlt (fun h => by
    have h1 := hq.1
    have h2 := hq.2
    rcases h with h | h
    · have := h.2; omega
    · omega)), by rw [e1]; exact hO', k3, lv, hl⟩ T' rfl X'
  exact ⟨t2, stp t2 a1, b1⟩
end LKS
