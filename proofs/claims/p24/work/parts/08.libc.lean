/-! LIB C: contracts, returns, throws, calls, catches -/
theorem x_ofW {l : Launch} {y : MethodName} {ws ws' : List Cond} {rm : Room} {Pc : Array Value → State → Prop} {Qc : Array Value → State → Outcome → State → Prop} {XC : String → State → State → Prop} {mc ms : Nat} {free : Addr → Prop} {cc : ByteArray} {maxL : Nat} {ret : Option FieldType}
    (hy : plainFor y = true) (hw : ws = Cond.code y cc maxL ret :: ws')
    (body : ∀ p e s m args below meth c s₁, BodyLoose p l y (headSpec ws rm) cc maxL ret e s m args below meth c s₁ → c.maxLocals = maxL → (∀ x ∈ c.exceptionTable.toList, False) → Pc args s →
      W p l e (headSpec ws rm).room s m args below meth c s.heap [] 0 0 (vx_MQ below Qc XC args s mc ms free) (entryFrame m args maxL)) : vx_Met l y ws rm Pc Qc XC mc ms free := by
  refine MetFree.of_bodySF (code := cc) (maxLocals := maxL) (ret := ret) hy ?_ ?_
  · intro args s m h hn
    obtain ⟨meth, c, h1, h2, h3, h4, h5, h6, -, -⟩ := Cond.code_spec hn (atoms_spec (ws := ws) h _ (by rw [hw]; exact List.mem_cons_self))
    exact ⟨meth, c, h1, h2, h3, h4, h5, h6⟩
  · intro p e s m args below meth c s₁ B hml hP _
    have hh0 : s₁.heap = s.heap := by rw [B.state]; rfl
    have ht : ∀ x ∈ c.exceptionTable.toList, False := by
      obtain ⟨meth9, c9, h1, h2, -, -, -, -, h7, -⟩ := Cond.code_spec B.named (atoms_spec (ws := ws) B.pre _ (by rw [hw]; exact List.mem_cons_self))
      cases Option.some.inj (h1.symm.trans B.method)
      cases Option.some.inj (h2.symm.trans (Stand.of_body B).code)
      intro x hx
      rw [Array.isEmpty_iff.mp h7] at hx
      cases hx
    obtain ⟨t, a1, o, b1, b2, b3⟩ := body p e s m args below meth c s₁ B hml ht hP s₁ hh0 (Stand.of_body B)
    exact ⟨t, o, a1, b1, b2, b3⟩
theorem xC_of {l : Launch} {y : MethodName} {cc : ByteArray} {nL : Nat} {ret : Option FieldType} {rm : Room} {D : va_G} {e0 : Nat} {av : List Value} {cs : List va_W} {post : Option Value → List va_W → Prop} {xp : String → Prop}
    (hl0 : l.stackTraces = false) (hy : plainFor y = true) (hargs : (lg_sl av).length ≤ nL)
    (body : ∀ (G : xGt) (X : xXt), xF l D e0 y.cls cc nL ret [] rm y.name cs post xp G X → G 0 (lv_args 0 av) [] cs 0 0) : xC l y (.code y cc nL ret) rm D e0 av cs post xp := by
  intro sz
  refine x_ofW (cc := cc) (maxL := nL) (ret := ret) (ws' := xT) hy rfl ?_
  intro p e s m args below meth c s₁ B hml ht hP
  obtain ⟨rfl, hsz, hPp, hD, hZ⟩ := hP
  subst hsz
  have hts := atoms_spec (ws := .code y cc nL ret :: xT) B.pre
  rw [lg_entry_eq]
  have hD2 : va_D (va_A cs.flatten s.heap.size) cs.flatten := hD.self
  have htab : c.exceptionTable.toList = tableOf [] := by
    rw [show tableOf [] = [] from rfl]
    exact List.eq_nil_iff_forall_not_mem.mpr ht
  exact body _ _ ⟨p, e, s, m, av.toArray, below, meth, c, va_A cs.flatten s.heap.size, _, rfl, rfl, B.exec, B.bytes, hml, findClass_of_methodNamed B.named, ⟨fun w hw => hts w (List.mem_cons_of_mem _ hw), B.returns, htab, hZ, fun q h => Or.inr h, B.notSynchronized, hl0⟩, (name_of_methodNamed B.named B.method).1, rfl⟩ s.heap [] _ hPp hD2 va_S.rf (lv_entry av hargs)
theorem xCw_of {l : Launch} {y : MethodName} {cc : ByteArray} {nL : Nat} {ret : Option FieldType} {hh : List (Nat × Nat × Nat × Nat)} {rm : Room} {D : va_G} {e0 : Nat} {av : List Value} {cs : List va_W} {post : Option Value → List va_W → Prop} {xp : String → Prop}
    (hl0 : l.stackTraces = false) (hy : plainName y.cls = true) (hargs : (lg_sl av).length ≤ nL)
    (body : ∀ (G : xGt) (X : xXt), xF l D e0 y.cls cc nL ret hh rm y.name cs post xp G X → G 0 (lv_args 0 av) [] cs 0 0) : xC l y (.codeWith y cc nL ret hh) rm D e0 av cs post xp := by
  intro sz
  refine vx_ofWH (cc := cc) (maxL := nL) (ret := ret) (hh := hh) (ws' := xT) hy rfl ?_
  intro p e s m args below meth c s₁ B hml hP
  obtain ⟨rfl, hsz, hPp, hD, hZ⟩ := hP
  subst hsz
  have hts := atoms_spec (ws := .codeWith y cc nL ret hh :: xT) B.pre
  rw [lg_entry_eq]
  have hD2 : va_D (va_A cs.flatten s.heap.size) cs.flatten := hD.self
  exact body _ _ ⟨p, e, s, m, av.toArray, below, meth, c, va_A cs.flatten s.heap.size, _, rfl, rfl, B.exec, B.bytes, hml, findClass_of_methodNamed B.named, ⟨fun w hw => hts w (List.mem_cons_of_mem _ hw), B.returns, vx_table (x := y) B (hts _ List.mem_cons_self), hZ, fun q h => Or.inr h, B.notSynchronized, hl0⟩, (name_of_methodNamed B.named B.method).1, rfl⟩ s.heap [] _ hPp hD2 va_S.rf (lv_entry av hargs)
theorem x_iret {l : Launch} {D : va_G} {e0 : Nat} {own : String} {cc : ByteArray} {nL : Nat} {ret : Option FieldType} {hh : List (Nat × Nat × Nat × Nat)} {R : Room} {G : xGt} {X : xXt} {nm : String} {cs0 : List va_W} {post : Option Value → List va_W → Prop} {xp : String → Prop} (F : xF l D e0 own cc nL ret hh R nm cs0 post xp G X) {pc : Nat} {lv : List (Nat × Value)} {cs : List va_W} {k n : Nat} {v : Int32} (hrt : ret = some .int) (hdg : decode cc pc = .ok (.ireturn, 1)) (hp : post (some (.int v)) cs) (hk : k ≤ R.cells) (hn : n ≤ R.slots) : G pc lv [.int v] cs k n := by
  obtain ⟨p, e, s, m, args, below, meth, c, A, Q, rfl, rfl, hx, hb, hml, hown, ⟨hts, hret, htab, hZ, hA, hlk, htr⟩, hnm, rfl⟩ := F
  intro H locs ls hP hD hS hL
  exact W.widen hk hn (vx_ret (W.iret (v := v) hx hb (hret.trans hrt) (fun t ht hW => ⟨⟨some (.int v), cs, rfl, hp, by rw [ht]; exact hP, hD⟩, hS.F ht⟩) hS.2.2 hdg hlk))
theorem x_zret {l : Launch} {D : va_G} {e0 : Nat} {own : String} {cc : ByteArray} {nL : Nat} {ret : Option FieldType} {hh : List (Nat × Nat × Nat × Nat)} {R : Room} {G : xGt} {X : xXt} {nm : String} {cs0 : List va_W} {post : Option Value → List va_W → Prop} {xp : String → Prop} (F : xF l D e0 own cc nL ret hh R nm cs0 post xp G X) {pc : Nat} {lv : List (Nat × Value)} {cs : List va_W} {k n : Nat} {v : Int32} (hrt : ret = some .boolean) (hz : narrow .boolean (.int v) = .int v) (hdg : decode cc pc = .ok (.ireturn, 1)) (hp : post (some (.int v)) cs) (hk : k ≤ R.cells) (hn : n ≤ R.slots) : G pc lv [.int v] cs k n := by
  obtain ⟨p, e, s, m, args, below, meth, c, A, Q, rfl, rfl, hx, hb, hml, hown, ⟨hts, hret, htab, hZ, hA, hlk, htr⟩, hnm, rfl⟩ := F
  intro H locs ls hP hD hS hL
  exact W.widen hk hn (vx_ret (W.zret (v := v) hx hb (hret.trans hrt) hz (fun t ht hW => ⟨⟨some (.int v), cs, rfl, hp, by rw [ht]; exact hP, hD⟩, hS.F ht⟩) hS.2.2 hdg hlk))
theorem x_vret {l : Launch} {D : va_G} {e0 : Nat} {own : String} {cc : ByteArray} {nL : Nat} {ret : Option FieldType} {hh : List (Nat × Nat × Nat × Nat)} {R : Room} {G : xGt} {X : xXt} {nm : String} {cs0 : List va_W} {post : Option Value → List va_W → Prop} {xp : String → Prop} (F : xF l D e0 own cc nL ret hh R nm cs0 post xp G X) {pc : Nat} {lv : List (Nat × Value)} {cs : List va_W} {k n : Nat} (hrt : ret = none) (hdg : decode cc pc = .ok (.return_, 1)) (hp : post (none) cs) (hk : k ≤ R.cells) (hn : n ≤ R.slots) : G pc lv [] cs k n := by
  obtain ⟨p, e, s, m, args, below, meth, c, A, Q, rfl, rfl, hx, hb, hml, hown, ⟨hts, hret, htab, hZ, hA, hlk, htr⟩, hnm, rfl⟩ := F
  intro H locs ls hP hD hS hL
  exact W.widen hk hn (vx_ret (W.vret hx hb (hret.trans hrt) (fun t ht hW => ⟨⟨none, cs, rfl, hp, by rw [ht]; exact hP, hD⟩, hS.F ht⟩) hS.2.2 hdg hlk))
theorem x_aret {l : Launch} {D : va_G} {e0 : Nat} {own : String} {cc : ByteArray} {nL : Nat} {ret : Option FieldType} {hh : List (Nat × Nat × Nat × Nat)} {R : Room} {G : xGt} {X : xXt} {nm : String} {cs0 : List va_W} {post : Option Value → List va_W → Prop} {xp : String → Prop} (F : xF l D e0 own cc nL ret hh R nm cs0 post xp G X) {pc : Nat} {lv : List (Nat × Value)} {cs : List va_W} {k n : Nat} {a : Nat} {rt : FieldType} (hrt : ret = some rt) (hro : (∃ n, rt = .object n) ∨ ∃ t, rt = .array t) (hdg : decode cc pc = .ok (.areturn, 1)) (hp : post (some (.ref a)) cs) (hk : k ≤ R.cells) (hn : n ≤ R.slots) : G pc lv [.ref a] cs k n := by
  obtain ⟨p, e, s, m, args, below, meth, c, A, Q, rfl, rfl, hx, hb, hml, hown, ⟨hts, hret, htab, hZ, hA, hlk, htr⟩, hnm, rfl⟩ := F
  intro H locs ls hP hD hS hL
  exact W.widen hk hn (vx_ret (W.aret (v := .ref a) hx hb (hret.trans hrt) hro (Or.inr ⟨_, rfl⟩) (fun t ht hW => ⟨⟨some (.ref a), cs, rfl, hp, by rw [ht]; exact hP, hD⟩, hS.F ht⟩) hS.2.2 hdg hlk))
theorem x_out {l : Launch} {D : va_G} {e0 : Nat} {own : String} {cc : ByteArray} {nL : Nat} {ret : Option FieldType} {R : Room} {G : xGt} {X : xXt} {nm : String} {cs0 : List va_W} {post : Option Value → List va_W → Prop} {xp : String → Prop} (F : xF l D e0 own cc nL ret [] R nm cs0 post xp G X) {E : String} {pc : Nat} {lv : List (Nat × Value)} {k n : Nat} (hxp : xp E) (hk : k ≤ R.cells) (hn : n ≤ R.slots) : X E pc lv cs0 k n := by
  obtain ⟨p, e, s, m, args, below, meth, c, A, Q, rfl, rfl, hx, hb, hml, hown, ⟨hts, hret, htab, hZ, hA, hlk, htr⟩, hnm, rfl⟩ := F
  intro H locs ls rest q ce hP hD hS hL hq hv hcl
  have ht0 : c.exceptionTable.toList = [] := htab
  exact vx_out (fun x hx => by rw [ht0] at hx; cases hx) hlk hq hv hcl (fun t ht hW => ⟨hxp, by rw [ht]; exact hP, hS.F ht⟩) hS.2.2 hk hn
theorem x_Xperm {l : Launch} {D : va_G} {e0 : Nat} {own : String} {cc : ByteArray} {nL : Nat} {ret : Option FieldType} {hh : List (Nat × Nat × Nat × Nat)} {R : Room} {G : xGt} {X : xXt} (B : xB l D e0 own cc nL ret hh R G X) {E : String} {pc : Nat} {lv : List (Nat × Value)} {cs : List va_W} {k n : Nat} {cs1 : List va_W} (h : List.Perm cs.flatten cs1.flatten) (kk : X E pc lv cs1 k n) : X E pc lv cs k n := by
  obtain ⟨p, e, s, m, args, below, meth, c, A, Q, rfl, rfl, hx, hb, hml, hown, hts, hret, htab, hZ, hA, hlk, htr⟩ := B
  intro H locs ls rest q ce hP hD hS hL hq hv hcl
  exact kk H locs ls rest q ce (xP_perm h hP) (xD_perm h hD) hS hL hq hv hcl
def xNG : List Cond := xND.map Cond.declares ++ xNC.map (fun q => Cond.castable q.1 q.2)
def xNames : List String := ["java/lang/RuntimeException", "java/lang/Exception"]
theorem xNG_use {D : va_G} {args : Array Value} {s : State} (h : xN D s) : ∀ w ∈ xNG, w.before args s = true := by
  intro w hw
  rcases List.mem_append.mp hw with hw | hw
  · obtain ⟨q, hq, rfl⟩ := List.mem_map.mp hw
    exact va_Nw.use rfl (h.1 q hq)
  · obtain ⟨q, hq, rfl⟩ := List.mem_map.mp hw
    exact va_Nw.use rfl (h.2.1 q hq)
/-- throw new E("text") -/
theorem x_throw {l : Launch} {D : va_G} {e0 : Nat} {own : String} {cc : ByteArray} {nL : Nat} {ret : Option FieldType} {R : Room} {G : xGt} {X : xXt} {nm : String} {cs0 : List va_W} {post : Option Value → List va_W → Prop} {xp : String → Prop} (F : xF l D e0 own cc nL ret [] R nm cs0 post xp G X) {pc : Nat} {lv : List (Nat × Value)} {st : List Value} {k n : Nat} {ik is ic : Nat} {cls text : String}
    (hcls : Bundle.fit cls = true) (hat : (vx_atS own ic cls xNames).all (fun w => (decide (w ∈ lw_tbl) && goodWord w) || decide (w ∈ xNG)) = true) (hot : (vx_atS own ic cls xNames).all vx_ot = true)
    (m1 : Cond.classLink own ik cls ∈ lw_tbl) (m2 : Cond.initialized cls ∈ lw_tbl) (hs : (own, is, text) ∈ xNS)
    (d0 : decode cc pc = .ok (.new ik, 3)) (d3 : decode cc (pc + 3) = .ok (.dup, 1)) (d4 : decode cc (pc + 4) = .ok (.ldc is, 2)) (d6 : decode cc (pc + 6) = .ok (.invokespecial ic, 3)) (d9 : decode cc (pc + 9) = .ok (.athrow, 1))
    (hfr : 5 < R.frames) (hlo : (st.map fun v => v.category).sum + 82 ≤ R.locals) (hk : k + 1 ≤ R.cells) (hn : n + 6 ≤ R.slots) (hxp : xp cls) : G pc lv st cs0 k n := by
  obtain ⟨p, e, s, m, args, below, meth, c, A, Q, rfl, rfl, hx, hb, hml, hown, ⟨hts, hret, htab, hZ, hA, hlk, htr⟩, hnm, rfl⟩ := F
  intro H locs ls hP hD hS hL
  have ht0 : c.exceptionTable.toList = [] := htab
  obtain ⟨sa, hstr⟩ := hZ.2.1.2.2.2.2.1 (own, is, text) hs
  refine vx_throwS (names := xNames) hx hb htr hown hcls (by decide +kernel) (hts _ (xT_mem m1 rfl)) (hts _ (xT_mem m2 rfl)) hstr (fun w hw => ?_) (fun w hw => ?_) hZ.2.2.2.2.1 hZ.2.2.2.2.2 hS (hL.1.trans hml.symm) d0 d3 d4 d6 d9 (fun x hx => by rw [ht0] at hx; cases hx) hfr hlo hk hn hlk (fun t hvm hz hq => ⟨hxp, hP.kept (fun k q hk => hq q.1 (hP k q hk).lt), Nat.le_trans hS.1 hz, fun q h1 h2 => (hq q (Nat.lt_of_lt_of_le h1 hS.1)).trans (hS.2.1 q h1 h2)⟩) hS.2.2 hk hn
  · have h1 := List.all_eq_true.mp hat w hw
    simp only [Bool.or_eq_true, Bool.and_eq_true, decide_eq_true_eq] at h1
    rcases h1 with h1 | h1
    · exact hts w (xT_mem h1.1 h1.2)
    · exact xNG_use hZ.2.1 w h1
  · rcases List.mem_cons.mp hw with rfl | hw
    · rfl
    · rcases List.mem_cons.mp hw with rfl | hw
      · rfl
      · exact List.all_eq_true.mp hot w hw
/-- caught here -/
theorem x_catch {l : Launch} {D : va_G} {e0 : Nat} {own : String} {cc : ByteArray} {nL : Nat} {ret : Option FieldType} {hh : List (Nat × Nat × Nat × Nat)} {R : Room} {G : xGt} {X : xXt} (B : xB l D e0 own cc nL ret hh R G X) {E : String} {pc : Nat} {lv : List (Nat × Value)} {cs : List va_W} {k n : Nat} (pre : List ExceptionTableEntry) (x9 : ExceptionTableEntry) (suf : List ExceptionTableEntry) (hsp : tableOf hh = pre ++ x9 :: suf) (hpass : ∀ z ∈ pre, z.catchType ≠ 0 ∧ ∃ nm : String, Cond.classLink own z.catchType nm ∈ lw_tbl ∧ (E, nm) ∈ xNN) (hcov : covers x9 pc = true) (h0 : x9.catchType ≠ 0) (hw : Cond.classLink own x9.catchType E ∈ lw_tbl) (hc : (E, E) ∈ xNC) (kk : ∀ q : Nat, G x9.handlerPc lv [.ref q] cs k n) : X E pc lv cs k n := by
  obtain ⟨p, e, s, m, args, below, meth, c, A, Q, rfl, rfl, hx, hb, hml, hown, hts, hret, htab, hZ, hA, hlk, htr⟩ := B
  intro H locs ls rest q ce hP hD hS hL hq hv hcl
  refine vx_catch hown pre x9 suf (htab.trans hsp) (fun z hz => ?_) hcov h0 (hts _ (xT_mem hw rfl)) (va_Nw.use rfl (hZ.2.1.2.1 (E, E) hc)) hq hv hcl (kk q H locs ls hP hD hS hL)
  obtain ⟨z0, nm, hz1, hz2⟩ := hpass z hz
  exact Or.inr ⟨z0, nm, hts _ (xT_mem hz1 rfl), hZ.2.1.2.2.2.2.2.1 (E, nm) hz2⟩
section CORE
variable {p : Program} {l : Launch} {e : Env} {R : Room} {s : State} {m : MethodId} {args : Array Value} {below : List Frame} {meth : Method} {c : Code} {H : Heap} {locs : List Loc} {k n : Nat} {Q : State → Prop}
variable {mc ms : Nat} {A : Nat → Prop} {a : Array Value} {pc : Nat} {ls : Array Slot} {st0 rest : List Value} {D : va_G} {e0 : Nat} {wc : List va_W} {post : Option Value → List va_W → Prop} {xp : String → Prop}
theorem xcall_core (hr : vx_Run p l e R s m args below meth c H locs k n mc ms (F0 m pc ls st0) rest (xQ D (va_A wc.flatten H.size) post a) (xXC D (va_A wc.flatten H.size) wc xp) (va_A wc.flatten H.size)) (hS : va_S A s.heap H locs) (hFc : ∀ q, va_A wc.flatten H.size q → A q)
    (kx : ∀ (E : String) (ce : Cell) (q9 : Addr) (H1 : Heap) (locs1 : List Loc), xp E → va_P D vwCl wc.flatten H1 → (∀ q : Nat, q < H.size → ¬ va_A wc.flatten H.size q → H1[q]? = H[q]?) → va_S A s.heap H1 locs1 → H1[q9]? = some ce → ce.vm = .none → s.vm.findClass E = some ce.cls → vx_W p l e R s m args below meth c H1 locs1 (k + mc) (n + ms) Q (F0 m pc ls rest) q9)
    (kk : ∀ (v : Option Value) (cs1 : List va_W) (H1 : Heap) (locs1 : List Loc), post v cs1 → va_P D vwCl cs1.flatten H1 → va_D (va_A wc.flatten H.size) cs1.flatten → (∀ q : Nat, q < H.size → ¬ va_A wc.flatten H.size q → H1[q]? = H[q]?) → va_S A s.heap H1 locs1 → W p l e R s m args below meth c H1 locs1 (k + mc) (n + ms) Q (F0 m (pc + 3) ls (v.toList ++ rest))) :
    W p l e R s m args below meth c H locs k n Q (F0 m pc ls st0) := by
  intro T hT X
  rcases hr T hT X with ⟨v, st₀, t, T', L, h0, X', hL, e1, e2, ⟨⟨v', cs1, hv, hp, hP1, hD1⟩, hF⟩, st⟩ | ⟨q, st₀, t, T', L, E, ce, h0, X', hL, e1, e2, ⟨hp, hb, hF⟩, hce, hcv, hcl, st⟩
  · cases hv
    obtain ⟨k1, k2, k3⟩ := vx_keep h0 e1 hS (fun q _ h => hFc q h) hFc hL hF
    obtain ⟨t2, a1, b1⟩ := kk v cs1 T'.heap (locs ++ L) hp (by rw [e1]; exact hP1) hD1 k2 k3 T' rfl X'
    exact ⟨t2, st t2 a1, b1⟩
  · obtain ⟨k1, k2, k3⟩ := vx_keep h0 e1 hS (fun q _ h => hFc q h) hFc hL hF
    obtain ⟨t2, a1, b1⟩ := kx E ce q T'.heap (locs ++ L) hp (by rw [e1]; exact hb) k2 k3 (by rw [e1]; exact hce) hcv hcl T' rfl X'
    exact ⟨t2, st.trans a1, b1⟩
theorem xPre_of {U : State} {cs : List va_W} (hPc : va_P D vwCl cs.flatten H) (hDc : va_D A cs.flatten) (hZ : xZ D e0 (va_A cs.flatten H.size) s H) (hU : U.heap = H) (hW : s.WarmedH U.vm) : xPre D e0 cs H.size U := by
  subst hU
  exact ⟨rfl, hPc, hDc.weaken (fun _ _ _ _ => trivial), xZ.warm hW hZ⟩
end CORE
theorem xput_same : ∀ (is : List Nat) (cs wc : List va_W), is.map (fun i => cs[i]?) = wc.map some → xput cs is wc = cs
  | [], cs, wc, h => by
    cases wc with
    | nil => exact List.append_nil cs
    | cons c r => simp at h
  | i :: is, cs, wc, h => by
    cases wc with
    | nil => simp at h
    | cons c r =>
      simp only [List.map_cons, List.cons.injEq] at h
      have e : cs.set i c = cs := by
        obtain ⟨hl, e⟩ := List.getElem?_eq_some_iff.mp h.1
        rw [← e]
        exact List.set_getElem_self hl
      show xput (cs.set i c) is r = cs
      rw [e]
      exact xput_same is cs r h.2
theorem xwsV {own C : String} {index : Nat} {y : MethodName} {w : Cond} (m1 : Cond.methodLink own index y ∈ lw_tbl) (m2 : Cond.instanceMethod y ∈ lw_tbl) (m3 : Cond.selects C y y ∈ lw_tbl) (m4 : Cond.initialized C ∈ lw_tbl) (m5 : w ∈ xT) : GoodIn xT (wsV own index C y (w :: xT)) := by
  refine goodIn_app (fun z hz => ?_) (xT_cons m5)
  have h4 : ∀ z ∈ ([.methodLink own index y, .instanceMethod y, .selects C y y, .initialized C] : List Cond), z ∈ xT := by
    simp only [List.forall_mem_cons]
    exact ⟨xT_mem m1 rfl, xT_mem m2 rfl, xT_mem m3 rfl, xT_mem m4 rfl, fun _ h => nomatch h⟩
  exact ⟨h4 z hz, good_of_word (List.mem_filter.mp (h4 z hz)).2⟩
theorem xwsS {own : String} {index : Nat} {y : MethodName} {w : Cond} (m1 : Cond.methodLink own index y ∈ lw_tbl) (m2 : Cond.static y ∈ lw_tbl) (m4 : Cond.initialized y.cls ∈ lw_tbl) (m5 : w ∈ xT) : GoodIn xT (va_wsS own index y (w :: xT)) := by
  refine goodIn_app (fun z hz => ?_) (xT_cons m5)
  have h4 : ∀ z ∈ ([.methodLink own index y, .static y, .initialized y.cls] : List Cond), z ∈ xT := by
    simp only [List.forall_mem_cons]
    exact ⟨xT_mem m1 rfl, xT_mem m2 rfl, xT_mem m4 rfl, fun _ h => nomatch h⟩
  exact ⟨h4 z hz, good_of_word (List.mem_filter.mp (h4 z hz)).2⟩
theorem x_callV {l : Launch} {D : va_G} {e0 : Nat} {own : String} {cc : ByteArray} {nL : Nat} {ret : Option FieldType} {hh : List (Nat × Nat × Nat × Nat)} {R : Room} {G : xGt} {X : xXt} (B : xB l D e0 own cc nL ret hh R G X) {pc : Nat} {lv : List (Nat × Value)} {st : List Value} {cs : List va_W} {k n : Nat} {index : Nat} {y : MethodName} {cc9 : ByteArray} {nL9 : Nat} {ret9 : Option FieldType} {rm : Room} {As stk : List Value} {wc : List va_W} {post9 : Option Value → List va_W → Prop} {xp9 : String → Prop} {ci : Nat} {C : String} {T : u_T} {N : Nat} {ty : Nat → FieldType} {b : Nat} {fs : List Value} {ch : va_W} (hM : xC l y (.code y cc9 nL9 ret9) rm D e0 (.ref b :: As) wc post9 xp9) (hc : xCl ci C T N ty) (hyc : y.cls = C) (i j : Nat) (hi : wc[i]? = some ch) (hj : ch[j]? = some (b, .inr (ci, fs))) (m1 : Cond.methodLink own index y ∈ lw_tbl) (m2 : Cond.instanceMethod y ∈ lw_tbl) (m3 : Cond.selects C y y ∈ lw_tbl) (m4 : Cond.initialized C ∈ lw_tbl) (m5 : Cond.code y cc9 nL9 ret9 ∈ lw_tbl) (hd : y.cls ≠ "java/lang/invoke/MethodHandle" ∧ y.cls ≠ "java/lang/invoke/VarHandle" ∧ (parseMethodDescriptor y.desc).map (fun d => d.parameters.length) = some As.length) (hR : rm.frames + 1 ≤ R.frames ∧ 8 + (nL9 + 11) + rm.locals ≤ R.locals) (is : List Nat) (hpk : is.map (fun i => cs[i]?) = wc.map some) (hnd : va_nd is = true) (hst : stk = As.reverse ++ .ref b :: st) (hcat : (st.map fun v => v.category).sum ≤ 8) (hk : k + rm.cells ≤ R.cells) (hn : n + rm.slots ≤ R.slots) (hdg : decode cc pc = .ok (.invokevirtual index, 3)) (kx : ∀ E, xp9 E → X E pc lv cs (k + rm.cells) (n + rm.slots)) (kk : ∀ (v : Option Value) (cs1 : List va_W), post9 v cs1 → G (pc + 3) lv (v.toList ++ st) (xput cs is cs1) (k + rm.cells) (n + rm.slots)) : G pc lv stk cs k n := by
  subst hst
  obtain ⟨p, e, s, m, args, below, meth, c, A, Q, rfl, rfl, hx, hb, hml, hown, hts, hret, htab, hZ, hA, hlk, htr⟩ := B
  intro H locs ls hP hD hS hL
  obtain ⟨hPc, hDc⟩ := xpick hP hD hpk hnd
  have hFc := xfree hDc hS hA
  have hZc := (hZ.kept hS.2.1).narrow hFc
  refine xcall_core (D := D) (wc := wc) (post := post9) (xp := xp9) (A := A) (vx_runV (C := C) (As := As) (rest := st) (b := b) (n := As.length) ⟨hx, hb, hml, hown, hts⟩ (hM H.size) (cwV As.length hts (xwsV m1 m2 m3 m4 (xT_mem m5 rfl)) rfl rfl rfl ⟨hyc, hd.1, hd.2.1, hd.2.2⟩ hR) ⟨xPre.blind, (by obtain ⟨q0, hq⟩ := xfl_mem hi hj; exact va_recv hZ.1 hPc hc.1 hq), fun U hU hW => ⟨rfl, xPre_of hPc hDc hZc hU hW⟩⟩ rfl rfl hL.1 rfl (lv_room hcat) hdg ⟨hk, hn⟩) hS hFc (fun E ce q9 H1 locs1 hxE hP1 hk1 hS1 h1 h2 h3 => ?_) (fun v cs1 H1 locs1 hp1 hP1 hD1 hk1 hS1 => ?_)
  · obtain ⟨hP2, hD2⟩ := xjoin hP hD hpk hnd hk1 hFc hP1 hDc.self
    rw [xput_same is cs wc hpk] at hP2 hD2
    exact kx E hxE H1 locs1 ls st q9 ce hP2 hD2 hS1 hL h1 h2 h3
  · obtain ⟨hP2, hD2⟩ := xjoin hP hD hpk hnd hk1 hFc hP1 hD1
    exact kk v cs1 hp1 H1 locs1 ls hP2 hD2 hS1 hL
theorem x_callS {l : Launch} {D : va_G} {e0 : Nat} {own : String} {cc : ByteArray} {nL : Nat} {ret : Option FieldType} {hh : List (Nat × Nat × Nat × Nat)} {R : Room} {G : xGt} {X : xXt} (B : xB l D e0 own cc nL ret hh R G X) {pc : Nat} {lv : List (Nat × Value)} {st : List Value} {cs : List va_W} {k n : Nat} {index : Nat} {y : MethodName} {cc9 : ByteArray} {nL9 : Nat} {ret9 : Option FieldType} {rm : Room} {As stk : List Value} {wc : List va_W} {post9 : Option Value → List va_W → Prop} {xp9 : String → Prop} (hM : xC l y (.code y cc9 nL9 ret9) rm D e0 As wc post9 xp9) (m1 : Cond.methodLink own index y ∈ lw_tbl) (m2 : Cond.static y ∈ lw_tbl) (m4 : Cond.initialized y.cls ∈ lw_tbl) (m5 : Cond.code y cc9 nL9 ret9 ∈ lw_tbl) (hd : y.cls ≠ "java/lang/invoke/MethodHandle" ∧ y.cls ≠ "java/lang/invoke/VarHandle" ∧ (parseMethodDescriptor y.desc).map (fun d => d.parameters.length) = some As.length) (hR : rm.frames + 1 ≤ R.frames ∧ 8 + (nL9 + 11) + rm.locals ≤ R.locals) (is : List Nat) (hpk : is.map (fun i => cs[i]?) = wc.map some) (hnd : va_nd is = true) (hst : stk = As.reverse ++ st) (hcat : (st.map fun v => v.category).sum ≤ 8) (hk : k + rm.cells ≤ R.cells) (hn : n + rm.slots ≤ R.slots) (hdg : decode cc pc = .ok (.invokestatic index, 3)) (kx : ∀ E, xp9 E → X E pc lv cs (k + rm.cells) (n + rm.slots)) (kk : ∀ (v : Option Value) (cs1 : List va_W), post9 v cs1 → G (pc + 3) lv (v.toList ++ st) (xput cs is cs1) (k + rm.cells) (n + rm.slots)) : G pc lv stk cs k n := by
  subst hst
  obtain ⟨p, e, s, m, args, below, meth, c, A, Q, rfl, rfl, hx, hb, hml, hown, hts, hret, htab, hZ, hA, hlk, htr⟩ := B
  intro H locs ls hP hD hS hL
  obtain ⟨hPc, hDc⟩ := xpick hP hD hpk hnd
  have hFc := xfree hDc hS hA
  have hZc := (hZ.kept hS.2.1).narrow hFc
  refine xcall_core (D := D) (wc := wc) (post := post9) (xp := xp9) (A := A) (vx_runS (As := As) (rest := st) (n := As.length) ⟨hx, hb, hml, hown, hts⟩ (hM H.size) (va_cwS As.length hts (xwsS m1 m2 m4 (xT_mem m5 rfl)) rfl rfl rfl hd hR) ⟨xPre.blind, fun U hU hW => ⟨rfl, xPre_of hPc hDc hZc hU hW⟩⟩ rfl rfl hL.1 rfl (lv_room hcat) hdg ⟨hk, hn⟩) hS hFc (fun E ce q9 H1 locs1 hxE hP1 hk1 hS1 h1 h2 h3 => ?_) (fun v cs1 H1 locs1 hp1 hP1 hD1 hk1 hS1 => ?_)
  · obtain ⟨hP2, hD2⟩ := xjoin hP hD hpk hnd hk1 hFc hP1 hDc.self
    rw [xput_same is cs wc hpk] at hP2 hD2
    exact kx E hxE H1 locs1 ls st q9 ce hP2 hD2 hS1 hL h1 h2 h3
  · obtain ⟨hP2, hD2⟩ := xjoin hP hD hpk hnd hk1 hFc hP1 hD1
    exact kk v cs1 hp1 H1 locs1 ls hP2 hD2 hS1 hL
theorem x_callSX {l : Launch} {D : va_G} {e0 : Nat} {own : String} {cc : ByteArray} {nL : Nat} {ret : Option FieldType} {hh : List (Nat × Nat × Nat × Nat)} {R : Room} {G : xGt} {X : xXt} (B : xB l D e0 own cc nL ret hh R G X) {pc : Nat} {lv : List (Nat × Value)} {st : List Value} {cs : List va_W} {k n : Nat} {index : Nat} {y : MethodName} {cc9 : ByteArray} {nL9 : Nat} {ret9 : Option FieldType} {rm : Room} {As stk : List Value} {wc : List va_W} {post9 : Option Value → List va_W → Prop} {xp9 : String → Prop} {hh9 : List (Nat × Nat × Nat × Nat)} (hM : xC l y (.codeWith y cc9 nL9 ret9 hh9) rm D e0 As wc post9 xp9) (m1 : Cond.methodLink own index y ∈ lw_tbl) (m2 : Cond.static y ∈ lw_tbl) (m4 : Cond.initialized y.cls ∈ lw_tbl) (m5 : Cond.codeWith y cc9 nL9 ret9 hh9 ∈ lw_tbl) (hd : y.cls ≠ "java/lang/invoke/MethodHandle" ∧ y.cls ≠ "java/lang/invoke/VarHandle" ∧ (parseMethodDescriptor y.desc).map (fun d => d.parameters.length) = some As.length) (hR : rm.frames + 1 ≤ R.frames ∧ 8 + (nL9 + 11) + rm.locals ≤ R.locals) (is : List Nat) (hpk : is.map (fun i => cs[i]?) = wc.map some) (hnd : va_nd is = true) (hst : stk = As.reverse ++ st) (hcat : (st.map fun v => v.category).sum ≤ 8) (hk : k + rm.cells ≤ R.cells) (hn : n + rm.slots ≤ R.slots) (hdg : decode cc pc = .ok (.invokestatic index, 3)) (kx : ∀ E, xp9 E → X E pc lv cs (k + rm.cells) (n + rm.slots)) (kk : ∀ (v : Option Value) (cs1 : List va_W), post9 v cs1 → G (pc + 3) lv (v.toList ++ st) (xput cs is cs1) (k + rm.cells) (n + rm.slots)) : G pc lv stk cs k n := by
  subst hst
  obtain ⟨p, e, s, m, args, below, meth, c, A, Q, rfl, rfl, hx, hb, hml, hown, hts, hret, htab, hZ, hA, hlk, htr⟩ := B
  intro H locs ls hP hD hS hL
  obtain ⟨hPc, hDc⟩ := xpick hP hD hpk hnd
  have hFc := xfree hDc hS hA
  have hZc := (hZ.kept hS.2.1).narrow hFc
  refine xcall_core (D := D) (wc := wc) (post := post9) (xp := xp9) (A := A) (vx_runSX (As := As) (rest := st) (n := As.length) ⟨hx, hb, hml, hown, hts⟩ (hM H.size) (vx_cwSW As.length hts (xwsS m1 m2 m4 (xT_mem m5 rfl)) rfl rfl rfl hd hR) ⟨xPre.blind, fun U hU hW => ⟨rfl, xPre_of hPc hDc hZc hU hW⟩⟩ rfl rfl hL.1 rfl (lv_room hcat) hdg ⟨hk, hn⟩) hS hFc (fun E ce q9 H1 locs1 hxE hP1 hk1 hS1 h1 h2 h3 => ?_) (fun v cs1 H1 locs1 hp1 hP1 hD1 hk1 hS1 => ?_)
  · obtain ⟨hP2, hD2⟩ := xjoin hP hD hpk hnd hk1 hFc hP1 hDc.self
    rw [xput_same is cs wc hpk] at hP2 hD2
    exact kx E hxE H1 locs1 ls st q9 ce hP2 hD2 hS1 hL h1 h2 h3
  · obtain ⟨hP2, hD2⟩ := xjoin hP hD hpk hnd hk1 hFc hP1 hD1
    exact kk v cs1 hp1 H1 locs1 ls hP2 hD2 hS1 hL
theorem x_callSN {l : Launch} {D : va_G} {e0 : Nat} {own : String} {cc : ByteArray} {nL : Nat} {ret : Option FieldType} {hh : List (Nat × Nat × Nat × Nat)} {R : Room} {G : xGt} {X : xXt} (B : xB l D e0 own cc nL ret hh R G X) {pc : Nat} {lv : List (Nat × Value)} {st : List Value} {cs : List va_W} {k n : Nat} {index : Nat} {y : MethodName} {cc9 : ByteArray} {nL9 : Nat} {ret9 : Option FieldType} {rm : Room} {As stk : List Value} {wc : List va_W} {post9 : Option Value → List va_W → Prop} {xp9 : String → Prop} {host : String} (hM : xC l y (.code y cc9 nL9 ret9) rm D e0 As wc post9 xp9) (m1 : (own, index, y, host) ∈ xNM) (m2 : Cond.static y ∈ lw_tbl) (m4 : Cond.initialized y.cls ∈ lw_tbl) (m5 : Cond.code y cc9 nL9 ret9 ∈ lw_tbl) (hd : y.cls ≠ "java/lang/invoke/MethodHandle" ∧ y.cls ≠ "java/lang/invoke/VarHandle" ∧ (parseMethodDescriptor y.desc).map (fun d => d.parameters.length) = some As.length) (hR : rm.frames + 1 ≤ R.frames ∧ 8 + (nL9 + 11) + rm.locals ≤ R.locals) (is : List Nat) (hpk : is.map (fun i => cs[i]?) = wc.map some) (hnd : va_nd is = true) (hst : stk = As.reverse ++ st) (hcat : (st.map fun v => v.category).sum ≤ 8) (hk : k + rm.cells ≤ R.cells) (hn : n + rm.slots ≤ R.slots) (hdg : decode cc pc = .ok (.invokestatic index, 3)) (kx : ∀ E, xp9 E → X E pc lv cs (k + rm.cells) (n + rm.slots)) (kk : ∀ (v : Option Value) (cs1 : List va_W), post9 v cs1 → G (pc + 3) lv (v.toList ++ st) (xput cs is cs1) (k + rm.cells) (n + rm.slots)) : G pc lv stk cs k n := by
  subst hst
  obtain ⟨p, e, s, m, args, below, meth, c, A, Q, rfl, rfl, hx, hb, hml, hown, hts, hret, htab, hZ, hA, hlk, htr⟩ := B
  intro H locs ls hP hD hS hL
  obtain ⟨hPc, hDc⟩ := xpick hP hD hpk hnd
  have hFc := xfree hDc hS hA
  have hZc := (hZ.kept hS.2.1).narrow hFc
  refine xcall_core (D := D) (wc := wc) (post := post9) (xp := xp9) (A := A) (vx_runSN (As := As) (rest := st) (n := As.length) ⟨hx, hb, hml, hown, hts⟩ (hM H.size) ⟨va_cnB As.length hts (xT_cons (xT_mem m5 rfl)) rfl rfl rfl (hZ.2.1.2.2.1 (own, index, y, host) m1) (hts _ (xT_mem m4 rfl)) hd hR, hts _ (xT_mem m2 rfl), trivial⟩ ⟨xPre.blind, fun U hU hW => ⟨rfl, xPre_of hPc hDc hZc hU hW⟩⟩ rfl rfl hL.1 rfl (lv_room hcat) hdg ⟨hk, hn⟩) hS hFc (fun E ce q9 H1 locs1 hxE hP1 hk1 hS1 h1 h2 h3 => ?_) (fun v cs1 H1 locs1 hp1 hP1 hD1 hk1 hS1 => ?_)
  · obtain ⟨hP2, hD2⟩ := xjoin hP hD hpk hnd hk1 hFc hP1 hDc.self
    rw [xput_same is cs wc hpk] at hP2 hD2
    exact kx E hxE H1 locs1 ls st q9 ce hP2 hD2 hS1 hL h1 h2 h3
  · obtain ⟨hP2, hD2⟩ := xjoin hP hD hpk hnd hk1 hFc hP1 hD1
    exact kk v cs1 hp1 H1 locs1 ls hP2 hD2 hS1 hL
theorem x_callI {l : Launch} {D : va_G} {e0 : Nat} {own : String} {cc : ByteArray} {nL : Nat} {ret : Option FieldType} {hh : List (Nat × Nat × Nat × Nat)} {R : Room} {G : xGt} {X : xXt} (B : xB l D e0 own cc nL ret hh R G X) {pc : Nat} {lv : List (Nat × Value)} {st : List Value} {cs : List va_W} {k n : Nat} {index : Nat} {y : MethodName} {cc9 : ByteArray} {nL9 : Nat} {rm : Room} {As stk : List Value} {wc : List va_W} {post9 : Option Value → List va_W → Prop} {xp9 : String → Prop} {b : Nat} (hM : xC l y (.code y cc9 nL9 none) rm D e0 (.ref b :: As) wc post9 xp9) (hin : y.name = "<init>") (m1 : Cond.methodLink own index y ∈ lw_tbl) (m2 : Cond.instanceMethod y ∈ lw_tbl) (m4 : Cond.initialized y.cls ∈ lw_tbl) (m5 : Cond.code y cc9 nL9 none ∈ lw_tbl) (hd : y.cls ≠ "java/lang/invoke/MethodHandle" ∧ y.cls ≠ "java/lang/invoke/VarHandle" ∧ (parseMethodDescriptor y.desc).map (fun d => d.parameters.length) = some As.length) (hR : rm.frames + 1 ≤ R.frames ∧ 8 + (nL9 + 11) + rm.locals ≤ R.locals) (is : List Nat) (hpk : is.map (fun i => cs[i]?) = wc.map some) (hnd : va_nd is = true) (hst : stk = As.reverse ++ .ref b :: st) (hcat : (st.map fun v => v.category).sum ≤ 8) (hk : k + rm.cells ≤ R.cells) (hn : n + rm.slots ≤ R.slots) (hdg : decode cc pc = .ok (.invokespecial index, 3)) (kx : ∀ E, xp9 E → X E pc lv cs (k + rm.cells) (n + rm.slots)) (kk : ∀ (v : Option Value) (cs1 : List va_W), post9 v cs1 → G (pc + 3) lv (v.toList ++ st) (xput cs is cs1) (k + rm.cells) (n + rm.slots)) : G pc lv stk cs k n := by
  subst hst
  obtain ⟨p, e, s, m, args, below, meth, c, A, Q, rfl, rfl, hx, hb, hml, hown, hts, hret, htab, hZ, hA, hlk, htr⟩ := B
  intro H locs ls hP hD hS hL
  obtain ⟨hPc, hDc⟩ := xpick hP hD hpk hnd
  have hFc := xfree hDc hS hA
  have hZc := (hZ.kept hS.2.1).narrow hFc
  refine xcall_core (D := D) (wc := wc) (post := post9) (xp := xp9) (A := A) (vx_runI (As := As) (rest := st) (b := b) (n := As.length) ⟨hx, hb, hml, hown, hts⟩ (hM H.size) ⟨callB_of As.length hts (xT_cons (xT_mem m5 rfl)) rfl rfl rfl (hts _ (xT_mem m4 rfl)) (hts _ (xT_mem m1 rfl)) hd hR, hin, hts _ (xT_mem m2 rfl)⟩ ⟨xPre.blind, fun U hU hW => ⟨rfl, xPre_of hPc hDc hZc hU hW⟩⟩ rfl rfl hL.1 rfl (lv_room hcat) hdg ⟨hk, hn⟩) hS hFc (fun E ce q9 H1 locs1 hxE hP1 hk1 hS1 h1 h2 h3 => ?_) (fun v cs1 H1 locs1 hp1 hP1 hD1 hk1 hS1 => ?_)
  · obtain ⟨hP2, hD2⟩ := xjoin hP hD hpk hnd hk1 hFc hP1 hDc.self
    rw [xput_same is cs wc hpk] at hP2 hD2
    exact kx E hxE H1 locs1 ls st q9 ce hP2 hD2 hS1 hL h1 h2 h3
  · obtain ⟨hP2, hD2⟩ := xjoin hP hD hpk hnd hk1 hFc hP1 hD1
    exact kk v cs1 hp1 H1 locs1 ls hP2 hD2 hS1 hL
theorem x_callIN {l : Launch} {D : va_G} {e0 : Nat} {own : String} {cc : ByteArray} {nL : Nat} {ret : Option FieldType} {hh : List (Nat × Nat × Nat × Nat)} {R : Room} {G : xGt} {X : xXt} (B : xB l D e0 own cc nL ret hh R G X) {pc : Nat} {lv : List (Nat × Value)} {st : List Value} {cs : List va_W} {k n : Nat} {index : Nat} {y : MethodName} {cc9 : ByteArray} {nL9 : Nat} {rm : Room} {As stk : List Value} {wc : List va_W} {post9 : Option Value → List va_W → Prop} {xp9 : String → Prop} {host : String} {b : Nat} (hM : xC l y (.code y cc9 nL9 none) rm D e0 (.ref b :: As) wc post9 xp9) (hin : y.name = "<init>") (m1 : (own, index, y, host) ∈ xNM) (m2 : Cond.instanceMethod y ∈ lw_tbl) (m4 : Cond.initialized y.cls ∈ lw_tbl) (m5 : Cond.code y cc9 nL9 none ∈ lw_tbl) (hd : y.cls ≠ "java/lang/invoke/MethodHandle" ∧ y.cls ≠ "java/lang/invoke/VarHandle" ∧ (parseMethodDescriptor y.desc).map (fun d => d.parameters.length) = some As.length) (hR : rm.frames + 1 ≤ R.frames ∧ 8 + (nL9 + 11) + rm.locals ≤ R.locals) (is : List Nat) (hpk : is.map (fun i => cs[i]?) = wc.map some) (hnd : va_nd is = true) (hst : stk = As.reverse ++ .ref b :: st) (hcat : (st.map fun v => v.category).sum ≤ 8) (hk : k + rm.cells ≤ R.cells) (hn : n + rm.slots ≤ R.slots) (hdg : decode cc pc = .ok (.invokespecial index, 3)) (kx : ∀ E, xp9 E → X E pc lv cs (k + rm.cells) (n + rm.slots)) (kk : ∀ (v : Option Value) (cs1 : List va_W), post9 v cs1 → G (pc + 3) lv (v.toList ++ st) (xput cs is cs1) (k + rm.cells) (n + rm.slots)) : G pc lv stk cs k n := by
  subst hst
  obtain ⟨p, e, s, m, args, below, meth, c, A, Q, rfl, rfl, hx, hb, hml, hown, hts, hret, htab, hZ, hA, hlk, htr⟩ := B
  intro H locs ls hP hD hS hL
  obtain ⟨hPc, hDc⟩ := xpick hP hD hpk hnd
  have hFc := xfree hDc hS hA
  have hZc := (hZ.kept hS.2.1).narrow hFc
  refine xcall_core (D := D) (wc := wc) (post := post9) (xp := xp9) (A := A) (vx_runIN (As := As) (rest := st) (b := b) (n := As.length) ⟨hx, hb, hml, hown, hts⟩ (hM H.size) ⟨va_cnB As.length hts (xT_cons (xT_mem m5 rfl)) rfl rfl rfl (hZ.2.1.2.2.1 (own, index, y, host) m1) (hts _ (xT_mem m4 rfl)) hd hR, hin, hts _ (xT_mem m2 rfl)⟩ ⟨xPre.blind, fun U hU hW => ⟨rfl, xPre_of hPc hDc hZc hU hW⟩⟩ rfl rfl hL.1 rfl (lv_room hcat) hdg ⟨hk, hn⟩) hS hFc (fun E ce q9 H1 locs1 hxE hP1 hk1 hS1 h1 h2 h3 => ?_) (fun v cs1 H1 locs1 hp1 hP1 hD1 hk1 hS1 => ?_)
  · obtain ⟨hP2, hD2⟩ := xjoin hP hD hpk hnd hk1 hFc hP1 hDc.self
    rw [xput_same is cs wc hpk] at hP2 hD2
    exact kx E hxE H1 locs1 ls st q9 ce hP2 hD2 hS1 hL h1 h2 h3
  · obtain ⟨hP2, hD2⟩ := xjoin hP hD hpk hnd hk1 hFc hP1 hD1
    exact kk v cs1 hp1 H1 locs1 ls hP2 hD2 hS1 hL
